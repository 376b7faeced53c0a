/-! ===== clean, settings, both ===== -/
abbrev pf_st (P : sg_P) (x : Int32) : Prop := 0 ≤ x ∧ x ≤ nI (2 ^ P 7 1) - 1
theorem pf_p2 {P : sg_P} (hv : vp_p P) : 1 ≤ 2 ^ P 7 1 ∧ 2 ^ P 7 1 ≤ 1024 := by
  refine ⟨Nat.one_le_two_pow, ?_⟩
  exact Nat.pow_le_pow_right (n := 2) (by omega) (show P 7 1 ≤ 10 from hv.2.1)
def pf_cv (P : sg_P) (s : sg_S) (x : Int32) : Int32 := if pf_st P x then am_bi (pf_cl P x s.2.1) else -1
theorem e_X6_clean {p p' : Nat} {P : sg_P} {s : sg_S} {x : Int32} {I A : am_F} {G : am_G} (hv : vp_p P) (hs : sv_s P s) (hc : ck P s p p' I A G) : ∃ (A' : am_F) (G' : am_G), am_e 48 0 [.ref 0, .int x] [] I A G = some (.int (pf_cv P s x), I, A', G') ∧ fr_c A A' G G' := by
  have hpp := hc.1.pp.1
  have hD := hv.2.1
  have hp2 := pf_p2 hv
  have q10 := hc.2.1.1.2.1
  have sh := am_shl1 (n := P 7 1) (by omega)
  unfold pf_cv
  by_cases hx : pf_st P x
  · rw [if_pos hx]
    obtain ⟨j, hj, rfl⟩ := (am_rngM (by omega)).mp hx
    obtain ⟨A', G', f1, f2⟩ := e_X6_isClean (o := nI j) hv hs hc
    refine ⟨A', G', ?_, f2⟩
    have n0 : (nI j < 0) = False := eq_false (nI_pos (by omega))
    have n1 : (nI j < nI (2 ^ P 7 1)) = True := eq_true ((nI_ltI (by omega) (by omega)).mpr hj)
    cases hb : pf_cl P (nI j) s.2.1 with
    | true =>
      rw [hb] at f1
      rcases hpp with rfl | rfl <;> (simp only [s_X6_clean_0, s_X6_clean_1, s_X6_clean_4, s_X6_clean_5, s_X6_clean_6, s_X6_clean_7, s_X6_clean_10_at5, s_X6_clean_10_at25, s_X6_clean_13, s_X6_clean_14, s_X6_clean_17, s_X6_clean_18, s_X6_clean_19, s_X6_clean_20, s_X6_clean_21, s_X6_clean_24, s_X6_clean_27, s_X6_clean_28, s_X6_clean_31, s_X6_clean_32, n0, if_false, hc.1.1, q10, sh, n1, if_true, f1, am_k_some, am_push_i, am_bi_0, Bool.true_eq_false]; rfl)
    | false =>
      rw [hb] at f1
      rcases hpp with rfl | rfl <;> (simp only [s_X6_clean_0, s_X6_clean_1, s_X6_clean_4, s_X6_clean_5, s_X6_clean_6, s_X6_clean_7, s_X6_clean_10_at5, s_X6_clean_10_at25, s_X6_clean_13, s_X6_clean_14, s_X6_clean_17, s_X6_clean_18, s_X6_clean_19, s_X6_clean_20, s_X6_clean_21, s_X6_clean_24, s_X6_clean_27, s_X6_clean_28, s_X6_clean_31, s_X6_clean_32, n0, if_false, hc.1.1, q10, sh, n1, if_true, f1, am_k_some, am_push_i, am_bi_0]; rfl)
  · rw [if_neg hx]
    refine ⟨A, G, ?_, fr_c.rf A G⟩
    by_cases h0 : x < 0
    · simp only [s_X6_clean_0, s_X6_clean_1, s_X6_clean_4, s_X6_clean_5, s_X6_clean_6, s_X6_clean_7, s_X6_clean_10_at5, s_X6_clean_10_at25, s_X6_clean_13, s_X6_clean_14, s_X6_clean_17, s_X6_clean_18, h0, if_true]
    · have h1 : ¬ x < nI (2 ^ P 7 1) := fun q => hx (by
        have h := am_decC (i := x) (n := 2 ^ P 7 1) (by omega)
        exact h.mp ⟨h0, Int32.not_le.mpr q⟩)
      rcases hpp with rfl | rfl <;> simp only [s_X6_clean_0, s_X6_clean_1, s_X6_clean_4, s_X6_clean_5, s_X6_clean_6, s_X6_clean_7, s_X6_clean_10_at5, s_X6_clean_10_at25, s_X6_clean_13, s_X6_clean_14, s_X6_clean_17, s_X6_clean_18, h0, if_false, hc.1.1, q10, sh, h1]
theorem e_X7_clean {P : sg_P} {s : sg_S} {x : Int32} {I A : am_F} {G : am_G} (hv : vp_p P) (hm : mk P s I A) : ∃ I' A' : am_F, am_e 117 0 [.ref 69, .int x] [] I A G = some (.int (pf_cv P s x), I', A', G) ∧ fr_a I A I' A' := by
  have hD := hv.2.1
  have sh := am_shl1 (n := P 7 1) (by omega)
  have hin := @e_X7_in x 0 (nI (2 ^ P 7 1) - 1) I A G
  unfold pf_cv
  by_cases hx : pf_st P x
  · rw [if_pos hx]
    rw [decide_eq_true hx] at hin
    obtain ⟨I', A', f1, f2⟩ := e_X7_isClean (o := x) (G := G) hv hm
    refine ⟨I', A', ?_, f2⟩
    cases hb : pf_cl P x s.2.1 with
    | true =>
      rw [hb] at f1
      simp only [s_X7_clean_0, s_X7_clean_1, s_X7_clean_2, s_X7_clean_3, s_X7_clean_4, s_X7_clean_7, s_X7_clean_8, s_X7_clean_9, s_X7_clean_10, s_X7_clean_13, s_X7_clean_16, s_X7_clean_17, s_X7_clean_18, s_X7_clean_21, s_X7_clean_24, s_X7_clean_25, s_X7_clean_28, s_X7_clean_29, s_X7_clean_32, s_X7_clean_33, hm.1.2.1, sh, hin, am_k_some, am_push_i, am_bi_0, Bool.true_eq_false, if_false, f1]; rfl
    | false =>
      rw [hb] at f1
      simp only [s_X7_clean_0, s_X7_clean_1, s_X7_clean_2, s_X7_clean_3, s_X7_clean_4, s_X7_clean_7, s_X7_clean_8, s_X7_clean_9, s_X7_clean_10, s_X7_clean_13, s_X7_clean_16, s_X7_clean_17, s_X7_clean_18, s_X7_clean_21, s_X7_clean_24, s_X7_clean_25, s_X7_clean_28, s_X7_clean_29, s_X7_clean_32, s_X7_clean_33, hm.1.2.1, sh, hin, am_k_some, am_push_i, am_bi_0, Bool.true_eq_false, if_false, f1, if_true]; rfl
  · rw [if_neg hx]
    rw [decide_eq_false hx] at hin
    refine ⟨I, A, ?_, fr_a.rf I A⟩
    simp only [s_X7_clean_0, s_X7_clean_1, s_X7_clean_2, s_X7_clean_3, s_X7_clean_4, s_X7_clean_7, s_X7_clean_8, s_X7_clean_9, s_X7_clean_10, s_X7_clean_13, s_X7_clean_16, s_X7_clean_17, s_X7_clean_18, s_X7_clean_21, s_X7_clean_24, s_X7_clean_25, s_X7_clean_28, s_X7_clean_29, s_X7_clean_32, s_X7_clean_33, hm.1.2.1, sh, hin, am_k_some, am_push_i, am_bi_0, if_true]
/-- how many are clean -/
def pf_nc (P : sg_P) (f : Int32) (n : Nat) : Nat := fl_s (fun o => if pf_cl P (nI o) f = true then 1 else 0) n
theorem pf_nc_s (P : sg_P) (f : Int32) (n : Nat) : pf_nc P f (n + 1) = pf_nc P f n + if pf_cl P (nI n) f = true then 1 else 0 := rfl
theorem X6_hmL {p p' : Nat} {P : sg_P} {s : sg_S} {I : am_F} (hv : vp_p P) (hs : sv_s P s) : ∀ (r n : Nat) (A : am_F) (G : am_G), n + r = 2 ^ P 7 1 → ck P s p p' I A G → ∃ (A' : am_F) (G' : am_G), am_e 73 4 [.ref 0, .int (nI (pf_nc P s.2.1 n)), .int (nI n)] [] I A G = some (.int (nI (pf_nc P s.2.1 (2 ^ P 7 1))), I, A', G') ∧ fr_c A A' G G' := by
  have hD := hv.2.1
  have hp2 := pf_p2 hv
  have sh := am_shl1 (n := P 7 1) (by omega)
  intro r
  induction r with
  | zero =>
    intro n A G hn hc
    have : n = 2 ^ P 7 1 := by omega
    refine ⟨A, G, ?_, fr_c.rf A G⟩
    refine (s_X6_howManyClean_4).trans ?_
    have q10 := hc.2.1.1.2.1
    have hle : (nI (2 ^ P 7 1) ≤ nI n) = True := eq_true (by rw [this]; exact Int32.le_refl _)
    rcases hc.1.pp.1 with rfl | rfl <;> simp only [s_X6_howManyClean_5, s_X6_howManyClean_6, s_X6_howManyClean_7, s_X6_howManyClean_10_at5, s_X6_howManyClean_10_at25, s_X6_howManyClean_13, s_X6_howManyClean_14, s_X6_howManyClean_34, s_X6_howManyClean_35, hc.1.1, q10, sh, Int32.le_refl, if_true, this]
  | succ r ih =>
    intro n A G hn hc
    obtain ⟨A1, G1, f1, f2⟩ := e_X6_isClean (o := nI n) hv hs hc
    obtain ⟨A', G', k1, k2⟩ := ih (n + 1) A1 G1 (by omega) (hc.fr f2)
    refine ⟨A', G', ?_, f2.tr k2⟩
    rw [← k1]
    refine (s_X6_howManyClean_4).trans ?_
    have q10 := hc.2.1.1.2.1
    have hle : (nI (2 ^ P 7 1) ≤ nI n) = False := eq_false (by rw [nI_leI (by omega) (by omega)]; omega)
    rw [pf_nc_s]
    cases hb : pf_cl P (nI n) s.2.1 with
    | true =>
      rw [hb] at f1
      rw [if_pos rfl]
      rcases hc.1.pp.1 with rfl | rfl <;> simp only [s_X6_howManyClean_5, s_X6_howManyClean_6, s_X6_howManyClean_7, s_X6_howManyClean_10_at5, s_X6_howManyClean_10_at25, s_X6_howManyClean_13, s_X6_howManyClean_14, s_X6_howManyClean_17, s_X6_howManyClean_18, s_X6_howManyClean_19, s_X6_howManyClean_22, s_X6_howManyClean_25, s_X6_howManyClean_28, s_X6_howManyClean_31, hc.1.1, q10, sh, hle, if_false, f1, am_k_some, am_push_i, am_bi_0, Bool.true_eq_false, am_add1]
    | false =>
      rw [hb] at f1
      rw [if_neg (by decide)]
      rcases hc.1.pp.1 with rfl | rfl <;> simp only [s_X6_howManyClean_5, s_X6_howManyClean_6, s_X6_howManyClean_7, s_X6_howManyClean_10_at5, s_X6_howManyClean_10_at25, s_X6_howManyClean_13, s_X6_howManyClean_14, s_X6_howManyClean_17, s_X6_howManyClean_18, s_X6_howManyClean_19, s_X6_howManyClean_22, s_X6_howManyClean_25, s_X6_howManyClean_28, s_X6_howManyClean_31, hc.1.1, q10, sh, hle, if_false, f1, am_k_some, am_push_i, am_bi_0, if_true, am_add1, Nat.add_zero]
/-! bits that are set -/
def pf_bc (x : Int32) : Nat := fl_s (fun k => if am_hb x k = true then 1 else 0) 10
theorem pf_bc_10 (x : Int32) : pf_bc x ≤ 10 := by
  have := fl_s_b (g := fun k => if am_hb x k = true then 1 else 0) (c := 1) 10 (fun k _ => by show (if am_hb x k = true then 1 else 0) ≤ 1; split <;> omega)
  unfold pf_bc; omega
theorem X7_biL {x : Int32} {I A : am_F} {G : am_G} : ∀ (r k : Nat), k + r = 10 → am_e 118 4 [.int x, .int (nI (fl_s (fun k => if am_hb x k = true then 1 else 0) k)), .int (nI k)] [] I A G = some (.int (nI (pf_bc x)), I, A, G)
  | 0, k, h => by
    have : k = 10 := by omega
    subst this
    refine (s_X7_bits_4).trans ?_
    simp only [s_X7_bits_5, s_X7_bits_7, s_X7_bits_24, s_X7_bits_25, show ((10 : Int32) ≤ nI 10) = True from eq_true (by decide), if_true]
    rfl
  | r + 1, k, h => by
    rw [← X7_biL r (k + 1) (by omega)]
    refine (s_X7_bits_4).trans ?_
    have hn : ((10 : Int32) ≤ nI k) = False := eq_false (by rw [show (10 : Int32) = nI 10 from rfl, nI_leI (by omega) (by omega)]; omega)
    have e1 : nI (fl_s (fun k => if am_hb x k = true then 1 else 0) k) + am_bi (am_hb x k) = nI (fl_s (fun k => if am_hb x k = true then 1 else 0) (k + 1)) := by
      show _ = nI (_ + if am_hb x k = true then 1 else 0)
      rw [← nI_add]
      cases am_hb x k <;> rfl
    simp only [s_X7_bits_5, s_X7_bits_7, s_X7_bits_10, s_X7_bits_11, s_X7_bits_12, s_X7_bits_13, s_X7_bits_14, s_X7_bits_15, s_X7_bits_16, s_X7_bits_17, s_X7_bits_18, s_X7_bits_21, hn, if_false, am_hb_b, e1, am_add1]
theorem e_X7_bits {x : Int32} {I A : am_F} {G : am_G} : am_e 118 0 [.int x, .null, .null] [] I A G = some (.int (nI (pf_bc x)), I, A, G) := by
  rw [← X7_biL (I := I) (A := A) (G := G) 10 0 (by omega)]
  simp only [s_X7_bits_0, s_X7_bits_1, s_X7_bits_2, s_X7_bits_3]
  rfl
set_option maxRecDepth 100000 in
theorem e_J6_bitCount {m : Nat} {I A : am_F} {G : am_G} (hm : m < 1024) : am_e 131 0 [.int (nI m)] [] I A G = some (.int (nI (pf_bc (nI m))), I, A, G) := by
  have key : ∀ k : Fin 1024, ∃ y : Int32, y = nI (pf_bc (nI k.val)) ∧ ∀ (I A : am_F) (G : am_G), am_e 131 0 [.int (nI k.val)] [] I A G = some (.int y, I, A, G) := by
    intro k
    refine ⟨_, ?_, fun I A G => by simp only [s_J6_bitCount_0f7a4_0, s_J6_bitCount_0f7a4_1, s_J6_bitCount_0f7a4_2, s_J6_bitCount_0f7a4_3, s_J6_bitCount_0f7a4_4, s_J6_bitCount_0f7a4_7, s_J6_bitCount_0f7a4_8, s_J6_bitCount_0f7a4_9, s_J6_bitCount_0f7a4_10, s_J6_bitCount_0f7a4_11, s_J6_bitCount_0f7a4_14, s_J6_bitCount_0f7a4_15, s_J6_bitCount_0f7a4_16, s_J6_bitCount_0f7a4_17, s_J6_bitCount_0f7a4_18, s_J6_bitCount_0f7a4_21, s_J6_bitCount_0f7a4_22, s_J6_bitCount_0f7a4_23, s_J6_bitCount_0f7a4_24, s_J6_bitCount_0f7a4_25, s_J6_bitCount_0f7a4_26, s_J6_bitCount_0f7a4_27, s_J6_bitCount_0f7a4_28, s_J6_bitCount_0f7a4_29, s_J6_bitCount_0f7a4_32, s_J6_bitCount_0f7a4_33, s_J6_bitCount_0f7a4_34, s_J6_bitCount_0f7a4_35, s_J6_bitCount_0f7a4_36, s_J6_bitCount_0f7a4_38, s_J6_bitCount_0f7a4_39, s_J6_bitCount_0f7a4_40, s_J6_bitCount_0f7a4_41, s_J6_bitCount_0f7a4_42, s_J6_bitCount_0f7a4_43, s_J6_bitCount_0f7a4_45, s_J6_bitCount_0f7a4_46, s_J6_bitCount_0f7a4_47, s_J6_bitCount_0f7a4_48, s_J6_bitCount_0f7a4_49, s_J6_bitCount_0f7a4_51, s_J6_bitCount_0f7a4_52]; rfl⟩
    revert k
    decide +kernel
  obtain ⟨y, h1, h2⟩ := key ⟨m, hm⟩
  rw [h2 I A G, h1]
theorem am_hb_xr {x y : Int32} {j : Nat} (hj : j < 32) : am_hb (x ^^^ y) j = (am_hb x j ^^ am_hb y j) := by
  rw [am_hb_g hj, am_hb_g hj, am_hb_g hj, Int32.toBitVec_xor, BitVec.getLsbD_xor]
theorem am_xorN {a b n : Nat} (hn : n ≤ 30) (ha : a < 2 ^ n) (hb : b < 2 ^ n) : nI a ^^^ nI b = nI (a ^^^ b) ∧ a ^^^ b < 2 ^ n := by
  have h1 : (2 : Nat) ^ n ≤ 2 ^ 30 := Nat.pow_le_pow_right (by omega) hn
  have h2 := Nat.xor_lt_two_pow ha hb
  refine ⟨am_hb_x (fun j hj => ?_), h2⟩
  rw [am_hb_xr hj, am_hb_n (by omega) hj, am_hb_n (by omega) hj, am_hb_n (by omega) hj, Nat.testBit_xor]
theorem fl_s_cut {g : Nat → Nat} {D : Nat} (h : ∀ k, D ≤ k → g k = 0) : ∀ n, D ≤ n → fl_s g n = fl_s g D
  | 0, hn => by rw [show D = 0 by omega]
  | n + 1, hn => by
    by_cases e : D = n + 1
    · rw [e]
    · show fl_s g n + g n = _
      rw [fl_s_cut h n (by omega), h n (by omega)]; rfl
theorem pf_bc_D {m D : Nat} (hD : D ≤ 10) (hm : m < 2 ^ D) : pf_bc (nI m) ≤ D := by
  have h1 : pf_bc (nI m) = fl_s (fun k => if k < 32 then (if am_hb (nI m) k = true then 1 else 0) else 0) 10 := fl_s_c 10 (fun k hk => (if_pos (show k < 32 by omega)).symm)
  rw [h1, fl_s_cut (D := D) (fun k hk => by
    show (if k < 32 then (if am_hb (nI m) k = true then 1 else 0) else 0) = 0
    by_cases q : k < 32
    · rw [if_pos q, am_hb_hi hm hk q]; rfl
    · rw [if_neg q]) 10 hD]
  have := fl_s_b (g := fun k => if k < 32 then (if am_hb (nI m) k = true then 1 else 0) else 0) (c := 1) D (fun k _ => by show (if k < 32 then (if am_hb (nI m) k = true then 1 else 0) else 0) ≤ 1; by_cases q : k < 32 <;> by_cases q2 : am_hb (nI m) k = true <;> simp [q, q2])
  omega
/-- the nearest clean setting among the first n -/
def pf_be (P : sg_P) (s : sg_S) (n : Nat) (v : Int32) : Prop := (v = -4 ∧ ∀ o, o < n → pf_cl P (nI o) s.2.1 = false) ∨ ∃ o, o < n ∧ v = nI o ∧ pf_cl P (nI o) s.2.1 = true ∧ ∀ o', o' < n → pf_cl P (nI o') s.2.1 = true → pf_bc (nI o ^^^ s.1) < pf_bc (nI o' ^^^ s.1) ∨ (pf_bc (nI o ^^^ s.1) = pf_bc (nI o' ^^^ s.1) ∧ o ≤ o')
theorem pf_be_u {P : sg_P} {s : sg_S} {n : Nat} {v v' : Int32} (h : pf_be P s n v) (h' : pf_be P s n v') : v = v' := by
  rcases h with ⟨h1, h2⟩ | ⟨o, h1, h2, h3, h4⟩
  · rcases h' with ⟨k1, k2⟩ | ⟨o', k1, k2, k3, k4⟩
    · rw [h1, k1]
    · rw [h2 o' k1] at k3; cases k3
  · rcases h' with ⟨k1, k2⟩ | ⟨o', k1, k2, k3, k4⟩
    · rw [k2 o h1] at h3; cases h3
    · have a := h4 o' k1 k3
      have b := k4 o h1 h3
      rw [h2, k2]
      congr 1
      omega
theorem X6_neI {p p' c : Nat} {P : sg_P} {s : sg_S} {I : am_F} (hv : vp_p P) (hs : sv_s P s) (hc10 : c ≤ 10) (hlo : ∀ o, o < 2 ^ P 7 1 → pf_cl P (nI o) s.2.1 = true → c ≤ pf_bc (nI o ^^^ s.1)) : ∀ (r n : Nat) (A : am_F) (G : am_G), n + r = 2 ^ P 7 1 → ck P s p p' I A G → (∀ o, o < n → pf_cl P (nI o) s.2.1 = true → c < pf_bc (nI o ^^^ s.1)) → ∃ (A' : am_F) (G' : am_G), fr_c A A' G G' ∧ ((∃ v, am_e 74 15 [.ref 0, .int (nI c), .int (nI n)] [] I A G = some (.int v, I, A', G') ∧ pf_be P s (2 ^ P 7 1) v) ∨ (am_e 74 15 [.ref 0, .int (nI c), .int (nI n)] [] I A G = am_e 74 60 [.ref 0, .int (nI c), .int (nI (2 ^ P 7 1))] [] I A' G' ∧ ∀ o, o < 2 ^ P 7 1 → pf_cl P (nI o) s.2.1 = true → c < pf_bc (nI o ^^^ s.1))) := by
  have hD := hv.2.1
  have hp2 := pf_p2 hv
  have sh := am_shl1 (n := P 7 1) (by omega)
  obtain ⟨⟨mo, hmo, hso⟩, -⟩ := id hs
  intro r
  induction r with
  | zero =>
    intro n A G hn hc hall
    have hn2 : n = 2 ^ P 7 1 := by omega
    refine ⟨A, G, fr_c.rf A G, Or.inr ⟨?_, fun o ho => hall o (by omega)⟩⟩
    refine (s_X6_nearestClean_15).trans ?_
    have q10 := hc.2.1.1.2.1
    have hle : (nI (2 ^ P 7 1) ≤ nI n) = True := eq_true (by rw [hn2]; exact Int32.le_refl _)
    rcases hc.1.pp.1 with rfl | rfl <;> simp only [s_X6_nearestClean_16, s_X6_nearestClean_17, s_X6_nearestClean_18, s_X6_nearestClean_21_at5, s_X6_nearestClean_21_at25, s_X6_nearestClean_24, s_X6_nearestClean_25, hc.1.1, q10, sh, Int32.le_refl, if_true, hn2]
  | succ r ih =>
    intro n A G hn hc hall
    have q10 := hc.2.1.1.2.1
    have hle : (nI (2 ^ P 7 1) ≤ nI n) = False := eq_false (by rw [nI_leI (by omega) (by omega)]; omega)
    have hx := am_xorN (n := P 7 1) (by omega) (show n < 2 ^ P 7 1 by omega) hmo
    rw [← hso] at hx
    have hbc := @e_J6_bitCount (n ^^^ mo) I A G (by omega)
    rw [← hx.1] at hbc
    have b10 := pf_bc_10 (nI n ^^^ s.1)
    have heq : (nI (pf_bc (nI n ^^^ s.1)) = nI c) = (pf_bc (nI n ^^^ s.1) = c) := propext (nI_eq (by omega) (by omega))
    have q450 := hc.2.2.2.1
    by_cases hb : pf_bc (nI n ^^^ s.1) = c
    · have heq := heq.trans (eq_true hb)
      obtain ⟨A1, G1, f1, f2⟩ := e_X6_isClean (o := nI n) hv hs hc
      cases hcl : pf_cl P (nI n) s.2.1 with
      | true =>
        rw [hcl] at f1
        refine ⟨A1, G1, f2, Or.inl ⟨nI n, ?_, Or.inr ⟨n, by omega, rfl, hcl, fun o' ho' hcl' => ?_⟩⟩⟩
        · refine (s_X6_nearestClean_15).trans ?_
          rcases hc.1.pp.1 with rfl | rfl <;> simp only [s_X6_nearestClean_16, s_X6_nearestClean_17, s_X6_nearestClean_18, s_X6_nearestClean_21_at5, s_X6_nearestClean_21_at25, s_X6_nearestClean_24, s_X6_nearestClean_25, s_X6_nearestClean_28, s_X6_nearestClean_29, s_X6_nearestClean_30, s_X6_nearestClean_33_at45, s_X6_nearestClean_33_at48, s_X6_nearestClean_33_at51, s_X6_nearestClean_36, s_X6_nearestClean_37, s_X6_nearestClean_40, s_X6_nearestClean_41, s_X6_nearestClean_44, s_X6_nearestClean_45, s_X6_nearestClean_46, s_X6_nearestClean_49, s_X6_nearestClean_52, s_X6_nearestClean_53, hc.1.1, q10, sh, hle, if_false, q450, hbc, am_k_some, am_push_i, heq, if_true, f1, am_bi_0, Bool.true_eq_false]
        · have h1 := hlo o' ho' hcl'
          rcases Nat.lt_or_ge o' n with q | q
          · have := hall o' q hcl'
            exact Or.inl (by omega)
          · rcases Nat.lt_or_ge c (pf_bc (nI o' ^^^ s.1)) with w | w
            · exact Or.inl (by omega)
            · exact Or.inr ⟨by omega, q⟩
      | false =>
        rw [hcl] at f1
        obtain ⟨A', G', k1, k2⟩ := ih (n + 1) A1 G1 (by omega) (hc.fr f2) (fun o ho hc' => by
          by_cases q : o = n
          · rw [q, hcl] at hc'; cases hc'
          · exact hall o (by omega) hc')
        have e1 : am_e 74 15 [.ref 0, .int (nI c), .int (nI n)] [] I A G = am_e 74 15 [.ref 0, .int (nI c), .int (nI (n + 1))] [] I A1 G1 := by
          refine (s_X6_nearestClean_15).trans ?_
          rcases hc.1.pp.1 with rfl | rfl <;> simp only [s_X6_nearestClean_16, s_X6_nearestClean_17, s_X6_nearestClean_18, s_X6_nearestClean_21_at5, s_X6_nearestClean_21_at25, s_X6_nearestClean_24, s_X6_nearestClean_25, s_X6_nearestClean_28, s_X6_nearestClean_29, s_X6_nearestClean_30, s_X6_nearestClean_33_at45, s_X6_nearestClean_33_at48, s_X6_nearestClean_33_at51, s_X6_nearestClean_36, s_X6_nearestClean_37, s_X6_nearestClean_40, s_X6_nearestClean_41, s_X6_nearestClean_44, s_X6_nearestClean_45, s_X6_nearestClean_46, s_X6_nearestClean_49, s_X6_nearestClean_52, s_X6_nearestClean_53, s_X6_nearestClean_54, s_X6_nearestClean_57, hc.1.1, q10, sh, hle, if_false, q450, hbc, am_k_some, am_push_i, heq, if_true, f1, am_bi_0, am_add1]
        rw [e1]
        exact ⟨A', G', f2.tr k1, k2⟩
    · have heq := heq.trans (eq_false hb)
      obtain ⟨A', G', k1, k2⟩ := ih (n + 1) A G (by omega) hc (fun o ho hc' => by
        by_cases q : o = n
        · subst q
          have := hlo o (by omega) hc'
          omega
        · exact hall o (by omega) hc')
      have e1 : am_e 74 15 [.ref 0, .int (nI c), .int (nI n)] [] I A G = am_e 74 15 [.ref 0, .int (nI c), .int (nI (n + 1))] [] I A G := by
        refine (s_X6_nearestClean_15).trans ?_
        rcases hc.1.pp.1 with rfl | rfl <;> simp only [s_X6_nearestClean_16, s_X6_nearestClean_17, s_X6_nearestClean_18, s_X6_nearestClean_21_at5, s_X6_nearestClean_21_at25, s_X6_nearestClean_24, s_X6_nearestClean_25, s_X6_nearestClean_28, s_X6_nearestClean_29, s_X6_nearestClean_30, s_X6_nearestClean_33_at45, s_X6_nearestClean_33_at48, s_X6_nearestClean_33_at51, s_X6_nearestClean_36, s_X6_nearestClean_37, s_X6_nearestClean_40, s_X6_nearestClean_41, s_X6_nearestClean_44, s_X6_nearestClean_45, s_X6_nearestClean_46, s_X6_nearestClean_49, s_X6_nearestClean_52, s_X6_nearestClean_53, s_X6_nearestClean_54, s_X6_nearestClean_57, hc.1.1, q10, sh, hle, if_false, q450, hbc, am_k_some, am_push_i, heq, am_add1]
      rw [e1]
      exact ⟨A', G', k1, k2⟩
theorem X6_neO {p p' : Nat} {P : sg_P} {s : sg_S} {I : am_F} (hv : vp_p P) (hs : sv_s P s) : ∀ (r c : Nat) (g : Value) (A : am_F) (G : am_G), c + r = P 7 1 + 1 → ck P s p p' I A G → (∀ o, o < 2 ^ P 7 1 → pf_cl P (nI o) s.2.1 = true → c ≤ pf_bc (nI o ^^^ s.1)) → ∃ (A' : am_F) (G' : am_G) (v : Int32), fr_c A A' G G' ∧ am_e 74 2 [.ref 0, .int (nI c), g] [] I A G = some (.int v, I, A', G') ∧ pf_be P s (2 ^ P 7 1) v := by
  have hD := hv.2.1
  have hp2 := pf_p2 hv
  obtain ⟨⟨mo, hmo, hso⟩, -⟩ := id hs
  intro r
  induction r with
  | zero =>
    intro c g A G hcr hc hlo
    have hcD : c = P 7 1 + 1 := by omega
    refine ⟨A, G, -4, fr_c.rf A G, ?_, Or.inl ⟨rfl, fun o ho => ?_⟩⟩
    · refine (s_X6_nearestClean_2).trans ?_
      have q10 := hc.2.1.1.2.1
      have hlt : (nI (P 7 1) < nI c) = True := eq_true ((nI_ltI (by omega) (by omega)).mpr (by omega))
      rcases hc.1.pp.1 with rfl | rfl <;> simp only [s_X6_nearestClean_3, s_X6_nearestClean_4, s_X6_nearestClean_7_at5, s_X6_nearestClean_7_at25, s_X6_nearestClean_10, s_X6_nearestClean_66, s_X6_nearestClean_68, hc.1.1, q10, hlt, if_true]
    · rw [Bool.eq_false_iff]
      intro q
      have h1 := hlo o ho q
      have hx := am_xorN (n := P 7 1) (by omega) ho hmo
      rw [← hso] at hx
      rw [hx.1] at h1
      have := pf_bc_D hD hx.2
      omega
  | succ r ih =>
    intro c g A G hcr hc hlo
    have q10 := hc.2.1.1.2.1
    have hlt : (nI (P 7 1) < nI c) = False := eq_false (by rw [nI_ltI (by omega) (by omega)]; omega)
    have e0 : am_e 74 2 [.ref 0, .int (nI c), g] [] I A G = am_e 74 15 [.ref 0, .int (nI c), .int (nI 0)] [] I A G := by
      refine (s_X6_nearestClean_2).trans ?_
      rcases hc.1.pp.1 with rfl | rfl <;> (simp only [s_X6_nearestClean_3, s_X6_nearestClean_4, s_X6_nearestClean_7_at5, s_X6_nearestClean_7_at25, s_X6_nearestClean_10, s_X6_nearestClean_13, s_X6_nearestClean_14, hc.1.1, q10, hlt, if_false]; rfl)
    rw [e0]
    obtain ⟨A1, G1, f1, f2⟩ := X6_neI (c := c) (I := I) hv hs (by omega) hlo (2 ^ P 7 1) 0 A G (by omega) hc (fun o ho => by omega)
    rcases f2 with ⟨v, f2, f3⟩ | ⟨f2, f3⟩
    · exact ⟨A1, G1, v, f1, f2, f3⟩
    · obtain ⟨A', G', v, k1, k2, k3⟩ := ih (c + 1) (.int (nI (2 ^ P 7 1))) A1 G1 (by omega) (hc.fr f1) (fun o ho hcl => f3 o ho hcl)
      refine ⟨A', G', v, f1.tr k1, ?_, k3⟩
      rw [f2, ← k2]
      simp only [s_X6_nearestClean_60, s_X6_nearestClean_63, am_add1]
/-- what settings answers -/
def pf_se (P : sg_P) (s : sg_S) (x v : Int32) : Prop := (x = 0 → v = nI (pf_nc P s.2.1 (2 ^ P 7 1))) ∧ (x = 1 → pf_be P s (2 ^ P 7 1) v) ∧ (¬ (x = 0 ∨ x = 1) → v = -1)
theorem pf_se_u {P : sg_P} {s : sg_S} {x v v' : Int32} (h : pf_se P s x v) (h' : pf_se P s x v') : v = v' := by
  by_cases h0 : x = 0
  · rw [h.1 h0, h'.1 h0]
  · by_cases h1 : x = 1
    · exact pf_be_u (h.2.1 h1) (h'.2.1 h1)
    · rw [h.2.2 (fun q => q.elim h0 h1), h'.2.2 (fun q => q.elim h0 h1)]
theorem e_X6_settings {p p' : Nat} {P : sg_P} {s : sg_S} {x : Int32} {I A : am_F} {G : am_G} (hv : vp_p P) (hs : sv_s P s) (hc : ck P s p p' I A G) : ∃ (v : Int32) (A' : am_F) (G' : am_G), am_e 49 0 [.ref 0, .int x] [] I A G = some (.int v, I, A', G') ∧ fr_c A A' G G' ∧ pf_se P s x v := by
  by_cases h0 : x = 0
  · subst h0
    obtain ⟨A', G', f1, f2⟩ := X6_hmL hv hs (2 ^ P 7 1) 0 A G (by omega) hc
    refine ⟨_, A', G', ?_, f2, fun _ => rfl, fun q => absurd q am_01f.mp, fun q => absurd (Or.inl rfl) q⟩
    have e1 : am_e 73 0 [.ref 0, .null, .null] [] I A G = some (.int (nI (pf_nc P s.2.1 (2 ^ P 7 1))), I, A', G') := by
      rw [← f1]
      simp only [s_X6_howManyClean_0, s_X6_howManyClean_1, s_X6_howManyClean_2, s_X6_howManyClean_3]; rfl
    simp only [s_X6_settings_0, s_X6_settings_1, s_X6_settings_28, s_X6_settings_29, s_X6_settings_32, s_X6_settings_33, s_X6_settings_34, s_X6_settings_37, s_X6_settings_38, s_X6_settings_39, if_true, e1, am_k_some, am_push_i]
  · by_cases h1 : x = 1
    · subst h1
      obtain ⟨A', G', v, f1, f2, f3⟩ := X6_neO hv hs (P 7 1 + 1) 0 .null A G (by omega) hc (fun o ho _ => by omega)
      refine ⟨v, A', G', ?_, f1, fun q => absurd q h0, fun _ => f3, fun q => absurd (Or.inr rfl) q⟩
      have e1 : am_e 74 0 [.ref 0, .null, .null] [] I A G = some (.int v, I, A', G') := by
        rw [← f2]
        simp only [s_X6_nearestClean_0, s_X6_nearestClean_1]; rfl
      simp only [s_X6_settings_0, s_X6_settings_1, s_X6_settings_28, s_X6_settings_29, s_X6_settings_32, s_X6_settings_33, s_X6_settings_34, s_X6_settings_37, s_X6_settings_38, s_X6_settings_39, am_10, if_false, if_true, e1, am_k_some, am_push_i]
    · refine ⟨-1, A, G, ?_, fr_c.rf A G, fun q => absurd q h0, fun q => absurd q h1, fun _ => rfl⟩
      simp only [s_X6_settings_0, s_X6_settings_1, s_X6_settings_28, s_X6_settings_29, s_X6_settings_32, s_X6_settings_33, s_X6_settings_34, s_X6_settings_37, s_X6_settings_38, s_X6_settings_39, h0, h1, if_false]
theorem pf_be_s1 {P : sg_P} {s : sg_S} {n : Nat} {v : Int32} (h : pf_be P s n v) (hc : pf_cl P (nI n) s.2.1 = false) : pf_be P s (n + 1) v := by
  rcases h with ⟨h1, h2⟩ | ⟨o, h1, h2, h3, h4⟩
  · refine Or.inl ⟨h1, fun o ho => ?_⟩
    by_cases q : o = n
    · rw [q]; exact hc
    · exact h2 o (by omega)
  · refine Or.inr ⟨o, by omega, h2, h3, fun o' ho' hc' => ?_⟩
    by_cases q : o' = n
    · rw [q, hc] at hc'; cases hc'
    · exact h4 o' (by omega) hc'
theorem X7_seL {P : sg_P} {s : sg_S} {l1 : Value} {G : am_G} (hv : vp_p P) : ∀ (r n : Nat) (b : Int32) (I A : am_F), n + r = 2 ^ P 7 1 → mk P s I A → pf_be P s n b → ∃ (I' A' : am_F) (b' : Int32), am_e 119 19 [.ref 69, l1, .int (nI (pf_nc P s.2.1 n)), .int b, .int (nI n)] [] I A G = am_e 119 83 [.ref 69, l1, .int (nI (pf_nc P s.2.1 (2 ^ P 7 1))), .int b', .int (nI (2 ^ P 7 1))] [] I' A' G ∧ fr_a I A I' A' ∧ pf_be P s (2 ^ P 7 1) b' := by
  have hD := hv.2.1
  have hp2 := pf_p2 hv
  have sh := am_shl1 (n := P 7 1) (by omega)
  intro r
  induction r with
  | zero =>
    intro n b I A hn hm hbe
    have hn2 : n = 2 ^ P 7 1 := by omega
    refine ⟨I, A, b, ?_, fr_a.rf I A, by rw [← hn2]; exact hbe⟩
    refine (s_X7_settings_19).trans ?_
    have hle : (nI (2 ^ P 7 1) ≤ nI n) = True := eq_true (by rw [hn2]; exact Int32.le_refl _)
    simp only [s_X7_settings_21, s_X7_settings_22, s_X7_settings_23, s_X7_settings_26, s_X7_settings_27, hm.1.2.1, sh, Int32.le_refl, if_true, hn2]
  | succ r ih =>
    intro n b I A hn hm hbe
    obtain ⟨I1, A1, f1, f2⟩ := e_X7_isClean (o := nI n) (G := G) hv hm
    have hm1 := hm.fr f2
    have hle : (nI (2 ^ P 7 1) ≤ nI n) = False := eq_false (by rw [nI_leI (by omega) (by omega)]; omega)
    cases hcl : pf_cl P (nI n) s.2.1 with
    | false =>
      rw [hcl] at f1
      obtain ⟨I', A', b', k1, k2, k3⟩ := ih (n + 1) b I1 A1 (by omega) hm1 (pf_be_s1 hbe hcl)
      refine ⟨I', A', b', ?_, f2.tr k2, k3⟩
      rw [← k1, pf_nc_s, hcl, if_neg (by decide)]
      refine (s_X7_settings_19).trans ?_
      simp only [s_X7_settings_21, s_X7_settings_22, s_X7_settings_23, s_X7_settings_26, s_X7_settings_27, s_X7_settings_30, s_X7_settings_31, s_X7_settings_33, s_X7_settings_36, s_X7_settings_39, s_X7_settings_40, s_X7_settings_42, s_X7_settings_45, s_X7_settings_47, s_X7_settings_48, s_X7_settings_51, s_X7_settings_52, s_X7_settings_55, s_X7_settings_56, s_X7_settings_57, s_X7_settings_60, s_X7_settings_61, s_X7_settings_64, s_X7_settings_67, s_X7_settings_69, s_X7_settings_72, s_X7_settings_73, s_X7_settings_74, s_X7_settings_77, s_X7_settings_80, hm.1.2.1, sh, hle, if_false, f1, am_k_some, am_push_i, am_bi_0, if_true, am_add1, Nat.add_zero]
    | true =>
      rw [hcl] at f1
      -- takes n
      have take : ∀ b2 : Int32, am_e 119 19 [.ref 69, l1, .int (nI (pf_nc P s.2.1 n)), .int b, .int (nI n)] [] I A G = am_e 119 19 [.ref 69, l1, .int (nI (pf_nc P s.2.1 n + 1)), .int b2, .int (nI (n + 1))] [] I1 A1 G → pf_be P s (n + 1) b2 → ∃ (I' A' : am_F) (b' : Int32), am_e 119 19 [.ref 69, l1, .int (nI (pf_nc P s.2.1 n)), .int b, .int (nI n)] [] I A G = am_e 119 83 [.ref 69, l1, .int (nI (pf_nc P s.2.1 (2 ^ P 7 1))), .int b', .int (nI (2 ^ P 7 1))] [] I' A' G ∧ fr_a I A I' A' ∧ pf_be P s (2 ^ P 7 1) b' := by
        intro b2 e1 hb2
        obtain ⟨I', A', b', k1, k2, k3⟩ := ih (n + 1) b2 I1 A1 (by omega) hm1 hb2
        refine ⟨I', A', b', ?_, f2.tr k2, k3⟩
        rw [pf_nc_s, hcl, if_pos rfl] at k1
        rw [e1, k1]
      rcases hbe with ⟨h1, h2⟩ | ⟨o, h1, h2, h3, h4⟩
      · refine take (nI n) ?_ (Or.inr ⟨n, by omega, rfl, hcl, fun o' ho' hc' => ?_⟩)
        · refine (s_X7_settings_19).trans ?_
          have h4 : (b = -4) = True := eq_true h1
          simp only [s_X7_settings_21, s_X7_settings_22, s_X7_settings_23, s_X7_settings_26, s_X7_settings_27, s_X7_settings_30, s_X7_settings_31, s_X7_settings_33, s_X7_settings_36, s_X7_settings_39, s_X7_settings_40, s_X7_settings_42, s_X7_settings_45, s_X7_settings_47, s_X7_settings_48, s_X7_settings_51, s_X7_settings_52, s_X7_settings_55, s_X7_settings_56, s_X7_settings_57, s_X7_settings_60, s_X7_settings_61, s_X7_settings_64, s_X7_settings_67, s_X7_settings_69, s_X7_settings_72, s_X7_settings_73, s_X7_settings_74, s_X7_settings_77, s_X7_settings_80, hm.1.2.1, sh, hle, if_false, f1, am_k_some, am_push_i, am_bi_0, Bool.true_eq_false, h4, if_true, am_add1]
        · by_cases q : o' = n
          · rw [q]; exact Or.inr ⟨rfl, Nat.le_refl _⟩
          · rw [h2 o' (by omega)] at hc'; cases hc'
      · have hne : (b = -4) = False := eq_false (fun q => by
          have h0 : 0 ≤ nI o := nI_pos' (by omega)
          rw [← h2, q] at h0
          exact absurd h0 (by decide))
        have b1 := pf_bc_10 (nI n ^^^ s.1)
        have b2 := pf_bc_10 (b ^^^ s.1)
        have hcmp : (nI (pf_bc (b ^^^ s.1)) ≤ nI (pf_bc (nI n ^^^ s.1))) = (pf_bc (b ^^^ s.1) ≤ pf_bc (nI n ^^^ s.1)) := propext (nI_leI (by omega) (by omega))
        have q14 := hm1.2.1
        by_cases hlt : pf_bc (nI n ^^^ s.1) < pf_bc (b ^^^ s.1)
        · have hcmp := hcmp.trans (eq_false (by omega))
          refine take (nI n) ?_ (Or.inr ⟨n, by omega, rfl, hcl, fun o' ho' hc' => ?_⟩)
          · refine (s_X7_settings_19).trans ?_
            simp only [s_X7_settings_21, s_X7_settings_22, s_X7_settings_23, s_X7_settings_26, s_X7_settings_27, s_X7_settings_30, s_X7_settings_31, s_X7_settings_33, s_X7_settings_36, s_X7_settings_39, s_X7_settings_40, s_X7_settings_42, s_X7_settings_45, s_X7_settings_47, s_X7_settings_48, s_X7_settings_51, s_X7_settings_52, s_X7_settings_55, s_X7_settings_56, s_X7_settings_57, s_X7_settings_60, s_X7_settings_61, s_X7_settings_64, s_X7_settings_67, s_X7_settings_69, s_X7_settings_72, s_X7_settings_73, s_X7_settings_74, s_X7_settings_77, s_X7_settings_80, hm.1.2.1, sh, hle, if_false, f1, am_k_some, am_push_i, am_bi_0, Bool.true_eq_false, hne, q14, e_X7_bits, hcmp, am_add1]
          · by_cases q : o' = n
            · rw [q]; exact Or.inr ⟨rfl, Nat.le_refl _⟩
            · have := h4 o' (by omega) hc'
              rw [← h2] at this
              exact Or.inl (by omega)
        · have hcmp := hcmp.trans (eq_true (by omega))
          refine take b ?_ (Or.inr ⟨o, by omega, h2, h3, fun o' ho' hc' => ?_⟩)
          · refine (s_X7_settings_19).trans ?_
            simp only [s_X7_settings_21, s_X7_settings_22, s_X7_settings_23, s_X7_settings_26, s_X7_settings_27, s_X7_settings_30, s_X7_settings_31, s_X7_settings_33, s_X7_settings_36, s_X7_settings_39, s_X7_settings_40, s_X7_settings_42, s_X7_settings_45, s_X7_settings_47, s_X7_settings_48, s_X7_settings_51, s_X7_settings_52, s_X7_settings_55, s_X7_settings_56, s_X7_settings_57, s_X7_settings_60, s_X7_settings_61, s_X7_settings_64, s_X7_settings_67, s_X7_settings_69, s_X7_settings_72, s_X7_settings_73, s_X7_settings_74, s_X7_settings_77, s_X7_settings_80, hm.1.2.1, sh, hle, if_false, f1, am_k_some, am_push_i, am_bi_0, Bool.true_eq_false, hne, q14, e_X7_bits, hcmp, if_true, am_add1]
          · by_cases q : o' = n
            · rw [q, ← h2]
              rcases Nat.lt_or_ge (pf_bc (b ^^^ s.1)) (pf_bc (nI n ^^^ s.1)) with w | w
              · exact Or.inl w
              · exact Or.inr ⟨by omega, by omega⟩
            · exact h4 o' (by omega) hc'
theorem e_X7_settings {P : sg_P} {s : sg_S} {x : Int32} {I A : am_F} {G : am_G} (hv : vp_p P) (hm : mk P s I A) : ∃ (v : Int32) (I' A' : am_F), am_e 119 0 [.ref 69, .int x, .null, .null, .null] [] I A G = some (.int v, I', A', G) ∧ fr_a I A I' A' ∧ pf_se P s x v := by
  obtain ⟨x1, x0⟩ := @e_X7_ei x I A G
  by_cases hx : x = 0 ∨ x = 1
  · obtain ⟨I', A', b, k1, k2, k3⟩ := X7_seL (l1 := .int x) (G := G) hv (2 ^ P 7 1) 0 (-4) I A (by omega) hm (Or.inl ⟨rfl, fun o ho => by omega⟩)
    have e0 : am_e 119 0 [.ref 69, .int x, .null, .null, .null] [] I A G = am_e 119 19 [.ref 69, .int x, .int (nI (pf_nc P s.2.1 0)), .int (-4), .int (nI 0)] [] I A G := by
      simp only [s_X7_settings_0, s_X7_settings_1, s_X7_settings_2, s_X7_settings_3, s_X7_settings_6, s_X7_settings_9, s_X7_settings_10, s_X7_settings_11, s_X7_settings_12, s_X7_settings_13, s_X7_settings_15, s_X7_settings_16, s_X7_settings_17, x1 hx, am_k_some, am_push_i, am_10, if_false]; rfl
    rw [e0, k1]
    by_cases h0 : x = 0
    · refine ⟨nI (pf_nc P s.2.1 (2 ^ P 7 1)), I', A', ?_, k2, fun _ => rfl, fun q => absurd (h0.symm.trans q) am_01f.mp, fun q => absurd hx q⟩
      simp only [s_X7_settings_83, s_X7_settings_84, s_X7_settings_87, s_X7_settings_88, s_X7_settings_91, s_X7_settings_92, h0, if_true]
    · refine ⟨b, I', A', ?_, k2, fun q => absurd q h0, fun _ => k3, fun q => absurd hx q⟩
      simp only [s_X7_settings_83, s_X7_settings_84, s_X7_settings_87, s_X7_settings_88, s_X7_settings_91, s_X7_settings_92, h0, if_false]
  · refine ⟨-1, I, A, ?_, fr_a.rf I A, fun q => absurd (Or.inl q) hx, fun q => absurd (Or.inr q) hx, fun _ => rfl⟩
    simp only [s_X7_settings_0, s_X7_settings_1, s_X7_settings_2, s_X7_settings_3, s_X7_settings_6, s_X7_settings_9, s_X7_settings_10, x0 hx, am_k_some, am_push_i, if_true]
