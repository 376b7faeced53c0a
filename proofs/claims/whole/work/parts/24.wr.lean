/-! ===== write ===== -/
theorem am_clr_n : am_clr .null = .null := rfl
theorem am_clr_i {x : Int32} : am_clr (.int x) = .int x := rfl
theorem am_clr_r {x : Nat} : am_clr (.ref x) = .ref x := rfl
/-- a byte of a long -/
def pf_bt (v : Int64) (e : Nat) : Nat := (v.toBitVec >>> (8 * e)).toNat % 256
theorem pf_bt_lt (v : Int64) (e : Nat) : pf_bt v e < 256 := Nat.mod_lt _ (by decide)
theorem am_byteM (v : Int64) {e : Nat} (he : e < 8) : ((v >>> ((nI (8 * e)).toInt64 &&& 63)) &&& 255).toInt32 = nI (pf_bt v e) := by
  have h1 : ∀ m : Fin 8, ((nI (8 * m.val)).toInt64 &&& 63).toBitVec.smod 64 = BitVec.ofNat 64 (8 * m.val) := by decide
  have h2 := h1 ⟨e, he⟩
  apply Int32.toBitVec_inj.mp
  rw [Int64.toBitVec_toInt32, Int64.toBitVec_and, Int64.toBitVec_shiftRight, h2]
  show (BitVec.signExtend 32 (v.toBitVec.sshiftRight' (BitVec.ofNat 64 (8 * e)) &&& 255#64)) = BitVec.ofNat 32 (pf_bt v e)
  have h3 : (BitVec.ofNat 64 (8 * e)).toNat = 8 * e := by rw [BitVec.toNat_ofNat]; omega
  apply BitVec.eq_of_getLsbD_eq
  intro i hi
  rw [BitVec.getLsbD_signExtend, BitVec.getLsbD_ofNat]
  unfold pf_bt
  rw [show (256 : Nat) = 2 ^ 8 from rfl, Nat.testBit_mod_two_pow, BitVec.sshiftRight', h3]
  by_cases h8 : i < 8
  · have h255 : (255#64).getLsbD i = true := by
      have : ∀ m : Fin 8, (255#64).getLsbD m.val = true := by decide
      exact this ⟨i, h8⟩
    simp [hi, h8, h255, BitVec.getLsbD_sshiftRight, BitVec.testBit_toNat]
    rw [if_pos (by omega), if_pos (by omega), decide_eq_false (by omega)]
    rfl
  · have h255 : (255#64).getLsbD i = false := by
      have : ∀ m : Fin 24, (255#64).getLsbD (m.val + 8) = false := by decide
      have := this ⟨i - 8, by omega⟩
      rwa [show i - 8 + 8 = i by omega] at this
    simp [hi, h8, h255]
    omega
theorem am_byteC (v : Int64) {e : Nat} (he : e < 8) : ((v.toUInt64 >>> ((nI (8 * e)).toInt64.toUInt64 &&& Int64.toUInt64 63)).toInt64.toInt32.toInt8.toInt32.toInt8.toInt32) &&& 255 = nI (pf_bt v e) := by
  have h1 : ∀ m : Fin 8, ((nI (8 * m.val)).toInt64.toUInt64 &&& Int64.toUInt64 63).toBitVec % 64 = BitVec.ofNat 64 (8 * m.val) := by decide
  have h2 := h1 ⟨e, he⟩
  apply Int32.toBitVec_inj.mp
  rw [Int32.toBitVec_and, Int8.toBitVec_toInt32, Int32.toBitVec_toInt8, Int8.toBitVec_toInt32, Int32.toBitVec_toInt8, Int64.toBitVec_toInt32, UInt64.toBitVec_toInt64, UInt64.toBitVec_shiftRight, h2]
  show (BitVec.signExtend 32 (BitVec.signExtend 8 (BitVec.signExtend 32 (BitVec.signExtend 8 (BitVec.signExtend 32 (v.toBitVec >>> (BitVec.ofNat 64 (8 * e))))))) &&& 255#32) = BitVec.ofNat 32 (pf_bt v e)
  have h3 : (BitVec.ofNat 64 (8 * e)).toNat = 8 * e := by rw [BitVec.toNat_ofNat]; omega
  apply BitVec.eq_of_getLsbD_eq
  intro i hi
  have hR : (BitVec.ofNat 32 (pf_bt v e)).getLsbD i = (decide (i < 8) && v.toBitVec.getLsbD (8 * e + i)) := by
    rw [BitVec.getLsbD_ofNat]
    unfold pf_bt
    rw [show (256 : Nat) = 2 ^ 8 from rfl, Nat.testBit_mod_two_pow, BitVec.testBit_toNat, BitVec.getLsbD_ushiftRight]
    simp [hi]
  rw [BitVec.getLsbD_and, hR]
  by_cases h8 : i < 8
  · have h255 : (255#32).getLsbD i = true := by
      have : ∀ m : Fin 8, (255#32).getLsbD m.val = true := by decide
      exact this ⟨i, h8⟩
    have e1 : i < 64 := by omega
    rw [h255]
    simp only [BitVec.getLsbD_signExtend, hi, h8, e1, decide_true, Bool.true_and, Bool.and_true, if_true]
    rw [BitVec.ushiftRight_eq', h3, BitVec.getLsbD_ushiftRight]
  · have h255 : (255#32).getLsbD i = false := by
      have : ∀ m : Fin 24, (255#32).getLsbD (m.val + 8) = false := by decide
      have := this ⟨i - 8, by omega⟩
      rwa [show i - 8 + 8 = i by omega] at this
    rw [h255, Bool.and_false, decide_eq_false h8]
    rfl
theorem am_mul8 {j : Nat} : (8 : Int32) * nI j = nI (8 * j) := by
  show nI 8 * nI j = _
  exact (by unfold nI; rw [← Int32.ofNat_mul])
theorem nI_m1 : nI 0 - 1 < 0 := by decide
theorem am_dec1 {x : Int32} : x + -1 = x - 1 := by rw [Int32.sub_eq_add_neg]
theorem X7_write_loop {n : Int32} {v : Int64} {G : am_G} : ∀ (r : Nat), r ≤ 8 → ∀ (c : Nat) (I A : am_F), I 69 0 = nI c → c + r ≤ 400 → ∃ I' A', am_e 81 32 [.ref 69, .int n, .long v, .null, .int (nI r - 1)] [] I A G = some (.int (nI (c + r)), I', A', G) ∧ (∀ a j, ¬ (a = 69 ∧ j = 0) → I' a j = I a j) ∧ I' 69 0 = nI (c + r) ∧ (∀ a, a ≠ 70 → A' a = A a) ∧ ∀ j, A' 70 j = if c ≤ j ∧ j < c + r then nI (pf_bt v (r - 1 - (j - c))) else A 70 j
  | 0, _, c, I, A, hI, hc => by
    refine ⟨I, A, ?_, fun a j _ => rfl, hI, fun a _ => rfl, fun j => by rw [if_neg (by omega)]⟩
    simp only [s_X7_write_32, s_X7_write_34, s_X7_write_74, s_X7_write_75, s_X7_write_78, nI_m1, if_true, hI, Nat.add_zero]
  | r + 1, hr, c, I, A, hI, hc => by
    obtain ⟨I', A', e1, e2, e3, e4, e5⟩ := X7_write_loop (n := n) (v := v) (G := G) r (by omega) (c + 1) (am_u I 69 0 (nI (c + 1))) (am_u A 70 c (nI (pf_bt v r))) (by rw [am_u_eq]) (by omega)
    refine ⟨I', A', ?_, fun a j h => by rw [e2 a j h, am_u_at, if_neg h], by rw [e3]; congr 1; omega, fun a h => by rw [e4 a h, am_u_ne h], fun j => ?_⟩
    · rw [show c + (r + 1) = c + 1 + r by omega, ← e1]
      refine (s_X7_write_32).trans ?_
      simp only [s_X7_write_34, s_X7_write_37, s_X7_write_38, s_X7_write_41, s_X7_write_42, s_X7_write_45, s_X7_write_46, s_X7_write_48, s_X7_write_50, s_X7_write_51, s_X7_write_52, s_X7_write_55, s_X7_write_56, s_X7_write_57, s_X7_write_58, s_X7_write_59, s_X7_write_60, s_X7_write_63, s_X7_write_64, s_X7_write_65, s_X7_write_68, s_X7_write_71, nI_pred, nI_pos (show r < 2 ^ 31 by omega), if_false, hI, am_len_70, nI_clamp (show c < 2 ^ 31 by omega), am_ixF (show c < 400 by omega) (by omega), am_mul8, am_byteM v (show r < 8 by omega), am_add1, am_clr_n, am_dec1]
    · rw [e5, am_u_at]
      by_cases h1 : c + 1 ≤ j ∧ j < c + 1 + r
      · rw [if_pos h1, if_pos (by omega)]
        congr 2
        omega
      · rw [if_neg h1]
        by_cases h2 : j = c
        · rw [if_pos ⟨rfl, h2⟩, if_pos (by omega), h2]
          congr 2
          omega
        · rw [if_neg (fun q => h2 q.2), if_neg (by omega)]
theorem X6_write_loop {n : Int32} {v : Int64} {G : am_G} : ∀ (r : Nat), r ≤ 8 → ∀ (c : Nat) (I A : am_F), I 0 1 = nI c → c + r ≤ 400 → ∃ I' A', am_e 35 33 [.ref 0, .int n, .long v, .null, .int (nI r - 1)] [] I A G = some (.int (nI (c + r)), I', A', G) ∧ (∀ a j, ¬ (a = 0 ∧ j = 1) → I' a j = I a j) ∧ I' 0 1 = nI (c + r) ∧ (∀ a, a ≠ 1 → A' a = A a) ∧ ∀ j, A' 1 j &&& 255 = if c ≤ j ∧ j < c + r then nI (pf_bt v (r - 1 - (j - c))) else A 1 j &&& 255
  | 0, _, c, I, A, hI, hc => by
    refine ⟨I, A, ?_, fun a j _ => rfl, hI, fun a _ => rfl, fun j => by rw [if_neg (by omega)]⟩
    simp only [s_X6_write_33, s_X6_write_35, s_X6_write_72, s_X6_write_73, s_X6_write_76, nI_m1, if_true, hI, Nat.add_zero]
  | r + 1, hr, c, I, A, hI, hc => by
    obtain ⟨I', A', e1, e2, e3, e4, e5⟩ := X6_write_loop (n := n) (v := v) (G := G) r (by omega) (c + 1) (am_u I 0 1 (nI (c + 1))) (am_u A 1 c ((v.toUInt64 >>> ((nI (8 * r)).toInt64.toUInt64 &&& Int64.toUInt64 63)).toInt64.toInt32.toInt8.toInt32.toInt8.toInt32)) (by rw [am_u_eq]) (by omega)
    refine ⟨I', A', ?_, fun a j h => by rw [e2 a j h, am_u_at, if_neg h], by rw [e3]; congr 1; omega, fun a h => by rw [e4 a h, am_u_ne h], fun j => ?_⟩
    · rw [show c + (r + 1) = c + 1 + r by omega, ← e1]
      refine (s_X6_write_33).trans ?_
      simp only [s_X6_write_35, s_X6_write_38, s_X6_write_39, s_X6_write_42, s_X6_write_43, s_X6_write_46, s_X6_write_47, s_X6_write_49, s_X6_write_51, s_X6_write_52, s_X6_write_53, s_X6_write_54, s_X6_write_55, s_X6_write_56, s_X6_write_57, s_X6_write_58, s_X6_write_61, s_X6_write_62, s_X6_write_63, s_X6_write_66, s_X6_write_69, nI_pred, nI_pos (show r < 2 ^ 31 by omega), if_false, hI, am_len_1, nI_clamp (show c < 2 ^ 31 by omega), am_ixF (show c < 400 by omega) (by omega), am_mul8, am_add1, am_clr_n, am_dec1]
    · rw [e5, am_u_at]
      by_cases h1 : c + 1 ≤ j ∧ j < c + 1 + r
      · rw [if_pos h1, if_pos (by omega)]
        congr 2
        omega
      · rw [if_neg h1]
        by_cases h2 : j = c
        · rw [if_pos ⟨rfl, h2⟩, if_pos (by omega), h2, am_byteC v (show r < 8 by omega)]
          congr 2
          omega
        · rw [if_neg (fun q => h2 q.2), if_neg (by omega)]
/-- the text behind a write -/
def pf_wt (t : Nat → Nat) (n k : Nat) (v : Int64) : Nat → Nat := fun j => if n ≤ j ∧ j < n + k then pf_bt v (k - 1 - (j - n)) else t j
theorem am_le400 {n k : Nat} (hn : n ≤ 400) (hk : k ≤ 8) : (nI n + nI k ≤ 400) = (n + k ≤ 400) := propext (by rw [nI_add, show (400 : Int32) = nI 400 from rfl, nI_leI (by omega) (by omega)])
theorem e_X7_write {I A : am_F} {G : am_G} {n : Nat} {t : Nat → Nat} {x : Int32} {v : Int64} (hn : n ≤ 400) (ht : mr_t n t I A) : ((¬ (1 ≤ x ∧ x ≤ 8)) → am_e 81 0 [.ref 69, .int x, .long v, .null, .null] [] I A G = some (.int (-1), I, A, G)) ∧ (∀ k, 1 ≤ k → k ≤ 8 → x = nI k → ¬ n + k ≤ 400 → am_e 81 0 [.ref 69, .int x, .long v, .null, .null] [] I A G = some (.int (-3), I, A, G)) ∧ (∀ k, 1 ≤ k → k ≤ 8 → x = nI k → n + k ≤ 400 → ∃ I' A', am_e 81 0 [.ref 69, .int x, .long v, .null, .null] [] I A G = some (.int (nI (n + k)), I', A', G) ∧ (∀ a j, ¬ (a = 69 ∧ j = 0) → I' a j = I a j) ∧ (∀ a, a ≠ 70 → A' a = A a) ∧ mr_t (n + k) (pf_wt t n k v) I' A') := by
  have e0 : am_e 81 0 [.ref 69, .int x, .long v, .null, .null] [] I A G = if ¬ (1 ≤ x ∧ x ≤ 8) then some (.int (-1), I, A, G) else if nI n + x ≤ 400 then am_e 81 32 [.ref 69, .int x, .long v, .null, .int (x - 1)] [] I A G else some (.int (-3), I, A, G) := by
    simp only [s_X7_write_0, s_X7_write_1, s_X7_write_2, s_X7_write_4, s_X7_write_7, s_X7_write_10, s_X7_write_11, s_X7_write_12, s_X7_write_13, s_X7_write_16, s_X7_write_17, s_X7_write_18, s_X7_write_21, s_X7_write_24, s_X7_write_26, s_X7_write_27, s_X7_write_28, s_X7_write_29, s_X7_write_30, e_X7_in, am_k_some, am_push_i, am_bi_0, decide_eq_false_iff_not, ht.1, am_clr_n]
  refine ⟨fun h => by rw [e0, if_pos h], fun k h1 h2 hx h => ?_, fun k h1 h2 hx h => ?_⟩
  · subst hx
    rw [e0, if_neg (not_not_intro ⟨by rw [show (1 : Int32) = nI 1 from rfl, nI_leI (by omega) (by omega)]; exact h1, by rw [show (8 : Int32) = nI 8 from rfl, nI_leI (by omega) (by omega)]; exact h2⟩), if_neg (by rw [am_le400 hn h2]; exact h)]
  · subst hx
    obtain ⟨I', A', e1, e2, e3, e4, e5⟩ := X7_write_loop (n := nI k) (v := v) (G := G) k h2 n I A ht.1 h
    refine ⟨I', A', ?_, e2, e4, e3, fun j hj => ?_⟩
    · rw [e0, if_neg (not_not_intro ⟨by rw [show (1 : Int32) = nI 1 from rfl, nI_leI (by omega) (by omega)]; exact h1, by rw [show (8 : Int32) = nI 8 from rfl, nI_leI (by omega) (by omega)]; exact h2⟩), if_pos (by rw [am_le400 hn h2]; exact h)]
      exact e1
    · rw [e5]
      unfold pf_wt
      by_cases h3 : n ≤ j ∧ j < n + k
      · rw [if_pos h3, if_pos h3]
      · rw [if_neg h3, if_neg h3]
        exact ht.2 j (by omega)
theorem e_X6_write {I A : am_F} {G : am_G} {n : Nat} {t : Nat → Nat} {x : Int32} {v : Int64} (hn : n ≤ 400) (ht : cr_t n t I A) : ((¬ (1 ≤ x ∧ x ≤ 8)) → am_e 35 0 [.ref 0, .int x, .long v, .null, .null] [] I A G = some (.int (-1), I, A, G)) ∧ (∀ k, 1 ≤ k → k ≤ 8 → x = nI k → ¬ n + k ≤ 400 → am_e 35 0 [.ref 0, .int x, .long v, .null, .null] [] I A G = some (.int (-3), I, A, G)) ∧ (∀ k, 1 ≤ k → k ≤ 8 → x = nI k → n + k ≤ 400 → ∃ I' A', am_e 35 0 [.ref 0, .int x, .long v, .null, .null] [] I A G = some (.int (nI (n + k)), I', A', G) ∧ (∀ a j, ¬ (a = 0 ∧ j = 1) → I' a j = I a j) ∧ (∀ a, a ≠ 1 → A' a = A a) ∧ cr_t (n + k) (pf_wt t n k v) I' A') := by
  have e0 : am_e 35 0 [.ref 0, .int x, .long v, .null, .null] [] I A G = if ¬ (1 ≤ x ∧ x ≤ 8) then some (.int (-1), I, A, G) else if nI n + x ≤ 400 then am_e 35 33 [.ref 0, .int x, .long v, .null, .int (x - 1)] [] I A G else some (.int (-3), I, A, G) := by
    simp only [s_X6_write_0, s_X6_write_1, s_X6_write_2, s_X6_write_5, s_X6_write_6, s_X6_write_8, s_X6_write_11, s_X6_write_12, s_X6_write_13, s_X6_write_14, s_X6_write_17, s_X6_write_18, s_X6_write_19, s_X6_write_22, s_X6_write_25, s_X6_write_27, s_X6_write_28, s_X6_write_29, s_X6_write_30, s_X6_write_31, ht.1, am_clr_n]
    by_cases h1 : x < 1
    · rw [if_pos h1, if_pos (fun q => absurd q.1 (Int32.not_le.mpr h1))]
    · rw [if_neg h1]
      by_cases h2 : x ≤ 8
      · rw [if_pos h2, if_neg (not_not_intro ⟨Int32.not_lt.mp h1, h2⟩)]
      · rw [if_neg h2, if_pos (fun q => h2 q.2)]
  refine ⟨fun h => by rw [e0, if_pos h], fun k h1 h2 hx h => ?_, fun k h1 h2 hx h => ?_⟩
  · subst hx
    rw [e0, if_neg (not_not_intro ⟨by rw [show (1 : Int32) = nI 1 from rfl, nI_leI (by omega) (by omega)]; exact h1, by rw [show (8 : Int32) = nI 8 from rfl, nI_leI (by omega) (by omega)]; exact h2⟩), if_neg (by rw [am_le400 hn h2]; exact h)]
  · subst hx
    obtain ⟨I', A', e1, e2, e3, e4, e5⟩ := X6_write_loop (n := nI k) (v := v) (G := G) k h2 n I A ht.1 h
    refine ⟨I', A', ?_, e2, e4, e3, fun j hj => ?_⟩
    · rw [e0, if_neg (not_not_intro ⟨by rw [show (1 : Int32) = nI 1 from rfl, nI_leI (by omega) (by omega)]; exact h1, by rw [show (8 : Int32) = nI 8 from rfl, nI_leI (by omega) (by omega)]; exact h2⟩), if_pos (by rw [am_le400 hn h2]; exact h)]
      exact e1
    · rw [e5]
      unfold pf_wt
      by_cases h3 : n ≤ j ∧ j < n + k
      · rw [if_pos h3, if_pos h3]
      · rw [if_neg h3, if_neg h3]
        exact ht.2 j (by omega)
