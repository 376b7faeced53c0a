/-! ===== hours: what smoke goes; the class ===== -/
/-- the smoke that goes through a door -/
def pf_cb (x : Int32) (q a : Nat) : Int32 := (x.toInt64 * (nI q).toInt64 / (nI (a + 20)).toInt64).toInt32
theorem pf_cb_0 (x : Int32) (a : Nat) : pf_cb x 0 a = 0 := by
  have h0 : (nI 0).toInt64 = 0 := by decide
  unfold pf_cb
  rw [h0, Int64.mul_zero, Int64.zero_div]
  decide
/-- smoke with what is made -/
def pf_s1 (P : sg_P) (z : Nat → Int32) (j : Nat) : Int32 := if j < P 7 0 then z j + nI (P 1 j) else z j
/-- what has gone through the first n doors -/
def pf_mo (F T : Nat → Nat) (g : Nat → Int32) : Nat → Nat → Int32
  | 0, _ => 0
  | d + 1, i => pf_mo F T g d i - (if F d ≠ 8 ∧ F d = i then g d else 0) + (if F d ≠ 8 ∧ T d = i then g d else 0)
theorem pf_mo_0 (F T : Nat → Nat) {g : Nat → Int32} (i : Nat) : ∀ n, (∀ d, d < n → g d = 0) → pf_mo F T g n i = 0
  | 0, _ => rfl
  | n + 1, h => by
    show pf_mo F T g n i - (if F n ≠ 8 ∧ F n = i then g n else 0) + (if F n ≠ 8 ∧ T n = i then g n else 0) = 0
    rw [pf_mo_0 F T i n (fun d hd => h d (by omega)), h n (by omega)]
    simp
theorem pf_mo_c {F T : Nat → Nat} {g g' : Nat → Int32} (i : Nat) : ∀ n, (∀ d, d < n → g d = g' d) → pf_mo F T g n i = pf_mo F T g' n i
  | 0, _ => rfl
  | n + 1, h => by
    show pf_mo F T g n i - (if F n ≠ 8 ∧ F n = i then g n else 0) + (if F n ≠ 8 ∧ T n = i then g n else 0) = pf_mo F T g' n i - (if F n ≠ 8 ∧ F n = i then g' n else 0) + (if F n ≠ 8 ∧ T n = i then g' n else 0)
    rw [pf_mo_c i n (fun d hd => h d (by omega)), h n (by omega)]
def pf_gd (P : sg_P) (u : Bool) (o f w : Int32) (z : Nat → Int32) (d : Nat) : Int32 := pf_cb (pf_s1 P z (pf_fr P u d)) (pf_q P o f w d) (pf_a P o f w (pf_fr P u d))
/-- an hour goes by -/
def pf_hs (P : sg_P) (s : sg_S) : sg_S := (s.1, s.2.1, s.2.2.1 + 1, fun i => pf_s1 P s.2.2.2 i + pf_mo (pf_fr P (pf_u (pf_wy P (nI s.2.2.1)))) (pf_to P (pf_u (pf_wy P (nI s.2.2.1)))) (pf_gd P (pf_u (pf_wy P (nI s.2.2.1))) s.1 s.2.1 (pf_wy P (nI s.2.2.1)) s.2.2.2) (P 7 1) i)
theorem pf_mo_u {P : sg_P} (hv : vp_p P) {o f w : Int32} {u : Bool} (h : w = 0 ∨ u = pf_u w) (z : Nat → Int32) (i : Nat) : pf_mo (pf_fr P u) (pf_to P u) (pf_gd P u o f w z) (P 7 1) i = pf_mo (pf_fr P (pf_u w)) (pf_to P (pf_u w)) (pf_gd P (pf_u w) o f w z) (P 7 1) i := by
  rcases h with rfl | rfl
  · rw [pf_mo_0 _ _ i _ (fun d hd => by unfold pf_gd; rw [pf_q_0 hv o f hd]; exact pf_cb_0 _ _), pf_mo_0 _ _ i _ (fun d hd => by unfold pf_gd; rw [pf_q_0 hv o f hd]; exact pf_cb_0 _ _)]
  · rfl
theorem e_X4_carriedBy {x : Int32} {q a : Nat} {I A : am_F} {G : am_G} (ha : a ≤ 500) : am_e 27 0 [.int x, .int (nI q), .int (nI a), .null] [] I A G = some (.int (pf_cb x q a), I, A, G) := by
  have e20 : nI a + 20 = nI (a + 20) := nI_add a 20
  have hle : (nI (a + 20) ≤ 0) = False := (am_nle0 (by omega)).trans (eq_false (by omega))
  have hne : ((nI (a + 20)).toInt64 = 0) = False := eq_false (by
    rw [nI_l (by omega), show (0 : Int64) = lN 0 from rfl, lN_eq (by omega) (by omega)]; omega)
  simp only [s_X4_carriedBy_0, s_X4_carriedBy_1, s_X4_carriedBy_3, s_X4_carriedBy_4, s_X4_carriedBy_5, s_X4_carriedBy_6, s_X4_carriedBy_9, s_X4_carriedBy_10, s_X4_carriedBy_11, s_X4_carriedBy_12, s_X4_carriedBy_13, s_X4_carriedBy_14, s_X4_carriedBy_15, s_X4_carriedBy_16, s_X4_carriedBy_17, s_X4_carriedBy_18, s_X4_carriedBy_21, s_X4_carriedBy_22, e20, hle, hne, if_false]
  rfl
theorem X4_ph1 {p : Nat} {P : sg_P} {z : Nat → Int32} {I : am_F} {G : am_G} (hpp : p = 5 ∨ p = 25) (hv : vp_p P) : ∀ (r i : Nat) (A : am_F), i + r = P 7 0 → cr_p p P I A → (∀ j, j < 9 → A 46 j = if j < i then z j + nI (P 1 j) else z j) → ∃ A' : am_F, am_e 26 2 [.ref 45, .ref p, .ref 58, .int (nI i), .null, .null] [] I A G = am_e 26 31 [.ref 45, .ref p, .ref 58, .int (nI (P 7 0)), .null, .null] [] I A' G ∧ (∀ b, b ≠ 46 → A' b = A b) ∧ ∀ j, j < 9 → A' 46 j = pf_s1 P z j := by
  have hH := hv.1.2
  intro r
  induction r with
  | zero =>
    intro i A hi hp hA
    have : i = P 7 0 := by omega
    subst this
    refine ⟨A, ?_, fun b _ => rfl, hA⟩
    refine (s_X4_passHour_2).trans ?_
    rcases hpp with rfl | rfl <;> simp only [s_X4_passHour_3, s_X4_passHour_4_at5, s_X4_passHour_4_at25, s_X4_passHour_7, hp.1, Int32.le_refl, if_true]
  | succ r ih =>
    intro i A hi hp hA
    have b2 := (hp.2.2.1 i (by omega)).2.1
    have zA := hA i (by omega)
    rw [if_neg (by omega)] at zA
    have ci := nI_clamp (show i < 2 ^ 31 by omega)
    have x8 := am_ixF (show i < 8 by omega) (show 8 < 2 ^ 31 by omega)
    have x9 := am_ixF (show i < 9 by omega) (show 9 < 2 ^ 31 by omega)
    have hn : (nI (P 7 0) ≤ nI i) = False := eq_false (by rw [nI_leI (by omega) (by omega)]; omega)
    obtain ⟨A', f1, f2, f3⟩ := ih (i + 1) (am_u A 46 i (z i + nI (P 1 i))) (by omega) (hp.fr (fun _ => rfl) (fun a q1 q2 => am_u_ne (by omega))) (fun j hj => by
      rw [am_u_at]
      by_cases hji : j = i
      · rw [if_pos ⟨rfl, hji⟩, hji, if_pos (by omega)]
      · rw [if_neg (fun q => hji q.2), hA j hj]
        by_cases q : j < i
        · rw [if_pos q, if_pos (by omega)]
        · rw [if_neg q, if_neg (by omega)])
    refine ⟨A', ?_, fun b hb => by rw [f2 b hb, am_u_ne hb], f3⟩
    rw [← f1]
    refine (s_X4_passHour_2).trans ?_
    rcases hpp with rfl | rfl <;>
    (simp only [Nat.reduceAdd] at b2
     simp only [s_X4_passHour_3, s_X4_passHour_4_at5, s_X4_passHour_4_at25, s_X4_passHour_7, s_X4_passHour_10, s_X4_passHour_11_at45, s_X4_passHour_11_at48, s_X4_passHour_11_at51, s_X4_passHour_14, s_X4_passHour_15, s_X4_passHour_16, s_X4_passHour_17, s_X4_passHour_18_at5, s_X4_passHour_18_at25, s_X4_passHour_21, s_X4_passHour_22, s_X4_passHour_23, s_X4_passHour_24, s_X4_passHour_25, s_X4_passHour_28, hp.1, hn, if_false, am_len_46, am_len_7, am_len_27, ci, x8, x9, b2, zA, am_add1])
theorem X4_ph2 {p x H D : Nat} {F T q a r : Nat → Nat} {z g : Nat → Int32} {I : am_F} {G : am_G} (hpp : p = 5 ∨ p = 25) (hx : x = 13 ∨ x = 19 ∨ x = 33 ∨ x = 39) (hG : G 58 4 = x) (hv : fl_v H D F T r) (ha : ∀ i, i < H → a i ≤ 500) (hg : ∀ d, d < D → g d = pf_cb (z (F d)) (q d) (a (F d))) (hI : I p 10 = nI D) : ∀ (s d : Nat) (g4 g5 : Value) (A : am_F), d + s = D → (∀ d, d < D → A (x + 1) d = nI (F d) ∧ A (x + 2) d = nI (T d)) → (∀ i, i < H → A 59 i = nI (a i)) → (∀ d, d < D → A 60 d = nI (q d)) → (∀ j, j < 9 → A 46 j = z j) → (∀ j, j < 9 → A 47 j = pf_mo F T g d j) → ∃ (A' : am_F) (g4' g5' : Value), am_e 26 41 [.ref 45, .ref p, .ref 58, .int (nI d), g4, g5] [] I A G = am_e 26 129 [.ref 45, .ref p, .ref 58, .int (nI D), g4', g5'] [] I A' G ∧ (∀ b, b ≠ 47 → A' b = A b) ∧ ∀ j, j < 9 → A' 47 j = pf_mo F T g D j := by
  have hH := hv.1
  have hD := hv.2.1
  intro s
  induction s with
  | zero =>
    intro d g4 g5 A hd hW h59 h60 h46 h47
    have : d = D := by omega
    subst this
    refine ⟨A, g4, g5, ?_, fun b _ => rfl, h47⟩
    refine (s_X4_passHour_41).trans ?_
    rcases hpp with rfl | rfl <;> simp only [s_X4_passHour_42, s_X4_passHour_43_at5, s_X4_passHour_43_at25, s_X4_passHour_46, hI, Int32.le_refl, if_true]
  | succ s ih =>
    intro d g4 g5 A hd hW h59 h60 h46 h47
    have hdl : d < D := by omega
    obtain ⟨b1, b2, b3, b4⟩ := hv.2.2.2 d hdl
    obtain ⟨fA, tA⟩ := hW d hdl
    have qA := h60 d hdl
    have cd := nI_clamp (show d < 2 ^ 31 by omega)
    have xd := am_ixF (show d < 10 by omega) (show 10 < 2 ^ 31 by omega)
    have hn : (nI D ≤ nI d) = False := eq_false (by rw [nI_leI (by omega) (by omega)]; omega)
    have f8 : (nI (F d) = 8) = (F d = 8) := propext (nI_eq (a := F d) (b := 8) (by omega) (by omega))
    have em : ∀ j, pf_mo F T g (d + 1) j = pf_mo F T g d j - (if F d ≠ 8 ∧ F d = j then g d else 0) + (if F d ≠ 8 ∧ T d = j then g d else 0) := fun j => rfl
    by_cases hF : F d = 8
    · have f8 := f8.trans (eq_true hF)
      obtain ⟨A', g4', g5', f1, f2, f3⟩ := ih (d + 1) (.int (nI (F d))) g5 A (by omega) hW h59 h60 h46 (fun j hj => by
        rw [h47 j hj, em, if_neg (fun q => q.1 hF), if_neg (fun q => q.1 hF), Int32.sub_zero, Int32.add_zero])
      refine ⟨A', g4', g5', ?_, f2, f3⟩
      rw [← f1]
      refine (s_X4_passHour_41).trans ?_
      rcases hpp with rfl | rfl <;> rcases hx with rfl | rfl | rfl | rfl <;>
      (simp only [Nat.reduceAdd] at fA tA
       simp only [s_X4_passHour_42, s_X4_passHour_43_at5, s_X4_passHour_43_at25, s_X4_passHour_46, s_X4_passHour_49, s_X4_passHour_50, s_X4_passHour_53_at13, s_X4_passHour_53_at19, s_X4_passHour_53_at33, s_X4_passHour_53_at39, s_X4_passHour_56, s_X4_passHour_57, s_X4_passHour_58, s_X4_passHour_60, s_X4_passHour_62, s_X4_passHour_64, s_X4_passHour_67, s_X4_passHour_68_at45, s_X4_passHour_68_at48, s_X4_passHour_68_at51, s_X4_passHour_71, s_X4_passHour_73, s_X4_passHour_74, s_X4_passHour_75, s_X4_passHour_78, s_X4_passHour_79, s_X4_passHour_80, s_X4_passHour_81, s_X4_passHour_84, s_X4_passHour_86, s_X4_passHour_87, s_X4_passHour_90, s_X4_passHour_92, s_X4_passHour_93_at45, s_X4_passHour_93_at48, s_X4_passHour_93_at51, s_X4_passHour_96, s_X4_passHour_98, s_X4_passHour_99, s_X4_passHour_100, s_X4_passHour_102, s_X4_passHour_103, s_X4_passHour_104, s_X4_passHour_105_at45, s_X4_passHour_105_at48, s_X4_passHour_105_at51, s_X4_passHour_108, s_X4_passHour_109, s_X4_passHour_112_at13, s_X4_passHour_112_at19, s_X4_passHour_112_at33, s_X4_passHour_112_at39, s_X4_passHour_115, s_X4_passHour_116, s_X4_passHour_117, s_X4_passHour_118, s_X4_passHour_119, s_X4_passHour_121, s_X4_passHour_122, s_X4_passHour_123, s_X4_passHour_126, hI, hn, if_false, hG, am_len_14, am_len_20, am_len_34, am_len_40, cd, xd, fA, f8, if_true, am_add1])
    · have f8 := f8.trans (eq_false hF)
      have hFH := b1.resolve_right hF
      have aA := h59 (F d) hFH
      have zA := h46 (F d) (by omega)
      have cF := nI_clamp (show F d < 2 ^ 31 by omega)
      have xF := am_ixF (show F d < 9 by omega) (show 9 < 2 ^ 31 by omega)
      have cT := nI_clamp (show T d < 2 ^ 31 by omega)
      have xT := am_ixF (show T d < 9 by omega) (show 9 < 2 ^ 31 by omega)
      have hcb := @e_X4_carriedBy (z (F d)) (q d) (a (F d)) I A G (ha _ hFH)
      rw [← hg d hdl] at hcb
      have hTF := fl_T_F hv hdl
      have u47 : am_u A 47 (F d) (A 47 (F d) - g d) 47 (T d) = A 47 (T d) := by rw [am_u_at, if_neg (fun q => hTF q.2)]
      have ux : am_u A 47 (F d) (A 47 (F d) - g d) (x + 2) = A (x + 2) := am_u_ne (by omega)
      generalize hA1 : am_u (am_u A 47 (F d) (A 47 (F d) - g d)) 47 (T d) (A 47 (T d) + g d) = A1
      have fr : ∀ b, b ≠ 47 → A1 b = A b := fun b hb => by rw [← hA1, am_u_ne hb, am_u_ne hb]
      obtain ⟨A', g4', g5', f1, f2, f3⟩ := ih (d + 1) (.int (nI (F d))) (.int (g d)) A1 (by omega) (fun e he => by rw [fr _ (by omega), fr _ (by omega)]; exact hW e he) (fun i hi => by rw [fr _ (by omega)]; exact h59 i hi) (fun e he => by rw [fr _ (by omega)]; exact h60 e he) (fun j hj => by rw [fr _ (by omega)]; exact h46 j hj) (fun j hj => by
        rw [← hA1, am_u_at, em, ← h47 j hj]
        by_cases hjT : j = T d
        · rw [if_pos ⟨rfl, hjT⟩, if_neg (fun q => hTF (by omega)), if_pos ⟨hF, hjT.symm⟩, Int32.sub_zero, hjT]
        · rw [if_neg (fun q => hjT q.2), if_neg (show ¬ (F d ≠ 8 ∧ T d = j) from fun q => hjT q.2.symm), Int32.add_zero, am_u_at]
          by_cases hjF : j = F d
          · rw [if_pos ⟨rfl, hjF⟩, if_pos ⟨hF, hjF.symm⟩, hjF]
          · rw [if_neg (fun q => hjF q.2), if_neg (fun q => hjF q.2.symm), Int32.sub_zero])
      refine ⟨A', g4', g5', ?_, fun b hb => by rw [f2 b hb, fr b hb], f3⟩
      rw [← f1]
      refine (s_X4_passHour_41).trans ?_
      rcases hpp with rfl | rfl <;> rcases hx with rfl | rfl | rfl | rfl <;>
      (simp only [Nat.reduceAdd] at fA tA ux
       simp only [s_X4_passHour_42, s_X4_passHour_43_at5, s_X4_passHour_43_at25, s_X4_passHour_46, s_X4_passHour_49, s_X4_passHour_50, s_X4_passHour_53_at13, s_X4_passHour_53_at19, s_X4_passHour_53_at33, s_X4_passHour_53_at39, s_X4_passHour_56, s_X4_passHour_57, s_X4_passHour_58, s_X4_passHour_60, s_X4_passHour_62, s_X4_passHour_64, s_X4_passHour_67, s_X4_passHour_68_at45, s_X4_passHour_68_at48, s_X4_passHour_68_at51, s_X4_passHour_71, s_X4_passHour_73, s_X4_passHour_74, s_X4_passHour_75, s_X4_passHour_78, s_X4_passHour_79, s_X4_passHour_80, s_X4_passHour_81, s_X4_passHour_84, s_X4_passHour_86, s_X4_passHour_87, s_X4_passHour_90, s_X4_passHour_92, s_X4_passHour_93_at45, s_X4_passHour_93_at48, s_X4_passHour_93_at51, s_X4_passHour_96, s_X4_passHour_98, s_X4_passHour_99, s_X4_passHour_100, s_X4_passHour_102, s_X4_passHour_103, s_X4_passHour_104, s_X4_passHour_105_at45, s_X4_passHour_105_at48, s_X4_passHour_105_at51, s_X4_passHour_108, s_X4_passHour_109, s_X4_passHour_112_at13, s_X4_passHour_112_at19, s_X4_passHour_112_at33, s_X4_passHour_112_at39, s_X4_passHour_115, s_X4_passHour_116, s_X4_passHour_117, s_X4_passHour_118, s_X4_passHour_119, s_X4_passHour_121, s_X4_passHour_122, s_X4_passHour_123, s_X4_passHour_126, hI, hn, if_false, hG, am_len_14, am_len_20, am_len_34, am_len_40, am_len_15, am_len_21, am_len_35, am_len_41, am_len_46, am_len_47, am_len_59, am_len_60, cd, xd, fA, f8, cF, xF, zA, qA, aA, hcb, am_k_some, am_push_i, ux, tA, cT, xT, u47, hA1, am_add1])
theorem X4_ph3 {z m : Nat → Int32} {l1 l4 l5 : Value} {I : am_F} {G : am_G} : ∀ (s k : Nat) (A : am_F), k + s = 9 → (∀ j, j < 9 → A 47 j = m j) → (∀ j, j < 9 → A 46 j = if j < k then z j + m j else z j) → ∃ A' : am_F, am_e 26 131 [.ref 45, l1, .ref 58, .int (nI k), l4, l5] [] I A G = some (.null, am_u I 45 2 (I 45 2 + 1), A', G) ∧ (∀ b, b ≠ 46 → A' b = A b) ∧ ∀ j, j < 9 → A' 46 j = z j + m j := by
  intro s
  induction s with
  | zero =>
    intro k A hk h47 h46
    have : k = 9 := by omega
    subst this
    refine ⟨A, ?_, fun b _ => rfl, fun j hj => by rw [h46 j hj, if_pos hj]⟩
    refine (s_X4_passHour_131).trans ?_
    simp only [s_X4_passHour_132, s_X4_passHour_134, s_X4_passHour_158, s_X4_passHour_159, s_X4_passHour_160_at45, s_X4_passHour_160_at48, s_X4_passHour_160_at51, s_X4_passHour_163, s_X4_passHour_164, s_X4_passHour_165_at45, s_X4_passHour_165_at48, s_X4_passHour_165_at51, s_X4_passHour_168, show ((9 : Int32) ≤ nI 9) = True from eq_true (by decide), if_true]
  | succ s ih =>
    intro k A hk h47 h46
    have zA := h46 k (by omega)
    rw [if_neg (by omega)] at zA
    have mA := h47 k (by omega)
    have ck := nI_clamp (show k < 2 ^ 31 by omega)
    have x9 := am_ixF (show k < 9 by omega) (show 9 < 2 ^ 31 by omega)
    have hn : ((9 : Int32) ≤ nI k) = False := eq_false (by rw [show (9 : Int32) = nI 9 from rfl, nI_leI (by omega) (by omega)]; omega)
    obtain ⟨A', f1, f2, f3⟩ := ih (k + 1) (am_u A 46 k (z k + m k)) (by omega) (fun j hj => by rw [am_u_ne (by omega)]; exact h47 j hj) (fun j hj => by
      rw [am_u_at]
      by_cases hji : j = k
      · rw [if_pos ⟨rfl, hji⟩, hji, if_pos (by omega)]
      · rw [if_neg (fun q => hji q.2), h46 j hj]
        by_cases q : j < k
        · rw [if_pos q, if_pos (by omega)]
        · rw [if_neg q, if_neg (by omega)])
    refine ⟨A', ?_, fun b hb => by rw [f2 b hb, am_u_ne hb], f3⟩
    rw [← f1]
    refine (s_X4_passHour_131).trans ?_
    simp only [s_X4_passHour_132, s_X4_passHour_134, s_X4_passHour_137, s_X4_passHour_138_at45, s_X4_passHour_138_at48, s_X4_passHour_138_at51, s_X4_passHour_141, s_X4_passHour_142, s_X4_passHour_143, s_X4_passHour_144, s_X4_passHour_145_at45, s_X4_passHour_145_at48, s_X4_passHour_145_at51, s_X4_passHour_148, s_X4_passHour_149, s_X4_passHour_150, s_X4_passHour_151, s_X4_passHour_152, s_X4_passHour_155, hn, if_false, am_len_46, am_len_47, ck, x9, zA, mA, am_add1]
/-- what the class's hours leave as it is -/
def fr_h (I A : am_F) (G : am_G) (I' A' : am_F) (G' : am_G) : Prop := (∀ a j, ¬ (a = 45 ∧ j = 2) → I' a j = I a j) ∧ (∀ b, ¬ (b = 46 ∨ b = 47 ∨ (59 ≤ b ∧ b ≤ 62)) → A' b = A b) ∧ ∀ a j, ¬ (a = 58 ∧ j = 4) → G' a j = G a j
theorem fr_h.rf (I A : am_F) (G : am_G) : fr_h I A G I A G := ⟨fun _ _ _ => rfl, fun _ _ => rfl, fun _ _ _ => rfl⟩
theorem fr_h.tr {I A I' A' I'' A'' : am_F} {G G' G'' : am_G} (h1 : fr_h I A G I' A' G') (h2 : fr_h I' A' G' I'' A'' G'') : fr_h I A G I'' A'' G'' := ⟨fun a j h => by rw [h2.1 a j h, h1.1 a j h], fun b hb => by rw [h2.2.1 b hb, h1.2.1 b hb], fun a j h => by rw [h2.2.2 a j h, h1.2.2 a j h]⟩
theorem fr_c.h {I A A' : am_F} {G G' : am_G} (h : fr_c A A' G G') : fr_h I A G I A' G' := ⟨fun _ _ _ => rfl, fun b hb => h.1 b (by omega), h.2⟩
theorem ck.fh {P : sg_P} {s s' : sg_S} {p p' : Nat} {I A I' A' : am_F} {G G' : am_G} (h : ck P s p p' I A G) (hf : fr_h I A G I' A' G') (hs : cr_s 45 s' I' A') : ck P s' p p' I' A' G' := by
  obtain ⟨h1, h2, h3, h4⟩ := h
  obtain ⟨k1, k2, k3⟩ := h1.pp
  exact ⟨⟨by rw [hf.2.2 0 3 (by omega)]; exact h1.1, by rw [hf.2.2 0 4 (by omega)]; exact h1.2.1, h1.2.2⟩, h2.fr (fun j => hf.1 p j (by omega)) (fun a q1 q2 => hf.2.1 a (by omega)), h3.fr (fun a j q1 q2 => hf.1 a j (by omega)) (fun b q1 q2 => hf.2.1 b (by omega)), hs⟩
theorem e_X4_passHour {p p' : Nat} {P : sg_P} {s : sg_S} {I A : am_F} {G : am_G} (hv : vp_p P) (hc : ck P s p p' I A G) (hcb : cb_ok P s.1 s.2.1 (pf_wy P (nI s.2.2.1)) p A G) : ∃ I' A' : am_F, am_e 26 0 [.ref 45, .ref p, .ref 58, .null, .null, .null] [] I A G = some (.null, I', A', G) ∧ fr_h I A G I' A' G ∧ (∀ b, b ≠ 46 → b ≠ 47 → A' b = A b) ∧ cr_s 45 (pf_hs P s) I' A' := by
  obtain ⟨h1, h2, h3, h4⟩ := hc
  have hpp := h1.pp.1
  have hH := hv.1.2
  obtain ⟨c1, c2, c3⟩ := hcb
  obtain ⟨s1, s2, s3, s4⟩ := h4
  generalize hw : pf_wy P (nI s.2.2.1) = w at *
  have hw012 : w = 0 ∨ w = 1 ∨ w = 2 := by rw [← hw]; exact pf_way_w _ _
  obtain ⟨pl, w1, w2, w3, -⟩ := cb_wd (w := w) h3
  obtain ⟨A1, a1, a2, a3⟩ := X4_ph1 (z := s.2.2.2) (I := I) (G := G) hpp hv (P 7 0) 0 A (by omega) h2.1 (fun j hj => by rw [if_neg (by omega)]; exact s4 j hj)
  obtain ⟨A2, b1, b2, b3⟩ := e_J7_fill9 (a := 47) (v := 0) (I := I) (A := A1) (G := G) (by omega)
  have fr2 : ∀ b, b ≠ 46 → b ≠ 47 → A2 b = A b := fun b q1 q2 => by rw [b2 b q2, a2 b q1]
  have hxc := cb_xc (w := w) hpp
  obtain ⟨A3, g4, g5, d1, d2, d3⟩ := X4_ph2 (z := pf_s1 P s.2.2.2) (g := pf_gd P (decide (w ≠ 2)) s.1 s.2.1 w s.2.2.2) (q := pf_q P s.1 s.2.1 w) (a := pf_a P s.1 s.2.1 w) (I := I) (G := G) hpp hxc c1 (pf_flv (decide (w ≠ 2)) hv) (fun i hi => pf_a_le hv _ _ _ hi) (fun d _ => rfl) h2.1.2.1 (P 7 1) 0 .null .null A2 (by omega) (fun d hd => by rw [fr2 _ (by omega) (by omega), fr2 _ (by omega) (by omega)]; exact w3 d hd) (fun i hi => by rw [fr2 _ (by omega) (by omega)]; exact c2 i hi) (fun d hd => by rw [fr2 _ (by omega) (by omega)]; exact c3 d hd) (fun j hj => by rw [b2 46 (by omega)]; exact a3 j hj) (fun j hj => by rw [b3 j hj]; rfl)
  obtain ⟨A4, k1, k2, k3⟩ := X4_ph3 (z := pf_s1 P s.2.2.2) (m := pf_mo (pf_fr P (decide (w ≠ 2))) (pf_to P (decide (w ≠ 2))) (pf_gd P (decide (w ≠ 2)) s.1 s.2.1 w s.2.2.2) (P 7 1)) (l1 := .ref p) (l4 := g4) (l5 := g5) (I := I) (G := G) 9 0 A3 (by omega) d3 (fun j hj => by rw [if_neg (by omega), d2 46 (by omega), b2 46 (by omega)]; exact a3 j hj)
  have fr4 : ∀ b, b ≠ 46 → b ≠ 47 → A4 b = A b := fun b q1 q2 => by rw [k2 b q1, d2 b q2, fr2 b q1 q2]
  refine ⟨am_u I 45 2 (I 45 2 + 1), A4, ?_, ⟨fun a j h => by rw [am_u_at, if_neg h], fun b hb => fr4 b (by omega) (by omega), fun _ _ _ => rfl⟩, fr4, by rw [am_u_at, if_neg (by omega)]; exact s1, by rw [am_u_at, if_neg (by omega)]; exact s2, by rw [am_u_eq, s3, am_add1]; rfl, fun i hi => ?_⟩
  · have e0 : am_e 26 0 [.ref 45, .ref p, .ref 58, .null, .null, .null] [] I A G = am_e 26 2 [.ref 45, .ref p, .ref 58, .int (nI 0), .null, .null] [] I A G := by
      simp only [s_X4_passHour_0, s_X4_passHour_1]; rfl
    have e1 : am_e 26 31 [.ref 45, .ref p, .ref 58, .int (nI (P 7 0)), .null, .null] [] I A1 G = am_e 26 41 [.ref 45, .ref p, .ref 58, .int (nI 0), .null, .null] [] I A2 G := by
      simp only [s_X4_passHour_31, s_X4_passHour_32_at45, s_X4_passHour_32_at48, s_X4_passHour_32_at51, s_X4_passHour_35, s_X4_passHour_36, s_X4_passHour_39, s_X4_passHour_40, b1, am_k_some, am_push_n]; rfl
    have e2 : am_e 26 129 [.ref 45, .ref p, .ref 58, .int (nI (P 7 1)), g4, g5] [] I A3 G = am_e 26 131 [.ref 45, .ref p, .ref 58, .int (nI 0), g4, g5] [] I A3 G := by
      simp only [s_X4_passHour_129, s_X4_passHour_130]; rfl
    rw [e0, a1, e1, d1, e2, k1]
  · rw [k3 i hi, pf_mo_u hv (pf_uc hw012)]
    unfold pf_hs
    rw [hw]
