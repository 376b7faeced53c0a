/-! ===== smelled, write ===== -/
abbrev pf_sm (P : sg_P) (h i : Int32) : Prop := (0 ≤ h ∧ h ≤ 23) ∧ (0 ≤ i ∧ i ≤ nI (P 7 0) - 1)
theorem e_X7_smelled {I A : am_F} {G : am_G} {P : sg_P} {m : Nat} {z} {h i b : Int32} (hm : m ≤ 10) (hv : vp_p P) (hp : mr_p P I A) (hn : mr_n m z I A) : (¬ pf_sm P h i → am_e 121 0 [.ref 69, .int h, .int i, .int b] [] I A G = some (.int (-1), I, A, G)) ∧ (pf_sm P h i → m = 10 → am_e 121 0 [.ref 69, .int h, .int i, .int b] [] I A G = some (.int (-3), I, A, G)) ∧ (pf_sm P h i → m < 10 → ∃ A', am_e 121 0 [.ref 69, .int h, .int i, .int b] [] I A G = some (.int (nI (m + 1)), am_u I 69 21 (nI (m + 1)), A', G) ∧ (∀ a, a ≠ 79 → A' a = A a) ∧ mr_n (m + 1) (fun e => if e = m then (h.toNatClampNeg, i.toNatClampNeg, if b = 0 then 0 else 1) else z e) (am_u I 69 21 (nI (m + 1))) A') := by
  have hH := hv.1.2
  obtain ⟨g1, g2⟩ := hn
  have e0 : am_e 121 0 [.ref 69, .int h, .int i, .int b] [] I A G = if ¬ pf_sm P h i then some (.int (-1), I, A, G) else am_e 121 20 [.ref 69, .int h, .int i, .int b] [] I A G := by
    simp only [s_X7_smelled_0, s_X7_smelled_1, s_X7_smelled_2, s_X7_smelled_4, s_X7_smelled_7, s_X7_smelled_10, s_X7_smelled_11, s_X7_smelled_12, s_X7_smelled_15, s_X7_smelled_18, s_X7_smelled_19, e_X7_in, e_X7_isHall, am_k_some, am_push_i, am_bi_0, decide_eq_false_iff_not, hp.1]
    skip
    by_cases h1 : 0 ≤ h ∧ h ≤ 23
    · by_cases h2 : 0 ≤ i ∧ i ≤ nI (P 7 0) - 1
      · rw [if_neg (not_not_intro h1), if_neg (not_not_intro h2), if_neg (not_not_intro ⟨h1, h2⟩)]
      · rw [if_neg (not_not_intro h1), if_pos h2, if_pos (fun q => h2 q.2)]
    · rw [if_pos h1, if_pos (fun q => h1 q.1)]
  refine ⟨fun hq => by rw [e0, if_pos hq], fun hq hm10 => ?_, fun hq hm10 => ?_⟩
  · subst hm10
    have g1 : I 69 21 = 10 := g1
    rw [e0, if_neg (not_not_intro hq)]
    simp [s_X7_smelled_20, s_X7_smelled_21, s_X7_smelled_24, s_X7_smelled_26, s_X7_smelled_29, s_X7_smelled_31, g1]
  · obtain ⟨h0, hh0, rfl⟩ := (am_rngK 23 rfl (by omega)).mp hq.1
    obtain ⟨i0, hi0, rfl⟩ := (am_rngM (by omega)).mp hq.2
    have c0 := nI_clamp (show 3 * m < 2 ^ 31 by omega)
    have c1 := nI_clamp (show 3 * m + 1 < 2 ^ 31 by omega)
    have c2 := nI_clamp (show 3 * m + 2 < 2 ^ 31 by omega)
    have x0 := am_ixF (show 3 * m < 30 by omega) (by omega)
    have x1 := am_ixF (show 3 * m + 1 < 30 by omega) (by omega)
    have x2 := am_ixF (show 3 * m + 2 < 30 by omega) (by omega)
    have hne : (nI m = 10) = False := eq_false (by rw [show (10 : Int32) = nI 10 from rfl, nI_eq (by omega) (by omega)]; omega)
    refine ⟨am_u (am_u (am_u A 79 (3 * m) (nI h0)) 79 (3 * m + 1) (nI i0)) 79 (3 * m + 2) (if b = 0 then 0 else 1), ?_, fun a ha => ?_, by rw [am_u_eq], fun e he => ?_⟩
    · rw [e0, if_neg (not_not_intro hq)]
      by_cases hb : b = 0
      · simp only [s_X7_smelled_20, s_X7_smelled_21, s_X7_smelled_24, s_X7_smelled_26, s_X7_smelled_29, s_X7_smelled_31, s_X7_smelled_32, s_X7_smelled_33, s_X7_smelled_36, s_X7_smelled_37, s_X7_smelled_38, s_X7_smelled_41, s_X7_smelled_42, s_X7_smelled_43, s_X7_smelled_44, s_X7_smelled_45, s_X7_smelled_48, s_X7_smelled_49, s_X7_smelled_50, s_X7_smelled_53, s_X7_smelled_54, s_X7_smelled_55, s_X7_smelled_56, s_X7_smelled_57, s_X7_smelled_58, s_X7_smelled_59, s_X7_smelled_62, s_X7_smelled_63, s_X7_smelled_64, s_X7_smelled_67, s_X7_smelled_68, s_X7_smelled_69, s_X7_smelled_70, s_X7_smelled_71, s_X7_smelled_74, s_X7_smelled_75, s_X7_smelled_78, s_X7_smelled_79, s_X7_smelled_80, s_X7_smelled_81, s_X7_smelled_82, s_X7_smelled_85, s_X7_smelled_86, s_X7_smelled_87, s_X7_smelled_90, s_X7_smelled_91, s_X7_smelled_94, am_len_79, g1, hne, if_false, am_mul3, am_add1, am_add2, c0, c1, c2, x0, x1, x2, hb, if_true, am_u_eq]
      · simp only [s_X7_smelled_20, s_X7_smelled_21, s_X7_smelled_24, s_X7_smelled_26, s_X7_smelled_29, s_X7_smelled_31, s_X7_smelled_32, s_X7_smelled_33, s_X7_smelled_36, s_X7_smelled_37, s_X7_smelled_38, s_X7_smelled_41, s_X7_smelled_42, s_X7_smelled_43, s_X7_smelled_44, s_X7_smelled_45, s_X7_smelled_48, s_X7_smelled_49, s_X7_smelled_50, s_X7_smelled_53, s_X7_smelled_54, s_X7_smelled_55, s_X7_smelled_56, s_X7_smelled_57, s_X7_smelled_58, s_X7_smelled_59, s_X7_smelled_62, s_X7_smelled_63, s_X7_smelled_64, s_X7_smelled_67, s_X7_smelled_68, s_X7_smelled_69, s_X7_smelled_70, s_X7_smelled_71, s_X7_smelled_74, s_X7_smelled_75, s_X7_smelled_78, s_X7_smelled_79, s_X7_smelled_80, s_X7_smelled_81, s_X7_smelled_82, s_X7_smelled_85, s_X7_smelled_86, s_X7_smelled_87, s_X7_smelled_90, s_X7_smelled_91, s_X7_smelled_94, am_len_79, g1, hne, if_false, am_mul3, am_add1, am_add2, c0, c1, c2, x0, x1, x2, hb, am_u_eq]
    · funext j; simp [am_u_at, ha]
    · by_cases hem : e = m
      · subst hem
        simp [am_u_at, nI_clamp (show h0 < 2 ^ 31 by omega), nI_clamp (show i0 < 2 ^ 31 by omega)]
        split <;> rfl
      · obtain ⟨f1, f2, f3⟩ := g2 e (by omega)
        simp only [am_u_at, if_neg hem, true_and]
        rw [if_neg (by omega), if_neg (by omega), if_neg (by omega), if_neg (by omega), if_neg (by omega), if_neg (by omega), if_neg (by omega), if_neg (by omega), if_neg (by omega)]
        exact ⟨f1, f2, f3⟩
theorem e_X6_smelled {p p' : Nat} {I A : am_F} {G : am_G} {P : sg_P} {m : Nat} {z} {h i b : Int32} (hm : m ≤ 10) (hv : vp_p P) (hG : cr_g p p' G) (hp : cr_p p P I A) (hn : cr_n m z I A) : (¬ pf_sm P h i → am_e 51 0 [.ref 0, .int h, .int i, .int b] [] I A G = some (.int (-1), I, A, G)) ∧ (pf_sm P h i → m = 10 → am_e 51 0 [.ref 0, .int h, .int i, .int b] [] I A G = some (.int (-3), I, A, G)) ∧ (pf_sm P h i → m < 10 → ∃ A', am_e 51 0 [.ref 0, .int h, .int i, .int b] [] I A G = some (.int (nI (m + 1)), am_u I 54 3 (nI (m + 1)), A', G) ∧ (∀ a, a ≠ 55 → a ≠ 56 → a ≠ 57 → A' a = A a) ∧ cr_n (m + 1) (fun e => if e = m then (h.toNatClampNeg, i.toNatClampNeg, if b = 0 then 0 else 1) else z e) (am_u I 54 3 (nI (m + 1))) A') := by
  have hH := hv.1.2
  have hpp : p = 5 ∨ p = 25 := hG.2.2.elim (fun h => Or.inl h.1) (fun h => Or.inr h.1)
  obtain ⟨g1, g2⟩ := hn
  have e0 : am_e 51 0 [.ref 0, .int h, .int i, .int b] [] I A G = if ¬ pf_sm P h i then some (.int (-1), I, A, G) else am_e 51 20 [.ref 0, .int h, .int i, .int b] [] I A G := by
    simp only [s_X6_smelled_0, s_X6_smelled_1, s_X6_smelled_4, s_X6_smelled_5, s_X6_smelled_7, s_X6_smelled_10, s_X6_smelled_11, s_X6_smelled_12, s_X6_smelled_15, s_X6_smelled_18, s_X6_smelled_19, e_X6_isHall hpp hG.1, am_k_some, am_push_i, am_bi_0, decide_eq_false_iff_not, hp.1, am_decC (show P 7 0 < 2 ^ 31 by omega)]
    skip
    by_cases h1 : h < 0
    · rw [if_pos h1, if_pos (fun q => absurd q.1.1 (Int32.not_le.mpr h1))]
    · rw [if_neg h1]
      by_cases h3 : 24 ≤ h
      · rw [if_pos h3, if_pos (fun q => absurd (Int32.le_trans h3 q.1.2) (by decide))]
      · have h4 : 0 ≤ h ∧ h ≤ 23 := by
          refine ⟨Int32.not_lt.mp h1, ?_⟩
          obtain ⟨j, hj, rfl⟩ := nI_of h1
          rw [show (24 : Int32) = nI 24 from rfl, nI_leI (by omega) hj] at h3
          rw [show (23 : Int32) = nI 23 from rfl, nI_leI hj (by omega)]
          omega
        rw [if_neg h3]
        by_cases h2 : 0 ≤ i ∧ i ≤ nI (P 7 0) - 1
        · rw [if_neg (not_not_intro h2), if_neg (not_not_intro ⟨h4, h2⟩)]
        · rw [if_pos h2, if_pos (fun q => h2 q.2)]
  refine ⟨fun hq => by rw [e0, if_pos hq], fun hq hm10 => ?_, fun hq hm10 => ?_⟩
  · subst hm10
    have g1 : I 54 3 = 10 := g1
    rw [e0, if_neg (not_not_intro hq)]
    simp [s_X6_smelled_20, s_X6_smelled_21, s_X6_smelled_24, s_X6_smelled_27, s_X6_smelled_29, s_X6_smelled_32, s_X6_smelled_34, g1]
  · obtain ⟨h0, hh0, rfl⟩ := (am_rngK 23 rfl (by omega)).mp hq.1
    obtain ⟨i0, hi0, rfl⟩ := (am_rngM (by omega)).mp hq.2
    have c0 := nI_clamp (show m < 2 ^ 31 by omega)
    have x0 := am_ixF hm10 (by omega)
    have hlt : (nI m < 10) = True := eq_true (by rw [show (10 : Int32) = nI 10 from rfl, nI_ltI (by omega) (by omega)]; exact hm10)
    have hge : ((10 : Int32) ≤ nI m) = False := eq_false (by rw [show (10 : Int32) = nI 10 from rfl, nI_leI (by omega) (by omega)]; omega)
    refine ⟨am_u (am_u (am_u A 55 m (nI h0)) 56 m (nI i0)) 57 m (if b = 0 then 0 else 1), ?_, fun a h1 h2 h3 => ?_, by rw [am_u_eq], fun e he => ?_⟩
    · rw [e0, if_neg (not_not_intro hq)]
      by_cases hb : b = 0
      · simp only [s_X6_smelled_20, s_X6_smelled_21, s_X6_smelled_24, s_X6_smelled_27, s_X6_smelled_29, s_X6_smelled_32, s_X6_smelled_34, s_X6_smelled_35, s_X6_smelled_36, s_X6_smelled_39, s_X6_smelled_40, s_X6_smelled_41, s_X6_smelled_42, s_X6_smelled_45, s_X6_smelled_46, s_X6_smelled_49, s_X6_smelled_52, s_X1_hear_0, s_X1_hear_1, s_X1_hear_4, s_X1_hear_6, s_X1_hear_9, s_X1_hear_10, s_X1_hear_13, s_X1_hear_14, s_X1_hear_17, s_X1_hear_18, s_X1_hear_19, s_X1_hear_20, s_X1_hear_23, s_X1_hear_24, s_X1_hear_27, s_X1_hear_28, s_X1_hear_29, s_X1_hear_30, s_X1_hear_33, s_X1_hear_34, s_X1_hear_37, s_X1_hear_38, s_X1_hear_41, s_X1_hear_42, s_X1_hear_45, s_X1_hear_46, s_X1_hear_47, s_X1_hear_48, s_X1_hear_49, s_X1_hear_52, s_X1_hear_53, s_X1_hear_54, s_X1_hear_57, am_len_55, am_len_56, am_len_57, g1, hlt, hge, if_false, if_true, am_add1, c0, x0, hb, am_k_some, am_push_n, am_u_eq]
      · simp only [s_X6_smelled_20, s_X6_smelled_21, s_X6_smelled_24, s_X6_smelled_27, s_X6_smelled_29, s_X6_smelled_32, s_X6_smelled_34, s_X6_smelled_35, s_X6_smelled_36, s_X6_smelled_39, s_X6_smelled_40, s_X6_smelled_41, s_X6_smelled_42, s_X6_smelled_45, s_X6_smelled_46, s_X6_smelled_49, s_X6_smelled_52, s_X1_hear_0, s_X1_hear_1, s_X1_hear_4, s_X1_hear_6, s_X1_hear_9, s_X1_hear_10, s_X1_hear_13, s_X1_hear_14, s_X1_hear_17, s_X1_hear_18, s_X1_hear_19, s_X1_hear_20, s_X1_hear_23, s_X1_hear_24, s_X1_hear_27, s_X1_hear_28, s_X1_hear_29, s_X1_hear_30, s_X1_hear_33, s_X1_hear_34, s_X1_hear_37, s_X1_hear_38, s_X1_hear_41, s_X1_hear_42, s_X1_hear_45, s_X1_hear_46, s_X1_hear_47, s_X1_hear_48, s_X1_hear_49, s_X1_hear_52, s_X1_hear_53, s_X1_hear_54, s_X1_hear_57, am_len_55, am_len_56, am_len_57, g1, hlt, hge, if_false, if_true, am_add1, c0, x0, hb, am_k_some, am_push_n, am_u_eq]
    · funext j; simp [am_u_at, h1, h2, h3]
    · by_cases hem : e = m
      · subst hem
        simp [am_u_at, nI_clamp (show h0 < 2 ^ 31 by omega), nI_clamp (show i0 < 2 ^ 31 by omega)]
        split <;> rfl
      · obtain ⟨f1, f2, f3⟩ := g2 e (by omega)
        simp [am_u_at, hem, f1, f2, f3]
