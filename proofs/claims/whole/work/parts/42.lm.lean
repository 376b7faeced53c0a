/-! ===== the model: lay ===== -/
theorem X7_lay_a {I : am_F} {G : am_G} : ∀ (r k : Nat) (A : am_F), k + r = 24 → ∃ A' : am_F, am_e 92 37 [.ref 69, .int (nI k)] [] I A G = am_e 92 61 [.ref 69, .int (nI 24)] [] I A' G ∧ (∀ b, b ≠ 74 → A' b = A b) ∧ ∀ j, A' 74 j = if k ≤ j ∧ j < 24 then A 71 j else A 74 j
  | 0, k, A, h => by
    refine ⟨A, ?_, fun b _ => rfl, fun j => by rw [if_neg (by omega)]⟩
    have : k = 24 := by omega
    subst this
    refine (s_X7_lay_37).trans ?_
    simp only [s_X7_lay_38, s_X7_lay_40]
    rw [if_pos (by decide)]
  | r + 1, k, A, h => by
    obtain ⟨A', e1, e2, e3⟩ := X7_lay_a (I := I) (G := G) r (k + 1) (am_u A 74 k (A 71 k)) (by omega)
    refine ⟨A', ?_, fun b hb => by rw [e2 b hb, am_u_ne hb], fun j => ?_⟩
    · rw [← e1]
      refine (s_X7_lay_37).trans ?_
      have hn : ((24 : Int32) ≤ nI k) = False := eq_false (by rw [show (24 : Int32) = nI 24 from rfl, nI_leI (by omega) (by omega)]; omega)
      simp only [s_X7_lay_38, s_X7_lay_40, s_X7_lay_43, s_X7_lay_44, s_X7_lay_47, s_X7_lay_48, s_X7_lay_49, s_X7_lay_52, s_X7_lay_53, s_X7_lay_54, s_X7_lay_55, s_X7_lay_58, hn, if_false, am_len_74, am_len_71, nI_clamp (show k < 2 ^ 31 by omega), am_ixF (show k < 24 by omega) (by omega), am_ixF (show k < 24 by omega) (by omega), am_add1]
    · rw [e3, show am_u A 74 k (A 71 k) 71 = A 71 from am_u_ne (by decide), am_u_at]
      by_cases h1 : k + 1 ≤ j ∧ j < 24
      · rw [if_pos h1, if_pos (by omega)]
      · rw [if_neg h1]
        by_cases h2 : j = k
        · rw [if_pos ⟨rfl, h2⟩, if_pos (by omega), h2]
        · rw [if_neg (fun q => h2 q.2), if_neg (by omega)]
theorem X7_lay_b {I : am_F} {G : am_G} : ∀ (r k : Nat) (A : am_F), k + r = 40 → ∃ A' : am_F, am_e 92 63 [.ref 69, .int (nI k)] [] I A G = am_e 92 87 [.ref 69, .int (nI 40)] [] I A' G ∧ (∀ b, b ≠ 75 → A' b = A b) ∧ ∀ j, A' 75 j = if k ≤ j ∧ j < 40 then A 72 j else A 75 j
  | 0, k, A, h => by
    refine ⟨A, ?_, fun b _ => rfl, fun j => by rw [if_neg (by omega)]⟩
    have : k = 40 := by omega
    subst this
    refine (s_X7_lay_63).trans ?_
    simp only [s_X7_lay_64, s_X7_lay_66]
    rw [if_pos (by decide)]
  | r + 1, k, A, h => by
    obtain ⟨A', e1, e2, e3⟩ := X7_lay_b (I := I) (G := G) r (k + 1) (am_u A 75 k (A 72 k)) (by omega)
    refine ⟨A', ?_, fun b hb => by rw [e2 b hb, am_u_ne hb], fun j => ?_⟩
    · rw [← e1]
      refine (s_X7_lay_63).trans ?_
      have hn : ((40 : Int32) ≤ nI k) = False := eq_false (by rw [show (40 : Int32) = nI 40 from rfl, nI_leI (by omega) (by omega)]; omega)
      simp only [s_X7_lay_64, s_X7_lay_66, s_X7_lay_69, s_X7_lay_70, s_X7_lay_73, s_X7_lay_74, s_X7_lay_75, s_X7_lay_78, s_X7_lay_79, s_X7_lay_80, s_X7_lay_81, s_X7_lay_84, hn, if_false, am_len_75, am_len_72, nI_clamp (show k < 2 ^ 31 by omega), am_ixF (show k < 44 by omega) (by omega), am_ixF (show k < 40 by omega) (by omega), am_add1]
    · rw [e3, show am_u A 75 k (A 72 k) 72 = A 72 from am_u_ne (by decide), am_u_at]
      by_cases h1 : k + 1 ≤ j ∧ j < 40
      · rw [if_pos h1, if_pos (by omega)]
      · rw [if_neg h1]
        by_cases h2 : j = k
        · rw [if_pos ⟨rfl, h2⟩, if_pos (by omega), h2]
        · rw [if_neg (fun q => h2 q.2), if_neg (by omega)]
theorem X7_lay_c {I : am_F} {G : am_G} : ∀ (r k : Nat) (A : am_F), k + r = 6 → ∃ A' : am_F, am_e 92 89 [.ref 69, .int (nI k)] [] I A G = am_e 92 113 [.ref 69, .int (nI 6)] [] I A' G ∧ (∀ b, b ≠ 76 → A' b = A b) ∧ ∀ j, A' 76 j = if k ≤ j ∧ j < 6 then A 73 j else A 76 j
  | 0, k, A, h => by
    refine ⟨A, ?_, fun b _ => rfl, fun j => by rw [if_neg (by omega)]⟩
    have : k = 6 := by omega
    subst this
    refine (s_X7_lay_89).trans ?_
    simp only [s_X7_lay_90, s_X7_lay_92]
    rw [if_pos (by decide)]
  | r + 1, k, A, h => by
    obtain ⟨A', e1, e2, e3⟩ := X7_lay_c (I := I) (G := G) r (k + 1) (am_u A 76 k (A 73 k)) (by omega)
    refine ⟨A', ?_, fun b hb => by rw [e2 b hb, am_u_ne hb], fun j => ?_⟩
    · rw [← e1]
      refine (s_X7_lay_89).trans ?_
      have hn : ((6 : Int32) ≤ nI k) = False := eq_false (by rw [show (6 : Int32) = nI 6 from rfl, nI_leI (by omega) (by omega)]; omega)
      simp only [s_X7_lay_90, s_X7_lay_92, s_X7_lay_95, s_X7_lay_96, s_X7_lay_99, s_X7_lay_100, s_X7_lay_101, s_X7_lay_104, s_X7_lay_105, s_X7_lay_106, s_X7_lay_107, s_X7_lay_110, hn, if_false, am_len_76, am_len_73, nI_clamp (show k < 2 ^ 31 by omega), am_ixF (show k < 6 by omega) (by omega), am_ixF (show k < 6 by omega) (by omega), am_add1]
    · rw [e3, show am_u A 76 k (A 73 k) 73 = A 73 from am_u_ne (by decide), am_u_at]
      by_cases h1 : k + 1 ≤ j ∧ j < 6
      · rw [if_pos h1, if_pos (by omega)]
      · rw [if_neg h1]
        by_cases h2 : j = k
        · rw [if_pos ⟨rfl, h2⟩, if_pos (by omega), h2]
        · rw [if_neg (fun q => h2 q.2), if_neg (by omega)]
theorem X7_lay_d {I : am_F} {G : am_G} : ∀ (r k : Nat) (A : am_F), k + r = 8 → ∃ A' : am_F, am_e 92 132 [.ref 69, .int (nI k)] [] I A G = am_e 92 151 [.ref 69, .int (nI 8)] [] I A' G ∧ (∀ b, b ≠ 77 → A' b = A b) ∧ ∀ j, A' 77 j = if k ≤ j ∧ j < 8 then 0 else A 77 j
  | 0, k, A, h => by
    refine ⟨A, ?_, fun b _ => rfl, fun j => by rw [if_neg (by omega)]⟩
    have : k = 8 := by omega
    subst this
    refine (s_X7_lay_132).trans ?_
    simp only [s_X7_lay_133, s_X7_lay_135]
    rw [if_pos (by decide)]
  | r + 1, k, A, h => by
    obtain ⟨A', e1, e2, e3⟩ := X7_lay_d (I := I) (G := G) r (k + 1) (am_u A 77 k (0)) (by omega)
    refine ⟨A', ?_, fun b hb => by rw [e2 b hb, am_u_ne hb], fun j => ?_⟩
    · rw [← e1]
      refine (s_X7_lay_132).trans ?_
      have hn : ((8 : Int32) ≤ nI k) = False := eq_false (by rw [show (8 : Int32) = nI 8 from rfl, nI_leI (by omega) (by omega)]; omega)
      simp only [s_X7_lay_133, s_X7_lay_135, s_X7_lay_138, s_X7_lay_139, s_X7_lay_142, s_X7_lay_143, s_X7_lay_144, s_X7_lay_145, s_X7_lay_148, hn, if_false, am_len_77,  nI_clamp (show k < 2 ^ 31 by omega), am_ixF (show k < 8 by omega) (by omega),  am_add1]
    · rw [e3, am_u_at]
      by_cases h1 : k + 1 ≤ j ∧ j < 8
      · rw [if_pos h1, if_pos (by omega)]
      · rw [if_neg h1]
        by_cases h2 : j = k
        · rw [if_pos ⟨rfl, h2⟩, if_pos (by omega)]
        · rw [if_neg (fun q => h2 q.2), if_neg (by omega)]
theorem e_X7_layN {n : Nat} {t : Nat → Nat} {I A : am_F} {G : am_G} (hn : n ≤ 400) (ht : mr_t n t I A) (htb : ∀ j, j < n → t j < 256) (hno : ¬ ((pf_rd n t).1 = none ∧ (pf_rd n t).2 7 0 ≠ 0)) : ∃ I' A', am_e 92 0 [.ref 69, .null] [] I A G = some (.int (-2), I', A', G) ∧ fr_m I A I' A' := by
  obtain ⟨I', A', f1, f2, f3⟩ := e_X7_readAll (G := G) hn ht htb
  refine ⟨I', A', ?_, f2⟩
  by_cases hft : (pf_rd n t).1 = none
  · have hH0 : (pf_rd n t).2 7 0 = 0 := Classical.byContradiction fun q => hno ⟨hft, q⟩
    have hz : I' 69 4 = 0 := by rw [(f3 hft).1, hH0]; rfl
    have hm4 : pf_ft n t = -4 := by rw [pf_ft_m4 hn]; exact hft
    rw [hm4] at f1
    simp only [s_X7_lay_0, s_X7_lay_1, s_X7_lay_4, s_X7_lay_6, s_X7_lay_9, s_X7_lay_10, s_X7_lay_13, s_X7_lay_16, s_X7_lay_18, f1, am_k_some, am_push_i, hz, if_true]
  · have hne := (pf_ft_m4 (t := t) hn).trans (eq_false hft)
    simp only [s_X7_lay_0, s_X7_lay_1, s_X7_lay_4, s_X7_lay_6, s_X7_lay_9, s_X7_lay_10, s_X7_lay_13, s_X7_lay_16, s_X7_lay_18, f1, am_k_some, am_push_i, hne, if_false]
