/-! ===== the model: the ways of doors and what they let ===== -/
/-- a place in the model's numbers -/
def mN (k : Nat) : Int32 := if k = 8 then -4 else nI k
theorem mN_8 : mN 8 = -4 := rfl
theorem mN_n {k : Nat} (h : k ≠ 8) : mN k = nI k := if_neg h
theorem mN_m4 {k : Nat} (h : k < 100) : (mN k = -4) = (k = 8) := by
  by_cases h8 : k = 8
  · rw [h8]; exact propext ⟨fun _ => rfl, fun _ => rfl⟩
  · rw [mN_n h8]
    refine propext ⟨fun q => ?_, fun q => absurd q h8⟩
    have h2 : 0 ≤ nI k := nI_pos' (by omega)
    rw [q] at h2
    exact absurd h2 (by decide)
theorem mN_eq {k i : Nat} (hk : k < 100) (hi : i < 8) : (mN k = nI i) = (k = i) := by
  by_cases h8 : k = 8
  · rw [h8]
    refine propext ⟨fun q => ?_, fun q => by omega⟩
    have h2 : 0 ≤ nI i := nI_pos' (by omega)
    rw [← q] at h2
    exact absurd h2 (by decide)
  · rw [mN_n h8]
    exact propext (nI_eq (by omega) (by omega))
/-- what the laying of air looks at -/
def ml_p (P : sg_P) (I A : am_F) : Prop := I 69 9 = nI (P 7 0) ∧ I 69 24 = nI (P 7 1) ∧ (∀ i, i < P 7 0 → A 74 (3 * i) = nI (P 0 i)) ∧ (∀ d, d < P 7 1 → A 75 (4 * d) = nI (P 3 d) ∧ A 75 (4 * d + 1) = mN (P 4 d) ∧ A 75 (4 * d + 2) = nI (P 5 d) ∧ A 75 (4 * d + 3) = nI (P 6 d)) ∧ A 76 0 = nI (P 7 2)
theorem ml_p.fr {P : sg_P} {I A I' A' : am_F} (h : ml_p P I A) (hI : I' 69 9 = I 69 9 ∧ I' 69 24 = I 69 24) (h4 : A' 74 = A 74) (h5 : A' 75 = A 75) (h6 : A' 76 = A 76) : ml_p P I' A' := by
  obtain ⟨c1, c2, c3, c4, c5⟩ := h
  exact ⟨by rw [hI.1]; exact c1, by rw [hI.2]; exact c2, fun i hi => by rw [h4]; exact c3 i hi, fun d hd => by rw [h5]; exact c4 d hd, by rw [h6]; exact c5⟩
theorem X7_ldA {d : Nat} {P : sg_P} {o f w : Int32} {I A : am_F} {G : am_G} (hv : vp_p P) (hp : ml_p P I A) (hd : d < P 7 1) (ho : I 69 25 = o) : am_e 102 0 [.ref 69, .int (nI d), .null, .null, .null, .null, .null, .null, .null] [] I A G = am_e 102 54 [.ref 69, .int (nI d), .int (nI (P 3 d)), .int (mN (P 4 d)), .int (nI (P 5 d)), .int (nI (P 6 d)), .int (am_bi (am_hb o d)), .null, .null] [] I A G := by
  have hD := hv.2.1
  obtain ⟨a1, a2, a3, a4⟩ := hp.2.2.2.1 d hd
  have c0 := nI_clamp (show 4 * d < 2 ^ 31 by omega)
  have x0 := am_ixF (show 4 * d < 44 by omega) (show 44 < 2 ^ 31 by omega)
  have c1 := nI_clamp (show 4 * d + 1 < 2 ^ 31 by omega)
  have x1 := am_ixF (show 4 * d + 1 < 44 by omega) (show 44 < 2 ^ 31 by omega)
  have c2 := nI_clamp (show 4 * d + 2 < 2 ^ 31 by omega)
  have x2 := am_ixF (show 4 * d + 2 < 44 by omega) (show 44 < 2 ^ 31 by omega)
  have c3 := nI_clamp (show 4 * d + 3 < 2 ^ 31 by omega)
  have x3 := am_ixF (show 4 * d + 3 < 44 by omega) (show 44 < 2 ^ 31 by omega)
  simp only [s_X7_layDoor_0, s_X7_layDoor_1, s_X7_layDoor_4, s_X7_layDoor_5, s_X7_layDoor_6, s_X7_layDoor_7, s_X7_layDoor_8, s_X7_layDoor_9, s_X7_layDoor_10, s_X7_layDoor_13, s_X7_layDoor_14, s_X7_layDoor_15, s_X7_layDoor_16, s_X7_layDoor_17, s_X7_layDoor_18, s_X7_layDoor_19, s_X7_layDoor_20, s_X7_layDoor_21, s_X7_layDoor_24, s_X7_layDoor_25, s_X7_layDoor_26, s_X7_layDoor_27, s_X7_layDoor_28, s_X7_layDoor_29, s_X7_layDoor_30, s_X7_layDoor_32, s_X7_layDoor_33, s_X7_layDoor_36, s_X7_layDoor_37, s_X7_layDoor_38, s_X7_layDoor_39, s_X7_layDoor_40, s_X7_layDoor_41, s_X7_layDoor_42, s_X7_layDoor_44, s_X7_layDoor_45, s_X7_layDoor_48, s_X7_layDoor_49, s_X7_layDoor_52, am_len_75, am_mul4, am_add1, am_add2, am_add3, c0, x0, c1, x1, c2, x2, c3, x3, if_false, a1, a2, a3, a4, ho, e_X7_has, am_hb_d, am_k_some, am_push_i]
theorem X7_ldB {d : Nat} {P : sg_P} {w : Int32} {l4 l5 l6 l8 : Value} {I A : am_F} {G : am_G} (hv : vp_p P) (hp : ml_p P I A) (hd : d < P 7 1) (hw : I 69 23 = w) : ∃ g : Value, am_e 102 54 [.ref 69, .int (nI d), .int (nI (P 3 d)), .int (mN (P 4 d)), l4, l5, l6, .null, l8] [] I A G = am_e 102 221 [.ref 69, .int (nI d), .int (nI (P 3 d)), .int (mN (P 4 d)), l4, l5, l6, g, l8] [] I (am_u (am_u A 83 d (mN (pf_fr P (pf_u w) d))) 84 d (mN (pf_to P (pf_u w) d))) G := by
  have hD := hv.2.1
  have hH := hv.1.2
  obtain ⟨v1, v2, v3, v4⟩ := hv.2.2.2.1 d hd
  have m4 := mN_m4 (k := P 4 d) (by omega)
  have b1 := hp.2.2.1 (P 3 d) v1
  have b2 := hp.2.2.2.2
  have cd := nI_clamp (show d < 2 ^ 31 by omega)
  have xd := am_ixF (show d < 11 by omega) (show 11 < 2 ^ 31 by omega)
  have c1 := nI_clamp (show 3 * P 3 d < 2 ^ 31 by omega)
  have x1 := am_ixF (show 3 * P 3 d < 24 by omega) (show 24 < 2 ^ 31 by omega)
  have z0 : (0 : Int32).toNatClampNeg = 0 := by decide
  have y0 : ((0 : Int32) < 0 ∨ 6 ≤ 0) = False := by decide
  have p3 : mN (P 3 d) = nI (P 3 d) := mN_n (by omega)
  unfold pf_fr pf_to pf_u
  by_cases h8 : P 4 d = 8
  · rw [if_pos h8, if_pos h8]
    have m4' := m4.trans (eq_true h8)
    have g1 : (nI (P 7 2) ≤ nI (P 0 (P 3 d))) = (P 7 2 ≤ P 0 (P 3 d)) := propext (nI_leI (by have := hv.2.2.2.2.1; omega) (by have := hv.2.2.1 _ v1; omega))
    by_cases hlt : P 0 (P 3 d) < P 7 2
    · have g1' := g1.trans (eq_false (by omega))
      by_cases hw1 : w = 1
      · refine ⟨.int 1, ?_⟩
        rw [decide_eq_true hlt, decide_eq_true hw1, if_pos rfl, if_pos rfl, p3, mN_8]
        simp only [s_X7_layDoor_54, s_X7_layDoor_55, s_X7_layDoor_57, s_X7_layDoor_60, s_X7_layDoor_61, s_X7_layDoor_64, s_X7_layDoor_65, s_X7_layDoor_66, s_X7_layDoor_67, s_X7_layDoor_68, s_X7_layDoor_69, s_X7_layDoor_72, s_X7_layDoor_73, s_X7_layDoor_74, s_X7_layDoor_77, s_X7_layDoor_78, s_X7_layDoor_81, s_X7_layDoor_82, s_X7_layDoor_83, s_X7_layDoor_86, s_X7_layDoor_87, s_X7_layDoor_90, s_X7_layDoor_91, s_X7_layDoor_94, s_X7_layDoor_95, s_X7_layDoor_98, s_X7_layDoor_99, s_X7_layDoor_102, s_X7_layDoor_103, s_X7_layDoor_105, s_X7_layDoor_106, s_X7_layDoor_109, s_X7_layDoor_110, s_X7_layDoor_112, s_X7_layDoor_115, s_X7_layDoor_117, s_X7_layDoor_120, s_X7_layDoor_121, s_X7_layDoor_122, s_X7_layDoor_123, s_X7_layDoor_126, s_X7_layDoor_127, s_X7_layDoor_129, s_X7_layDoor_132, s_X7_layDoor_133, s_X7_layDoor_136, s_X7_layDoor_138, s_X7_layDoor_139, m4', am_len_74, am_len_76, am_len_83, am_len_84, am_mul3, c1, x1, z0, y0, b1, b2, g1', hw, hw1, if_true, if_false, cd, xd, am_10]
      · refine ⟨.int 0, ?_⟩
        rw [decide_eq_true hlt, decide_eq_false hw1, if_neg (by decide), if_neg (by decide), p3, mN_8]
        simp only [s_X7_layDoor_54, s_X7_layDoor_55, s_X7_layDoor_57, s_X7_layDoor_60, s_X7_layDoor_61, s_X7_layDoor_64, s_X7_layDoor_65, s_X7_layDoor_66, s_X7_layDoor_67, s_X7_layDoor_68, s_X7_layDoor_69, s_X7_layDoor_72, s_X7_layDoor_73, s_X7_layDoor_74, s_X7_layDoor_77, s_X7_layDoor_78, s_X7_layDoor_81, s_X7_layDoor_82, s_X7_layDoor_83, s_X7_layDoor_86, s_X7_layDoor_87, s_X7_layDoor_90, s_X7_layDoor_91, s_X7_layDoor_94, s_X7_layDoor_95, s_X7_layDoor_98, s_X7_layDoor_99, s_X7_layDoor_102, s_X7_layDoor_103, s_X7_layDoor_105, s_X7_layDoor_106, s_X7_layDoor_109, s_X7_layDoor_110, s_X7_layDoor_112, s_X7_layDoor_115, s_X7_layDoor_117, s_X7_layDoor_120, s_X7_layDoor_121, s_X7_layDoor_122, s_X7_layDoor_123, s_X7_layDoor_126, s_X7_layDoor_127, s_X7_layDoor_129, s_X7_layDoor_132, s_X7_layDoor_133, s_X7_layDoor_136, s_X7_layDoor_138, s_X7_layDoor_139, m4', am_len_74, am_len_76, am_len_83, am_len_84, am_mul3, c1, x1, z0, y0, b1, b2, g1', hw, hw1, if_true, if_false, cd, xd, am_10]
    · have g1' := g1.trans (eq_true (by omega))
      by_cases hw1 : w = 1
      · refine ⟨.int 0, ?_⟩
        rw [decide_eq_false hlt, decide_eq_true hw1, if_neg (by decide), if_neg (by decide), p3, mN_8]
        simp only [s_X7_layDoor_54, s_X7_layDoor_55, s_X7_layDoor_57, s_X7_layDoor_60, s_X7_layDoor_61, s_X7_layDoor_64, s_X7_layDoor_65, s_X7_layDoor_66, s_X7_layDoor_67, s_X7_layDoor_68, s_X7_layDoor_69, s_X7_layDoor_72, s_X7_layDoor_73, s_X7_layDoor_74, s_X7_layDoor_77, s_X7_layDoor_78, s_X7_layDoor_81, s_X7_layDoor_82, s_X7_layDoor_83, s_X7_layDoor_86, s_X7_layDoor_87, s_X7_layDoor_90, s_X7_layDoor_91, s_X7_layDoor_94, s_X7_layDoor_95, s_X7_layDoor_98, s_X7_layDoor_99, s_X7_layDoor_102, s_X7_layDoor_103, s_X7_layDoor_105, s_X7_layDoor_106, s_X7_layDoor_109, s_X7_layDoor_110, s_X7_layDoor_112, s_X7_layDoor_115, s_X7_layDoor_117, s_X7_layDoor_120, s_X7_layDoor_121, s_X7_layDoor_122, s_X7_layDoor_123, s_X7_layDoor_126, s_X7_layDoor_127, s_X7_layDoor_129, s_X7_layDoor_132, s_X7_layDoor_133, s_X7_layDoor_136, s_X7_layDoor_138, s_X7_layDoor_139, m4', am_len_74, am_len_76, am_len_83, am_len_84, am_mul3, c1, x1, z0, y0, b1, b2, g1', hw, hw1, if_true, if_false, cd, xd, am_01f]
      · refine ⟨.int 1, ?_⟩
        rw [decide_eq_false hlt, decide_eq_false hw1, if_pos rfl, if_pos rfl, p3, mN_8]
        simp only [s_X7_layDoor_54, s_X7_layDoor_55, s_X7_layDoor_57, s_X7_layDoor_60, s_X7_layDoor_61, s_X7_layDoor_64, s_X7_layDoor_65, s_X7_layDoor_66, s_X7_layDoor_67, s_X7_layDoor_68, s_X7_layDoor_69, s_X7_layDoor_72, s_X7_layDoor_73, s_X7_layDoor_74, s_X7_layDoor_77, s_X7_layDoor_78, s_X7_layDoor_81, s_X7_layDoor_82, s_X7_layDoor_83, s_X7_layDoor_86, s_X7_layDoor_87, s_X7_layDoor_90, s_X7_layDoor_91, s_X7_layDoor_94, s_X7_layDoor_95, s_X7_layDoor_98, s_X7_layDoor_99, s_X7_layDoor_102, s_X7_layDoor_103, s_X7_layDoor_105, s_X7_layDoor_106, s_X7_layDoor_109, s_X7_layDoor_110, s_X7_layDoor_112, s_X7_layDoor_115, s_X7_layDoor_117, s_X7_layDoor_120, s_X7_layDoor_121, s_X7_layDoor_122, s_X7_layDoor_123, s_X7_layDoor_126, s_X7_layDoor_127, s_X7_layDoor_129, s_X7_layDoor_132, s_X7_layDoor_133, s_X7_layDoor_136, s_X7_layDoor_138, s_X7_layDoor_139, m4', am_len_74, am_len_76, am_len_83, am_len_84, am_mul3, c1, x1, z0, y0, b1, b2, g1', hw, hw1, if_true, if_false, cd, xd, am_10]
  · have v2 := v2.resolve_left h8
    rw [if_neg h8, if_neg h8]
    have m4' := m4.trans (eq_false h8)
    have b4 := hp.2.2.1 (P 4 d) v2.1
    have c4 := nI_clamp (show 3 * P 4 d < 2 ^ 31 by omega)
    have x4 := am_ixF (show 3 * P 4 d < 24 by omega) (show 24 < 2 ^ 31 by omega)
    have p4 : mN (P 4 d) = nI (P 4 d) := mN_n h8
    rw [p4] at m4' 
    have g1 : (nI (P 0 (P 4 d)) ≤ nI (P 0 (P 3 d))) = (P 0 (P 4 d) ≤ P 0 (P 3 d)) := propext (nI_leI (by have := hv.2.2.1 _ v2.1; omega) (by have := hv.2.2.1 _ v1; omega))
    by_cases hlt : P 0 (P 3 d) < P 0 (P 4 d)
    · have g1' := g1.trans (eq_false (by omega))
      by_cases hw1 : w = 1
      · refine ⟨.int 1, ?_⟩
        rw [decide_eq_true hlt, decide_eq_true hw1, if_pos rfl, if_pos rfl, p3, p4]
        simp only [s_X7_layDoor_54, s_X7_layDoor_55, s_X7_layDoor_57, s_X7_layDoor_142, s_X7_layDoor_143, s_X7_layDoor_146, s_X7_layDoor_147, s_X7_layDoor_148, s_X7_layDoor_149, s_X7_layDoor_150, s_X7_layDoor_151, s_X7_layDoor_154, s_X7_layDoor_155, s_X7_layDoor_156, s_X7_layDoor_157, s_X7_layDoor_158, s_X7_layDoor_161, s_X7_layDoor_162, s_X7_layDoor_165, s_X7_layDoor_166, s_X7_layDoor_167, s_X7_layDoor_170, s_X7_layDoor_171, s_X7_layDoor_174, s_X7_layDoor_175, s_X7_layDoor_178, s_X7_layDoor_179, s_X7_layDoor_182, s_X7_layDoor_183, s_X7_layDoor_186, s_X7_layDoor_187, s_X7_layDoor_189, s_X7_layDoor_190, s_X7_layDoor_193, s_X7_layDoor_194, s_X7_layDoor_196, s_X7_layDoor_199, s_X7_layDoor_200, s_X7_layDoor_203, s_X7_layDoor_204, s_X7_layDoor_205, s_X7_layDoor_206, s_X7_layDoor_209, s_X7_layDoor_210, s_X7_layDoor_212, s_X7_layDoor_215, s_X7_layDoor_216, s_X7_layDoor_219, s_X7_layDoor_220, m4', am_len_74, am_len_76, am_len_83, am_len_84, am_mul3, c1, x1, c4, x4, b1, b4, g1', hw, hw1, if_true, if_false, cd, xd, am_10]
      · refine ⟨.int 0, ?_⟩
        rw [decide_eq_true hlt, decide_eq_false hw1, if_neg (by decide), if_neg (by decide), p3, p4]
        simp only [s_X7_layDoor_54, s_X7_layDoor_55, s_X7_layDoor_57, s_X7_layDoor_142, s_X7_layDoor_143, s_X7_layDoor_146, s_X7_layDoor_147, s_X7_layDoor_148, s_X7_layDoor_149, s_X7_layDoor_150, s_X7_layDoor_151, s_X7_layDoor_154, s_X7_layDoor_155, s_X7_layDoor_156, s_X7_layDoor_157, s_X7_layDoor_158, s_X7_layDoor_161, s_X7_layDoor_162, s_X7_layDoor_165, s_X7_layDoor_166, s_X7_layDoor_167, s_X7_layDoor_170, s_X7_layDoor_171, s_X7_layDoor_174, s_X7_layDoor_175, s_X7_layDoor_178, s_X7_layDoor_179, s_X7_layDoor_182, s_X7_layDoor_183, s_X7_layDoor_186, s_X7_layDoor_187, s_X7_layDoor_189, s_X7_layDoor_190, s_X7_layDoor_193, s_X7_layDoor_194, s_X7_layDoor_196, s_X7_layDoor_199, s_X7_layDoor_200, s_X7_layDoor_203, s_X7_layDoor_204, s_X7_layDoor_205, s_X7_layDoor_206, s_X7_layDoor_209, s_X7_layDoor_210, s_X7_layDoor_212, s_X7_layDoor_215, s_X7_layDoor_216, s_X7_layDoor_219, s_X7_layDoor_220, m4', am_len_74, am_len_76, am_len_83, am_len_84, am_mul3, c1, x1, c4, x4, b1, b4, g1', hw, hw1, if_true, if_false, cd, xd, am_10]
    · have g1' := g1.trans (eq_true (by omega))
      by_cases hw1 : w = 1
      · refine ⟨.int 0, ?_⟩
        rw [decide_eq_false hlt, decide_eq_true hw1, if_neg (by decide), if_neg (by decide), p3, p4]
        simp only [s_X7_layDoor_54, s_X7_layDoor_55, s_X7_layDoor_57, s_X7_layDoor_142, s_X7_layDoor_143, s_X7_layDoor_146, s_X7_layDoor_147, s_X7_layDoor_148, s_X7_layDoor_149, s_X7_layDoor_150, s_X7_layDoor_151, s_X7_layDoor_154, s_X7_layDoor_155, s_X7_layDoor_156, s_X7_layDoor_157, s_X7_layDoor_158, s_X7_layDoor_161, s_X7_layDoor_162, s_X7_layDoor_165, s_X7_layDoor_166, s_X7_layDoor_167, s_X7_layDoor_170, s_X7_layDoor_171, s_X7_layDoor_174, s_X7_layDoor_175, s_X7_layDoor_178, s_X7_layDoor_179, s_X7_layDoor_182, s_X7_layDoor_183, s_X7_layDoor_186, s_X7_layDoor_187, s_X7_layDoor_189, s_X7_layDoor_190, s_X7_layDoor_193, s_X7_layDoor_194, s_X7_layDoor_196, s_X7_layDoor_199, s_X7_layDoor_200, s_X7_layDoor_203, s_X7_layDoor_204, s_X7_layDoor_205, s_X7_layDoor_206, s_X7_layDoor_209, s_X7_layDoor_210, s_X7_layDoor_212, s_X7_layDoor_215, s_X7_layDoor_216, s_X7_layDoor_219, s_X7_layDoor_220, m4', am_len_74, am_len_76, am_len_83, am_len_84, am_mul3, c1, x1, c4, x4, b1, b4, g1', hw, hw1, if_true, if_false, cd, xd, am_01f]
      · refine ⟨.int 1, ?_⟩
        rw [decide_eq_false hlt, decide_eq_false hw1, if_pos rfl, if_pos rfl, p3, p4]
        simp only [s_X7_layDoor_54, s_X7_layDoor_55, s_X7_layDoor_57, s_X7_layDoor_142, s_X7_layDoor_143, s_X7_layDoor_146, s_X7_layDoor_147, s_X7_layDoor_148, s_X7_layDoor_149, s_X7_layDoor_150, s_X7_layDoor_151, s_X7_layDoor_154, s_X7_layDoor_155, s_X7_layDoor_156, s_X7_layDoor_157, s_X7_layDoor_158, s_X7_layDoor_161, s_X7_layDoor_162, s_X7_layDoor_165, s_X7_layDoor_166, s_X7_layDoor_167, s_X7_layDoor_170, s_X7_layDoor_171, s_X7_layDoor_174, s_X7_layDoor_175, s_X7_layDoor_178, s_X7_layDoor_179, s_X7_layDoor_182, s_X7_layDoor_183, s_X7_layDoor_186, s_X7_layDoor_187, s_X7_layDoor_189, s_X7_layDoor_190, s_X7_layDoor_193, s_X7_layDoor_194, s_X7_layDoor_196, s_X7_layDoor_199, s_X7_layDoor_200, s_X7_layDoor_203, s_X7_layDoor_204, s_X7_layDoor_205, s_X7_layDoor_206, s_X7_layDoor_209, s_X7_layDoor_210, s_X7_layDoor_212, s_X7_layDoor_215, s_X7_layDoor_216, s_X7_layDoor_219, s_X7_layDoor_220, m4', am_len_74, am_len_76, am_len_83, am_len_84, am_mul3, c1, x1, c4, x4, b1, b4, g1', hw, hw1, if_true, if_false, cd, xd, am_10]
theorem X7_ldC {d : Nat} {P : sg_P} {w : Int32} {b : Bool} {l0 l1 l2 l3 l7 l8 : Value} {r : Nat} {I A : am_F} {G : am_G} (hv : vp_p P) (hd : d < P 7 1) (hw : I 69 23 = w) : am_e 102 221 [.ref 69, l1, l2, l3, .int (nI (P 5 d)), .int (nI (P 6 d)), .int (am_bi b), l7, l8] [] I A G = am_e 102 294 [.ref 69, l1, l2, l3, .int (nI (P 5 d)), .int (nI (P 6 d)), .int (am_bi b), .int (nI (pf_ky P d b w)), l8] [] I A G := by
  obtain ⟨v1, v2, v3, v4⟩ := hv.2.2.2.1 d hd
  have dv : nI (P 5 d) / 4 = nI (P 5 d / 4) := pk_div (a := P 5 d) (d := 4) (by omega) (by omega) (by omega)
  have z0 : nI 0 = 0 := rfl
  have z1 : nI 1 = 1 := rfl
  have z2 : nI 2 = 2 := rfl
  have z3 : nI 3 = 3 := rfl
  have hk : P 6 d = 0 ∨ P 6 d = 1 ∨ P 6 d = 2 ∨ P 6 d = 3 := by omega
  unfold pf_ky
  rcases hk with h | h | h | h <;> rw [h]
  · cases b <;> simp only [s_X7_layDoor_221, s_X7_layDoor_223, s_X7_layDoor_226, s_X7_layDoor_228, s_X7_layDoor_231, s_X7_layDoor_233, s_X7_layDoor_236, s_X7_layDoor_237, s_X7_layDoor_240, s_X7_layDoor_242, s_X7_layDoor_243, s_X7_layDoor_246, s_X7_layDoor_248, s_X7_layDoor_251, s_X7_layDoor_252, s_X7_layDoor_255, s_X7_layDoor_256, s_X7_layDoor_259, s_X7_layDoor_261, s_X7_layDoor_264, s_X7_layDoor_265, s_X7_layDoor_268, s_X7_layDoor_270, s_X7_layDoor_271, s_X7_layDoor_274, s_X7_layDoor_276, s_X7_layDoor_279, s_X7_layDoor_281, s_X7_layDoor_284, s_X7_layDoor_286, s_X7_layDoor_287, s_X7_layDoor_288, s_X7_layDoor_291, s_X7_layDoor_292, am_bi, am_10, if_true, if_false, Bool.false_eq_true, z0]
  · by_cases hw1 : w = 1 <;> cases b <;> simp only [s_X7_layDoor_221, s_X7_layDoor_223, s_X7_layDoor_226, s_X7_layDoor_228, s_X7_layDoor_231, s_X7_layDoor_233, s_X7_layDoor_236, s_X7_layDoor_237, s_X7_layDoor_240, s_X7_layDoor_242, s_X7_layDoor_243, s_X7_layDoor_246, s_X7_layDoor_248, s_X7_layDoor_251, s_X7_layDoor_252, s_X7_layDoor_255, s_X7_layDoor_256, s_X7_layDoor_259, s_X7_layDoor_261, s_X7_layDoor_264, s_X7_layDoor_265, s_X7_layDoor_268, s_X7_layDoor_270, s_X7_layDoor_271, s_X7_layDoor_274, s_X7_layDoor_276, s_X7_layDoor_279, s_X7_layDoor_281, s_X7_layDoor_284, s_X7_layDoor_286, s_X7_layDoor_287, s_X7_layDoor_288, s_X7_layDoor_291, s_X7_layDoor_292, hw, hw1, am_bi, am_10, if_true, if_false, Bool.false_eq_true, false_and, and_false, true_and, and_true, am_d10, z0, z1]
  · cases b <;> simp only [s_X7_layDoor_221, s_X7_layDoor_223, s_X7_layDoor_226, s_X7_layDoor_228, s_X7_layDoor_231, s_X7_layDoor_233, s_X7_layDoor_236, s_X7_layDoor_237, s_X7_layDoor_240, s_X7_layDoor_242, s_X7_layDoor_243, s_X7_layDoor_246, s_X7_layDoor_248, s_X7_layDoor_251, s_X7_layDoor_252, s_X7_layDoor_255, s_X7_layDoor_256, s_X7_layDoor_259, s_X7_layDoor_261, s_X7_layDoor_264, s_X7_layDoor_265, s_X7_layDoor_268, s_X7_layDoor_270, s_X7_layDoor_271, s_X7_layDoor_274, s_X7_layDoor_276, s_X7_layDoor_279, s_X7_layDoor_281, s_X7_layDoor_284, s_X7_layDoor_286, s_X7_layDoor_287, s_X7_layDoor_288, s_X7_layDoor_291, s_X7_layDoor_292, am_bi, am_10, am_20, am_21, am_40, dv, if_true, if_false, Bool.false_eq_true, am_d20, am_d21, z0, z2]
  · cases b <;> simp only [s_X7_layDoor_221, s_X7_layDoor_223, s_X7_layDoor_226, s_X7_layDoor_228, s_X7_layDoor_231, s_X7_layDoor_233, s_X7_layDoor_236, s_X7_layDoor_237, s_X7_layDoor_240, s_X7_layDoor_242, s_X7_layDoor_243, s_X7_layDoor_246, s_X7_layDoor_248, s_X7_layDoor_251, s_X7_layDoor_252, s_X7_layDoor_255, s_X7_layDoor_256, s_X7_layDoor_259, s_X7_layDoor_261, s_X7_layDoor_264, s_X7_layDoor_265, s_X7_layDoor_268, s_X7_layDoor_270, s_X7_layDoor_271, s_X7_layDoor_274, s_X7_layDoor_276, s_X7_layDoor_279, s_X7_layDoor_281, s_X7_layDoor_284, s_X7_layDoor_286, s_X7_layDoor_287, s_X7_layDoor_288, s_X7_layDoor_291, s_X7_layDoor_292, am_bi, am_10, am_30, am_31f, am_32, if_true, if_false, Bool.false_eq_true, am_d30, am_d31, am_d32, z0, z3]
theorem X7_ldD {d : Nat} {P : sg_P} {f : Int32} {l1 l4 l5 l6 l7 l8 : Value} {I A : am_F} {G : am_G} (hv : vp_p P) (hd : d < P 7 1) (hf : I 69 26 = f) : am_e 102 294 [.ref 69, l1, .int (nI (P 3 d)), .int (mN (P 4 d)), l4, l5, l6, l7, l8] [] I A G = am_e 102 329 [.ref 69, l1, .int (nI (P 3 d)), .int (mN (P 4 d)), l4, l5, l6, l7, .int (am_bi (pf_wet P f d))] [] I A G := by
  obtain ⟨v1, v2, v3, v4⟩ := hv.2.2.2.1 d hd
  have hH := hv.1.2
  have m4 := mN_m4 (k := P 4 d) (by omega)
  unfold pf_wet
  cases h1 : am_hb f (P 3 d) with
  | true =>
    simp only [s_X7_layDoor_294, s_X7_layDoor_295, s_X7_layDoor_298, s_X7_layDoor_299, s_X7_layDoor_302, s_X7_layDoor_305, s_X7_layDoor_306, s_X7_layDoor_308, s_X7_layDoor_311, s_X7_layDoor_312, s_X7_layDoor_315, s_X7_layDoor_316, s_X7_layDoor_319, s_X7_layDoor_322, s_X7_layDoor_323, s_X7_layDoor_326, s_X7_layDoor_327, hf, e_X7_has, am_hb_d, am_k_some, am_push_i, h1, am_bi_0, Bool.true_eq_false, if_false, Bool.true_or]
    rfl
  | false =>
    by_cases h8 : P 4 d = 8
    · have m4' := m4.trans (eq_true h8)
      rw [decide_eq_false (not_not_intro h8)]
      simp only [s_X7_layDoor_294, s_X7_layDoor_295, s_X7_layDoor_298, s_X7_layDoor_299, s_X7_layDoor_302, s_X7_layDoor_305, s_X7_layDoor_306, s_X7_layDoor_308, s_X7_layDoor_311, s_X7_layDoor_312, s_X7_layDoor_315, s_X7_layDoor_316, s_X7_layDoor_319, s_X7_layDoor_322, s_X7_layDoor_323, s_X7_layDoor_326, s_X7_layDoor_327, hf, e_X7_has, am_hb_d, am_k_some, am_push_i, h1, am_bi_0, if_true, m4', Bool.false_and, Bool.false_or]
      rfl
    · have m4' := m4.trans (eq_false h8)
      rw [decide_eq_true h8]
      rw [mN_n h8] at m4' ⊢
      cases h2 : am_hb f (P 4 d) with
      | true =>
        simp only [s_X7_layDoor_294, s_X7_layDoor_295, s_X7_layDoor_298, s_X7_layDoor_299, s_X7_layDoor_302, s_X7_layDoor_305, s_X7_layDoor_306, s_X7_layDoor_308, s_X7_layDoor_311, s_X7_layDoor_312, s_X7_layDoor_315, s_X7_layDoor_316, s_X7_layDoor_319, s_X7_layDoor_322, s_X7_layDoor_323, s_X7_layDoor_326, s_X7_layDoor_327, hf, e_X7_has, am_hb_d, am_k_some, am_push_i, h1, h2, am_bi_0, if_true, m4', Bool.true_and, Bool.false_or, Bool.true_eq_false, if_false]
        rfl
      | false =>
        simp only [s_X7_layDoor_294, s_X7_layDoor_295, s_X7_layDoor_298, s_X7_layDoor_299, s_X7_layDoor_302, s_X7_layDoor_305, s_X7_layDoor_306, s_X7_layDoor_308, s_X7_layDoor_311, s_X7_layDoor_312, s_X7_layDoor_315, s_X7_layDoor_316, s_X7_layDoor_319, s_X7_layDoor_322, s_X7_layDoor_323, s_X7_layDoor_326, s_X7_layDoor_327, hf, e_X7_has, am_hb_d, am_k_some, am_push_i, h1, h2, am_bi_0, if_true, m4', Bool.true_and, Bool.false_or, if_false]
        rfl
theorem X7_ldE {d : Nat} {P : sg_P} {o f w : Int32} {l2 l3 l4 l5 l6 : Value} {I A : am_F} {G : am_G} (hv : vp_p P) (hd : d < P 7 1) (hw : I 69 23 = w) : am_e 102 329 [.ref 69, .int (nI d), l2, l3, l4, l5, l6, .int (nI (pf_ky P d (am_hb o d) w)), .int (am_bi (pf_wet P f d))] [] I A G = some (.null, I, am_u A 82 d (nI (pf_L P o f w d)), G) := by
  have hD := hv.2.1
  have cd := nI_clamp (show d < 2 ^ 31 by omega)
  have xd := am_ixF (show d < 11 by omega) (show 11 < 2 ^ 31 by omega)
  have z0 : nI 0 = 0 := rfl
  unfold pf_L
  by_cases h0 : w = 0
  · rw [if_pos (Or.inl h0)]
    simp only [s_X7_layDoor_329, s_X7_layDoor_330, s_X7_layDoor_333, s_X7_layDoor_334, s_X7_layDoor_335, s_X7_layDoor_338, s_X7_layDoor_341, s_X7_layDoor_343, s_X7_layDoor_346, s_X7_layDoor_347, s_X7_layDoor_350, s_X7_layDoor_352, s_X7_layDoor_353, hw, h0, if_true, am_len_82, cd, xd, if_false, z0]
  · cases hb : pf_wet P f d with
    | true =>
      rw [if_pos (Or.inr rfl)]
      simp only [s_X7_layDoor_329, s_X7_layDoor_330, s_X7_layDoor_333, s_X7_layDoor_334, s_X7_layDoor_335, s_X7_layDoor_338, s_X7_layDoor_341, s_X7_layDoor_343, s_X7_layDoor_346, s_X7_layDoor_347, s_X7_layDoor_350, s_X7_layDoor_352, s_X7_layDoor_353, hw, h0, am_bi_0, Bool.true_eq_false, am_len_82, cd, xd, if_false, z0]
    | false =>
      rw [if_neg (fun q => q.elim h0 (fun q => by cases q))]
      simp only [s_X7_layDoor_329, s_X7_layDoor_330, s_X7_layDoor_333, s_X7_layDoor_334, s_X7_layDoor_335, s_X7_layDoor_338, s_X7_layDoor_341, s_X7_layDoor_343, s_X7_layDoor_346, s_X7_layDoor_347, s_X7_layDoor_350, s_X7_layDoor_352, s_X7_layDoor_353, hw, h0, am_bi_0, if_true, am_len_82, cd, xd, if_false]
theorem e_X7_layDoor {d : Nat} {P : sg_P} {o f w : Int32} {I A : am_F} {G : am_G} (hv : vp_p P) (hp : ml_p P I A) (hd : d < P 7 1) (hw : I 69 23 = w) (ho : I 69 25 = o) (hf : I 69 26 = f) : am_e 102 0 [.ref 69, .int (nI d), .null, .null, .null, .null, .null, .null, .null] [] I A G = some (.null, I, am_u (am_u (am_u A 83 d (mN (pf_fr P (pf_u w) d))) 84 d (mN (pf_to P (pf_u w) d))) 82 d (nI (pf_L P o f w d)), G) := by
  obtain ⟨g, hg⟩ := X7_ldB (G := G) (l4 := .int (nI (P 5 d))) (l5 := .int (nI (P 6 d))) (l6 := .int (am_bi (am_hb o d))) (l8 := .null) hv hp hd hw
  rw [X7_ldA (o := o) (f := f) (w := w) hv hp hd ho, hg, X7_ldC (l0 := .null) (r := 0) hv hd hw, X7_ldD hv hd hf, X7_ldE hv hd hw]
