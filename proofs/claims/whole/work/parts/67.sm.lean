/-! ===== shaft, the model ===== -/
/-- what the model's shaft leaves as it is, D doors -/
def fr_d (D : Nat) (I A I' A' : am_F) : Prop := (∀ a j, ¬ (a = 69 ∧ (j = 23 ∨ j = 24 ∨ j = 25 ∨ j = 26)) → I' a j = I a j) ∧ (∀ b, ¬ (b = 75 ∨ (80 ≤ b ∧ b ≤ 84)) → A' b = A b) ∧ ∀ j, j < 4 * D → A' 75 j = A 75 j
theorem fr_d.rf (D : Nat) (I A : am_F) : fr_d D I A I A := ⟨fun _ _ _ => rfl, fun _ _ => rfl, fun _ _ => rfl⟩
theorem fr_d.tr {D : Nat} {I A I' A' I'' A'' : am_F} (h1 : fr_d D I A I' A') (h2 : fr_d D I' A' I'' A'') : fr_d D I A I'' A'' := ⟨fun a j h => by rw [h2.1 a j h, h1.1 a j h], fun b hb => by rw [h2.2.1 b hb, h1.2.1 b hb], fun j hj => by rw [h2.2.2 j hj, h1.2.2 j hj]⟩
theorem fr_a.d {D : Nat} {I A I' A' : am_F} (h : fr_a I A I' A') : fr_d D I A I' A' := ⟨h.1, fun b hb => h.2 b (by omega), fun j _ => by rw [h.2 75 (by omega)]⟩
theorem mk.fd {P : sg_P} {s : sg_S} {I A I' A' : am_F} (h : mk P s I A) (hf : fr_d (P 7 1) I A I' A') : mk P s I' A' := by
  obtain ⟨⟨c1, c2, c3, c4, c5⟩, h2⟩ := h
  refine ⟨⟨by rw [hf.1 _ _ (by omega)]; exact c1, by rw [hf.1 _ _ (by omega)]; exact c2, fun i hi => by rw [hf.2.1 74 (by omega)]; exact c3 i hi, fun d hd => ?_, by rw [hf.2.1 76 (by omega)]; exact c5⟩, h2.fr (fun j hj => hf.1 _ _ (by omega)) (hf.2.1 _ (by omega))⟩
  rw [hf.2.2 _ (by omega), hf.2.2 _ (by omega), hf.2.2 _ (by omega), hf.2.2 _ (by omega)]
  exact c4 d hd
/-- one hall tried -/
theorem X7_sfS {i : Nat} {P : sg_P} {s : sg_S} {l1 l2 l3 g5 : Value} {I A : am_F} {G : am_G} (hv : vp_p P) (hi : i < P 7 0) (hD : P 7 1 < 10) (hm : mk P s I A) (h24 : I 69 24 = nI (P 7 1 + 1)) : ∃ I' A' : am_F, am_e 125 41 [.ref 69, l1, l2, l3, .int (nI i), g5] [] I A G = am_e 125 130 [.ref 69, l1, l2, l3, .int (nI i), .int (nI (pf_sv P s i))] [] I' A' G ∧ fr_d (P 7 1) I A I' A' ∧ I' 69 24 = nI (P 7 1 + 1) := by
  have hH := hv.1.2
  have hwd := hv.2.2.2.2.2.2.2.2.1
  have hv' := pf_sp_v hv hi hD
  obtain ⟨n1, n2, n3, n4⟩ := pf_sp_n P i
  generalize hA1 : am_u (am_u (am_u (am_u A 75 (4 * P 7 1) (nI i)) 75 (4 * P 7 1 + 1) (-4)) 75 (4 * P 7 1 + 2) 10) 75 (4 * P 7 1 + 3) 0 = A1
  have fr : ∀ b, b ≠ 75 → A1 b = A b := fun b hb => by rw [← hA1, am_u_ne hb, am_u_ne hb, am_u_ne hb, am_u_ne hb]
  have fj : ∀ j, j < 4 * P 7 1 → A1 75 j = A 75 j := fun j hj => by rw [← hA1, am_u_at, if_neg (by omega), am_u_at, if_neg (by omega), am_u_at, if_neg (by omega), am_u_at, if_neg (by omega)]
  have hfd : fr_d (P 7 1) I A I A1 := ⟨fun _ _ _ => rfl, fun b hb => fr b (by omega), fj⟩
  have hm1 := hm.fd hfd
  have hl : ml_p (pf_sp P i) I A1 := by
    unfold ml_p
    rw [pf_sp_7 P i (show 0 ≠ 1 by omega), pf_sp_71, pf_sp_7 P i (show 2 ≠ 1 by omega)]
    refine ⟨hm1.1.1, h24, fun j hj => by rw [pf_sp_h P i (by omega)]; exact (hm1.1.2.2.1 j hj).1, fun d hd => ?_, hm1.1.2.2.2.2.1⟩
    by_cases q : d = P 7 1
    · rw [q, n1, n2, n3, n4, ← hA1]
      refine ⟨?_, ?_, ?_, ?_⟩
      · rw [am_u_at, if_neg (by omega), am_u_at, if_neg (by omega), am_u_at, if_neg (by omega), am_u_eq]
      · rw [am_u_at, if_neg (by omega), am_u_at, if_neg (by omega), am_u_eq]; rfl
      · rw [am_u_at, if_neg (by omega), am_u_eq]; rfl
      · rw [am_u_eq]; rfl
    · rw [pf_sp_d P i (by omega) q, pf_sp_d P i (by omega) q, pf_sp_d P i (by omega) q, pf_sp_d P i (by omega) q]
      exact hm1.1.2.2.2.1 d (by omega)
  obtain ⟨I', A', f1, f2⟩ := e_X7_leastAir (i := P 7 6) (P' := pf_sp P i) (o := s.1 ||| ((1 : Int32) <<< (nI (P 7 1) &&& 31))) (f := s.2.1) (G := G) hv' hm1.1 hl ⟨pf_sp_7 P i (by omega), pf_sp_7 P i (by omega), pf_sp_7 P i (by omega)⟩ hm1.2.2.1 (by rw [pf_sp_7 P i (by omega)]; exact hwd)
  refine ⟨I', A', ?_, hfd.tr f2.a.d, by rw [f2.1 _ _ (by omega)]; exact h24⟩
  refine (s_X7_shaft_41).trans ?_
  have hn : (nI (P 7 0) ≤ nI i) = False := eq_false (by rw [nI_leI (by omega) (by omega)]; omega)
  have c0 := nI_clamp (show 4 * P 7 1 < 2 ^ 31 by omega)
  have x0 := am_ixF (show 4 * P 7 1 < 44 by omega) (show 44 < 2 ^ 31 by omega)
  have c1 := nI_clamp (show 4 * P 7 1 + 1 < 2 ^ 31 by omega)
  have x1 := am_ixF (show 4 * P 7 1 + 1 < 44 by omega) (show 44 < 2 ^ 31 by omega)
  have c2 := nI_clamp (show 4 * P 7 1 + 2 < 2 ^ 31 by omega)
  have x2 := am_ixF (show 4 * P 7 1 + 2 < 44 by omega) (show 44 < 2 ^ 31 by omega)
  have c3 := nI_clamp (show 4 * P 7 1 + 3 < 2 ^ 31 by omega)
  have x3 := am_ixF (show 4 * P 7 1 + 3 < 44 by omega) (show 44 < 2 ^ 31 by omega)
  have z4 : (4 : Int32).toNatClampNeg = 4 := by decide
  have y4 : ((4 : Int32) < 0 ∨ 6 ≤ 4) = False := by decide
  have wA : A1 76 4 = nI (P 7 6) := hm1.1.2.2.2.2.2.2.2.2.1
  simp only [s_X7_shaft_43, s_X7_shaft_44, s_X7_shaft_47, s_X7_shaft_50, s_X7_shaft_51, s_X7_shaft_54, s_X7_shaft_55, s_X7_shaft_56, s_X7_shaft_59, s_X7_shaft_60, s_X7_shaft_62, s_X7_shaft_63, s_X7_shaft_64, s_X7_shaft_67, s_X7_shaft_68, s_X7_shaft_69, s_X7_shaft_72, s_X7_shaft_73, s_X7_shaft_74, s_X7_shaft_75, s_X7_shaft_77, s_X7_shaft_78, s_X7_shaft_79, s_X7_shaft_82, s_X7_shaft_83, s_X7_shaft_84, s_X7_shaft_87, s_X7_shaft_88, s_X7_shaft_89, s_X7_shaft_90, s_X7_shaft_92, s_X7_shaft_93, s_X7_shaft_94, s_X7_shaft_97, s_X7_shaft_98, s_X7_shaft_99, s_X7_shaft_102, s_X7_shaft_103, s_X7_shaft_104, s_X7_shaft_105, s_X7_shaft_106, s_X7_shaft_107, s_X7_shaft_108, s_X7_shaft_109, s_X7_shaft_112, s_X7_shaft_113, s_X7_shaft_114, s_X7_shaft_115, s_X7_shaft_118, s_X7_shaft_119, s_X7_shaft_120, s_X7_shaft_123, s_X7_shaft_124, s_X7_shaft_125, s_X7_shaft_128, hm.1.1, hn, if_false, hm.1.2.1, am_len_75, am_len_76, am_mul4, am_add1, am_add2, am_add3, c0, x0, c1, x1, c2, x2, c3, x3, hA1, z4, y4, wA, hm.2.1, f1, am_k_some, am_push_i]
  rfl
theorem X7_sfL {P : sg_P} {s : sg_S} {l1 : Value} {G : am_G} (hv : vp_p P) (hD : P 7 1 < 10) : ∀ (r i : Nat) (g5 : Value) (I A : am_F), i + r = P 7 0 → 0 < i → mk P s I A → I 69 24 = nI (P 7 1 + 1) → ∃ (I' A' : am_F) (g5' : Value), am_e 125 41 [.ref 69, l1, .int (nI (pf_sx P s (i - 1)).1), .int (nI (pf_sx P s (i - 1)).2), .int (nI i), g5] [] I A G = am_e 125 162 [.ref 69, l1, .int (nI (pf_sx P s (P 7 0 - 1)).1), .int (nI (pf_sx P s (P 7 0 - 1)).2), .int (nI (P 7 0)), g5'] [] I' A' G ∧ fr_d (P 7 1) I A I' A' := by
  have hH := hv.1.2
  intro r
  induction r with
  | zero =>
    intro i g5 I A hi h0 hm h24
    have : i = P 7 0 := by omega
    subst this
    refine ⟨I, A, g5, ?_, fr_d.rf _ I A⟩
    refine (s_X7_shaft_41).trans ?_
    simp only [s_X7_shaft_43, s_X7_shaft_44, s_X7_shaft_47, hm.1.1, Int32.le_refl, if_true]
  | succ r ih =>
    intro i g5 I A hi h0 hm h24
    have hil : i < P 7 0 := by omega
    obtain ⟨I1, A1, f1, f2, f3⟩ := X7_sfS (i := i) (l1 := l1) (l2 := .int (nI (pf_sx P s (i - 1)).1)) (l3 := .int (nI (pf_sx P s (i - 1)).2)) (g5 := g5) (G := G) hv hil hD hm h24
    obtain ⟨I', A', g5', k1, k2⟩ := ih (i + 1) (.int (nI (pf_sv P s i))) I1 A1 (by omega) (by omega) (hm.fd f2) f3
    refine ⟨I', A', g5', ?_, f2.tr k2⟩
    rw [f1, ← k1]
    have b1 := pf_sv_le hv s hil hD
    have b2 := pf_sx_le hv s hD (i - 1) (by omega)
    have hle : (nI (pf_sv P s i) ≤ nI (pf_sx P s (i - 1)).2) = (pf_sv P s i ≤ (pf_sx P s (i - 1)).2) := propext (nI_leI (by omega) (by omega))
    have e1 : pf_sx P s (i + 1 - 1) = if (pf_sx P s (i - 1)).2 < pf_sv P s i then (i, pf_sv P s i) else pf_sx P s (i - 1) := by
      rw [show i + 1 - 1 = (i - 1) + 1 by omega]
      show (if (pf_sx P s (i - 1)).2 < pf_sv P s (i - 1 + 1) then (i - 1 + 1, pf_sv P s (i - 1 + 1)) else pf_sx P s (i - 1)) = _
      rw [show i - 1 + 1 = i by omega]
    rw [e1]
    by_cases hlt : (pf_sx P s (i - 1)).2 < pf_sv P s i
    · have hle := hle.trans (eq_false (by omega))
      rw [if_pos hlt]
      simp only [s_X7_shaft_130, s_X7_shaft_132, s_X7_shaft_133, s_X7_shaft_136, s_X7_shaft_138, s_X7_shaft_141, s_X7_shaft_142, s_X7_shaft_143, s_X7_shaft_145, s_X7_shaft_146, s_X7_shaft_149, s_X7_shaft_151, s_X7_shaft_154, s_X7_shaft_155, s_X7_shaft_156, s_X7_shaft_159, hle, if_false, am_add1]
    · have hle := hle.trans (eq_true (by omega))
      rw [if_neg hlt]
      simp only [s_X7_shaft_130, s_X7_shaft_132, s_X7_shaft_133, s_X7_shaft_136, s_X7_shaft_138, s_X7_shaft_141, s_X7_shaft_142, s_X7_shaft_143, s_X7_shaft_145, s_X7_shaft_146, s_X7_shaft_149, s_X7_shaft_151, s_X7_shaft_154, s_X7_shaft_155, s_X7_shaft_156, s_X7_shaft_159, hle, if_true, am_add1]
theorem e_X7_shaft {P : sg_P} {s : sg_S} {x : Int32} {I A : am_F} {G : am_G} (hv : vp_p P) (hm : mk P s I A) : ∃ I' A' : am_F, am_e 125 0 [.ref 69, .int x, .null, .null, .null, .null] [] I A G = some (.int (pf_sha P s x), I', A', G) ∧ fr_d (P 7 1) I A I' A' := by
  have hH1 := hv.1.1
  have hDD := hv.2.1
  obtain ⟨x1, x0⟩ := @e_X7_ei x I A G
  unfold pf_sha
  by_cases hx : x = 0 ∨ x = 1
  · rw [if_pos hx]
    by_cases hD : P 7 1 = 10
    · rw [if_pos hD]
      refine ⟨I, A, ?_, fr_d.rf _ I A⟩
      have heq : (nI (P 7 1) = 10) = True := eq_true (by rw [hD]; rfl)
      simp only [s_X7_shaft_0, s_X7_shaft_1, s_X7_shaft_2, s_X7_shaft_3, s_X7_shaft_6, s_X7_shaft_9, s_X7_shaft_10, s_X7_shaft_11, s_X7_shaft_12, s_X7_shaft_15, s_X7_shaft_17, s_X7_shaft_20, s_X7_shaft_22, x1 hx, am_k_some, am_push_i, am_10, if_false, hm.1.2.1, heq, if_true]
    · rw [if_neg hD]
      have hDl : P 7 1 < 10 := by omega
      have heq : (nI (P 7 1) = 10) = False := eq_false (by rw [show (10 : Int32) = nI 10 from rfl, nI_eq (by omega) (by omega)]; exact hD)
      have hf0 : fr_d (P 7 1) I A (am_u I 69 24 (nI (P 7 1 + 1))) A := (fr_a_24 I A _).d
      have hm0 := hm.fd hf0
      obtain ⟨I1, A1, f1, f2, f3⟩ := X7_sfS (i := 0) (l1 := .int x) (l2 := .int 0) (l3 := .int (-4)) (g5 := .null) (G := G) hv (by omega) hDl hm0 (am_u_eq _ _ _ _)
      obtain ⟨I', A', g5, d1, d2⟩ := X7_sfL (l1 := .int x) (G := G) hv hDl (P 7 0 - 1) 1 (.int (nI (pf_sv P s 0))) I1 A1 (by omega) (by omega) (hm0.fd f2) f3
      refine ⟨I', A', ?_, (hf0.tr f2).tr d2⟩
      have b1 := pf_sv_le hv s (show 0 < P 7 0 by omega) hDl
      have hle : (nI (pf_sv P s 0) ≤ -4) = False := eq_false (fun q => by
        have h0 : 0 ≤ nI (pf_sv P s 0) := nI_pos' (by omega)
        exact absurd (Int32.le_trans h0 q) (by decide))
      have e0 : am_e 125 0 [.ref 69, .int x, .null, .null, .null, .null] [] I A G = am_e 125 41 [.ref 69, .int x, .int 0, .int (-4), .int (nI 0), .null] [] (am_u I 69 24 (nI (P 7 1 + 1))) A G := by
        simp only [s_X7_shaft_0, s_X7_shaft_1, s_X7_shaft_2, s_X7_shaft_3, s_X7_shaft_6, s_X7_shaft_9, s_X7_shaft_10, s_X7_shaft_11, s_X7_shaft_12, s_X7_shaft_15, s_X7_shaft_17, s_X7_shaft_20, s_X7_shaft_22, s_X7_shaft_23, s_X7_shaft_24, s_X7_shaft_25, s_X7_shaft_28, s_X7_shaft_29, s_X7_shaft_30, s_X7_shaft_33, s_X7_shaft_34, s_X7_shaft_35, s_X7_shaft_37, s_X7_shaft_38, s_X7_shaft_39, x1 hx, am_k_some, am_push_i, am_10, if_false, hm.1.2.1, heq, am_add1]
        rfl
      have e1 : am_e 125 130 [.ref 69, .int x, .int 0, .int (-4), .int (nI 0), .int (nI (pf_sv P s 0))] [] I1 A1 G = am_e 125 41 [.ref 69, .int x, .int (nI (pf_sx P s (1 - 1)).1), .int (nI (pf_sx P s (1 - 1)).2), .int (nI 1), .int (nI (pf_sv P s 0))] [] I1 A1 G := by
        simp only [s_X7_shaft_130, s_X7_shaft_132, s_X7_shaft_133, s_X7_shaft_136, s_X7_shaft_138, s_X7_shaft_141, s_X7_shaft_142, s_X7_shaft_143, s_X7_shaft_145, s_X7_shaft_146, s_X7_shaft_149, s_X7_shaft_151, s_X7_shaft_154, s_X7_shaft_155, s_X7_shaft_156, s_X7_shaft_159, hle, if_false, am_add1]
        rfl
      rw [e0, f1, e1, d1]
      by_cases hx0 : x = 0
      · rw [if_pos hx0]
        simp only [s_X7_shaft_162, s_X7_shaft_163, s_X7_shaft_166, s_X7_shaft_167, s_X7_shaft_170, s_X7_shaft_171, hx0, if_true]
      · rw [if_neg hx0]
        simp only [s_X7_shaft_162, s_X7_shaft_163, s_X7_shaft_166, s_X7_shaft_167, s_X7_shaft_170, s_X7_shaft_171, hx0, if_false]
  · rw [if_neg hx]
    refine ⟨I, A, ?_, fr_d.rf _ I A⟩
    simp only [s_X7_shaft_0, s_X7_shaft_1, s_X7_shaft_2, s_X7_shaft_3, s_X7_shaft_6, s_X7_shaft_9, s_X7_shaft_10, x0 hx, am_k_some, am_push_i, if_true]
