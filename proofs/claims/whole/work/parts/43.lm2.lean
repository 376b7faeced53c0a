theorem e_X7_layY {n : Nat} {t : Nat → Nat} {I A : am_F} {G : am_G} (hn : n ≤ 400) (ht : mr_t n t I A) (htb : ∀ j, j < n → t j < 256) (hft : (pf_rd n t).1 = none) (hH0 : (pf_rd n t).2 7 0 ≠ 0) : ∃ I' A' : am_F, am_e 92 0 [.ref 69, .null] [] I A G = some (.int (nI ((pf_rd n t).2 7 0)), I', A', G) ∧ mr_p (pf_rd n t).2 I' A' ∧ mr_s (nI (2 ^ ((pf_rd n t).2 7 1)) - 1, 0, 0, fun _ => 0) I' A' ∧ I' 69 19 = 0 ∧ I' 69 21 = 0 ∧ mr_t n t I' A' ∧ (∀ a j, a ≠ 69 → I' a j = I a j) ∧ (∀ b, b < 70 → A' b = A b) := by
  obtain ⟨I1, A1, f1, f2, f3⟩ := e_X7_readAll (G := G) hn ht htb
  have hv : vp_p (pf_rd n t).2 := (pf_read_i n pf_P0 0 vq_P0).vp hH0
  have hD := hv.2.1
  have hH := hv.1.2
  obtain ⟨p1, p2, p3, p4, p5, p6, p7, p8, p9, p10⟩ := f3 hft
  have hm4 : pf_ft n t = -4 := by rw [pf_ft_m4 hn]; exact hft
  rw [hm4] at f1
  generalize (pf_rd n t).2 = P at *
  have hz : (nI (P 7 0) = 0) = False := eq_false (by rw [show (0 : Int32) = nI 0 from rfl, nI_eq (by omega) (by omega)]; exact hH0)
  have e0 : am_e 92 0 [.ref 69, .null] [] I A G = am_e 92 37 [.ref 69, .int (nI 0)] [] (am_u (am_u I1 69 9 (nI (P 7 0))) 69 10 (nI (P 7 1))) A1 G := by
    have q5 : am_u I1 69 9 (nI (P 7 0)) 69 5 = nI (P 7 1) := by rw [am_u_at, if_neg (by omega)]; exact p2
    simp only [s_X7_lay_0, s_X7_lay_1, s_X7_lay_4, s_X7_lay_6, s_X7_lay_9, s_X7_lay_10, s_X7_lay_13, s_X7_lay_16, s_X7_lay_18, s_X7_lay_19, s_X7_lay_20, s_X7_lay_21, s_X7_lay_24, s_X7_lay_27, s_X7_lay_28, s_X7_lay_29, s_X7_lay_32, s_X7_lay_35, s_X7_lay_36, f1, am_k_some, am_push_i, p1, hz, if_false, if_true, q5]
    rfl
  obtain ⟨A2, a1, a2, a3⟩ := X7_lay_a (I := am_u (am_u I1 69 9 (nI (P 7 0))) 69 10 (nI (P 7 1))) (G := G) 24 0 A1 (by omega)
  obtain ⟨A3, b1, b2, b3⟩ := X7_lay_b (I := am_u (am_u I1 69 9 (nI (P 7 0))) 69 10 (nI (P 7 1))) (G := G) 40 0 A2 (by omega)
  obtain ⟨A4, c1, c2, c3⟩ := X7_lay_c (I := am_u (am_u I1 69 9 (nI (P 7 0))) 69 10 (nI (P 7 1))) (G := G) 6 0 A3 (by omega)
  generalize hI2 : am_u (am_u (am_u (am_u I1 69 9 (nI (P 7 0))) 69 10 (nI (P 7 1))) 69 14 (nI (2 ^ P 7 1) - 1)) 69 15 0 = I2
  obtain ⟨A5, d1, d2, d3⟩ := X7_lay_d (I := I2) (G := G) 8 0 A4 (by omega)
  have s1 : am_e 92 61 [.ref 69, .int (nI 24)] [] (am_u (am_u I1 69 9 (nI (P 7 0))) 69 10 (nI (P 7 1))) A2 G = am_e 92 63 [.ref 69, .int (nI 0)] [] (am_u (am_u I1 69 9 (nI (P 7 0))) 69 10 (nI (P 7 1))) A2 G := by
    simp only [s_X7_lay_61, s_X7_lay_62]; rfl
  have s2 : am_e 92 87 [.ref 69, .int (nI 40)] [] (am_u (am_u I1 69 9 (nI (P 7 0))) 69 10 (nI (P 7 1))) A3 G = am_e 92 89 [.ref 69, .int (nI 0)] [] (am_u (am_u I1 69 9 (nI (P 7 0))) 69 10 (nI (P 7 1))) A3 G := by
    simp only [s_X7_lay_87, s_X7_lay_88]; rfl
  have s3 : am_e 92 113 [.ref 69, .int (nI 6)] [] (am_u (am_u I1 69 9 (nI (P 7 0))) 69 10 (nI (P 7 1))) A4 G = am_e 92 132 [.ref 69, .int (nI 0)] [] I2 A4 G := by
    rw [← hI2]
    simp only [s_X7_lay_113, s_X7_lay_114, s_X7_lay_115, s_X7_lay_116, s_X7_lay_119, s_X7_lay_120, s_X7_lay_121, s_X7_lay_122, s_X7_lay_125, s_X7_lay_126, s_X7_lay_127, s_X7_lay_130, s_X7_lay_131, am_u_eq, am_shl1 (show P 7 1 < 31 by omega)]; rfl
  have i9 : I2 69 9 = nI (P 7 0) := by rw [← hI2]; simp [am_u_at]
  refine ⟨am_u (am_u (am_u (am_u I2 69 17 0) 69 18 0) 69 19 0) 69 21 0, A5, ?_, ⟨?_, ?_, fun i hi => ?_, fun d hd => ?_, ?_, ?_, ?_, ?_, ?_, ?_⟩, ⟨?_, ?_, ?_, ?_, fun i hi => ?_⟩, by simp [am_u_at], by simp [am_u_at], ⟨?_, fun j hj => ?_⟩, fun a j ha => ?_, fun b hb => ?_⟩
  · rw [e0, a1, s1, b1, s2, c1, s3, d1]
    have q9 : am_u (am_u (am_u (am_u I2 69 17 0) 69 18 0) 69 19 0) 69 21 0 69 9 = nI (P 7 0) := by simp [am_u_at]; exact i9
    simp only [s_X7_lay_151, s_X7_lay_152, s_X7_lay_153, s_X7_lay_156, s_X7_lay_157, s_X7_lay_158, s_X7_lay_161, s_X7_lay_162, s_X7_lay_163, s_X7_lay_166, s_X7_lay_167, s_X7_lay_168, s_X7_lay_171, s_X7_lay_172, s_X7_lay_175, q9]
  · simp [am_u_at]; exact i9
  · rw [← hI2]; simp [am_u_at]
  · rw [d2 74 (by omega), c2 74 (by omega), b2 74 (by omega), a3, a3, a3, if_pos (by omega), if_pos (by omega), if_pos (by omega)]
    exact p3 i hi
  · have hb : ∀ y, y < 40 → A5 75 y = A1 72 y := fun y hy => by rw [d2 75 (by omega), c2 75 (by omega), b3, if_pos (by omega), a2 72 (by omega)]
    rw [hb (4 * d) (by omega), hb (4 * d + 1) (by omega), hb (4 * d + 2) (by omega), hb (4 * d + 3) (by omega)]
    exact p4 d hd
  · rw [d2 76 (by omega), c3, if_pos (by omega), b2 73 (by omega), a2 73 (by omega)]; exact p5
  · rw [d2 76 (by omega), c3, if_pos (by omega), b2 73 (by omega), a2 73 (by omega)]; exact p6
  · rw [d2 76 (by omega), c3, if_pos (by omega), b2 73 (by omega), a2 73 (by omega)]; exact p7
  · rw [d2 76 (by omega), c3, if_pos (by omega), b2 73 (by omega), a2 73 (by omega)]; exact p8
  · rw [d2 76 (by omega), c3, if_pos (by omega), b2 73 (by omega), a2 73 (by omega)]; exact p9
  · rw [d2 76 (by omega), c3, if_pos (by omega), b2 73 (by omega), a2 73 (by omega)]; exact p10
  · rw [← hI2]; simp [am_u_at]
  · rw [← hI2]; simp [am_u_at]
  · rw [← hI2]; simp [am_u_at]; rfl
  · rw [← hI2]; simp [am_u_at]
  · rw [d3, if_pos (by omega)]
  · rw [← hI2]; simp [am_u_at]; rw [f2.1 69 0 (by omega)]; exact ht.1
  · rw [d2 70 (by omega), c2 70 (by omega), b2 70 (by omega), a2 70 (by omega), f2.2 70 (by omega) (by omega) (by omega)]; exact ht.2 j hj
  · rw [← hI2]
    simp only [am_u_ne ha]
    exact f2.1 a j (by omega)
  · rw [d2 b (by omega), c2 b (by omega), b2 b (by omega), a2 b (by omega), f2.2 b (by omega) (by omega) (by omega)]
