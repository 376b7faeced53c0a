/-! ===== the law's loop ===== -/
theorem am_e_kp {M pc : Nat} {L S : List Value} {I A : am_F} {G : am_G} {v : Value} {I' A' : am_F} {G' : am_G} (h : am_e M pc L S I A G = some (v, I', A', G')) : I' 86 = I 86 ∧ A' 86 = A 86 := by
  obtain ⟨n, hn⟩ := am_ev_iff.mp h
  exact am_x_kp n _ _ _ _ _ _ _ _ hn
/-- a case of the law's switch -/
def lc (c i L pc : Nat) (I A : am_F) (G : am_G) : Prop := ∃ (I' A' : am_F) (G' : am_G), am_e 133 pc [.ref 86, .ref 0, .ref 69, .int (nI i)] [] I A G = am_e 133 861 [.ref 86, .ref 0, .ref 69, .int (nI i)] [] I' A' G' ∧ li (c + 1) I' A' G' ∧ I' 86 0 = nI L
section LAW
variable {c i L : Nat} {I A : am_F} {G : am_G}
theorem lc_write (hL : I 86 0 = nI L) (hL2 : L ≤ 2048) (hi : i + 4 ≤ L) (h : li c I A G) : lc c i L 148 I A G := by
  have cL := nI_clamp (show L < 2 ^ 31 by omega)
  have c1 := nI_clamp (show i + 1 < 2 ^ 31 by omega)
  have x1 := am_ixF (show i + 1 < L by omega) (show L < 2 ^ 31 by omega)
  have c2 := nI_clamp (show i + 2 < 2 ^ 31 by omega)
  have x2 := am_ixF (show i + 2 < L by omega) (show L < 2 ^ 31 by omega)
  have c3 := nI_clamp (show i + 3 < 2 ^ 31 by omega)
  have x3 := am_ixF (show i + 3 < L by omega) (show L < 2 ^ 31 by omega)
  obtain ⟨v, I1, A1, G1, I2, A2, h6, h7, hli⟩ := pr_write (x := A 86 (i + 1)) (w := (A 86 (i + 2)).toInt64 <<< ((32 : Int32).toInt64 &&& 63) ||| (A 86 (i + 3)).toInt64 &&& 4294967295) h
  dsimp only at h6 h7
  obtain ⟨k1, k2⟩ := am_e_kp h6
  obtain ⟨k3, k4⟩ := am_e_kp h7
  refine ⟨I2, A2, G1, ?_, hli, by rw [k3, k1]; exact hL⟩
  simp only [s_L_law_148, s_L_law_149, s_L_law_150, s_L_law_151, s_L_law_152, s_L_law_153, s_L_law_154, s_L_law_155, s_L_law_156, s_L_law_157, s_L_law_158, s_L_law_159, s_L_law_160, s_L_law_162, s_L_law_163, s_L_law_164, s_L_law_165, s_L_law_166, s_L_law_167, s_L_law_168, s_L_law_169, s_L_law_172, s_L_law_173, s_L_law_174, s_L_law_177, s_L_law_178, s_L_law_179, s_L_law_180, s_L_law_181, s_L_law_182, s_L_law_183, s_L_law_184, s_L_law_185, s_L_law_186, s_L_law_187, s_L_law_188, s_L_law_189, s_L_law_191, s_L_law_192, s_L_law_193, s_L_law_194, s_L_law_195, s_L_law_196, s_L_law_197, s_L_law_198, s_L_law_201, s_L_law_202, s_L_law_203, s_L_law_206, hL, cL, c1, x1, c2, x2, c3, x3, am_add1, am_add2, am_add3, if_false, h6, am_k_some, am_push_i, k1, k2, h7, eq_self, if_true]
theorem lc_wipe (hL : I 86 0 = nI L) (hL2 : L ≤ 2048) (hi : i + 4 ≤ L) (h : li c I A G) : lc c i L 211 I A G := by
  have cL := nI_clamp (show L < 2 ^ 31 by omega)
  have c1 := nI_clamp (show i + 1 < 2 ^ 31 by omega)
  have x1 := am_ixF (show i + 1 < L by omega) (show L < 2 ^ 31 by omega)
  have c2 := nI_clamp (show i + 2 < 2 ^ 31 by omega)
  have x2 := am_ixF (show i + 2 < L by omega) (show L < 2 ^ 31 by omega)
  have c3 := nI_clamp (show i + 3 < 2 ^ 31 by omega)
  have x3 := am_ixF (show i + 3 < L by omega) (show L < 2 ^ 31 by omega)
  obtain ⟨v, I1, A1, G1, I2, A2, h6, h7, hli⟩ := pr_wipe h
  dsimp only at h6 h7
  obtain ⟨k1, k2⟩ := am_e_kp h6
  obtain ⟨k3, k4⟩ := am_e_kp h7
  refine ⟨I2, A2, G1, ?_, hli, by rw [k3, k1]; exact hL⟩
  simp only [s_L_law_211, s_L_law_212, s_L_law_215, s_L_law_216, s_L_law_219, hL, cL, c1, x1, c2, x2, c3, x3, am_add1, am_add2, am_add3, if_false, h6, am_k_some, am_push_i, k1, k2, h7, eq_self, if_true]
theorem lc_fault (hL : I 86 0 = nI L) (hL2 : L ≤ 2048) (hi : i + 4 ≤ L) (h : li c I A G) : lc c i L 224 I A G := by
  have cL := nI_clamp (show L < 2 ^ 31 by omega)
  have c1 := nI_clamp (show i + 1 < 2 ^ 31 by omega)
  have x1 := am_ixF (show i + 1 < L by omega) (show L < 2 ^ 31 by omega)
  have c2 := nI_clamp (show i + 2 < 2 ^ 31 by omega)
  have x2 := am_ixF (show i + 2 < L by omega) (show L < 2 ^ 31 by omega)
  have c3 := nI_clamp (show i + 3 < 2 ^ 31 by omega)
  have x3 := am_ixF (show i + 3 < L by omega) (show L < 2 ^ 31 by omega)
  obtain ⟨v, I1, A1, G1, I2, A2, h6, h7, hli⟩ := pr_fault h
  dsimp only at h6 h7
  obtain ⟨k1, k2⟩ := am_e_kp h6
  obtain ⟨k3, k4⟩ := am_e_kp h7
  refine ⟨I2, A2, G1, ?_, hli, by rw [k3, k1]; exact hL⟩
  simp only [s_L_law_224, s_L_law_225, s_L_law_228, s_L_law_229, s_L_law_232, hL, cL, c1, x1, c2, x2, c3, x3, am_add1, am_add2, am_add3, if_false, h6, am_k_some, am_push_i, k1, k2, h7, eq_self, if_true]
theorem lc_lay (hL : I 86 0 = nI L) (hL2 : L ≤ 2048) (hi : i + 4 ≤ L) (h : li c I A G) : lc c i L 237 I A G := by
  have cL := nI_clamp (show L < 2 ^ 31 by omega)
  have c1 := nI_clamp (show i + 1 < 2 ^ 31 by omega)
  have x1 := am_ixF (show i + 1 < L by omega) (show L < 2 ^ 31 by omega)
  have c2 := nI_clamp (show i + 2 < 2 ^ 31 by omega)
  have x2 := am_ixF (show i + 2 < L by omega) (show L < 2 ^ 31 by omega)
  have c3 := nI_clamp (show i + 3 < 2 ^ 31 by omega)
  have x3 := am_ixF (show i + 3 < L by omega) (show L < 2 ^ 31 by omega)
  obtain ⟨v, I1, A1, G1, I2, A2, h6, h7, hli⟩ := pr_lay h
  dsimp only at h6 h7
  obtain ⟨k1, k2⟩ := am_e_kp h6
  obtain ⟨k3, k4⟩ := am_e_kp h7
  refine ⟨I2, A2, G1, ?_, hli, by rw [k3, k1]; exact hL⟩
  simp only [s_L_law_237, s_L_law_238, s_L_law_241, s_L_law_242, s_L_law_245, hL, cL, c1, x1, c2, x2, c3, x3, am_add1, am_add2, am_add3, if_false, h6, am_k_some, am_push_i, k1, k2, h7, eq_self, if_true]
theorem lc_hall (hL : I 86 0 = nI L) (hL2 : L ≤ 2048) (hi : i + 4 ≤ L) (h : li c I A G) : lc c i L 250 I A G := by
  have cL := nI_clamp (show L < 2 ^ 31 by omega)
  have c1 := nI_clamp (show i + 1 < 2 ^ 31 by omega)
  have x1 := am_ixF (show i + 1 < L by omega) (show L < 2 ^ 31 by omega)
  have c2 := nI_clamp (show i + 2 < 2 ^ 31 by omega)
  have x2 := am_ixF (show i + 2 < L by omega) (show L < 2 ^ 31 by omega)
  have c3 := nI_clamp (show i + 3 < 2 ^ 31 by omega)
  have x3 := am_ixF (show i + 3 < L by omega) (show L < 2 ^ 31 by omega)
  obtain ⟨v, I1, A1, G1, I2, A2, h6, h7, hli⟩ := pr_hall (x := A 86 (i + 1)) (y := A 86 (i + 2)) h
  dsimp only at h6 h7
  obtain ⟨k1, k2⟩ := am_e_kp h6
  obtain ⟨k3, k4⟩ := am_e_kp h7
  refine ⟨I2, A2, G1, ?_, hli, by rw [k3, k1]; exact hL⟩
  simp only [s_L_law_250, s_L_law_251, s_L_law_252, s_L_law_253, s_L_law_254, s_L_law_255, s_L_law_256, s_L_law_257, s_L_law_258, s_L_law_259, s_L_law_260, s_L_law_261, s_L_law_264, s_L_law_265, s_L_law_266, s_L_law_267, s_L_law_268, s_L_law_269, s_L_law_270, s_L_law_271, s_L_law_272, s_L_law_273, s_L_law_274, s_L_law_275, s_L_law_278, hL, cL, c1, x1, c2, x2, c3, x3, am_add1, am_add2, am_add3, if_false, h6, am_k_some, am_push_i, k1, k2, h7, eq_self, if_true]
theorem lc_door (hL : I 86 0 = nI L) (hL2 : L ≤ 2048) (hi : i + 4 ≤ L) (h : li c I A G) : lc c i L 283 I A G := by
  have cL := nI_clamp (show L < 2 ^ 31 by omega)
  have c1 := nI_clamp (show i + 1 < 2 ^ 31 by omega)
  have x1 := am_ixF (show i + 1 < L by omega) (show L < 2 ^ 31 by omega)
  have c2 := nI_clamp (show i + 2 < 2 ^ 31 by omega)
  have x2 := am_ixF (show i + 2 < L by omega) (show L < 2 ^ 31 by omega)
  have c3 := nI_clamp (show i + 3 < 2 ^ 31 by omega)
  have x3 := am_ixF (show i + 3 < L by omega) (show L < 2 ^ 31 by omega)
  obtain ⟨v, I1, A1, G1, I2, A2, h6, h7, hli⟩ := pr_door (x := A 86 (i + 1)) (y := A 86 (i + 2)) h
  dsimp only at h6 h7
  obtain ⟨k1, k2⟩ := am_e_kp h6
  obtain ⟨k3, k4⟩ := am_e_kp h7
  refine ⟨I2, A2, G1, ?_, hli, by rw [k3, k1]; exact hL⟩
  simp only [s_L_law_283, s_L_law_284, s_L_law_285, s_L_law_286, s_L_law_287, s_L_law_288, s_L_law_289, s_L_law_290, s_L_law_291, s_L_law_292, s_L_law_293, s_L_law_294, s_L_law_297, s_L_law_298, s_L_law_299, s_L_law_300, s_L_law_301, s_L_law_302, s_L_law_303, s_L_law_304, s_L_law_305, s_L_law_306, s_L_law_307, s_L_law_308, s_L_law_311, hL, cL, c1, x1, c2, x2, c3, x3, am_add1, am_add2, am_add3, if_false, h6, am_k_some, am_push_i, k1, k2, h7, eq_self, if_true]
theorem lc_set (hL : I 86 0 = nI L) (hL2 : L ≤ 2048) (hi : i + 4 ≤ L) (h : li c I A G) : lc c i L 316 I A G := by
  have cL := nI_clamp (show L < 2 ^ 31 by omega)
  have c1 := nI_clamp (show i + 1 < 2 ^ 31 by omega)
  have x1 := am_ixF (show i + 1 < L by omega) (show L < 2 ^ 31 by omega)
  have c2 := nI_clamp (show i + 2 < 2 ^ 31 by omega)
  have x2 := am_ixF (show i + 2 < L by omega) (show L < 2 ^ 31 by omega)
  have c3 := nI_clamp (show i + 3 < 2 ^ 31 by omega)
  have x3 := am_ixF (show i + 3 < L by omega) (show L < 2 ^ 31 by omega)
  by_cases hb : A 86 (i + 2) = 0
  · obtain ⟨v, I1, A1, G1, I2, A2, h6, h7, hli⟩ := pr_set (x := A 86 (i + 1)) (b := 0) h
    dsimp only at h6 h7
    obtain ⟨k1, k2⟩ := am_e_kp h6
    obtain ⟨k3, k4⟩ := am_e_kp h7
    refine ⟨I2, A2, G1, ?_, hli, by rw [k3, k1]; exact hL⟩
    simp only [s_L_law_316, s_L_law_317, s_L_law_318, s_L_law_319, s_L_law_320, s_L_law_321, s_L_law_322, s_L_law_323, s_L_law_324, s_L_law_325, s_L_law_326, s_L_law_327, s_L_law_330, s_L_law_331, s_L_law_334, s_L_law_335, s_L_law_338, s_L_law_339, s_L_law_340, s_L_law_341, s_L_law_342, s_L_law_343, s_L_law_344, s_L_law_345, s_L_law_346, s_L_law_347, s_L_law_348, s_L_law_349, s_L_law_352, s_L_law_353, s_L_law_356, s_L_law_357, s_L_law_360, hL, cL, c1, x1, c2, x2, c3, x3, am_add1, am_add2, am_add3, if_false, h6, am_k_some, am_push_i, k1, k2, h7, eq_self, if_true, hb]
  · obtain ⟨v, I1, A1, G1, I2, A2, h6, h7, hli⟩ := pr_set (x := A 86 (i + 1)) (b := 1) h
    dsimp only at h6 h7
    obtain ⟨k1, k2⟩ := am_e_kp h6
    obtain ⟨k3, k4⟩ := am_e_kp h7
    refine ⟨I2, A2, G1, ?_, hli, by rw [k3, k1]; exact hL⟩
    simp only [s_L_law_316, s_L_law_317, s_L_law_318, s_L_law_319, s_L_law_320, s_L_law_321, s_L_law_322, s_L_law_323, s_L_law_324, s_L_law_325, s_L_law_326, s_L_law_327, s_L_law_330, s_L_law_331, s_L_law_334, s_L_law_335, s_L_law_338, s_L_law_339, s_L_law_340, s_L_law_341, s_L_law_342, s_L_law_343, s_L_law_344, s_L_law_345, s_L_law_346, s_L_law_347, s_L_law_348, s_L_law_349, s_L_law_352, s_L_law_353, s_L_law_356, s_L_law_357, s_L_law_360, hL, cL, c1, x1, c2, x2, c3, x3, am_add1, am_add2, am_add3, if_false, h6, am_k_some, am_push_i, k1, k2, h7, eq_self, if_true, hb]
theorem lc_flood (hL : I 86 0 = nI L) (hL2 : L ≤ 2048) (hi : i + 4 ≤ L) (h : li c I A G) : lc c i L 365 I A G := by
  have cL := nI_clamp (show L < 2 ^ 31 by omega)
  have c1 := nI_clamp (show i + 1 < 2 ^ 31 by omega)
  have x1 := am_ixF (show i + 1 < L by omega) (show L < 2 ^ 31 by omega)
  have c2 := nI_clamp (show i + 2 < 2 ^ 31 by omega)
  have x2 := am_ixF (show i + 2 < L by omega) (show L < 2 ^ 31 by omega)
  have c3 := nI_clamp (show i + 3 < 2 ^ 31 by omega)
  have x3 := am_ixF (show i + 3 < L by omega) (show L < 2 ^ 31 by omega)
  by_cases hb : A 86 (i + 2) = 0
  · obtain ⟨v, I1, A1, G1, I2, A2, h6, h7, hli⟩ := pr_flood (x := A 86 (i + 1)) (b := 0) h
    dsimp only at h6 h7
    obtain ⟨k1, k2⟩ := am_e_kp h6
    obtain ⟨k3, k4⟩ := am_e_kp h7
    refine ⟨I2, A2, G1, ?_, hli, by rw [k3, k1]; exact hL⟩
    simp only [s_L_law_365, s_L_law_366, s_L_law_367, s_L_law_368, s_L_law_369, s_L_law_370, s_L_law_371, s_L_law_372, s_L_law_373, s_L_law_374, s_L_law_375, s_L_law_376, s_L_law_379, s_L_law_380, s_L_law_383, s_L_law_384, s_L_law_387, s_L_law_388, s_L_law_389, s_L_law_390, s_L_law_391, s_L_law_392, s_L_law_393, s_L_law_394, s_L_law_395, s_L_law_396, s_L_law_397, s_L_law_398, s_L_law_401, s_L_law_402, s_L_law_405, s_L_law_406, s_L_law_409, hL, cL, c1, x1, c2, x2, c3, x3, am_add1, am_add2, am_add3, if_false, h6, am_k_some, am_push_i, k1, k2, h7, eq_self, if_true, hb]
  · obtain ⟨v, I1, A1, G1, I2, A2, h6, h7, hli⟩ := pr_flood (x := A 86 (i + 1)) (b := 1) h
    dsimp only at h6 h7
    obtain ⟨k1, k2⟩ := am_e_kp h6
    obtain ⟨k3, k4⟩ := am_e_kp h7
    refine ⟨I2, A2, G1, ?_, hli, by rw [k3, k1]; exact hL⟩
    simp only [s_L_law_365, s_L_law_366, s_L_law_367, s_L_law_368, s_L_law_369, s_L_law_370, s_L_law_371, s_L_law_372, s_L_law_373, s_L_law_374, s_L_law_375, s_L_law_376, s_L_law_379, s_L_law_380, s_L_law_383, s_L_law_384, s_L_law_387, s_L_law_388, s_L_law_389, s_L_law_390, s_L_law_391, s_L_law_392, s_L_law_393, s_L_law_394, s_L_law_395, s_L_law_396, s_L_law_397, s_L_law_398, s_L_law_401, s_L_law_402, s_L_law_405, s_L_law_406, s_L_law_409, hL, cL, c1, x1, c2, x2, c3, x3, am_add1, am_add2, am_add3, if_false, h6, am_k_some, am_push_i, k1, k2, h7, eq_self, if_true, hb]
theorem lc_goes (hL : I 86 0 = nI L) (hL2 : L ≤ 2048) (hi : i + 4 ≤ L) (h : li c I A G) : lc c i L 414 I A G := by
  have cL := nI_clamp (show L < 2 ^ 31 by omega)
  have c1 := nI_clamp (show i + 1 < 2 ^ 31 by omega)
  have x1 := am_ixF (show i + 1 < L by omega) (show L < 2 ^ 31 by omega)
  have c2 := nI_clamp (show i + 2 < 2 ^ 31 by omega)
  have x2 := am_ixF (show i + 2 < L by omega) (show L < 2 ^ 31 by omega)
  have c3 := nI_clamp (show i + 3 < 2 ^ 31 by omega)
  have x3 := am_ixF (show i + 3 < L by omega) (show L < 2 ^ 31 by omega)
  obtain ⟨v, I1, A1, G1, I2, A2, h6, h7, hli⟩ := pr_goes (x := A 86 (i + 1)) h
  dsimp only at h6 h7
  obtain ⟨k1, k2⟩ := am_e_kp h6
  obtain ⟨k3, k4⟩ := am_e_kp h7
  refine ⟨I2, A2, G1, ?_, hli, by rw [k3, k1]; exact hL⟩
  simp only [s_L_law_414, s_L_law_415, s_L_law_416, s_L_law_417, s_L_law_418, s_L_law_419, s_L_law_420, s_L_law_423, s_L_law_424, s_L_law_425, s_L_law_426, s_L_law_427, s_L_law_428, s_L_law_429, s_L_law_432, hL, cL, c1, x1, c2, x2, c3, x3, am_add1, am_add2, am_add3, if_false, h6, am_k_some, am_push_i, k1, k2, h7, eq_self, if_true]
theorem lc_air (hL : I 86 0 = nI L) (hL2 : L ≤ 2048) (hi : i + 4 ≤ L) (h : li c I A G) : lc c i L 437 I A G := by
  have cL := nI_clamp (show L < 2 ^ 31 by omega)
  have c1 := nI_clamp (show i + 1 < 2 ^ 31 by omega)
  have x1 := am_ixF (show i + 1 < L by omega) (show L < 2 ^ 31 by omega)
  have c2 := nI_clamp (show i + 2 < 2 ^ 31 by omega)
  have x2 := am_ixF (show i + 2 < L by omega) (show L < 2 ^ 31 by omega)
  have c3 := nI_clamp (show i + 3 < 2 ^ 31 by omega)
  have x3 := am_ixF (show i + 3 < L by omega) (show L < 2 ^ 31 by omega)
  obtain ⟨v, I1, A1, G1, I2, A2, h6, h7, hli⟩ := pr_air (x := A 86 (i + 1)) (y := A 86 (i + 2)) h
  dsimp only at h6 h7
  obtain ⟨k1, k2⟩ := am_e_kp h6
  obtain ⟨k3, k4⟩ := am_e_kp h7
  refine ⟨I2, A2, G1, ?_, hli, by rw [k3, k1]; exact hL⟩
  simp only [s_L_law_437, s_L_law_438, s_L_law_439, s_L_law_440, s_L_law_441, s_L_law_442, s_L_law_443, s_L_law_444, s_L_law_445, s_L_law_446, s_L_law_447, s_L_law_448, s_L_law_451, s_L_law_452, s_L_law_453, s_L_law_454, s_L_law_455, s_L_law_456, s_L_law_457, s_L_law_458, s_L_law_459, s_L_law_460, s_L_law_461, s_L_law_462, s_L_law_465, hL, cL, c1, x1, c2, x2, c3, x3, am_add1, am_add2, am_add3, if_false, h6, am_k_some, am_push_i, k1, k2, h7, eq_self, if_true]
theorem lc_through (hL : I 86 0 = nI L) (hL2 : L ≤ 2048) (hi : i + 4 ≤ L) (h : li c I A G) : lc c i L 470 I A G := by
  have cL := nI_clamp (show L < 2 ^ 31 by omega)
  have c1 := nI_clamp (show i + 1 < 2 ^ 31 by omega)
  have x1 := am_ixF (show i + 1 < L by omega) (show L < 2 ^ 31 by omega)
  have c2 := nI_clamp (show i + 2 < 2 ^ 31 by omega)
  have x2 := am_ixF (show i + 2 < L by omega) (show L < 2 ^ 31 by omega)
  have c3 := nI_clamp (show i + 3 < 2 ^ 31 by omega)
  have x3 := am_ixF (show i + 3 < L by omega) (show L < 2 ^ 31 by omega)
  obtain ⟨v, I1, A1, G1, I2, A2, h6, h7, hli⟩ := pr_through (x := A 86 (i + 1)) (y := A 86 (i + 2)) h
  dsimp only at h6 h7
  obtain ⟨k1, k2⟩ := am_e_kp h6
  obtain ⟨k3, k4⟩ := am_e_kp h7
  refine ⟨I2, A2, G1, ?_, hli, by rw [k3, k1]; exact hL⟩
  simp only [s_L_law_470, s_L_law_471, s_L_law_472, s_L_law_473, s_L_law_474, s_L_law_475, s_L_law_476, s_L_law_477, s_L_law_478, s_L_law_479, s_L_law_480, s_L_law_481, s_L_law_484, s_L_law_485, s_L_law_486, s_L_law_487, s_L_law_488, s_L_law_489, s_L_law_490, s_L_law_491, s_L_law_492, s_L_law_493, s_L_law_494, s_L_law_495, s_L_law_498, hL, cL, c1, x1, c2, x2, c3, x3, am_add1, am_add2, am_add3, if_false, h6, am_k_some, am_push_i, k1, k2, h7, eq_self, if_true]
theorem lc_downwind (hL : I 86 0 = nI L) (hL2 : L ≤ 2048) (hi : i + 4 ≤ L) (h : li c I A G) : lc c i L 503 I A G := by
  have cL := nI_clamp (show L < 2 ^ 31 by omega)
  have c1 := nI_clamp (show i + 1 < 2 ^ 31 by omega)
  have x1 := am_ixF (show i + 1 < L by omega) (show L < 2 ^ 31 by omega)
  have c2 := nI_clamp (show i + 2 < 2 ^ 31 by omega)
  have x2 := am_ixF (show i + 2 < L by omega) (show L < 2 ^ 31 by omega)
  have c3 := nI_clamp (show i + 3 < 2 ^ 31 by omega)
  have x3 := am_ixF (show i + 3 < L by omega) (show L < 2 ^ 31 by omega)
  obtain ⟨v, I1, A1, G1, I2, A2, h6, h7, hli⟩ := pr_downwind (x := A 86 (i + 1)) (y := A 86 (i + 2)) h
  dsimp only at h6 h7
  obtain ⟨k1, k2⟩ := am_e_kp h6
  obtain ⟨k3, k4⟩ := am_e_kp h7
  refine ⟨I2, A2, G1, ?_, hli, by rw [k3, k1]; exact hL⟩
  simp only [s_L_law_503, s_L_law_504, s_L_law_505, s_L_law_506, s_L_law_507, s_L_law_508, s_L_law_509, s_L_law_510, s_L_law_511, s_L_law_512, s_L_law_513, s_L_law_514, s_L_law_517, s_L_law_518, s_L_law_519, s_L_law_520, s_L_law_521, s_L_law_522, s_L_law_523, s_L_law_524, s_L_law_525, s_L_law_526, s_L_law_527, s_L_law_528, s_L_law_531, hL, cL, c1, x1, c2, x2, c3, x3, am_add1, am_add2, am_add3, if_false, h6, am_k_some, am_push_i, k1, k2, h7, eq_self, if_true]
theorem lc_hours (hL : I 86 0 = nI L) (hL2 : L ≤ 2048) (hi : i + 4 ≤ L) (hc : c ≤ 512) (h : li c I A G) : lc c i L 536 I A G := by
  have cL := nI_clamp (show L < 2 ^ 31 by omega)
  have c1 := nI_clamp (show i + 1 < 2 ^ 31 by omega)
  have x1 := am_ixF (show i + 1 < L by omega) (show L < 2 ^ 31 by omega)
  have c2 := nI_clamp (show i + 2 < 2 ^ 31 by omega)
  have x2 := am_ixF (show i + 2 < L by omega) (show L < 2 ^ 31 by omega)
  have c3 := nI_clamp (show i + 3 < 2 ^ 31 by omega)
  have x3 := am_ixF (show i + 3 < L by omega) (show L < 2 ^ 31 by omega)
  obtain ⟨v, I1, A1, G1, I2, A2, h6, h7, hli⟩ := pr_hours (x := A 86 (i + 1)) hc h
  dsimp only at h6 h7
  obtain ⟨k1, k2⟩ := am_e_kp h6
  obtain ⟨k3, k4⟩ := am_e_kp h7
  refine ⟨I2, A2, G1, ?_, hli, by rw [k3, k1]; exact hL⟩
  simp only [s_L_law_536, s_L_law_537, s_L_law_538, s_L_law_539, s_L_law_540, s_L_law_541, s_L_law_542, s_L_law_545, s_L_law_546, s_L_law_547, s_L_law_548, s_L_law_549, s_L_law_550, s_L_law_551, s_L_law_554, hL, cL, c1, x1, c2, x2, c3, x3, am_add1, am_add2, am_add3, if_false, h6, am_k_some, am_push_i, k1, k2, h7, eq_self, if_true]
theorem lc_clean (hL : I 86 0 = nI L) (hL2 : L ≤ 2048) (hi : i + 4 ≤ L) (h : li c I A G) : lc c i L 559 I A G := by
  have cL := nI_clamp (show L < 2 ^ 31 by omega)
  have c1 := nI_clamp (show i + 1 < 2 ^ 31 by omega)
  have x1 := am_ixF (show i + 1 < L by omega) (show L < 2 ^ 31 by omega)
  have c2 := nI_clamp (show i + 2 < 2 ^ 31 by omega)
  have x2 := am_ixF (show i + 2 < L by omega) (show L < 2 ^ 31 by omega)
  have c3 := nI_clamp (show i + 3 < 2 ^ 31 by omega)
  have x3 := am_ixF (show i + 3 < L by omega) (show L < 2 ^ 31 by omega)
  obtain ⟨v, I1, A1, G1, I2, A2, h6, h7, hli⟩ := pr_clean (x := A 86 (i + 1)) h
  dsimp only at h6 h7
  obtain ⟨k1, k2⟩ := am_e_kp h6
  obtain ⟨k3, k4⟩ := am_e_kp h7
  refine ⟨I2, A2, G1, ?_, hli, by rw [k3, k1]; exact hL⟩
  simp only [s_L_law_559, s_L_law_560, s_L_law_561, s_L_law_562, s_L_law_563, s_L_law_564, s_L_law_565, s_L_law_568, s_L_law_569, s_L_law_570, s_L_law_571, s_L_law_572, s_L_law_573, s_L_law_574, s_L_law_577, hL, cL, c1, x1, c2, x2, c3, x3, am_add1, am_add2, am_add3, if_false, h6, am_k_some, am_push_i, k1, k2, h7, eq_self, if_true]
theorem lc_settings (hL : I 86 0 = nI L) (hL2 : L ≤ 2048) (hi : i + 4 ≤ L) (h : li c I A G) : lc c i L 582 I A G := by
  have cL := nI_clamp (show L < 2 ^ 31 by omega)
  have c1 := nI_clamp (show i + 1 < 2 ^ 31 by omega)
  have x1 := am_ixF (show i + 1 < L by omega) (show L < 2 ^ 31 by omega)
  have c2 := nI_clamp (show i + 2 < 2 ^ 31 by omega)
  have x2 := am_ixF (show i + 2 < L by omega) (show L < 2 ^ 31 by omega)
  have c3 := nI_clamp (show i + 3 < 2 ^ 31 by omega)
  have x3 := am_ixF (show i + 3 < L by omega) (show L < 2 ^ 31 by omega)
  obtain ⟨v, I1, A1, G1, I2, A2, h6, h7, hli⟩ := pr_settings (x := A 86 (i + 1)) h
  dsimp only at h6 h7
  obtain ⟨k1, k2⟩ := am_e_kp h6
  obtain ⟨k3, k4⟩ := am_e_kp h7
  refine ⟨I2, A2, G1, ?_, hli, by rw [k3, k1]; exact hL⟩
  simp only [s_L_law_582, s_L_law_583, s_L_law_584, s_L_law_585, s_L_law_586, s_L_law_587, s_L_law_588, s_L_law_591, s_L_law_592, s_L_law_593, s_L_law_594, s_L_law_595, s_L_law_596, s_L_law_597, s_L_law_600, hL, cL, c1, x1, c2, x2, c3, x3, am_add1, am_add2, am_add3, if_false, h6, am_k_some, am_push_i, k1, k2, h7, eq_self, if_true]
theorem lc_first (hL : I 86 0 = nI L) (hL2 : L ≤ 2048) (hi : i + 4 ≤ L) (h : li c I A G) : lc c i L 605 I A G := by
  have cL := nI_clamp (show L < 2 ^ 31 by omega)
  have c1 := nI_clamp (show i + 1 < 2 ^ 31 by omega)
  have x1 := am_ixF (show i + 1 < L by omega) (show L < 2 ^ 31 by omega)
  have c2 := nI_clamp (show i + 2 < 2 ^ 31 by omega)
  have x2 := am_ixF (show i + 2 < L by omega) (show L < 2 ^ 31 by omega)
  have c3 := nI_clamp (show i + 3 < 2 ^ 31 by omega)
  have x3 := am_ixF (show i + 3 < L by omega) (show L < 2 ^ 31 by omega)
  obtain ⟨v, I1, A1, G1, I2, A2, h6, h7, hli⟩ := pr_first (x := A 86 (i + 1)) (y := A 86 (i + 2)) (w := A 86 (i + 3)) h
  dsimp only at h6 h7
  obtain ⟨k1, k2⟩ := am_e_kp h6
  obtain ⟨k3, k4⟩ := am_e_kp h7
  refine ⟨I2, A2, G1, ?_, hli, by rw [k3, k1]; exact hL⟩
  simp only [s_L_law_605, s_L_law_606, s_L_law_607, s_L_law_608, s_L_law_609, s_L_law_610, s_L_law_611, s_L_law_612, s_L_law_613, s_L_law_614, s_L_law_615, s_L_law_616, s_L_law_617, s_L_law_618, s_L_law_619, s_L_law_620, s_L_law_621, s_L_law_624, s_L_law_625, s_L_law_626, s_L_law_627, s_L_law_628, s_L_law_629, s_L_law_630, s_L_law_631, s_L_law_632, s_L_law_633, s_L_law_634, s_L_law_635, s_L_law_636, s_L_law_637, s_L_law_638, s_L_law_639, s_L_law_640, s_L_law_643, hL, cL, c1, x1, c2, x2, c3, x3, am_add1, am_add2, am_add3, if_false, h6, am_k_some, am_push_i, k1, k2, h7, eq_self, if_true]
theorem lc_smelled (hL : I 86 0 = nI L) (hL2 : L ≤ 2048) (hi : i + 4 ≤ L) (h : li c I A G) : lc c i L 648 I A G := by
  have cL := nI_clamp (show L < 2 ^ 31 by omega)
  have c1 := nI_clamp (show i + 1 < 2 ^ 31 by omega)
  have x1 := am_ixF (show i + 1 < L by omega) (show L < 2 ^ 31 by omega)
  have c2 := nI_clamp (show i + 2 < 2 ^ 31 by omega)
  have x2 := am_ixF (show i + 2 < L by omega) (show L < 2 ^ 31 by omega)
  have c3 := nI_clamp (show i + 3 < 2 ^ 31 by omega)
  have x3 := am_ixF (show i + 3 < L by omega) (show L < 2 ^ 31 by omega)
  by_cases hb : A 86 (i + 3) = 0
  · obtain ⟨v, I1, A1, G1, I2, A2, h6, h7, hli⟩ := pr_smelled (x := A 86 (i + 1)) (y := A 86 (i + 2)) (b := 0) h
    dsimp only at h6 h7
    obtain ⟨k1, k2⟩ := am_e_kp h6
    obtain ⟨k3, k4⟩ := am_e_kp h7
    refine ⟨I2, A2, G1, ?_, hli, by rw [k3, k1]; exact hL⟩
    simp only [s_L_law_648, s_L_law_649, s_L_law_650, s_L_law_651, s_L_law_652, s_L_law_653, s_L_law_654, s_L_law_655, s_L_law_656, s_L_law_657, s_L_law_658, s_L_law_659, s_L_law_660, s_L_law_661, s_L_law_662, s_L_law_663, s_L_law_664, s_L_law_667, s_L_law_668, s_L_law_671, s_L_law_672, s_L_law_675, s_L_law_676, s_L_law_677, s_L_law_678, s_L_law_679, s_L_law_680, s_L_law_681, s_L_law_682, s_L_law_683, s_L_law_684, s_L_law_685, s_L_law_686, s_L_law_687, s_L_law_688, s_L_law_689, s_L_law_690, s_L_law_691, s_L_law_694, s_L_law_695, s_L_law_698, s_L_law_699, s_L_law_702, hL, cL, c1, x1, c2, x2, c3, x3, am_add1, am_add2, am_add3, if_false, h6, am_k_some, am_push_i, k1, k2, h7, eq_self, if_true, hb]
  · obtain ⟨v, I1, A1, G1, I2, A2, h6, h7, hli⟩ := pr_smelled (x := A 86 (i + 1)) (y := A 86 (i + 2)) (b := 1) h
    dsimp only at h6 h7
    obtain ⟨k1, k2⟩ := am_e_kp h6
    obtain ⟨k3, k4⟩ := am_e_kp h7
    refine ⟨I2, A2, G1, ?_, hli, by rw [k3, k1]; exact hL⟩
    simp only [s_L_law_648, s_L_law_649, s_L_law_650, s_L_law_651, s_L_law_652, s_L_law_653, s_L_law_654, s_L_law_655, s_L_law_656, s_L_law_657, s_L_law_658, s_L_law_659, s_L_law_660, s_L_law_661, s_L_law_662, s_L_law_663, s_L_law_664, s_L_law_667, s_L_law_668, s_L_law_671, s_L_law_672, s_L_law_675, s_L_law_676, s_L_law_677, s_L_law_678, s_L_law_679, s_L_law_680, s_L_law_681, s_L_law_682, s_L_law_683, s_L_law_684, s_L_law_685, s_L_law_686, s_L_law_687, s_L_law_688, s_L_law_689, s_L_law_690, s_L_law_691, s_L_law_694, s_L_law_695, s_L_law_698, s_L_law_699, s_L_law_702, hL, cL, c1, x1, c2, x2, c3, x3, am_add1, am_add2, am_add3, if_false, h6, am_k_some, am_push_i, k1, k2, h7, eq_self, if_true, hb]
theorem lc_forget (hL : I 86 0 = nI L) (hL2 : L ≤ 2048) (hi : i + 4 ≤ L) (h : li c I A G) : lc c i L 707 I A G := by
  have cL := nI_clamp (show L < 2 ^ 31 by omega)
  have c1 := nI_clamp (show i + 1 < 2 ^ 31 by omega)
  have x1 := am_ixF (show i + 1 < L by omega) (show L < 2 ^ 31 by omega)
  have c2 := nI_clamp (show i + 2 < 2 ^ 31 by omega)
  have x2 := am_ixF (show i + 2 < L by omega) (show L < 2 ^ 31 by omega)
  have c3 := nI_clamp (show i + 3 < 2 ^ 31 by omega)
  have x3 := am_ixF (show i + 3 < L by omega) (show L < 2 ^ 31 by omega)
  obtain ⟨v, I1, A1, G1, I2, A2, h6, h7, hli⟩ := pr_forget h
  dsimp only at h6 h7
  obtain ⟨k1, k2⟩ := am_e_kp h6
  obtain ⟨k3, k4⟩ := am_e_kp h7
  refine ⟨I2, A2, G1, ?_, hli, by rw [k3, k1]; exact hL⟩
  simp only [s_L_law_707, s_L_law_708, s_L_law_711, s_L_law_712, s_L_law_715, hL, cL, c1, x1, c2, x2, c3, x3, am_add1, am_add2, am_add3, if_false, h6, am_k_some, am_push_i, k1, k2, h7, eq_self, if_true]
theorem lc_burns (hL : I 86 0 = nI L) (hL2 : L ≤ 2048) (hi : i + 4 ≤ L) (h : li c I A G) : lc c i L 720 I A G := by
  have cL := nI_clamp (show L < 2 ^ 31 by omega)
  have c1 := nI_clamp (show i + 1 < 2 ^ 31 by omega)
  have x1 := am_ixF (show i + 1 < L by omega) (show L < 2 ^ 31 by omega)
  have c2 := nI_clamp (show i + 2 < 2 ^ 31 by omega)
  have x2 := am_ixF (show i + 2 < L by omega) (show L < 2 ^ 31 by omega)
  have c3 := nI_clamp (show i + 3 < 2 ^ 31 by omega)
  have x3 := am_ixF (show i + 3 < L by omega) (show L < 2 ^ 31 by omega)
  obtain ⟨v, I1, A1, G1, I2, A2, h6, h7, hli⟩ := pr_burns h
  dsimp only at h6 h7
  obtain ⟨k1, k2⟩ := am_e_kp h6
  obtain ⟨k3, k4⟩ := am_e_kp h7
  refine ⟨I2, A2, G1, ?_, hli, by rw [k3, k1]; exact hL⟩
  simp only [s_L_law_720, s_L_law_721, s_L_law_724, s_L_law_725, s_L_law_728, hL, cL, c1, x1, c2, x2, c3, x3, am_add1, am_add2, am_add3, if_false, h6, am_k_some, am_push_i, k1, k2, h7, eq_self, if_true]
theorem lc_shaft (hL : I 86 0 = nI L) (hL2 : L ≤ 2048) (hi : i + 4 ≤ L) (h : li c I A G) : lc c i L 733 I A G := by
  have cL := nI_clamp (show L < 2 ^ 31 by omega)
  have c1 := nI_clamp (show i + 1 < 2 ^ 31 by omega)
  have x1 := am_ixF (show i + 1 < L by omega) (show L < 2 ^ 31 by omega)
  have c2 := nI_clamp (show i + 2 < 2 ^ 31 by omega)
  have x2 := am_ixF (show i + 2 < L by omega) (show L < 2 ^ 31 by omega)
  have c3 := nI_clamp (show i + 3 < 2 ^ 31 by omega)
  have x3 := am_ixF (show i + 3 < L by omega) (show L < 2 ^ 31 by omega)
  obtain ⟨v, I1, A1, G1, I2, A2, h6, h7, hli⟩ := pr_shaft (x := A 86 (i + 1)) h
  dsimp only at h6 h7
  obtain ⟨k1, k2⟩ := am_e_kp h6
  obtain ⟨k3, k4⟩ := am_e_kp h7
  refine ⟨I2, A2, G1, ?_, hli, by rw [k3, k1]; exact hL⟩
  simp only [s_L_law_733, s_L_law_734, s_L_law_735, s_L_law_736, s_L_law_737, s_L_law_738, s_L_law_739, s_L_law_742, s_L_law_743, s_L_law_744, s_L_law_745, s_L_law_746, s_L_law_747, s_L_law_748, s_L_law_751, hL, cL, c1, x1, c2, x2, c3, x3, am_add1, am_add2, am_add3, if_false, h6, am_k_some, am_push_i, k1, k2, h7, eq_self, if_true]
theorem lc_lamps (hL : I 86 0 = nI L) (hL2 : L ≤ 2048) (hi : i + 4 ≤ L) (h : li c I A G) : lc c i L 756 I A G := by
  have cL := nI_clamp (show L < 2 ^ 31 by omega)
  have c1 := nI_clamp (show i + 1 < 2 ^ 31 by omega)
  have x1 := am_ixF (show i + 1 < L by omega) (show L < 2 ^ 31 by omega)
  have c2 := nI_clamp (show i + 2 < 2 ^ 31 by omega)
  have x2 := am_ixF (show i + 2 < L by omega) (show L < 2 ^ 31 by omega)
  have c3 := nI_clamp (show i + 3 < 2 ^ 31 by omega)
  have x3 := am_ixF (show i + 3 < L by omega) (show L < 2 ^ 31 by omega)
  obtain ⟨v, I1, A1, G1, I2, A2, h6, h7, hli⟩ := pr_lamps (x := A 86 (i + 1)) h
  dsimp only at h6 h7
  obtain ⟨k1, k2⟩ := am_e_kp h6
  obtain ⟨k3, k4⟩ := am_e_kp h7
  refine ⟨I2, A2, G1, ?_, hli, by rw [k3, k1]; exact hL⟩
  simp only [s_L_law_756, s_L_law_757, s_L_law_758, s_L_law_759, s_L_law_760, s_L_law_761, s_L_law_762, s_L_law_765, s_L_law_766, s_L_law_767, s_L_law_768, s_L_law_769, s_L_law_770, s_L_law_771, s_L_law_774, hL, cL, c1, x1, c2, x2, c3, x3, am_add1, am_add2, am_add3, if_false, h6, am_k_some, am_push_i, k1, k2, h7, eq_self, if_true]
theorem lc_weather (hL : I 86 0 = nI L) (hL2 : L ≤ 2048) (hi : i + 4 ≤ L) (h : li c I A G) : lc c i L 779 I A G := by
  have cL := nI_clamp (show L < 2 ^ 31 by omega)
  have c1 := nI_clamp (show i + 1 < 2 ^ 31 by omega)
  have x1 := am_ixF (show i + 1 < L by omega) (show L < 2 ^ 31 by omega)
  have c2 := nI_clamp (show i + 2 < 2 ^ 31 by omega)
  have x2 := am_ixF (show i + 2 < L by omega) (show L < 2 ^ 31 by omega)
  have c3 := nI_clamp (show i + 3 < 2 ^ 31 by omega)
  have x3 := am_ixF (show i + 3 < L by omega) (show L < 2 ^ 31 by omega)
  obtain ⟨v, I1, A1, G1, I2, A2, h6, h7, hli⟩ := pr_weather (x := A 86 (i + 1)) (y := A 86 (i + 2)) h
  dsimp only at h6 h7
  obtain ⟨k1, k2⟩ := am_e_kp h6
  obtain ⟨k3, k4⟩ := am_e_kp h7
  refine ⟨I2, A2, G1, ?_, hli, by rw [k3, k1]; exact hL⟩
  simp only [s_L_law_779, s_L_law_780, s_L_law_781, s_L_law_782, s_L_law_783, s_L_law_784, s_L_law_785, s_L_law_786, s_L_law_787, s_L_law_788, s_L_law_789, s_L_law_790, s_L_law_793, s_L_law_794, s_L_law_795, s_L_law_796, s_L_law_797, s_L_law_798, s_L_law_799, s_L_law_800, s_L_law_801, s_L_law_802, s_L_law_803, s_L_law_804, s_L_law_807, hL, cL, c1, x1, c2, x2, c3, x3, am_add1, am_add2, am_add3, if_false, h6, am_k_some, am_push_i, k1, k2, h7, eq_self, if_true]
theorem lc_keep (hL : I 86 0 = nI L) (hL2 : L ≤ 2048) (hi : i + 4 ≤ L) (h : li c I A G) : lc c i L 812 I A G := by
  have cL := nI_clamp (show L < 2 ^ 31 by omega)
  have c1 := nI_clamp (show i + 1 < 2 ^ 31 by omega)
  have x1 := am_ixF (show i + 1 < L by omega) (show L < 2 ^ 31 by omega)
  have c2 := nI_clamp (show i + 2 < 2 ^ 31 by omega)
  have x2 := am_ixF (show i + 2 < L by omega) (show L < 2 ^ 31 by omega)
  have c3 := nI_clamp (show i + 3 < 2 ^ 31 by omega)
  have x3 := am_ixF (show i + 3 < L by omega) (show L < 2 ^ 31 by omega)
  obtain ⟨v, I1, A1, G1, I2, A2, h6, h7, hli⟩ := pr_keep h
  dsimp only at h6 h7
  obtain ⟨k1, k2⟩ := am_e_kp h6
  obtain ⟨k3, k4⟩ := am_e_kp h7
  refine ⟨I2, A2, G1, ?_, hli, by rw [k3, k1]; exact hL⟩
  simp only [s_L_law_812, s_L_law_813, s_L_law_816, s_L_law_817, s_L_law_820, hL, cL, c1, x1, c2, x2, c3, x3, am_add1, am_add2, am_add3, if_false, h6, am_k_some, am_push_i, k1, k2, h7, eq_self, if_true]
theorem lc_back (hL : I 86 0 = nI L) (hL2 : L ≤ 2048) (hi : i + 4 ≤ L) (h : li c I A G) : lc c i L 825 I A G := by
  have cL := nI_clamp (show L < 2 ^ 31 by omega)
  have c1 := nI_clamp (show i + 1 < 2 ^ 31 by omega)
  have x1 := am_ixF (show i + 1 < L by omega) (show L < 2 ^ 31 by omega)
  have c2 := nI_clamp (show i + 2 < 2 ^ 31 by omega)
  have x2 := am_ixF (show i + 2 < L by omega) (show L < 2 ^ 31 by omega)
  have c3 := nI_clamp (show i + 3 < 2 ^ 31 by omega)
  have x3 := am_ixF (show i + 3 < L by omega) (show L < 2 ^ 31 by omega)
  obtain ⟨v, I1, A1, G1, I2, A2, h6, h7, hli⟩ := pr_back h
  dsimp only at h6 h7
  obtain ⟨k1, k2⟩ := am_e_kp h6
  obtain ⟨k3, k4⟩ := am_e_kp h7
  refine ⟨I2, A2, G1, ?_, hli, by rw [k3, k1]; exact hL⟩
  simp only [s_L_law_825, s_L_law_826, s_L_law_829, s_L_law_830, s_L_law_833, hL, cL, c1, x1, c2, x2, c3, x3, am_add1, am_add2, am_add3, if_false, h6, am_k_some, am_push_i, k1, k2, h7, eq_self, if_true]
theorem lc_count (hL : I 86 0 = nI L) (hL2 : L ≤ 2048) (hi : i + 4 ≤ L) (h : li c I A G) : lc c i L 838 I A G := by
  have cL := nI_clamp (show L < 2 ^ 31 by omega)
  have c1 := nI_clamp (show i + 1 < 2 ^ 31 by omega)
  have x1 := am_ixF (show i + 1 < L by omega) (show L < 2 ^ 31 by omega)
  have c2 := nI_clamp (show i + 2 < 2 ^ 31 by omega)
  have x2 := am_ixF (show i + 2 < L by omega) (show L < 2 ^ 31 by omega)
  have c3 := nI_clamp (show i + 3 < 2 ^ 31 by omega)
  have x3 := am_ixF (show i + 3 < L by omega) (show L < 2 ^ 31 by omega)
  obtain ⟨v, I1, A1, G1, I2, A2, h6, h7, hli⟩ := pr_count (x := A 86 (i + 1)) h
  dsimp only at h6 h7
  obtain ⟨k1, k2⟩ := am_e_kp h6
  obtain ⟨k3, k4⟩ := am_e_kp h7
  refine ⟨I2, A2, G1, ?_, hli, by rw [k3, k1]; exact hL⟩
  simp only [s_L_law_838, s_L_law_839, s_L_law_840, s_L_law_841, s_L_law_842, s_L_law_843, s_L_law_844, s_L_law_847, s_L_law_848, s_L_law_849, s_L_law_850, s_L_law_851, s_L_law_852, s_L_law_853, s_L_law_856, hL, cL, c1, x1, c2, x2, c3, x3, am_add1, am_add2, am_add3, if_false, h6, am_k_some, am_push_i, k1, k2, h7, eq_self, if_true]
theorem am_L4 (hL2 : L ≤ 2048) (hi2 : i ≤ 4096) : (nI L - 4 < nI i) = (L < i + 4) := by
  have e : (nI L - 4).toInt = (L : Int) - (4 : Nat) := pk_sub_toInt (a := L) (b := 4) (by omega) (by omega)
  rw [Int32.lt_iff_toInt_lt, e, nI_toInt (by omega)]
  exact propext ⟨fun h => by omega, fun h => by omega⟩
theorem law_step (hL : I 86 0 = nI L) (hL2 : L ≤ 2048) (hi : i + 4 ≤ L) (hc : c ≤ 512) (h : li c I A G) : ∃ (I' A' : am_F) (G' : am_G), am_e 133 18 [.ref 86, .ref 0, .ref 69, .int (nI i)] [] I A G = am_e 133 18 [.ref 86, .ref 0, .ref 69, .int (nI (i + 4))] [] I' A' G' ∧ li (c + 1) I' A' G' ∧ I' 86 0 = nI L := by
  have key : ∀ pc, lc c i L pc I A G → am_e 133 18 [.ref 86, .ref 0, .ref 69, .int (nI i)] [] I A G = am_e 133 pc [.ref 86, .ref 0, .ref 69, .int (nI i)] [] I A G → ∃ (I' A' : am_F) (G' : am_G), am_e 133 18 [.ref 86, .ref 0, .ref 69, .int (nI i)] [] I A G = am_e 133 18 [.ref 86, .ref 0, .ref 69, .int (nI (i + 4))] [] I' A' G' ∧ li (c + 1) I' A' G' ∧ I' 86 0 = nI L := by
    intro pc hlc he
    obtain ⟨I', A', G', f1, f2, f3⟩ := hlc
    refine ⟨I', A', G', ?_, f2, f3⟩
    rw [he, f1]
    have a4 : nI i + 4 = nI (i + 4) := nI_add i 4
    simp only [s_L_law_861, s_L_law_864, a4]
  have cL := nI_clamp (show L < 2 ^ 31 by omega)
  have c0 := nI_clamp (show i < 2 ^ 31 by omega)
  have x0 := am_ixF (show i < L by omega) (show L < 2 ^ 31 by omega)
  have hlt := (am_L4 (L := L) (i := i) hL2 (by omega)).trans (eq_false (by omega))
  have e0 := @s_L_law_18 (.ref 86) (.ref 0) (.ref 69) (nI i) [] I A G
  simp only [s_L_law_19, s_L_law_20, s_L_law_21, s_L_law_22, s_L_law_23, s_L_law_26, s_L_law_27, s_L_law_28, s_L_law_29, s_L_law_31, hL, hlt, if_false, cL, c0, x0] at e0
  rw [s_L_law_32] at e0
  by_cases q0 : A 86 i &&& 31 = 0
  · rw [if_pos q0] at e0
    exact key 148 (lc_write hL hL2 hi h) e0
  rw [if_neg q0] at e0
  by_cases q1 : A 86 i &&& 31 = 1
  · rw [if_pos q1] at e0
    exact key 211 (lc_wipe hL hL2 hi h) e0
  rw [if_neg q1] at e0
  by_cases q2 : A 86 i &&& 31 = 2
  · rw [if_pos q2] at e0
    exact key 224 (lc_fault hL hL2 hi h) e0
  rw [if_neg q2] at e0
  by_cases q3 : A 86 i &&& 31 = 3
  · rw [if_pos q3] at e0
    exact key 237 (lc_lay hL hL2 hi h) e0
  rw [if_neg q3] at e0
  by_cases q4 : A 86 i &&& 31 = 4
  · rw [if_pos q4] at e0
    exact key 250 (lc_hall hL hL2 hi h) e0
  rw [if_neg q4] at e0
  by_cases q5 : A 86 i &&& 31 = 5
  · rw [if_pos q5] at e0
    exact key 283 (lc_door hL hL2 hi h) e0
  rw [if_neg q5] at e0
  by_cases q6 : A 86 i &&& 31 = 6
  · rw [if_pos q6] at e0
    exact key 316 (lc_set hL hL2 hi h) e0
  rw [if_neg q6] at e0
  by_cases q7 : A 86 i &&& 31 = 7
  · rw [if_pos q7] at e0
    exact key 365 (lc_flood hL hL2 hi h) e0
  rw [if_neg q7] at e0
  by_cases q8 : A 86 i &&& 31 = 8
  · rw [if_pos q8] at e0
    exact key 414 (lc_goes hL hL2 hi h) e0
  rw [if_neg q8] at e0
  by_cases q9 : A 86 i &&& 31 = 9
  · rw [if_pos q9] at e0
    exact key 437 (lc_air hL hL2 hi h) e0
  rw [if_neg q9] at e0
  by_cases q10 : A 86 i &&& 31 = 10
  · rw [if_pos q10] at e0
    exact key 470 (lc_through hL hL2 hi h) e0
  rw [if_neg q10] at e0
  by_cases q11 : A 86 i &&& 31 = 11
  · rw [if_pos q11] at e0
    exact key 503 (lc_downwind hL hL2 hi h) e0
  rw [if_neg q11] at e0
  by_cases q12 : A 86 i &&& 31 = 12
  · rw [if_pos q12] at e0
    exact key 536 (lc_hours hL hL2 hi hc h) e0
  rw [if_neg q12] at e0
  by_cases q13 : A 86 i &&& 31 = 13
  · rw [if_pos q13] at e0
    exact key 559 (lc_clean hL hL2 hi h) e0
  rw [if_neg q13] at e0
  by_cases q14 : A 86 i &&& 31 = 14
  · rw [if_pos q14] at e0
    exact key 582 (lc_settings hL hL2 hi h) e0
  rw [if_neg q14] at e0
  by_cases q15 : A 86 i &&& 31 = 15
  · rw [if_pos q15] at e0
    exact key 605 (lc_first hL hL2 hi h) e0
  rw [if_neg q15] at e0
  by_cases q16 : A 86 i &&& 31 = 16
  · rw [if_pos q16] at e0
    exact key 648 (lc_smelled hL hL2 hi h) e0
  rw [if_neg q16] at e0
  by_cases q17 : A 86 i &&& 31 = 17
  · rw [if_pos q17] at e0
    exact key 707 (lc_forget hL hL2 hi h) e0
  rw [if_neg q17] at e0
  by_cases q18 : A 86 i &&& 31 = 18
  · rw [if_pos q18] at e0
    exact key 720 (lc_burns hL hL2 hi h) e0
  rw [if_neg q18] at e0
  by_cases q19 : A 86 i &&& 31 = 19
  · rw [if_pos q19] at e0
    exact key 733 (lc_shaft hL hL2 hi h) e0
  rw [if_neg q19] at e0
  by_cases q20 : A 86 i &&& 31 = 20
  · rw [if_pos q20] at e0
    exact key 756 (lc_lamps hL hL2 hi h) e0
  rw [if_neg q20] at e0
  by_cases q21 : A 86 i &&& 31 = 21
  · rw [if_pos q21] at e0
    exact key 779 (lc_weather hL hL2 hi h) e0
  rw [if_neg q21] at e0
  by_cases q22 : A 86 i &&& 31 = 22
  · rw [if_pos q22] at e0
    exact key 812 (lc_keep hL hL2 hi h) e0
  rw [if_neg q22] at e0
  by_cases q23 : A 86 i &&& 31 = 23
  · rw [if_pos q23] at e0
    exact key 825 (lc_back hL hL2 hi h) e0
  rw [if_neg q23] at e0
  by_cases q24 : A 86 i &&& 31 = 24
  · rw [if_pos q24] at e0
    exact key 838 (lc_count hL hL2 hi h) e0
  rw [if_neg q24] at e0
  obtain ⟨P, s, k, K, m, z, n, t, p, p', hv, hx⟩ := h
  exact key 861 ⟨I, A, G, rfl, ⟨P, s, k, K, m, z, n, t, p, p', hv.s, hx⟩, hL⟩ e0
theorem law_loop (hL2 : L ≤ 2048) : ∀ (r i c : Nat) (I A : am_F) (G : am_G), L < i + 4 * r → i ≤ 2048 → c + r ≤ 514 → I 86 0 = nI L → li c I A G → ∃ (I' A' : am_F) (G' : am_G), am_e 133 18 [.ref 86, .ref 0, .ref 69, .int (nI i)] [] I A G = some (.int 1, I', A', G') := by
  have hend : ∀ (i : Nat) (I A : am_F) (G : am_G), L < i + 4 → i ≤ 4096 → I 86 0 = nI L → am_e 133 18 [.ref 86, .ref 0, .ref 69, .int (nI i)] [] I A G = some (.int 1, I, A, G) := by
    intro i I A G h1 h2 hL
    have hlt := (am_L4 (L := L) (i := i) hL2 h2).trans (eq_true h1)
    refine (s_L_law_18).trans ?_
    simp only [s_L_law_19, s_L_law_20, s_L_law_21, s_L_law_22, s_L_law_23, s_L_law_867, s_L_law_868, hL, hlt, if_true, or_true]
  intro r
  induction r with
  | zero =>
    intro i c I A G h1 h2 h3 hL h
    exact ⟨I, A, G, hend i I A G (by omega) (by omega) hL⟩
  | succ r ih =>
    intro i c I A G h1 h2 h3 hL h
    by_cases hi : i + 4 ≤ L
    · obtain ⟨I1, A1, G1, f1, f2, f3⟩ := law_step hL hL2 hi (by omega) h
      rw [f1]
      exact ih (i + 4) (c + 1) I1 A1 G1 (by omega) (by omega) (by omega) f3 f2
    · exact ⟨I, A, G, hend i I A G (by omega) (by omega) hL⟩
end LAW
