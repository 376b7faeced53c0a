/-! ===== shaft, the class ===== -/
theorem am_cp8 : (¬ (0 : Int32) < 0 ∧ ¬ (0 : Int32) < 0 ∧ ¬ (8 : Int32) < 0 ∧ (0 : Int32).toNatClampNeg + (8 : Int32).toNatClampNeg ≤ 8 ∧ (0 : Int32).toNatClampNeg + (8 : Int32).toNatClampNeg ≤ 8) = True := by decide
theorem am_cp10 : (¬ (0 : Int32) < 0 ∧ ¬ (0 : Int32) < 0 ∧ ¬ (10 : Int32) < 0 ∧ (0 : Int32).toNatClampNeg + (10 : Int32).toNatClampNeg ≤ 10 ∧ (0 : Int32).toNatClampNeg + (10 : Int32).toNatClampNeg ≤ 10) = True := by decide
theorem am_k0 : (0 : Int32).toNatClampNeg = 0 := by decide
theorem am_k8 : (8 : Int32).toNatClampNeg = 8 := by decide
theorem am_k10 : (10 : Int32).toNatClampNeg = 10 := by decide
theorem e_X2_copyFrom {p p' : Nat} {P : sg_P} {I A : am_F} {G : am_G} (hpp : (p = 5 ∧ p' = 25) ∨ (p = 25 ∧ p' = 5)) (hv : vp_p P) (hq : cr_q p P I A) : ∃ I' A' : am_F, am_e 6 0 [.ref p', .ref p] [] I A G = some (.null, I', A', G) ∧ fr_p p' I A I' A' ∧ cr_q p' P I' A' := by
  have hH := hv.1.2
  have hD := hv.2.1
  obtain ⟨⟨c1, c2, c3, c4, c5, c6, c7, c8, c9, c10⟩, c11⟩ := hq
  rcases hpp with ⟨rfl, rfl⟩ | ⟨rfl, rfl⟩
  all_goals
    refine ⟨_, _, by simp only [s_X2_copyFrom_0, s_X2_copyFrom_1_at5, s_X2_copyFrom_1_at25, s_X2_copyFrom_4, s_X2_copyFrom_5, s_X2_copyFrom_6_at5, s_X2_copyFrom_6_at25, s_X2_copyFrom_9, s_X2_copyFrom_10, s_X2_copyFrom_12_at6_26, s_X2_copyFrom_12_at7_27, s_X2_copyFrom_12_at8_28, s_X2_copyFrom_12_at9_29, s_X2_copyFrom_12_at10_30, s_X2_copyFrom_12_at11_31, s_X2_copyFrom_12_at12_32, s_X2_copyFrom_12_at26_6, s_X2_copyFrom_12_at27_7, s_X2_copyFrom_12_at28_8, s_X2_copyFrom_12_at29_9, s_X2_copyFrom_12_at30_10, s_X2_copyFrom_12_at31_11, s_X2_copyFrom_12_at32_12, s_X2_copyFrom_15, s_X2_copyFrom_16_at5, s_X2_copyFrom_16_at25, s_X2_copyFrom_19, s_X2_copyFrom_20, s_X2_copyFrom_21_at5, s_X2_copyFrom_21_at25, s_X2_copyFrom_24, s_X2_copyFrom_25, s_X2_copyFrom_27_at6_26, s_X2_copyFrom_27_at7_27, s_X2_copyFrom_27_at8_28, s_X2_copyFrom_27_at9_29, s_X2_copyFrom_27_at10_30, s_X2_copyFrom_27_at11_31, s_X2_copyFrom_27_at12_32, s_X2_copyFrom_27_at26_6, s_X2_copyFrom_27_at27_7, s_X2_copyFrom_27_at28_8, s_X2_copyFrom_27_at29_9, s_X2_copyFrom_27_at30_10, s_X2_copyFrom_27_at31_11, s_X2_copyFrom_27_at32_12, s_X2_copyFrom_30, s_X2_copyFrom_31_at5, s_X2_copyFrom_31_at25, s_X2_copyFrom_34, s_X2_copyFrom_35, s_X2_copyFrom_36_at5, s_X2_copyFrom_36_at25, s_X2_copyFrom_39, s_X2_copyFrom_40, s_X2_copyFrom_42_at6_26, s_X2_copyFrom_42_at7_27, s_X2_copyFrom_42_at8_28, s_X2_copyFrom_42_at9_29, s_X2_copyFrom_42_at10_30, s_X2_copyFrom_42_at11_31, s_X2_copyFrom_42_at12_32, s_X2_copyFrom_42_at26_6, s_X2_copyFrom_42_at27_7, s_X2_copyFrom_42_at28_8, s_X2_copyFrom_42_at29_9, s_X2_copyFrom_42_at30_10, s_X2_copyFrom_42_at31_11, s_X2_copyFrom_42_at32_12, s_X2_copyFrom_45, s_X2_copyFrom_46_at5, s_X2_copyFrom_46_at25, s_X2_copyFrom_49, s_X2_copyFrom_50, s_X2_copyFrom_51_at5, s_X2_copyFrom_51_at25, s_X2_copyFrom_54, s_X2_copyFrom_55, s_X2_copyFrom_57_at6_26, s_X2_copyFrom_57_at7_27, s_X2_copyFrom_57_at8_28, s_X2_copyFrom_57_at9_29, s_X2_copyFrom_57_at10_30, s_X2_copyFrom_57_at11_31, s_X2_copyFrom_57_at12_32, s_X2_copyFrom_57_at26_6, s_X2_copyFrom_57_at27_7, s_X2_copyFrom_57_at28_8, s_X2_copyFrom_57_at29_9, s_X2_copyFrom_57_at30_10, s_X2_copyFrom_57_at31_11, s_X2_copyFrom_57_at32_12, s_X2_copyFrom_60, s_X2_copyFrom_61_at5, s_X2_copyFrom_61_at25, s_X2_copyFrom_64, s_X2_copyFrom_65, s_X2_copyFrom_66_at5, s_X2_copyFrom_66_at25, s_X2_copyFrom_69, s_X2_copyFrom_70, s_X2_copyFrom_72_at6_26, s_X2_copyFrom_72_at7_27, s_X2_copyFrom_72_at8_28, s_X2_copyFrom_72_at9_29, s_X2_copyFrom_72_at10_30, s_X2_copyFrom_72_at11_31, s_X2_copyFrom_72_at12_32, s_X2_copyFrom_72_at26_6, s_X2_copyFrom_72_at27_7, s_X2_copyFrom_72_at28_8, s_X2_copyFrom_72_at29_9, s_X2_copyFrom_72_at30_10, s_X2_copyFrom_72_at31_11, s_X2_copyFrom_72_at32_12, s_X2_copyFrom_75, s_X2_copyFrom_76_at5, s_X2_copyFrom_76_at25, s_X2_copyFrom_79, s_X2_copyFrom_80, s_X2_copyFrom_81_at5, s_X2_copyFrom_81_at25, s_X2_copyFrom_84, s_X2_copyFrom_85, s_X2_copyFrom_87_at6_26, s_X2_copyFrom_87_at7_27, s_X2_copyFrom_87_at8_28, s_X2_copyFrom_87_at9_29, s_X2_copyFrom_87_at10_30, s_X2_copyFrom_87_at11_31, s_X2_copyFrom_87_at12_32, s_X2_copyFrom_87_at26_6, s_X2_copyFrom_87_at27_7, s_X2_copyFrom_87_at28_8, s_X2_copyFrom_87_at29_9, s_X2_copyFrom_87_at30_10, s_X2_copyFrom_87_at31_11, s_X2_copyFrom_87_at32_12, s_X2_copyFrom_90, s_X2_copyFrom_91_at5, s_X2_copyFrom_91_at25, s_X2_copyFrom_94, s_X2_copyFrom_95, s_X2_copyFrom_96_at5, s_X2_copyFrom_96_at25, s_X2_copyFrom_99, s_X2_copyFrom_100, s_X2_copyFrom_102_at6_26, s_X2_copyFrom_102_at7_27, s_X2_copyFrom_102_at8_28, s_X2_copyFrom_102_at9_29, s_X2_copyFrom_102_at10_30, s_X2_copyFrom_102_at11_31, s_X2_copyFrom_102_at12_32, s_X2_copyFrom_102_at26_6, s_X2_copyFrom_102_at27_7, s_X2_copyFrom_102_at28_8, s_X2_copyFrom_102_at29_9, s_X2_copyFrom_102_at30_10, s_X2_copyFrom_102_at31_11, s_X2_copyFrom_102_at32_12, s_X2_copyFrom_105, s_X2_copyFrom_106, s_X2_copyFrom_107_at5, s_X2_copyFrom_107_at25, s_X2_copyFrom_110_at5, s_X2_copyFrom_110_at25, s_X2_copyFrom_113, s_X2_copyFrom_114, s_X2_copyFrom_115_at5, s_X2_copyFrom_115_at25, s_X2_copyFrom_118_at5, s_X2_copyFrom_118_at25, s_X2_copyFrom_121, s_X2_copyFrom_122, s_X2_copyFrom_123_at5, s_X2_copyFrom_123_at25, s_X2_copyFrom_126_at5, s_X2_copyFrom_126_at25, s_X2_copyFrom_129, s_X2_copyFrom_130, s_X2_copyFrom_131_at5, s_X2_copyFrom_131_at25, s_X2_copyFrom_134_at5, s_X2_copyFrom_134_at25, s_X2_copyFrom_137, s_X2_copyFrom_138, s_X2_copyFrom_139_at5, s_X2_copyFrom_139_at25, s_X2_copyFrom_142_at5, s_X2_copyFrom_142_at25, s_X2_copyFrom_145, s_X2_copyFrom_146, s_X2_copyFrom_147_at5, s_X2_copyFrom_147_at25, s_X2_copyFrom_150_at5, s_X2_copyFrom_150_at25, s_X2_copyFrom_153, s_X2_copyFrom_154, s_X2_copyFrom_155_at5, s_X2_copyFrom_155_at25, s_X2_copyFrom_158_at5, s_X2_copyFrom_158_at25, s_X2_copyFrom_161, s_X2_copyFrom_162, s_X2_copyFrom_163_at5, s_X2_copyFrom_163_at25, s_X2_copyFrom_166_at5, s_X2_copyFrom_166_at25, s_X2_copyFrom_169, s_X2_copyFrom_170, s_X2_copyFrom_171_at5, s_X2_copyFrom_171_at25, s_X2_copyFrom_174_at5, s_X2_copyFrom_174_at25, s_X2_copyFrom_177, am_cp8, am_cp10, if_true, am_k0, am_k8, am_k10]; rfl, ⟨fun a j ha => by simp only [am_u_ne ha], fun a ha => by
      simp only [am_ur]
      rw [if_neg (by omega), if_neg (by omega), if_neg (by omega), if_neg (by omega), if_neg (by omega), if_neg (by omega), if_neg (by omega)]⟩, ⟨by simp [am_u_at, c1], by simp [am_u_at, c2], fun i hi => ?_, fun d hd => ?_, by simp [am_u_at, c5], by simp [am_u_at, c6], by simp [am_u_at, c7], by simp [am_u_at, c8], by simp [am_u_at, c9], by simp [am_u_at, c10]⟩, by simp [am_u_at, c11]⟩
    · have hi8 : i < 8 := by omega
      obtain ⟨q1, q2, q3⟩ := c3 i hi
      refine ⟨?_, ?_, ?_⟩ <;> (simp [am_ur, va_cpy, hi8]; first | exact q1 | exact q2 | exact q3)
    · have hd8 : d < 10 := by omega
      obtain ⟨q1, q2, q3, q4⟩ := c4 d hd
      refine ⟨?_, ?_, ?_, ?_⟩ <;> (simp [am_ur, va_cpy, hd8]; first | exact q1 | exact q2 | exact q3 | exact q4)
theorem vp_p.vq {P : sg_P} (h : vp_p P) : vq_p P := by
  obtain ⟨a1, a2, a3, a4, a5, a6, a7, a8, a9, a10⟩ := h
  exact ⟨a1.2, a2, a3, a4, a5, a6, a7, a8, Or.inr a9, a10⟩
/-- the plan with a shaft -/
abbrev pf_sp (P : sg_P) (i : Nat) : sg_P := pf_doorP P i 8 10 0
theorem pf_sp_7 (P : sg_P) (i : Nat) {j : Nat} (h : j ≠ 1) : pf_sp P i 7 j = P 7 j := by simp [pf_sp, pf_doorP, am_uN, h]
theorem pf_sp_71 (P : sg_P) (i : Nat) : pf_sp P i 7 1 = P 7 1 + 1 := by simp [pf_sp, pf_doorP, am_uN]
theorem pf_sp_h (P : sg_P) (i : Nat) {a : Nat} (ha : a < 3) (j : Nat) : pf_sp P i a j = P a j := by
  simp only [pf_sp, pf_doorP, am_uN]
  rw [if_neg (by omega), if_neg (by omega), if_neg (by omega), if_neg (by omega), if_neg (by omega)]
theorem pf_sp_d (P : sg_P) (i : Nat) {a d : Nat} (ha : a ≠ 7) (hd : d ≠ P 7 1) : pf_sp P i a d = P a d := by
  simp only [pf_sp, pf_doorP, am_uN]
  rw [if_neg (by omega), if_neg (by omega), if_neg (by omega), if_neg (by omega), if_neg (by omega)]
theorem pf_sp_n (P : sg_P) (i : Nat) : pf_sp P i 3 (P 7 1) = i ∧ pf_sp P i 4 (P 7 1) = 8 ∧ pf_sp P i 5 (P 7 1) = 10 ∧ pf_sp P i 6 (P 7 1) = 0 := by
  simp [pf_sp, pf_doorP, am_uN]
theorem pf_sp_v {P : sg_P} (hv : vp_p P) {i : Nat} (hi : i < P 7 0) (hD : P 7 1 < 10) : vp_p (pf_sp P i) := by
  obtain ⟨a1, a2, a3, a4, a5, a6, a7, a8, a9, a10⟩ := hv
  obtain ⟨n1, n2, n3, n4⟩ := pf_sp_n P i
  unfold vp_p
  rw [pf_sp_7 P i (show 0 ≠ 1 by omega), pf_sp_71, pf_sp_7 P i (show 2 ≠ 1 by omega), pf_sp_7 P i (show 3 ≠ 1 by omega), pf_sp_7 P i (show 4 ≠ 1 by omega), pf_sp_7 P i (show 5 ≠ 1 by omega), pf_sp_7 P i (show 6 ≠ 1 by omega), pf_sp_7 P i (show 7 ≠ 1 by omega)]
  refine ⟨a1, by omega, fun j hj => ?_, fun d hd => ?_, a5, a6, a7, a8, a9, a10⟩
  · rw [pf_sp_h P i (by omega), pf_sp_h P i (by omega), pf_sp_h P i (by omega)]; exact a3 j hj
  · rw [pf_sp_h P i (show 0 < 3 by omega), pf_sp_h P i (show 0 < 3 by omega)]
    by_cases q : d = P 7 1
    · rw [q, n1, n2, n3, n4]
      exact ⟨hi, Or.inl rfl, by omega, by omega⟩
    · rw [pf_sp_d P i (by omega) q, pf_sp_d P i (by omega) q, pf_sp_d P i (by omega) q, pf_sp_d P i (by omega) q]
      exact a4 d (by omega)
/-- what the class's shaft leaves as it is -/
def fr_s (p' : Nat) (I A : am_F) (G : am_G) (I' A' : am_F) (G' : am_G) : Prop := (∀ a j, ¬ (p' ≤ a ∧ a ≤ p' + 19) → I' a j = I a j) ∧ (∀ b, ¬ ((p' ≤ b ∧ b ≤ p' + 19) ∨ (59 ≤ b ∧ b ≤ 62)) → A' b = A b) ∧ ∀ a j, ¬ (a = 58 ∧ j = 4) → G' a j = G a j
theorem fr_s.rf (p' : Nat) (I A : am_F) (G : am_G) : fr_s p' I A G I A G := ⟨fun _ _ _ => rfl, fun _ _ => rfl, fun _ _ _ => rfl⟩
theorem fr_s.tr {p' : Nat} {I A I' A' I'' A'' : am_F} {G G' G'' : am_G} (h1 : fr_s p' I A G I' A' G') (h2 : fr_s p' I' A' G' I'' A'' G'') : fr_s p' I A G I'' A'' G'' := ⟨fun a j h => by rw [h2.1 a j h, h1.1 a j h], fun b hb => by rw [h2.2.1 b hb, h1.2.1 b hb], fun a j h => by rw [h2.2.2 a j h, h1.2.2 a j h]⟩
theorem ck.fs {P : sg_P} {s : sg_S} {p p' : Nat} {I A I' A' : am_F} {G G' : am_G} (h : ck P s p p' I A G) (hf : fr_s p' I A G I' A' G') : ck P s p p' I' A' G' := by
  obtain ⟨h1, h2, h3, h4⟩ := h
  have hr := h1.2.2
  exact ⟨⟨by rw [hf.2.2 0 3 (by omega)]; exact h1.1, by rw [hf.2.2 0 4 (by omega)]; exact h1.2.1, h1.2.2⟩, h2.fr (fun j => hf.1 p j (by omega)) (fun a q1 q2 => hf.2.1 a (by omega)), h3.fr (fun a j q1 q2 => hf.1 a j (by omega)) (fun b q1 q2 => hf.2.1 b (by omega)), h4.fr (fun j => hf.1 45 j (by omega)) (hf.2.1 46 (by omega))⟩
def pf_sv (P : sg_P) (s : sg_S) (i : Nat) : Nat := pf_la (pf_sp P i) (s.1 ||| ((1 : Int32) <<< (nI (P 7 1) &&& 31))) s.2.1 (P 7 6)
theorem pf_sv_le {P : sg_P} (hv : vp_p P) (s : sg_S) {i : Nat} (hi : i < P 7 0) (hD : P 7 1 < 10) : pf_sv P s i ≤ 500 := pf_la_le (pf_sp_v hv hi hD) _ _ (by rw [pf_sp_7 P i (by omega)]; exact hv.2.2.2.2.2.2.2.2.1)
theorem e_X6_wardAirWithShaft {p p' i : Nat} {P : sg_P} {s : sg_S} {I A : am_F} {G : am_G} (hv : vp_p P) (hs : sv_s P s) (hi : i < P 7 0) (hD : P 7 1 < 10) (hc : ck P s p p' I A G) (hd : cr_q p' P I A) : ∃ (I' A' : am_F) (G' : am_G), am_e 76 0 [.ref 0, .int (nI i), .null, .null] [] I A G = some (.int (nI (pf_sv P s i)), I', A', G') ∧ fr_s p' I A G I' A' G' ∧ cr_q p' P I' A' := by
  have hH := hv.1.2
  have hwd := hv.2.2.2.2.2.2.2.2.1
  have hpp' := hc.1.pp.2.1
  have hr := hc.1.2.2
  have hv' := pf_sp_v hv hi hD
  obtain ⟨I1, A1, f1, f2, f3⟩ := (e_X2_addDoor (j := 8) (w := 10) (k := 0) (G := G) hpp' hv.vq hd (by omega) (by omega) (by omega) (by omega)).1 ⟨hD, hi, Or.inl rfl, by omega, by omega, by omega⟩
  obtain ⟨I2, A2, k1, k2, k3, k4⟩ := e_X2_settle (G := G) hpp' hv' f2.1
  have hq2 : cr_q p' (pf_sp P i) I2 A2 := f2.fr (fun j => k2 p' j (by omega) (by omega)) (fun a q1 q2 => k3 a (by omega))
  have i45 : I2 45 1 = s.2.1 := by rw [k2 45 1 (by omega) (by omega), f3.1 45 1 (by omega)]; exact hc.2.2.2.2.1
  have i450 : I2 45 0 = s.1 := by rw [k2 45 0 (by omega) (by omega), f3.1 45 0 (by omega)]; exact hc.2.2.2.1
  have hwd' : P 7 6 < pf_sp P i 7 0 := by rw [pf_sp_7 P i (by omega)]; exact hwd
  obtain ⟨A3, G3, d1, d2⟩ := e_X6_leastAir (o := s.1 ||| ((1 : Int32) <<< (nI (P 7 1) &&& 31))) (f := s.2.1) (i := P 7 6) (G := G) hpp' hv' (hs.h8 hv) hq2.1 k4 i45 hwd'
  have q10 : I p' 10 = nI (P 7 1) := hd.1.2.1
  have q16 : I2 p' 16 = nI (P 7 6) := by rw [hq2.1.2.2.2.2.2.2.2.2.1, pf_sp_7 P i (by omega)]
  have g4 : G3 0 4 = p' := by rw [d2.2 0 4 (by omega)]; exact hc.1.2.1
  have wb : pf_wb s.1 (nI (P 7 1)) 1 = s.1 ||| ((1 : Int32) <<< (nI (P 7 1) &&& 31)) := if_neg (by decide)
  have n8 : nI 8 = 8 := rfl
  have n10 : nI 10 = 10 := rfl
  have n0 : nI 0 = 0 := rfl
  rw [n8, n10, n0] at f1
  refine ⟨am_u I2 p' 10 (nI (P 7 1)), A3, G3, ?_, ⟨fun a j h => by rw [am_u_at, if_neg (by omega), k2 a j (by omega) (by omega), f3.1 a j (by omega)], fun b hb => by rw [d2.1 b (by omega), k3 b (by omega), f3.2 b (by omega)], d2.2⟩, ?_⟩
  · rcases hpp' with rfl | rfl <;> (simp only [s_X6_wardAirWithShaft_0, s_X6_wardAirWithShaft_1, s_X6_wardAirWithShaft_4_at5, s_X6_wardAirWithShaft_4_at25, s_X6_wardAirWithShaft_7, s_X6_wardAirWithShaft_8, s_X6_wardAirWithShaft_9, s_X6_wardAirWithShaft_12, s_X6_wardAirWithShaft_13, s_X6_wardAirWithShaft_15, s_X6_wardAirWithShaft_17, s_X6_wardAirWithShaft_18_at5, s_X6_wardAirWithShaft_18_at25, s_X6_wardAirWithShaft_21, s_X6_wardAirWithShaft_22, s_X6_wardAirWithShaft_23, s_X6_wardAirWithShaft_26_at5, s_X6_wardAirWithShaft_26_at25, s_X6_wardAirWithShaft_29, s_X6_wardAirWithShaft_30, s_X6_wardAirWithShaft_31, s_X6_wardAirWithShaft_34, s_X6_wardAirWithShaft_35, s_X6_wardAirWithShaft_38_at45, s_X6_wardAirWithShaft_38_at48, s_X6_wardAirWithShaft_38_at51, s_X6_wardAirWithShaft_41, s_X6_wardAirWithShaft_42, s_X6_wardAirWithShaft_43, s_X6_wardAirWithShaft_46, s_X6_wardAirWithShaft_47, s_X6_wardAirWithShaft_50_at5, s_X6_wardAirWithShaft_50_at25, s_X6_wardAirWithShaft_53, s_X6_wardAirWithShaft_56, s_X6_wardAirWithShaft_57, s_X6_wardAirWithShaft_58, s_X6_wardAirWithShaft_61, s_X6_wardAirWithShaft_62_at5, s_X6_wardAirWithShaft_62_at25, s_X6_wardAirWithShaft_65, s_X6_wardAirWithShaft_66, hc.1.2.1, q10, f1, am_k_some, am_push_i, am_push_n, k1, i450, e_X6_withBit, wb, q16, d1, g4]; rfl)
  · obtain ⟨⟨c1, c2, c3, c4, c5, c6, c7, c8, c9, c10⟩, c11⟩ := hq2
    have hA : ∀ a, p' < a → a ≤ p' + 7 → A3 a = A2 a := fun a q1 q2 => d2.1 a (by omega)
    refine ⟨⟨?_, am_u_eq _ _ _ _, fun j hj => ?_, fun d hd => ?_, ?_, ?_, ?_, ?_, ?_, ?_⟩, ?_⟩
    · rw [am_u_at, if_neg (by omega), c1, pf_sp_7 P i (by omega)]
    · have := c3 j (by rw [pf_sp_7 P i (by omega)]; exact hj)
      rw [pf_sp_h P i (by omega), pf_sp_h P i (by omega), pf_sp_h P i (by omega)] at this
      rw [hA _ (by omega) (by omega), hA _ (by omega) (by omega), hA _ (by omega) (by omega)]; exact this
    · have := c4 d (by rw [pf_sp_71]; omega)
      rw [pf_sp_d P i (by omega) (by omega), pf_sp_d P i (by omega) (by omega), pf_sp_d P i (by omega) (by omega), pf_sp_d P i (by omega) (by omega)] at this
      rw [hA _ (by omega) (by omega), hA _ (by omega) (by omega), hA _ (by omega) (by omega), hA _ (by omega) (by omega)]; exact this
    · rw [am_u_at, if_neg (by omega), c5, pf_sp_7 P i (by omega)]
    · rw [am_u_at, if_neg (by omega), c6, pf_sp_7 P i (by omega)]
    · rw [am_u_at, if_neg (by omega), c7, pf_sp_7 P i (by omega)]
    · rw [am_u_at, if_neg (by omega), c8, pf_sp_7 P i (by omega)]
    · rw [am_u_at, if_neg (by omega), c9, pf_sp_7 P i (by omega)]
    · rw [am_u_at, if_neg (by omega), c10, pf_sp_7 P i (by omega)]
    · rw [am_u_at, if_neg (by omega), c11, pf_sp_7 P i (by omega)]
      exact pf_smk_c (P 7 0) (fun j _ => pf_sp_h P i (by omega) j)
/-- the best shaft among the halls 0 to n -/
def pf_sx (P : sg_P) (s : sg_S) : Nat → Nat × Nat
  | 0 => (0, pf_sv P s 0)
  | i + 1 => if (pf_sx P s i).2 < pf_sv P s (i + 1) then (i + 1, pf_sv P s (i + 1)) else pf_sx P s i
theorem pf_sx_le {P : sg_P} (hv : vp_p P) (s : sg_S) (hD : P 7 1 < 10) : ∀ n, n < P 7 0 → (pf_sx P s n).2 ≤ 500
  | 0, h => pf_sv_le hv s h hD
  | i + 1, h => by
    unfold pf_sx
    split
    · exact pf_sv_le hv s h hD
    · exact pf_sx_le hv s hD i (by omega)
theorem X6_sfL {p p' : Nat} {P : sg_P} {s : sg_S} {l1 : Value} (hv : vp_p P) (hs : sv_s P s) (hD : P 7 1 < 10) : ∀ (r i : Nat) (g5 : Value) (I A : am_F) (G : am_G), i + r = P 7 0 → 0 < i → ck P s p p' I A G → cr_q p' P I A → ∃ (I' A' : am_F) (G' : am_G) (g5' : Value), am_e 54 42 [.ref 0, l1, .int (nI (pf_sx P s (i - 1)).1), .int (nI (pf_sx P s (i - 1)).2), .int (nI i), g5] [] I A G = am_e 54 80 [.ref 0, l1, .int (nI (pf_sx P s (P 7 0 - 1)).1), .int (nI (pf_sx P s (P 7 0 - 1)).2), .int (nI (P 7 0)), g5'] [] I' A' G' ∧ fr_s p' I A G I' A' G' := by
  have hH := hv.1.2
  intro r
  induction r with
  | zero =>
    intro i g5 I A G hi h0 hc hd
    have : i = P 7 0 := by omega
    subst this
    refine ⟨I, A, G, g5, ?_, fr_s.rf p' I A G⟩
    refine (s_X6_shaft_42).trans ?_
    have q9 := hc.2.1.1.1
    rcases hc.1.pp.1 with rfl | rfl <;> simp only [s_X6_shaft_44, s_X6_shaft_45, s_X6_shaft_48_at5, s_X6_shaft_48_at25, s_X6_shaft_51, hc.1.1, q9, Int32.le_refl, if_true]
  | succ r ih =>
    intro i g5 I A G hi h0 hc hd
    have hil : i < P 7 0 := by omega
    obtain ⟨I1, A1, G1, f1, f2, f3⟩ := e_X6_wardAirWithShaft (i := i) hv hs hil hD hc hd
    obtain ⟨I', A', G', g5', k1, k2⟩ := ih (i + 1) (.int (nI (pf_sv P s i))) I1 A1 G1 (by omega) (by omega) (hc.fs f2) f3
    refine ⟨I', A', G', g5', ?_, f2.tr k2⟩
    rw [← k1]
    refine (s_X6_shaft_42).trans ?_
    have q9 := hc.2.1.1.1
    have hn : (nI (P 7 0) ≤ nI i) = False := eq_false (by rw [nI_leI (by omega) (by omega)]; omega)
    have b1 := pf_sv_le hv s hil hD
    have b2 := pf_sx_le hv s hD (i - 1) (by omega)
    have hle : (nI (pf_sv P s i) ≤ nI (pf_sx P s (i - 1)).2) = (pf_sv P s i ≤ (pf_sx P s (i - 1)).2) := propext (nI_leI (by omega) (by omega))
    have e1 : pf_sx P s (i + 1 - 1) = if (pf_sx P s (i - 1)).2 < pf_sv P s i then (i, pf_sv P s i) else pf_sx P s (i - 1) := by
      rw [show i + 1 - 1 = (i - 1) + 1 by omega]
      show (if (pf_sx P s (i - 1)).2 < pf_sv P s (i - 1 + 1) then (i - 1 + 1, pf_sv P s (i - 1 + 1)) else pf_sx P s (i - 1)) = _
      rw [show i - 1 + 1 = i by omega]
    rw [e1]
    by_cases hlt : (pf_sx P s (i - 1)).2 < pf_sv P s i
    · have hle := hle.trans (eq_false (by omega))
      rw [if_pos hlt]
      rcases hc.1.pp.1 with rfl | rfl <;> simp only [s_X6_shaft_44, s_X6_shaft_45, s_X6_shaft_48_at5, s_X6_shaft_48_at25, s_X6_shaft_51, s_X6_shaft_54, s_X6_shaft_55, s_X6_shaft_57, s_X6_shaft_60, s_X6_shaft_62, s_X6_shaft_64, s_X6_shaft_65, s_X6_shaft_68, s_X6_shaft_70, s_X6_shaft_71, s_X6_shaft_73, s_X6_shaft_74, s_X6_shaft_77, hc.1.1, q9, hn, if_false, f1, am_k_some, am_push_i, hle, am_add1]
    · have hle := hle.trans (eq_true (by omega))
      rw [if_neg hlt]
      rcases hc.1.pp.1 with rfl | rfl <;> simp only [s_X6_shaft_44, s_X6_shaft_45, s_X6_shaft_48_at5, s_X6_shaft_48_at25, s_X6_shaft_51, s_X6_shaft_54, s_X6_shaft_55, s_X6_shaft_57, s_X6_shaft_60, s_X6_shaft_62, s_X6_shaft_64, s_X6_shaft_65, s_X6_shaft_68, s_X6_shaft_70, s_X6_shaft_71, s_X6_shaft_73, s_X6_shaft_74, s_X6_shaft_77, hc.1.1, q9, hn, if_false, f1, am_k_some, am_push_i, hle, if_true, am_add1]
def pf_sha (P : sg_P) (s : sg_S) (x : Int32) : Int32 := if x = 0 ∨ x = 1 then (if P 7 1 = 10 then -2 else if x = 0 then nI (pf_sx P s (P 7 0 - 1)).1 else nI (pf_sx P s (P 7 0 - 1)).2) else -1
theorem e_X6_shaft {p p' : Nat} {P : sg_P} {s : sg_S} {x : Int32} {I A : am_F} {G : am_G} (hv : vp_p P) (hs : sv_s P s) (hc : ck P s p p' I A G) : ∃ (I' A' : am_F) (G' : am_G), am_e 54 0 [.ref 0, .int x, .null, .null, .null, .null] [] I A G = some (.int (pf_sha P s x), I', A', G') ∧ fr_s p' I A G I' A' G' := by
  have hH := hv.1.2
  have hH1 := hv.1.1
  have hDD := hv.2.1
  have hpp := hc.1.pp.1
  have hr := hc.1.2.2
  obtain ⟨x1, x0⟩ := @e_X6_ei x I A G
  have q10 := hc.2.1.1.2.1
  unfold pf_sha
  by_cases hx : x = 0 ∨ x = 1
  · rw [if_pos hx]
    by_cases hD : P 7 1 = 10
    · rw [if_pos hD]
      refine ⟨I, A, G, ?_, fr_s.rf p' I A G⟩
      have hlt : (nI (P 7 1) < 10) = False := eq_false (by rw [hD]; decide)
      rcases hpp with rfl | rfl <;> simp only [s_X6_shaft_0, s_X6_shaft_1, s_X6_shaft_4, s_X6_shaft_7, s_X6_shaft_8, s_X6_shaft_9, s_X6_shaft_10, s_X6_shaft_13_at5, s_X6_shaft_13_at25, s_X6_shaft_16, s_X6_shaft_18, s_X6_shaft_21, s_X6_shaft_23, x1 hx, am_k_some, am_push_i, am_10, if_false, hc.1.1, q10, hlt]
    · rw [if_neg hD]
      have hD : P 7 1 < 10 := by omega
      have hlt : (nI (P 7 1) < 10) = True := eq_true (by rw [show (10 : Int32) = nI 10 from rfl, nI_ltI (by omega) (by omega)]; exact hD)
      obtain ⟨I1, A1, f1, f2, f3⟩ := e_X2_copyFrom (p := p) (p' := p') (G := G) hr hv hc.2.1
      have hfs : fr_s p' I A G I1 A1 G := ⟨fun a j h => f2.1 a j (by omega), fun b hb => f2.2 b (by omega), fun _ _ _ => rfl⟩
      have hc1 := hc.fs hfs
      obtain ⟨I2, A2, G2, k1, k2, k3⟩ := e_X6_wardAirWithShaft (i := 0) hv hs (by omega) hD hc1 f3
      have hc2 := hc1.fs k2
      obtain ⟨I', A', G', g5, d1, d2⟩ := X6_sfL (l1 := .int x) hv hs hD (P 7 0 - 1) 1 (.int (nI (pf_sv P s 0))) I2 A2 G2 (by omega) (by omega) hc2 k3
      refine ⟨I', A', G', ?_, (hfs.tr k2).tr d2⟩
      have q9 := hc1.2.1.1.1
      have hn : (nI (P 7 0) ≤ 0) = False := (am_nle0 (by omega)).trans (eq_false (by omega))
      have b1 := pf_sv_le hv s (show 0 < P 7 0 by omega) hD
      have hle : (nI (pf_sv P s 0) ≤ -1) = False := eq_false (fun q => by
        have h0 : 0 ≤ nI (pf_sv P s 0) := nI_pos' (by omega)
        exact absurd (Int32.le_trans h0 q) (by decide))
      have n0 : nI 0 = 0 := rfl
      rw [n0] at k1
      have e0 : am_e 54 0 [.ref 0, .int x, .null, .null, .null, .null] [] I A G = am_e 54 42 [.ref 0, .int x, .int 0, .int (-1), .int 0, .null] [] I1 A1 G := by
        obtain ⟨h3, h4, -⟩ := hc.1
        rcases hr with ⟨rfl, rfl⟩ | ⟨rfl, rfl⟩ <;> simp only [s_X6_shaft_0, s_X6_shaft_1, s_X6_shaft_4, s_X6_shaft_7, s_X6_shaft_8, s_X6_shaft_9, s_X6_shaft_10, s_X6_shaft_13_at5, s_X6_shaft_13_at25, s_X6_shaft_16, s_X6_shaft_18, s_X6_shaft_21, s_X6_shaft_23, s_X6_shaft_24, s_X6_shaft_25, s_X6_shaft_28, s_X6_shaft_29, s_X6_shaft_32_at5, s_X6_shaft_32_at25, s_X6_shaft_35, s_X6_shaft_36, s_X6_shaft_37, s_X6_shaft_38, s_X6_shaft_39, s_X6_shaft_40, x1 hx, am_k_some, am_push_i, am_push_n, am_10, if_false, h3, h4, q10, hlt, if_true, f1]
      have e1 : am_e 54 42 [.ref 0, .int x, .int 0, .int (-1), .int 0, .null] [] I1 A1 G = am_e 54 42 [.ref 0, .int x, .int (nI (pf_sx P s (1 - 1)).1), .int (nI (pf_sx P s (1 - 1)).2), .int (nI 1), .int (nI (pf_sv P s 0))] [] I2 A2 G2 := by
        refine (s_X6_shaft_42).trans ?_
        rcases hpp with rfl | rfl <;> (simp only [s_X6_shaft_44, s_X6_shaft_45, s_X6_shaft_48_at5, s_X6_shaft_48_at25, s_X6_shaft_51, s_X6_shaft_54, s_X6_shaft_55, s_X6_shaft_57, s_X6_shaft_60, s_X6_shaft_62, s_X6_shaft_64, s_X6_shaft_65, s_X6_shaft_68, s_X6_shaft_70, s_X6_shaft_71, s_X6_shaft_73, s_X6_shaft_74, s_X6_shaft_77, hc1.1.1, q9, hn, if_false, k1, am_k_some, am_push_i, hle]; rfl)
      rw [e0, e1, d1]
      by_cases hx0 : x = 0
      · rw [if_pos hx0]
        simp only [s_X6_shaft_80, s_X6_shaft_81, s_X6_shaft_84, s_X6_shaft_85, s_X6_shaft_88, s_X6_shaft_89, hx0, if_true]
      · rw [if_neg hx0]
        simp only [s_X6_shaft_80, s_X6_shaft_81, s_X6_shaft_84, s_X6_shaft_85, s_X6_shaft_88, s_X6_shaft_89, hx0, if_false]
  · rw [if_neg hx]
    refine ⟨I, A, G, ?_, fr_s.rf p' I A G⟩
    simp only [s_X6_shaft_0, s_X6_shaft_1, s_X6_shaft_4, s_X6_shaft_7, s_X6_shaft_8, x0 hx, am_k_some, am_push_i, if_true]
