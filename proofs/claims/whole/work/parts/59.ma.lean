/-! ===== the model: air, through, downwind, lamps, first ===== -/
def fr_l (I A I' A' : am_F) : Prop := (∀ a j, ¬ (a = 69 ∧ (j = 23 ∨ j = 25 ∨ j = 26)) → I' a j = I a j) ∧ ∀ b, ¬ (80 ≤ b ∧ b ≤ 84) → A' b = A b
def fr_a (I A I' A' : am_F) : Prop := (∀ a j, ¬ (a = 69 ∧ (j = 23 ∨ j = 24 ∨ j = 25 ∨ j = 26)) → I' a j = I a j) ∧ ∀ b, ¬ (80 ≤ b ∧ b ≤ 84) → A' b = A b
theorem fr_l.rf (I A : am_F) : fr_l I A I A := ⟨fun _ _ _ => rfl, fun _ _ => rfl⟩
theorem fr_a.rf (I A : am_F) : fr_a I A I A := ⟨fun _ _ _ => rfl, fun _ _ => rfl⟩
theorem fr_l.tr {I A I' A' I'' A'' : am_F} (h1 : fr_l I A I' A') (h2 : fr_l I' A' I'' A'') : fr_l I A I'' A'' := ⟨fun a j h => by rw [h2.1 a j h, h1.1 a j h], fun b hb => by rw [h2.2 b hb, h1.2 b hb]⟩
theorem fr_a.tr {I A I' A' I'' A'' : am_F} (h1 : fr_a I A I' A') (h2 : fr_a I' A' I'' A'') : fr_a I A I'' A'' := ⟨fun a j h => by rw [h2.1 a j h, h1.1 a j h], fun b hb => by rw [h2.2 b hb, h1.2 b hb]⟩
theorem fr_l.a {I A I' A' : am_F} (h : fr_l I A I' A') : fr_a I A I' A' := ⟨fun a j q => h.1 a j (by omega), h.2⟩
theorem fr_a_24 (I A : am_F) (x : Int32) : fr_a I A (am_u I 69 24 x) A := ⟨fun a j h => by rw [am_u_at, if_neg (by omega)], fun _ _ => rfl⟩
def mk (P : sg_P) (s : sg_S) (I A : am_F) : Prop := mr_p P I A ∧ mr_s s I A
theorem mr_s.fr {s : sg_S} {I A I' A' : am_F} (h : mr_s s I A) (hI : ∀ j, j = 14 ∨ j = 15 ∨ j = 17 ∨ j = 18 → I' 69 j = I 69 j) (hA : A' 77 = A 77) : mr_s s I' A' := by
  obtain ⟨h1, h2, h3, h4, h5⟩ := h
  exact ⟨by rw [hI 14 (by omega)]; exact h1, by rw [hI 15 (by omega)]; exact h2, by rw [hI 18 (by omega)]; exact h3, by rw [hI 17 (by omega)]; exact h4, fun i hi => by rw [hA]; exact h5 i hi⟩
theorem mk.fr {P : sg_P} {s : sg_S} {I A I' A' : am_F} (h : mk P s I A) (hf : fr_a I A I' A') : mk P s I' A' := ⟨h.1.fr (hf.1 _ _ (by omega)) (hf.1 _ _ (by omega)) (hf.2 _ (by omega)) (hf.2 _ (by omega)) (hf.2 _ (by omega)), h.2.fr (fun j hj => hf.1 _ _ (by omega)) (hf.2 _ (by omega))⟩
theorem ml_p.fl {P : sg_P} {I A I' A' : am_F} (h : ml_p P I A) (hf : fr_l I A I' A') : ml_p P I' A' := h.fr ⟨hf.1 _ _ (by omega), hf.1 _ _ (by omega)⟩ (hf.2 _ (by omega)) (hf.2 _ (by omega)) (hf.2 _ (by omega))
theorem lay_m {P : sg_P} {o f w : Int32} {I A : am_F} {G : am_G} (hv : vp_p P) (hp : ml_p P I A) : ∃ I' A' : am_F, am_e 106 0 [.ref 69, .int w, .int o, .int f, .null, .null, .null, .null, .null] [] I A G = some (.null, I', A', G) ∧ fr_l I A I' A' ∧ mb_0 P o f w A' := by
  obtain ⟨A', h1, h2, h3⟩ := e_X7_layAir (o := o) (f := f) (w := w) (G := G) hv hp
  exact ⟨_, A', h1, ⟨fun a j h => ml_I_at h, h2⟩, h3⟩
theorem now_m {P : sg_P} {s : sg_S} {t : Int32} {I A : am_F} {G : am_G} (hv : vp_p P) (hm : mk P s I A) : ∃ I' A' : am_F, am_e 107 0 [.ref 69, .int t] [] I A G = some (.null, I', A', G) ∧ fr_a I A I' A' ∧ I' 69 24 = nI (P 7 1) ∧ mb_ok P s.1 s.2.1 (pf_wy P t) A' := by
  obtain ⟨A', h1, h2, h3⟩ := e_X7_layNow (t := t) (G := G) hv hm.1 hm.2
  exact ⟨_, A', h1, ⟨fun a j h => ml_N_at h, h2⟩, by unfold ml_N; rw [ml_I_at (by omega), am_u_eq], h3⟩
theorem e_X7_hr {t : Int32} {I A : am_F} {G : am_G} : (pf_hr t → am_e 100 0 [.int t] [] I A G = some (.int 1, I, A, G)) ∧ (¬ pf_hr t → am_e 100 0 [.int t] [] I A G = some (.int 0, I, A, G)) := by
  refine ⟨fun h => ?_, fun h => ?_⟩
  · rw [e_X7_isHour, decide_eq_true h]; rfl
  · rw [e_X7_isHour, decide_eq_false h]; rfl
theorem e_X7_hl {P : sg_P} {i : Int32} {I A : am_F} {G : am_G} (hp : mr_p P I A) : (pf_hl P i → am_e 93 0 [.ref 69, .int i] [] I A G = some (.int 1, I, A, G)) ∧ (¬ pf_hl P i → am_e 93 0 [.ref 69, .int i] [] I A G = some (.int 0, I, A, G)) := by
  refine ⟨fun h => ?_, fun h => ?_⟩
  · rw [e_X7_isHall, hp.1, decide_eq_true h]; rfl
  · rw [e_X7_isHall, hp.1, decide_eq_false h]; rfl
theorem e_X7_dr {P : sg_P} {i : Int32} {I A : am_F} {G : am_G} (hp : mr_p P I A) : (pf_dr P i → am_e 94 0 [.ref 69, .int i] [] I A G = some (.int 1, I, A, G)) ∧ (¬ pf_dr P i → am_e 94 0 [.ref 69, .int i] [] I A G = some (.int 0, I, A, G)) := by
  refine ⟨fun h => ?_, fun h => ?_⟩
  · rw [e_X7_isDoor, hp.2.1, decide_eq_true h]; rfl
  · rw [e_X7_isDoor, hp.2.1, decide_eq_false h]; rfl
theorem e_X7_air {P : sg_P} {s : sg_S} {t i : Int32} {I A : am_F} {G : am_G} (hv : vp_p P) (hm : mk P s I A) : ∃ I' A' : am_F, am_e 109 0 [.ref 69, .int t, .int i] [] I A G = some (.int (pf_air P s t i), I', A', G) ∧ fr_a I A I' A' := by
  have hH := hv.1.2
  obtain ⟨r1, r0⟩ := @e_X7_hr t I A G
  obtain ⟨l1, l0⟩ := @e_X7_hl P i I A G hm.1
  unfold pf_air
  by_cases ht : pf_hr t
  · by_cases hi : pf_hl P i
    · rw [if_pos ⟨ht, hi⟩]
      obtain ⟨I', A', f1, f2, f3, f4⟩ := now_m (t := t) (G := G) hv hm
      refine ⟨I', A', ?_, f2⟩
      obtain ⟨j, hj, rfl⟩ := (am_rngM (by omega)).mp hi
      have cj := nI_clamp (show j < 2 ^ 31 by omega)
      have xj := am_ixF (show j < 8 by omega) (show 8 < 2 ^ 31 by omega)
      have a80 := f4.1 j hj
      simp only [s_X7_air_0, s_X7_air_1, s_X7_air_4, s_X7_air_7, s_X7_air_8, s_X7_air_9, s_X7_air_12, s_X7_air_15, s_X7_air_16, s_X7_air_17, s_X7_air_18, s_X7_air_19, s_X7_air_22, s_X7_air_23, s_X7_air_26, s_X7_air_27, s_X7_air_28, r1 ht, l1 hi, am_k_some, am_push_i, am_push_n, am_10, if_false, f1, am_len_80, cj, xj, a80]
    · rw [if_neg (fun q => hi q.2)]
      refine ⟨I, A, ?_, fr_a.rf I A⟩
      simp only [s_X7_air_0, s_X7_air_1, s_X7_air_4, s_X7_air_7, s_X7_air_8, s_X7_air_9, s_X7_air_12, s_X7_air_15, s_X7_air_16, r1 ht, l0 hi, am_k_some, am_push_i, am_10, if_false, if_true]
  · rw [if_neg (fun q => ht q.1)]
    refine ⟨I, A, ?_, fr_a.rf I A⟩
    simp only [s_X7_air_0, s_X7_air_1, s_X7_air_4, s_X7_air_7, s_X7_air_8, s_X7_air_9, s_X7_air_12, s_X7_air_15, s_X7_air_16, r0 ht, am_k_some, am_push_i, if_true]
theorem e_X7_through {P : sg_P} {s : sg_S} {t i : Int32} {I A : am_F} {G : am_G} (hv : vp_p P) (hm : mk P s I A) : ∃ I' A' : am_F, am_e 110 0 [.ref 69, .int t, .int i] [] I A G = some (.int (pf_thr P s t i), I', A', G) ∧ fr_a I A I' A' := by
  have hH := hv.2.1
  obtain ⟨r1, r0⟩ := @e_X7_hr t I A G
  obtain ⟨l1, l0⟩ := @e_X7_dr P i I A G hm.1
  unfold pf_thr
  by_cases ht : pf_hr t
  · by_cases hi : pf_dr P i
    · rw [if_pos ⟨ht, hi⟩]
      obtain ⟨I', A', f1, f2, f3, f4⟩ := now_m (t := t) (G := G) hv hm
      refine ⟨I', A', ?_, f2⟩
      obtain ⟨j, hj, rfl⟩ := (am_rngM (by omega)).mp hi
      have cj := nI_clamp (show j < 2 ^ 31 by omega)
      have xj := am_ixF (show j < 11 by omega) (show 11 < 2 ^ 31 by omega)
      have a80 := f4.2.1 j hj
      simp only [s_X7_through_0, s_X7_through_1, s_X7_through_4, s_X7_through_7, s_X7_through_8, s_X7_through_9, s_X7_through_12, s_X7_through_15, s_X7_through_16, s_X7_through_17, s_X7_through_18, s_X7_through_19, s_X7_through_22, s_X7_through_23, s_X7_through_26, s_X7_through_27, s_X7_through_28, r1 ht, l1 hi, am_k_some, am_push_i, am_push_n, am_10, if_false, f1, am_len_81, cj, xj, a80]
    · rw [if_neg (fun q => hi q.2)]
      refine ⟨I, A, ?_, fr_a.rf I A⟩
      simp only [s_X7_through_0, s_X7_through_1, s_X7_through_4, s_X7_through_7, s_X7_through_8, s_X7_through_9, s_X7_through_12, s_X7_through_15, s_X7_through_16, r1 ht, l0 hi, am_k_some, am_push_i, am_10, if_false, if_true]
  · rw [if_neg (fun q => ht q.1)]
    refine ⟨I, A, ?_, fr_a.rf I A⟩
    simp only [s_X7_through_0, s_X7_through_1, s_X7_through_4, s_X7_through_7, s_X7_through_8, s_X7_through_9, s_X7_through_12, s_X7_through_15, s_X7_through_16, r0 ht, am_k_some, am_push_i, if_true]
theorem e_X7_downwind {P : sg_P} {s : sg_S} {t i : Int32} {I A : am_F} {G : am_G} (hv : vp_p P) (hm : mk P s I A) : ∃ (v : Int32) (I' A' : am_F), am_e 112 0 [.ref 69, .int t, .int i] [] I A G = some (.int v, I', A', G) ∧ fr_a I A I' A' ∧ pf_dw P s t i v := by
  have hH := hv.1.2
  obtain ⟨r1, r0⟩ := @e_X7_hr t I A G
  obtain ⟨l1, l0⟩ := @e_X7_hl P i I A G hm.1
  by_cases ht : pf_hr t
  · by_cases hi : pf_hl P i
    · obtain ⟨I', A', f1, f2, f3, f4⟩ := now_m (t := t) (G := G) hv hm
      have hi2 := hi
      obtain ⟨j, hj, rfl⟩ := (am_rngM (by omega)).mp hi2
      obtain ⟨Y, k1, k2⟩ := e_X7_downwindOf (I := I') (G := G) hv f3 f4 hj
      refine ⟨Y, I', A', ?_, f2, fun _ b hb => ?_, fun q => absurd ⟨ht, hi⟩ q⟩
      · simp only [s_X7_downwind_0, s_X7_downwind_1, s_X7_downwind_4, s_X7_downwind_7, s_X7_downwind_8, s_X7_downwind_9, s_X7_downwind_12, s_X7_downwind_15, s_X7_downwind_16, s_X7_downwind_17, s_X7_downwind_18, s_X7_downwind_19, s_X7_downwind_22, s_X7_downwind_23, s_X7_downwind_24, s_X7_downwind_27, r1 ht, l1 hi, am_k_some, am_push_i, am_push_n, am_10, if_false, f1, k1]
      · rw [nI_clamp (by omega), k2 b hb]
    · refine ⟨-1, I, A, ?_, fr_a.rf I A, fun q => absurd q.2 hi, fun _ => rfl⟩
      simp only [s_X7_downwind_0, s_X7_downwind_1, s_X7_downwind_4, s_X7_downwind_7, s_X7_downwind_8, s_X7_downwind_9, s_X7_downwind_12, s_X7_downwind_15, s_X7_downwind_16, r1 ht, l0 hi, am_k_some, am_push_i, am_10, if_false, if_true]
  · refine ⟨-1, I, A, ?_, fr_a.rf I A, fun q => absurd q.1 ht, fun _ => rfl⟩
    simp only [s_X7_downwind_0, s_X7_downwind_1, s_X7_downwind_4, s_X7_downwind_7, s_X7_downwind_8, s_X7_downwind_9, s_X7_downwind_12, s_X7_downwind_15, s_X7_downwind_16, r0 ht, am_k_some, am_push_i, if_true]
theorem pf_out_0 (P : sg_P) : pf_out P 0 = nI (P 7 4) := if_neg (by decide)
theorem pf_out_12 (P : sg_P) : pf_out P 12 = nI (P 7 5) := if_pos (by decide)
theorem e_X7_leastAir {i : Nat} {P P' : sg_P} {o f : Int32} {I A : am_F} {G : am_G} (hv : vp_p P') (hp : mr_p P I A) (hl : ml_p P' I A) (hq : P' 7 3 = P 7 3 ∧ P' 7 4 = P 7 4 ∧ P' 7 5 = P 7 5) (hf : I 69 15 = f) (hi : i < P' 7 0) : ∃ I' A' : am_F, am_e 124 0 [.ref 69, .int (nI i), .int o, .null] [] I A G = some (.int (nI (pf_la P' o f i)), I', A', G) ∧ fr_l I A I' A' := by
  have hH := hv.1.2
  have w1 : pf_way P (nI (P 7 4)) = pf_way P' (nI (P' 7 4)) := by unfold pf_way; rw [hq.1, hq.2.1]
  have w2 : pf_way P (nI (P 7 5)) = pf_way P' (nI (P' 7 5)) := by unfold pf_way; rw [hq.1, hq.2.2]
  obtain ⟨I1, A1, f1, f2, f3⟩ := lay_m (o := o) (f := f) (w := pf_way P' (nI (P' 7 4))) (G := G) hv hl
  have hp1 : mr_p P I1 A1 := hp.fr (f2.1 _ _ (by omega)) (f2.1 _ _ (by omega)) (f2.2 _ (by omega)) (f2.2 _ (by omega)) (f2.2 _ (by omega))
  obtain ⟨I2, A2, k1, k2, k3⟩ := lay_m (o := o) (f := f) (w := pf_way P' (nI (P' 7 5))) (G := G) hv (hl.fl f2)
  refine ⟨I2, A2, ?_, f2.tr k2⟩
  have g1 := @e_X7_goesBy I A G P 0 0 hp
  have g2 := @e_X7_goesBy I1 A1 G P 12 0 hp1
  rw [Int32.add_zero, pf_out_0, w1] at g1
  rw [Int32.add_zero, pf_out_12, w2] at g2
  have hf1 : I1 69 15 = f := by rw [f2.1 _ _ (by omega)]; exact hf
  have ci := nI_clamp (show i < 2 ^ 31 by omega)
  have xi := am_ixF (show i < 8 by omega) (show 8 < 2 ^ 31 by omega)
  have a1 := f3.1 i hi
  have a2 := k3.1 i hi
  have b1 := pf_a_le hv o f (pf_way P' (nI (P' 7 4))) hi
  have b2 := pf_a_le hv o f (pf_way P' (nI (P' 7 5))) hi
  have hle : (nI (pf_a P' o f (pf_way P' (nI (P' 7 4))) i) ≤ nI (pf_a P' o f (pf_way P' (nI (P' 7 5))) i)) = (pf_a P' o f (pf_way P' (nI (P' 7 4))) i ≤ pf_a P' o f (pf_way P' (nI (P' 7 5))) i) := propext (nI_leI (by omega) (by omega))
  unfold pf_la
  by_cases h : pf_a P' o f (pf_way P' (nI (P' 7 4))) i ≤ pf_a P' o f (pf_way P' (nI (P' 7 5))) i
  · rw [Nat.min_eq_left h]
    have hle := hle.trans (eq_true h)
    simp only [s_X7_leastAir_0, s_X7_leastAir_1, s_X7_leastAir_2, s_X7_leastAir_3, s_X7_leastAir_4, s_X7_leastAir_7, s_X7_leastAir_8, s_X7_leastAir_9, s_X7_leastAir_12, s_X7_leastAir_15, s_X7_leastAir_16, s_X7_leastAir_19, s_X7_leastAir_20, s_X7_leastAir_21, s_X7_leastAir_22, s_X7_leastAir_23, s_X7_leastAir_24, s_X7_leastAir_26, s_X7_leastAir_27, s_X7_leastAir_30, s_X7_leastAir_31, s_X7_leastAir_32, s_X7_leastAir_35, s_X7_leastAir_38, s_X7_leastAir_39, s_X7_leastAir_42, s_X7_leastAir_43, s_X7_leastAir_44, s_X7_leastAir_45, s_X7_leastAir_48, s_X7_leastAir_49, s_X7_leastAir_52, s_X7_leastAir_53, s_X7_leastAir_54, s_X7_leastAir_57, s_X7_leastAir_58, g1, g2, hf, hf1, f1, k1, am_k_some, am_push_i, am_push_n, am_len_80, ci, xi, if_false, a1, a2, hle, if_true]
  · rw [Nat.min_eq_right (by omega)]
    have hle := hle.trans (eq_false h)
    simp only [s_X7_leastAir_0, s_X7_leastAir_1, s_X7_leastAir_2, s_X7_leastAir_3, s_X7_leastAir_4, s_X7_leastAir_7, s_X7_leastAir_8, s_X7_leastAir_9, s_X7_leastAir_12, s_X7_leastAir_15, s_X7_leastAir_16, s_X7_leastAir_19, s_X7_leastAir_20, s_X7_leastAir_21, s_X7_leastAir_22, s_X7_leastAir_23, s_X7_leastAir_24, s_X7_leastAir_26, s_X7_leastAir_27, s_X7_leastAir_30, s_X7_leastAir_31, s_X7_leastAir_32, s_X7_leastAir_35, s_X7_leastAir_38, s_X7_leastAir_39, s_X7_leastAir_42, s_X7_leastAir_43, s_X7_leastAir_44, s_X7_leastAir_45, s_X7_leastAir_48, s_X7_leastAir_49, s_X7_leastAir_52, s_X7_leastAir_53, s_X7_leastAir_54, s_X7_leastAir_57, s_X7_leastAir_58, g1, g2, hf, hf1, f1, k1, am_k_some, am_push_i, am_push_n, am_len_80, ci, xi, if_false, a1, a2, hle]
theorem mk_24 {P : sg_P} {s : sg_S} {I A : am_F} (hm : mk P s I A) : mk P s (am_u I 69 24 (nI (P 7 1))) A ∧ ml_p P (am_u I 69 24 (nI (P 7 1))) A := by
  have h := hm.fr (fr_a_24 I A (nI (P 7 1)))
  exact ⟨h, h.1.ml (am_u_eq _ _ _ _)⟩
theorem e_X7_lamps {P : sg_P} {s : sg_S} {i : Int32} {I A : am_F} {G : am_G} (hv : vp_p P) (hm : mk P s I A) : ∃ I' A' : am_F, am_e 126 0 [.ref 69, .int i] [] I A G = some (.int (pf_lm P s i), I', A', G) ∧ fr_a I A I' A' := by
  have hH := hv.1.2
  obtain ⟨l1, l0⟩ := @e_X7_hl P i I A G hm.1
  unfold pf_lm
  by_cases hi : pf_hl P i
  · rw [if_pos hi]
    have hi2 := hi
    obtain ⟨j, hj, rfl⟩ := (am_rngM (by omega)).mp hi2
    obtain ⟨m1, m2⟩ := mk_24 hm
    obtain ⟨I', A', f1, f2⟩ := e_X7_leastAir (o := s.1) (f := s.2.1) (G := G) hv m1.1 m2 ⟨rfl, rfl, rfl⟩ m1.2.2.1 hj
    refine ⟨I', A', ?_, (fr_a_24 I A _).tr f2.a⟩
    have hl := pf_la_le hv s.1 s.2.1 hj
    have dv : nI (pf_la P s.1 s.2.1 j) / 3 = nI (pf_la P s.1 s.2.1 j / 3) := pk_div (d := 3) (by omega) (by omega) (by omega)
    have cj := nI_clamp (show j < 2 ^ 31 by omega)
    have h14 := m1.2.1
    simp only [s_X7_lamps_0, s_X7_lamps_1, s_X7_lamps_2, s_X7_lamps_5, s_X7_lamps_8, s_X7_lamps_9, s_X7_lamps_10, s_X7_lamps_11, s_X7_lamps_12, s_X7_lamps_15, s_X7_lamps_18, s_X7_lamps_19, s_X7_lamps_20, s_X7_lamps_21, s_X7_lamps_24, s_X7_lamps_27, s_X7_lamps_28, s_X7_lamps_29, l1 hi, am_k_some, am_push_i, am_10, if_false, hm.1.2.1, h14, f1, am_30, dv, cj]
  · rw [if_neg hi]
    refine ⟨I, A, ?_, fr_a.rf I A⟩
    simp only [s_X7_lamps_0, s_X7_lamps_1, s_X7_lamps_2, s_X7_lamps_5, s_X7_lamps_8, s_X7_lamps_9, s_X7_lamps_10, s_X7_lamps_11, s_X7_lamps_12, s_X7_lamps_15, s_X7_lamps_18, s_X7_lamps_19, s_X7_lamps_20, s_X7_lamps_21, s_X7_lamps_24, s_X7_lamps_27, s_X7_lamps_28, s_X7_lamps_29, l0 hi, am_k_some, am_push_i, if_true]
theorem X7_firstL {j : Nat} {P : sg_P} {s : sg_S} {f w : Int32} {l2 l3 : Value} {G : am_G} (hv : vp_p P) (hfj : s.2.1 ||| ((1 : Int32) <<< (nI j &&& 31)) = f) : ∀ (r d : Nat) (I A : am_F), d + r = P 7 1 → mk P s I A → ml_p P I A → ∃ (I' A' : am_F), am_e 120 82 [.ref 69, .int (nI j), l2, l3, .int w, .int (nI (pf_fs P s.1 f w d).1), .int (nI (pf_fs P s.1 f w d).2), .int (nI d)] [] I A G = am_e 120 179 [.ref 69, .int (nI j), l2, l3, .int w, .int (nI (pf_fs P s.1 f w (P 7 1)).1), .int (nI (pf_fs P s.1 f w (P 7 1)).2), .int (nI (P 7 1))] [] I' A' G ∧ fr_l I A I' A' := by
  have hD := hv.2.1
  have hH := hv.1.2
  have hwd := hv.2.2.2.2.2.2.2.2.1
  intro r
  induction r with
  | zero =>
    intro d I A hd hm hl
    have : d = P 7 1 := by omega
    subst this
    refine ⟨I, A, ?_, fr_l.rf I A⟩
    refine (s_X7_first_82).trans ?_
    simp only [s_X7_first_84, s_X7_first_85, s_X7_first_88, hm.1.2.1, Int32.le_refl, if_true]
  | succ r ih =>
    intro d I A hd hm hl
    obtain ⟨I1, A1, f1, f2, f3⟩ := lay_m (o := s.1 ^^^ ((1 : Int32) <<< (nI d &&& 31))) (f := f) (w := w) (G := G) hv hl
    have hm1 := hm.fr f2.a
    obtain ⟨I', A', k1, k2⟩ := ih (d + 1) I1 A1 (by omega) hm1 (hl.fl f2)
    refine ⟨I', A', ?_, f2.tr k2⟩
    rw [← k1]
    refine (s_X7_first_82).trans ?_
    have hn : (nI (P 7 1) ≤ nI d) = False := eq_false (by rw [nI_leI (by omega) (by omega)]; omega)
    have m1 := pf_fs_le hv s.1 f w d
    have m2 := pf_a_le hv (s.1 ^^^ ((1 : Int32) <<< (nI d &&& 31))) f w hwd
    have e1 : pf_fs P s.1 f w (d + 1) = if (pf_fs P s.1 f w d).2 < pf_a P (s.1 ^^^ ((1 : Int32) <<< (nI d &&& 31))) f w (P 7 6) then (d, pf_a P (s.1 ^^^ ((1 : Int32) <<< (nI d &&& 31))) f w (P 7 6)) else pf_fs P s.1 f w d := rfl
    have hle : (nI (pf_a P (s.1 ^^^ ((1 : Int32) <<< (nI d &&& 31))) f w (P 7 6)) ≤ nI (pf_fs P s.1 f w d).2) = (pf_a P (s.1 ^^^ ((1 : Int32) <<< (nI d &&& 31))) f w (P 7 6) ≤ (pf_fs P s.1 f w d).2) := propext (nI_leI (by omega) (by omega))
    have z4 : (4 : Int32).toNatClampNeg = 4 := by decide
    have y4 : ((4 : Int32) < 0 ∨ 6 ≤ 4) = False := by decide
    have wA : A1 76 4 = nI (P 7 6) := hm1.1.2.2.2.2.2.2.2.2.1
    have cw := nI_clamp (show P 7 6 < 2 ^ 31 by omega)
    have xw := am_ixF (show P 7 6 < 8 by omega) (show 8 < 2 ^ 31 by omega)
    have a80 := f3.1 (P 7 6) hwd
    by_cases hlt : (pf_fs P s.1 f w d).2 < pf_a P (s.1 ^^^ ((1 : Int32) <<< (nI d &&& 31))) f w (P 7 6)
    · have hle := hle.trans (eq_false (by omega))
      rw [e1, if_pos hlt]
      simp only [s_X7_first_84, s_X7_first_85, s_X7_first_88, s_X7_first_91, s_X7_first_92, s_X7_first_94, s_X7_first_95, s_X7_first_98, s_X7_first_99, s_X7_first_101, s_X7_first_102, s_X7_first_103, s_X7_first_104, s_X7_first_107, s_X7_first_108, s_X7_first_109, s_X7_first_110, s_X7_first_111, s_X7_first_114, s_X7_first_115, s_X7_first_118, s_X7_first_119, s_X7_first_122, s_X7_first_123, s_X7_first_124, s_X7_first_125, s_X7_first_127, s_X7_first_130, s_X7_first_132, s_X7_first_135, s_X7_first_137, s_X7_first_139, s_X7_first_140, s_X7_first_143, s_X7_first_144, s_X7_first_147, s_X7_first_148, s_X7_first_149, s_X7_first_150, s_X7_first_152, s_X7_first_155, s_X7_first_156, s_X7_first_159, s_X7_first_160, s_X7_first_163, s_X7_first_164, s_X7_first_165, s_X7_first_166, s_X7_first_169, s_X7_first_171, s_X7_first_173, s_X7_first_176, hm.1.2.1, hn, if_false, hm.2.1, hm.2.2.1, hfj, f1, am_k_some, am_push_n, am_len_76, am_len_80, z4, y4, wA, cw, xw, a80, hle, am_add1]
    · have hle := hle.trans (eq_true (by omega))
      rw [e1, if_neg hlt]
      simp only [s_X7_first_84, s_X7_first_85, s_X7_first_88, s_X7_first_91, s_X7_first_92, s_X7_first_94, s_X7_first_95, s_X7_first_98, s_X7_first_99, s_X7_first_101, s_X7_first_102, s_X7_first_103, s_X7_first_104, s_X7_first_107, s_X7_first_108, s_X7_first_109, s_X7_first_110, s_X7_first_111, s_X7_first_114, s_X7_first_115, s_X7_first_118, s_X7_first_119, s_X7_first_122, s_X7_first_123, s_X7_first_124, s_X7_first_125, s_X7_first_127, s_X7_first_130, s_X7_first_132, s_X7_first_135, s_X7_first_137, s_X7_first_139, s_X7_first_140, s_X7_first_143, s_X7_first_144, s_X7_first_147, s_X7_first_148, s_X7_first_149, s_X7_first_150, s_X7_first_152, s_X7_first_155, s_X7_first_156, s_X7_first_159, s_X7_first_160, s_X7_first_163, s_X7_first_164, s_X7_first_165, s_X7_first_166, s_X7_first_169, s_X7_first_171, s_X7_first_173, s_X7_first_176, hm.1.2.1, hn, if_false, hm.2.1, hm.2.2.1, hfj, f1, am_k_some, am_push_n, am_len_76, am_len_80, z4, y4, wA, cw, xw, a80, hle, if_true, am_add1]
theorem am_ei {x : Int32} : (0 ≤ x ∧ x ≤ 1) ↔ (x = 0 ∨ x = 1) := by
  constructor
  · intro h
    obtain ⟨j, hj, rfl⟩ := (am_rngK 1 rfl (by omega)).mp h
    have : j = 0 ∨ j = 1 := by omega
    rcases this with rfl | rfl
    · exact Or.inl rfl
    · exact Or.inr rfl
  · rintro (rfl | rfl) <;> decide
theorem e_X7_ei {x : Int32} {I A : am_F} {G : am_G} : ((x = 0 ∨ x = 1) → am_e 78 0 [.int x, .int 0, .int 1] [] I A G = some (.int 1, I, A, G)) ∧ (¬ (x = 0 ∨ x = 1) → am_e 78 0 [.int x, .int 0, .int 1] [] I A G = some (.int 0, I, A, G)) := by
  refine ⟨fun h => ?_, fun h => ?_⟩
  · rw [e_X7_in, decide_eq_true (am_ei.mpr h)]; rfl
  · rw [e_X7_in, decide_eq_false (fun q => h (am_ei.mp q))]; rfl
theorem e_X7_first {P : sg_P} {s : sg_S} {i t x : Int32} {I A : am_F} {G : am_G} (hv : vp_p P) (hm : mk P s I A) : ∃ I' A' : am_F, am_e 120 0 [.ref 69, .int i, .int t, .int x, .null, .null, .null, .null] [] I A G = some (.int (pf_first P s i t x), I', A', G) ∧ fr_a I A I' A' := by
  have hH := hv.1.2
  have hwd := hv.2.2.2.2.2.2.2.2.1
  obtain ⟨r1, r0⟩ := @e_X7_hr t I A G
  obtain ⟨l1, l0⟩ := @e_X7_hl P i I A G hm.1
  obtain ⟨x1, x0⟩ := @e_X7_ei x I A G
  unfold pf_first
  by_cases hall : pf_hl P i ∧ pf_hr t ∧ (x = 0 ∨ x = 1)
  · obtain ⟨hi, ht, hx⟩ := hall
    rw [if_pos ⟨hi, ht, hx⟩]
    have hi2 := hi
    obtain ⟨j, hj, rfl⟩ := (am_rngM (by omega)).mp hi2
    generalize hf : s.2.1 ||| ((1 : Int32) <<< (nI j &&& 31)) = f at *
    obtain ⟨m1, m2⟩ := mk_24 hm
    obtain ⟨I1, A1, f1, f2, f3⟩ := lay_m (o := s.1) (f := f) (w := pf_wy P t) (G := G) hv m2
    have hm1 := m1.fr f2.a
    obtain ⟨I', A', k1, k2⟩ := X7_firstL (l2 := .int t) (l3 := .int x) (w := pf_wy P t) (G := G) hv hf (P 7 1) 0 I1 A1 (by omega) hm1 (m2.fl f2)
    refine ⟨I', A', ?_, (fr_a_24 I A _).tr (f2.tr k2).a⟩
    have g1 := @e_X7_goesBy (am_u I 69 24 (nI (P 7 1))) A G P t 0 m1.1
    rw [Int32.add_zero] at g1
    have z4 : (4 : Int32).toNatClampNeg = 4 := by decide
    have y4 : ((4 : Int32) < 0 ∨ 6 ≤ 4) = False := by decide
    have wA : A1 76 4 = nI (P 7 6) := hm1.1.2.2.2.2.2.2.2.2.1
    have cw := nI_clamp (show P 7 6 < 2 ^ 31 by omega)
    have xw := am_ixF (show P 7 6 < 8 by omega) (show 8 < 2 ^ 31 by omega)
    have a80 := f3.1 (P 7 6) hwd
    have e0 : am_e 120 0 [.ref 69, .int (nI j), .int t, .int x, .null, .null, .null, .null] [] I A G = am_e 120 82 [.ref 69, .int (nI j), .int t, .int x, .int (pf_wy P t), .int (nI (pf_fs P s.1 f (pf_wy P t) 0).1), .int (nI (pf_fs P s.1 f (pf_wy P t) 0).2), .int (nI 0)] [] I1 A1 G := by
      have h10 := hm1.1.2.1
      simp only [s_X7_first_0, s_X7_first_1, s_X7_first_2, s_X7_first_5, s_X7_first_8, s_X7_first_9, s_X7_first_12, s_X7_first_15, s_X7_first_16, s_X7_first_17, s_X7_first_18, s_X7_first_21, s_X7_first_24, s_X7_first_25, s_X7_first_26, s_X7_first_27, s_X7_first_28, s_X7_first_31, s_X7_first_34, s_X7_first_35, s_X7_first_36, s_X7_first_37, s_X7_first_40, s_X7_first_42, s_X7_first_43, s_X7_first_45, s_X7_first_46, s_X7_first_49, s_X7_first_50, s_X7_first_53, s_X7_first_54, s_X7_first_55, s_X7_first_56, s_X7_first_57, s_X7_first_60, s_X7_first_61, s_X7_first_64, s_X7_first_66, s_X7_first_67, s_X7_first_70, s_X7_first_71, s_X7_first_74, s_X7_first_75, s_X7_first_76, s_X7_first_77, s_X7_first_79, s_X7_first_80, l1 hi, r1 ht, x1 hx, am_k_some, am_push_i, am_push_n, am_10, if_false, hm.1.2.1, m1.2.1, m1.2.2.1, hf, g1, f1, h10, am_len_76, am_len_80, z4, y4, wA, cw, xw, a80]
      rfl
    rw [e0, k1]
    by_cases hx0 : x = 0
    · rw [if_pos hx0]
      simp only [s_X7_first_179, s_X7_first_180, s_X7_first_183, s_X7_first_185, s_X7_first_188, s_X7_first_190, hx0, if_true]
    · rw [if_neg hx0]
      simp only [s_X7_first_179, s_X7_first_180, s_X7_first_183, s_X7_first_185, s_X7_first_188, s_X7_first_190, hx0, if_false]
  · rw [if_neg hall]
    refine ⟨I, A, ?_, fr_a.rf I A⟩
    by_cases hi : pf_hl P i
    · by_cases ht : pf_hr t
      · have hx : ¬ (x = 0 ∨ x = 1) := fun q => hall ⟨hi, ht, q⟩
        simp only [s_X7_first_0, s_X7_first_1, s_X7_first_2, s_X7_first_5, s_X7_first_8, s_X7_first_9, s_X7_first_12, s_X7_first_15, s_X7_first_16, s_X7_first_17, s_X7_first_18, s_X7_first_21, s_X7_first_24, s_X7_first_25, l1 hi, r1 ht, x0 hx, am_k_some, am_push_i, am_10, if_false, if_true]
      · simp only [s_X7_first_0, s_X7_first_1, s_X7_first_2, s_X7_first_5, s_X7_first_8, s_X7_first_9, s_X7_first_12, s_X7_first_15, s_X7_first_16, s_X7_first_17, s_X7_first_18, s_X7_first_21, s_X7_first_24, s_X7_first_25, l1 hi, r0 ht, am_k_some, am_push_i, am_10, if_false, if_true]
    · simp only [s_X7_first_0, s_X7_first_1, s_X7_first_2, s_X7_first_5, s_X7_first_8, s_X7_first_9, s_X7_first_12, s_X7_first_15, s_X7_first_16, s_X7_first_17, s_X7_first_18, s_X7_first_21, s_X7_first_24, s_X7_first_25, l0 hi, am_k_some, am_push_i, if_true]
