/-! ===== the class: air, through, downwind, lamps, first ===== -/
def sv_s (P : sg_P) (s : sg_S) : Prop := (∃ m, m < 2 ^ (P 7 1) ∧ s.1 = nI m) ∧ ∀ j, P 7 0 ≤ j → j < 32 → am_hb s.2.1 j = false
theorem sv_s.h8 {P : sg_P} {s : sg_S} (h : sv_s P s) (hv : vp_p P) : am_hb s.2.1 8 = false := h.2 8 hv.1.2 (by omega)
/-- what the class's calls of the air leave as it is -/
def fr_c (A A' : am_F) (G G' : am_G) : Prop := (∀ b, ¬ (59 ≤ b ∧ b ≤ 62) → A' b = A b) ∧ ∀ a j, ¬ (a = 58 ∧ j = 4) → G' a j = G a j
theorem fr_c.rf (A : am_F) (G : am_G) : fr_c A A G G := ⟨fun _ _ => rfl, fun _ _ _ => rfl⟩
theorem fr_c.tr {A A' A'' : am_F} {G G' G'' : am_G} (h1 : fr_c A A' G G') (h2 : fr_c A' A'' G' G'') : fr_c A A'' G G'' := ⟨fun b hb => by rw [h2.1 b hb, h1.1 b hb], fun a j h => by rw [h2.2 a j h, h1.2 a j h]⟩
/-- the class's plan and its state -/
def ck (P : sg_P) (s : sg_S) (p p' : Nat) (I A : am_F) (G : am_G) : Prop := cr_g p p' G ∧ cr_q p P I A ∧ wd_both P p I A ∧ cr_s 45 s I A
theorem cr_g.pp {p p' : Nat} {G : am_G} (h : cr_g p p' G) : (p = 5 ∨ p = 25) ∧ (p' = 5 ∨ p' = 25) ∧ p ≠ p' := by
  obtain ⟨-, -, h⟩ := h; omega
theorem cr_s.fr {c : Nat} {s : sg_S} {I A I' A' : am_F} (h : cr_s c s I A) (hI : ∀ j, I' c j = I c j) (hA : A' (c + 1) = A (c + 1)) : cr_s c s I' A' := by
  obtain ⟨h1, h2, h3, h4⟩ := h
  exact ⟨by rw [hI]; exact h1, by rw [hI]; exact h2, by rw [hI]; exact h3, fun i hi => by rw [hA]; exact h4 i hi⟩
theorem ck.fr {P : sg_P} {s : sg_S} {p p' : Nat} {I A A' : am_F} {G G' : am_G} (h : ck P s p p' I A G) (hf : fr_c A A' G G') : ck P s p p' I A' G' := by
  obtain ⟨h1, h2, h3, h4⟩ := h
  obtain ⟨k1, k2, k3⟩ := h1.pp
  refine ⟨⟨by rw [hf.2 0 3 (by omega)]; exact h1.1, by rw [hf.2 0 4 (by omega)]; exact h1.2.1, h1.2.2⟩, h2.fr (fun _ => rfl) (fun a q1 q2 => hf.1 a (by omega)), h3.fr (fun _ _ _ _ => rfl) (fun b q1 q2 => hf.1 b (by omega)), h4.fr (fun _ => rfl) (hf.1 46 (by omega))⟩
theorem pf_way_w (P : sg_P) (x : Int32) : pf_way P x = 0 ∨ pf_way P x = 1 ∨ pf_way P x = 2 := by
  unfold pf_way; split
  · exact Or.inr (Or.inl rfl)
  · split
    · exact Or.inr (Or.inr rfl)
    · exact Or.inl rfl
theorem blow_c {p : Nat} {P : sg_P} {o f w : Int32} {I A : am_F} {G : am_G} (hpp : p = 5 ∨ p = 25) (hv : vp_p P) (h8 : am_hb f 8 = false) (hw : w = 0 ∨ w = 1 ∨ w = 2) (hp : cr_p p P I A) (hwd : wd_both P p I A) : ∃ (A' : am_F) (G' : am_G), am_e 0 0 [.ref 58, .ref p, .int o, .int f, .int w, .null, .null] [] I A G = some (.null, I, A', G') ∧ fr_c A A' G G' ∧ cb_ok P o f w p A' G' := by
  obtain ⟨A', h1, h2, h3⟩ := e_X0_blow (o := o) (G := G) hpp hv h8 hw hp hwd
  exact ⟨A', _, h1, ⟨h2, fun a j h => by rw [am_u_at, if_neg h]⟩, h3⟩
theorem e_X6_blowNow {p p' : Nat} {P : sg_P} {s : sg_S} {w : Int32} {I A : am_F} {G : am_G} (hv : vp_p P) (hs : sv_s P s) (hw : w = 0 ∨ w = 1 ∨ w = 2) (hc : ck P s p p' I A G) : ∃ (A' : am_F) (G' : am_G), am_e 67 0 [.ref 0, .int w] [] I A G = some (.null, I, A', G') ∧ fr_c A A' G G' ∧ cb_ok P s.1 s.2.1 w p A' G' := by
  obtain ⟨h1, h2, h3, h4⟩ := hc
  obtain ⟨A', G', f1, f2, f3⟩ := blow_c (o := s.1) (G := G) h1.pp.1 hv (hs.h8 hv) hw h2.1 h3
  refine ⟨A', G', ?_, f2, f3⟩
  simp only [s_X6_blowNow_0, s_X6_blowNow_1, s_X6_blowNow_4, s_X6_blowNow_5, s_X6_blowNow_8, s_X6_blowNow_9, s_X6_blowNow_12_at45, s_X6_blowNow_12_at48, s_X6_blowNow_12_at51, s_X6_blowNow_15, s_X6_blowNow_16, s_X6_blowNow_19_at45, s_X6_blowNow_19_at48, s_X6_blowNow_19_at51, s_X6_blowNow_22, s_X6_blowNow_23, s_X6_blowNow_26, h1.1, h4.1, h4.2.1, f1, am_k_some, am_push_n]
theorem e_X6_wardAir {p p' : Nat} {P : sg_P} {s : sg_S} {o f w : Int32} {I A : am_F} {G : am_G} (hv : vp_p P) (h8 : am_hb f 8 = false) (hw : w = 0 ∨ w = 1 ∨ w = 2) (hc : ck P s p p' I A G) : ∃ (A' : am_F) (G' : am_G), am_e 68 0 [.ref 0, .int o, .int f, .int w] [] I A G = some (.int (nI (pf_a P o f w (P 7 6))), I, A', G') ∧ fr_c A A' G G' := by
  obtain ⟨h1, h2, h3, h4⟩ := hc
  obtain ⟨A', G', f1, f2, f3⟩ := blow_c (o := o) (G := G) h1.pp.1 hv h8 hw h2.1 h3
  refine ⟨A', G', ?_, f2⟩
  have hH := hv.1.2
  have hwd := hv.2.2.2.2.2.2.2.2.1
  have g3 : G' 0 3 = p := by rw [f2.2 0 3 (by omega)]; exact h1.1
  have a59 := f3.2.1 (P 7 6) hwd
  have q16 := h2.1.2.2.2.2.2.2.2.2.1
  have cw := nI_clamp (show P 7 6 < 2 ^ 31 by omega)
  have xw := am_ixF (show P 7 6 < 9 by omega) (show 9 < 2 ^ 31 by omega)
  rcases h1.pp.1 with rfl | rfl <;> simp only [s_X6_wardAir_0, s_X6_wardAir_1, s_X6_wardAir_4, s_X6_wardAir_5, s_X6_wardAir_8, s_X6_wardAir_9, s_X6_wardAir_10, s_X6_wardAir_11, s_X6_wardAir_14, s_X6_wardAir_15, s_X6_wardAir_18, s_X6_wardAir_21, s_X6_wardAir_22, s_X6_wardAir_25_at5, s_X6_wardAir_25_at25, s_X6_wardAir_28, s_X6_wardAir_29, h1.1, f1, am_k_some, am_push_n, g3, q16, am_len_59, cw, xw, if_false, a59]
abbrev pf_hr (t : Int32) : Prop := 0 ≤ t ∧ t ≤ 999999
abbrev pf_hl (P : sg_P) (i : Int32) : Prop := 0 ≤ i ∧ i ≤ nI (P 7 0) - 1
abbrev pf_dr (P : sg_P) (i : Int32) : Prop := 0 ≤ i ∧ i ≤ nI (P 7 1) - 1
abbrev pf_wy (P : sg_P) (t : Int32) : Int32 := pf_way P (pf_out P t)
def pf_air (P : sg_P) (s : sg_S) (t i : Int32) : Int32 := if pf_hr t ∧ pf_hl P i then nI (pf_a P s.1 s.2.1 (pf_wy P t) i.toNatClampNeg) else -1
def pf_thr (P : sg_P) (s : sg_S) (t i : Int32) : Int32 := if pf_hr t ∧ pf_dr P i then nI (pf_q P s.1 s.2.1 (pf_wy P t) i.toNatClampNeg) else -1
theorem e_X6_hr {t : Int32} {I A : am_F} {G : am_G} : (pf_hr t → am_e 62 0 [.int t] [] I A G = some (.int 1, I, A, G)) ∧ (¬ pf_hr t → am_e 62 0 [.int t] [] I A G = some (.int 0, I, A, G)) := by
  refine ⟨fun h => ?_, fun h => ?_⟩
  · rw [e_X6_isHour, decide_eq_true h]; rfl
  · rw [e_X6_isHour, decide_eq_false h]; rfl
theorem e_X6_hl {p : Nat} {P : sg_P} {i : Int32} {I A : am_F} {G : am_G} (hpp : p = 5 ∨ p = 25) (hG : G 0 3 = p) (hv : vp_p P) (hp : cr_p p P I A) : (pf_hl P i → am_e 60 0 [.ref 0, .int i] [] I A G = some (.int 1, I, A, G)) ∧ (¬ pf_hl P i → am_e 60 0 [.ref 0, .int i] [] I A G = some (.int 0, I, A, G)) := by
  have hH := hv.1.2
  have e := @e_X6_isHall p i I A G hpp hG
  rw [hp.1] at e
  simp only [am_decC (show P 7 0 < 2 ^ 31 by omega)] at e
  refine ⟨fun h => ?_, fun h => ?_⟩
  · rw [e, decide_eq_true h]; rfl
  · rw [e, decide_eq_false h]; rfl
theorem e_X6_dr {p : Nat} {P : sg_P} {i : Int32} {I A : am_F} {G : am_G} (hpp : p = 5 ∨ p = 25) (hG : G 0 3 = p) (hv : vp_p P) (hp : cr_p p P I A) : (pf_dr P i → am_e 61 0 [.ref 0, .int i] [] I A G = some (.int 1, I, A, G)) ∧ (¬ pf_dr P i → am_e 61 0 [.ref 0, .int i] [] I A G = some (.int 0, I, A, G)) := by
  have hH := hv.2.1
  have e := @e_X6_isDoor p i I A G hpp hG
  rw [hp.2.1] at e
  simp only [am_decC (show P 7 1 < 2 ^ 31 by omega)] at e
  refine ⟨fun h => ?_, fun h => ?_⟩
  · rw [e, decide_eq_true h]; rfl
  · rw [e, decide_eq_false h]; rfl
theorem e_X6_air {p p' : Nat} {P : sg_P} {s : sg_S} {t i : Int32} {I A : am_F} {G : am_G} (hv : vp_p P) (hs : sv_s P s) (hc : ck P s p p' I A G) : ∃ (A' : am_F) (G' : am_G), am_e 44 0 [.ref 0, .int t, .int i] [] I A G = some (.int (pf_air P s t i), I, A', G') ∧ fr_c A A' G G' := by
  obtain ⟨h1, h2, h3, h4⟩ := id hc
  have hpp := h1.pp.1
  have hH := hv.1.2
  obtain ⟨r1, r0⟩ := @e_X6_hr t I A G
  obtain ⟨l1, l0⟩ := @e_X6_hl p P i I A G hpp h1.1 hv h2.1
  unfold pf_air
  by_cases ht : pf_hr t
  · by_cases hi : pf_hl P i
    · rw [if_pos ⟨ht, hi⟩]
      obtain ⟨A', G', f1, f2, f3⟩ := e_X6_blowNow (w := pf_wy P t) hv hs (pf_way_w _ _) hc
      refine ⟨A', G', ?_, f2⟩
      obtain ⟨j, hj, rfl⟩ := (am_rngM (by omega)).mp hi
      have hw := @e_X2_wayIn p I A G P t hpp h2.1
      have cj := nI_clamp (show j < 2 ^ 31 by omega)
      have xj := am_ixF (show j < 9 by omega) (show 9 < 2 ^ 31 by omega)
      have a59 := f3.2.1 j hj
      rcases hpp with rfl | rfl <;> simp only [s_X6_air_0, s_X6_air_1, s_X6_air_4, s_X6_air_7, s_X6_air_8, s_X6_air_9, s_X6_air_12, s_X6_air_15, s_X6_air_16, s_X6_air_17, s_X6_air_18, s_X6_air_19, s_X6_air_22, s_X6_air_23_at5, s_X6_air_23_at25, s_X6_air_26, s_X6_air_29, s_X6_air_30, s_X6_air_33, s_X6_air_36, s_X6_air_37, s_X6_air_38, r1 ht, l1 hi, am_k_some, am_push_i, am_push_n, am_10, if_false, h1.1, hw, f1, am_len_59, cj, xj, a59]
    · rw [if_neg (fun q => hi q.2)]
      refine ⟨A, G, ?_, fr_c.rf A G⟩
      simp only [s_X6_air_0, s_X6_air_1, s_X6_air_4, s_X6_air_7, s_X6_air_8, s_X6_air_9, s_X6_air_12, s_X6_air_15, s_X6_air_16, r1 ht, l0 hi, am_k_some, am_push_i, am_10, if_false, if_true]
  · rw [if_neg (fun q => ht q.1)]
    refine ⟨A, G, ?_, fr_c.rf A G⟩
    simp only [s_X6_air_0, s_X6_air_1, s_X6_air_4, s_X6_air_7, s_X6_air_8, s_X6_air_9, s_X6_air_12, s_X6_air_15, s_X6_air_16, r0 ht, am_k_some, am_push_i, if_true]
theorem e_X6_through {p p' : Nat} {P : sg_P} {s : sg_S} {t i : Int32} {I A : am_F} {G : am_G} (hv : vp_p P) (hs : sv_s P s) (hc : ck P s p p' I A G) : ∃ (A' : am_F) (G' : am_G), am_e 45 0 [.ref 0, .int t, .int i] [] I A G = some (.int (pf_thr P s t i), I, A', G') ∧ fr_c A A' G G' := by
  obtain ⟨h1, h2, h3, h4⟩ := id hc
  have hpp := h1.pp.1
  have hH := hv.2.1
  obtain ⟨r1, r0⟩ := @e_X6_hr t I A G
  obtain ⟨l1, l0⟩ := @e_X6_dr p P i I A G hpp h1.1 hv h2.1
  unfold pf_thr
  by_cases ht : pf_hr t
  · by_cases hi : pf_dr P i
    · rw [if_pos ⟨ht, hi⟩]
      obtain ⟨A', G', f1, f2, f3⟩ := e_X6_blowNow (w := pf_wy P t) hv hs (pf_way_w _ _) hc
      refine ⟨A', G', ?_, f2⟩
      obtain ⟨j, hj, rfl⟩ := (am_rngM (by omega)).mp hi
      have hw := @e_X2_wayIn p I A G P t hpp h2.1
      have cj := nI_clamp (show j < 2 ^ 31 by omega)
      have xj := am_ixF (show j < 10 by omega) (show 10 < 2 ^ 31 by omega)
      have a59 := f3.2.2 j hj
      rcases hpp with rfl | rfl <;> simp only [s_X6_through_0, s_X6_through_1, s_X6_through_4, s_X6_through_7, s_X6_through_8, s_X6_through_9, s_X6_through_12, s_X6_through_15, s_X6_through_16, s_X6_through_17, s_X6_through_18, s_X6_through_19, s_X6_through_22, s_X6_through_23_at5, s_X6_through_23_at25, s_X6_through_26, s_X6_through_29, s_X6_through_30, s_X6_through_33, s_X6_through_36, s_X6_through_37, s_X6_through_38, r1 ht, l1 hi, am_k_some, am_push_i, am_push_n, am_10, if_false, h1.1, hw, f1, am_len_60, cj, xj, a59]
    · rw [if_neg (fun q => hi q.2)]
      refine ⟨A, G, ?_, fr_c.rf A G⟩
      simp only [s_X6_through_0, s_X6_through_1, s_X6_through_4, s_X6_through_7, s_X6_through_8, s_X6_through_9, s_X6_through_12, s_X6_through_15, s_X6_through_16, r1 ht, l0 hi, am_k_some, am_push_i, am_10, if_false, if_true]
  · rw [if_neg (fun q => ht q.1)]
    refine ⟨A, G, ?_, fr_c.rf A G⟩
    simp only [s_X6_through_0, s_X6_through_1, s_X6_through_4, s_X6_through_7, s_X6_through_8, s_X6_through_9, s_X6_through_12, s_X6_through_15, s_X6_through_16, r0 ht, am_k_some, am_push_i, if_true]
/-- what downwind answers -/
def pf_dw (P : sg_P) (s : sg_S) (t i v : Int32) : Prop := (pf_hr t ∧ pf_hl P i → ∀ j, j < 32 → am_hb v j = pf_db P s.1 s.2.1 (pf_wy P t) i.toNatClampNeg j) ∧ (¬ (pf_hr t ∧ pf_hl P i) → v = -1)
theorem pf_dw_u {P : sg_P} {s : sg_S} {t i v v' : Int32} (h : pf_dw P s t i v) (h' : pf_dw P s t i v') : v = v' := by
  by_cases hc : pf_hr t ∧ pf_hl P i
  · exact am_hb_x (fun j hj => by rw [h.1 hc j hj, h'.1 hc j hj])
  · rw [h.2 hc, h'.2 hc]
theorem e_X6_downwind {p p' : Nat} {P : sg_P} {s : sg_S} {t i : Int32} {I A : am_F} {G : am_G} (hv : vp_p P) (hs : sv_s P s) (hc : ck P s p p' I A G) : ∃ (v : Int32) (A' : am_F) (G' : am_G), am_e 46 0 [.ref 0, .int t, .int i] [] I A G = some (.int v, I, A', G') ∧ fr_c A A' G G' ∧ pf_dw P s t i v := by
  obtain ⟨h1, h2, h3, h4⟩ := id hc
  have hpp := h1.pp.1
  have hH := hv.1.2
  obtain ⟨r1, r0⟩ := @e_X6_hr t I A G
  obtain ⟨l1, l0⟩ := @e_X6_hl p P i I A G hpp h1.1 hv h2.1
  by_cases ht : pf_hr t
  · by_cases hi : pf_hl P i
    · obtain ⟨A', G', f1, f2, f3⟩ := e_X6_blowNow (w := pf_wy P t) hv hs (pf_way_w _ _) hc
      have hc' := hc.fr f2
      have hi2 := hi
      obtain ⟨j, hj, rfl⟩ := (am_rngM (by omega)).mp hi2
      obtain ⟨Y, k1, k2⟩ := e_X0_dw (i := j) hpp hv (pf_way_w _ _) hc'.2.2.1 f3 hj
      refine ⟨pf_wb Y (nI j) 0, A', G', ?_, f2, fun _ b hb => ?_, fun q => absurd ⟨ht, hi⟩ q⟩
      · have hw := @e_X2_wayIn p I A G P t hpp h2.1
        rcases hpp with rfl | rfl <;> simp only [s_X6_downwind_0, s_X6_downwind_1, s_X6_downwind_4, s_X6_downwind_7, s_X6_downwind_8, s_X6_downwind_9, s_X6_downwind_12, s_X6_downwind_15, s_X6_downwind_16, s_X6_downwind_17, s_X6_downwind_18, s_X6_downwind_19, s_X6_downwind_22, s_X6_downwind_23_at5, s_X6_downwind_23_at25, s_X6_downwind_26, s_X6_downwind_29, s_X6_downwind_30, s_X6_downwind_33, s_X6_downwind_34, s_X6_downwind_35, s_X6_downwind_36, s_X6_downwind_39, s_X6_downwind_40, s_X6_downwind_41, s_X6_downwind_44, r1 ht, l1 hi, am_k_some, am_push_i, am_push_n, am_10, if_false, h1.1, hw, f1, k1, e_X6_withBit]
      · rw [am_hb_wb (by omega) hb, nI_clamp (by omega), k2 b hb]
        unfold pf_db
        by_cases hbj : b = j
        · rw [if_pos hbj, hbj]; simp
        · rw [if_neg hbj, decide_eq_true hbj, Bool.true_and]
    · refine ⟨-1, A, G, ?_, fr_c.rf A G, fun q => absurd q.2 hi, fun _ => rfl⟩
      simp only [s_X6_downwind_0, s_X6_downwind_1, s_X6_downwind_4, s_X6_downwind_7, s_X6_downwind_8, s_X6_downwind_9, s_X6_downwind_12, s_X6_downwind_15, s_X6_downwind_16, r1 ht, l0 hi, am_k_some, am_push_i, am_10, if_false, if_true]
  · refine ⟨-1, A, G, ?_, fr_c.rf A G, fun q => absurd q.1 ht, fun _ => rfl⟩
    simp only [s_X6_downwind_0, s_X6_downwind_1, s_X6_downwind_4, s_X6_downwind_7, s_X6_downwind_8, s_X6_downwind_9, s_X6_downwind_12, s_X6_downwind_15, s_X6_downwind_16, r0 ht, am_k_some, am_push_i, if_true]
/-- the least air in a day -/
def pf_la (P : sg_P) (o f : Int32) (i : Nat) : Nat := min (pf_a P o f (pf_way P (nI (P 7 4))) i) (pf_a P o f (pf_way P (nI (P 7 5))) i)
theorem e_X6_leastAir {p i : Nat} {P : sg_P} {o f : Int32} {I A : am_F} {G : am_G} (hpp : p = 5 ∨ p = 25) (hv : vp_p P) (h8 : am_hb f 8 = false) (hp : cr_p p P I A) (hwd : wd_both P p I A) (hf : I 45 1 = f) (hi : i < P 7 0) : ∃ (A' : am_F) (G' : am_G), am_e 75 0 [.ref 0, .ref p, .int o, .int (nI i), .null] [] I A G = some (.int (nI (pf_la P o f i)), I, A', G') ∧ fr_c A A' G G' := by
  have hH := hv.1.2
  obtain ⟨A1, G1, f1, f2, f3⟩ := blow_c (o := o) (w := pf_way P (nI (P 7 4))) (G := G) hpp hv h8 (pf_way_w _ _) hp hwd
  have hp1 : cr_p p P I A1 := hp.fr (fun _ => rfl) (fun a q1 q2 => f2.1 a (by omega))
  have hwd1 : wd_both P p I A1 := hwd.fr (fun _ _ _ _ => rfl) (fun b q1 q2 => f2.1 b (by omega))
  obtain ⟨A2, G2, k1, k2, k3⟩ := blow_c (o := o) (w := pf_way P (nI (P 7 5))) (G := G1) hpp hv h8 (pf_way_w _ _) hp1 hwd1
  refine ⟨A2, G2, ?_, f2.tr k2⟩
  have ci := nI_clamp (show i < 2 ^ 31 by omega)
  have xi := am_ixF (show i < 9 by omega) (show 9 < 2 ^ 31 by omega)
  have a1 := f3.2.1 i hi
  have a2 := k3.2.1 i hi
  have w1 := @e_X2_wayAt p I A G P (nI (P 7 4)) hpp hp
  have w2 := @e_X2_wayAt p I A1 G1 P (nI (P 7 5)) hpp hp1
  have b1 := pf_a_le hv o f (pf_way P (nI (P 7 4))) hi
  have b2 := pf_a_le hv o f (pf_way P (nI (P 7 5))) hi
  have q14 := hp.2.2.2.2.2.2.1
  have q15 := hp.2.2.2.2.2.2.2.1
  have hmin : (if nI (pf_a P o f (pf_way P (nI (P 7 5))) i) < nI (pf_a P o f (pf_way P (nI (P 7 4))) i) then nI (pf_a P o f (pf_way P (nI (P 7 5))) i) else nI (pf_a P o f (pf_way P (nI (P 7 4))) i)) = nI (pf_la P o f i) := by
    unfold pf_la
    by_cases h : pf_a P o f (pf_way P (nI (P 7 5))) i < pf_a P o f (pf_way P (nI (P 7 4))) i
    · rw [if_pos ((nI_ltI (by omega) (by omega)).mpr h), Nat.min_eq_right (by omega)]
    · rw [if_neg (fun q => h ((nI_ltI (by omega) (by omega)).mp q)), Nat.min_eq_left (by omega)]
  rcases hpp with rfl | rfl <;> simp only [s_X6_leastAir_0, s_X6_leastAir_1, s_X6_leastAir_4, s_X6_leastAir_5, s_X6_leastAir_6, s_X6_leastAir_7, s_X6_leastAir_10_at45, s_X6_leastAir_10_at48, s_X6_leastAir_10_at51, s_X6_leastAir_13, s_X6_leastAir_14, s_X6_leastAir_15_at5, s_X6_leastAir_15_at25, s_X6_leastAir_18_at5, s_X6_leastAir_18_at25, s_X6_leastAir_21, s_X6_leastAir_24, s_X6_leastAir_25, s_X6_leastAir_28, s_X6_leastAir_31, s_X6_leastAir_32, s_X6_leastAir_33, s_X6_leastAir_35, s_X6_leastAir_36, s_X6_leastAir_39, s_X6_leastAir_40, s_X6_leastAir_41, s_X6_leastAir_42, s_X6_leastAir_45_at45, s_X6_leastAir_45_at48, s_X6_leastAir_45_at51, s_X6_leastAir_48, s_X6_leastAir_49, s_X6_leastAir_50_at5, s_X6_leastAir_50_at25, s_X6_leastAir_53_at5, s_X6_leastAir_53_at25, s_X6_leastAir_56, s_X6_leastAir_59, s_X6_leastAir_61, s_X6_leastAir_62, s_X6_leastAir_65, s_X6_leastAir_68, s_X6_leastAir_69, s_X6_leastAir_70, s_X6_leastAir_73, hf, q14, q15, w1, w2, f1, k1, am_k_some, am_push_i, am_push_n, am_len_59, ci, xi, if_false, a1, a2, hmin]
def pf_lm (P : sg_P) (s : sg_S) (i : Int32) : Int32 := if pf_hl P i then nI (pf_la P s.1 s.2.1 i.toNatClampNeg / 3) else -1
theorem pf_la_le {P : sg_P} (hv : vp_p P) (o f : Int32) {i : Nat} (hi : i < P 7 0) : pf_la P o f i ≤ 500 := Nat.le_trans (Nat.min_le_left _ _) (pf_a_le hv o f _ hi)
theorem e_X6_lamps {p p' : Nat} {P : sg_P} {s : sg_S} {i : Int32} {I A : am_F} {G : am_G} (hv : vp_p P) (hs : sv_s P s) (hc : ck P s p p' I A G) : ∃ (A' : am_F) (G' : am_G), am_e 55 0 [.ref 0, .int i] [] I A G = some (.int (pf_lm P s i), I, A', G') ∧ fr_c A A' G G' := by
  obtain ⟨h1, h2, h3, h4⟩ := id hc
  have hpp := h1.pp.1
  have hH := hv.1.2
  obtain ⟨l1, l0⟩ := @e_X6_hl p P i I A G hpp h1.1 hv h2.1
  unfold pf_lm
  by_cases hi : pf_hl P i
  · rw [if_pos hi]
    have hi2 := hi
    obtain ⟨j, hj, rfl⟩ := (am_rngM (by omega)).mp hi2
    obtain ⟨A', G', f1, f2⟩ := e_X6_leastAir (o := s.1) (G := G) hpp hv (hs.h8 hv) h2.1 h3 h4.2.1 hj
    refine ⟨A', G', ?_, f2⟩
    have hl := pf_la_le hv s.1 s.2.1 hj
    have dv : nI (pf_la P s.1 s.2.1 j) / 3 = nI (pf_la P s.1 s.2.1 j / 3) := pk_div (d := 3) (by omega) (by omega) (by omega)
    have cj := nI_clamp (show j < 2 ^ 31 by omega)
    rcases hpp with rfl | rfl <;> simp only [s_X6_lamps_0, s_X6_lamps_1, s_X6_lamps_2, s_X6_lamps_5, s_X6_lamps_8, s_X6_lamps_9, s_X6_lamps_10, s_X6_lamps_13, s_X6_lamps_14, s_X6_lamps_17_at45, s_X6_lamps_17_at48, s_X6_lamps_17_at51, s_X6_lamps_20, s_X6_lamps_21, s_X6_lamps_24, s_X6_lamps_25, s_X6_lamps_26, s_X6_lamps_29, s_X6_lamps_30, l1 hi, am_k_some, am_push_i, am_10, if_false, h1.1, h4.1, f1, am_30, dv, cj]
  · rw [if_neg hi]
    refine ⟨A, G, ?_, fr_c.rf A G⟩
    simp only [s_X6_lamps_0, s_X6_lamps_1, s_X6_lamps_2, s_X6_lamps_5, s_X6_lamps_8, s_X6_lamps_9, s_X6_lamps_10, s_X6_lamps_13, s_X6_lamps_14, s_X6_lamps_17_at45, s_X6_lamps_17_at48, s_X6_lamps_17_at51, s_X6_lamps_20, s_X6_lamps_21, s_X6_lamps_24, s_X6_lamps_25, s_X6_lamps_26, s_X6_lamps_29, s_X6_lamps_30, l0 hi, am_k_some, am_push_i, if_true]
/-- the first door: best, most -/
def pf_fs (P : sg_P) (o f w : Int32) : Nat → Nat × Nat
  | 0 => (P 7 1, pf_a P o f w (P 7 6))
  | d + 1 => if (pf_fs P o f w d).2 < pf_a P (o ^^^ ((1 : Int32) <<< (nI d &&& 31))) f w (P 7 6) then (d, pf_a P (o ^^^ ((1 : Int32) <<< (nI d &&& 31))) f w (P 7 6)) else pf_fs P o f w d
theorem pf_fs_le {P : sg_P} (hv : vp_p P) (o f w : Int32) : ∀ d, (pf_fs P o f w d).2 ≤ 500
  | 0 => pf_a_le hv o f w hv.2.2.2.2.2.2.2.2.1
  | d + 1 => by
    unfold pf_fs
    split
    · exact pf_a_le hv _ f w hv.2.2.2.2.2.2.2.2.1
    · exact pf_fs_le hv o f w d
theorem X6_firstL {p p' : Nat} {P : sg_P} {s : sg_S} {f w : Int32} {l1 l2 l3 : Value} {I : am_F} (hv : vp_p P) (h8 : am_hb f 8 = false) (hw : w = 0 ∨ w = 1 ∨ w = 2) : ∀ (r d : Nat) (g : Value) (A : am_F) (G : am_G), d + r = P 7 1 → ck P s p p' I A G → ∃ (A' : am_F) (G' : am_G) (g' : Value), am_e 50 77 [.ref 0, l1, l2, l3, .int f, .int w, .int (nI (pf_fs P s.1 f w d).1), .int (nI (pf_fs P s.1 f w d).2), .int (nI d), g] [] I A G = am_e 50 132 [.ref 0, l1, l2, l3, .int f, .int w, .int (nI (pf_fs P s.1 f w (P 7 1)).1), .int (nI (pf_fs P s.1 f w (P 7 1)).2), .int (nI (P 7 1)), g'] [] I A' G' ∧ fr_c A A' G G' := by
  have hD := hv.2.1
  intro r
  induction r with
  | zero =>
    intro d g A G hd hc
    have : d = P 7 1 := by omega
    subst this
    refine ⟨A, G, g, ?_, fr_c.rf A G⟩
    refine (s_X6_first_77).trans ?_
    have q10 := hc.2.1.1.2.1
    rcases hc.1.pp.1 with rfl | rfl <;> simp only [s_X6_first_79, s_X6_first_80, s_X6_first_83_at5, s_X6_first_83_at25, s_X6_first_86, hc.1.1, q10, Int32.le_refl, if_true]
  | succ r ih =>
    intro d g A G hd hc
    obtain ⟨A1, G1, f1, f2⟩ := e_X6_wardAir (o := s.1 ^^^ ((1 : Int32) <<< (nI d &&& 31))) hv h8 hw hc
    obtain ⟨A', G', g', k1, k2⟩ := ih (d + 1) (.int (nI (pf_a P (s.1 ^^^ ((1 : Int32) <<< (nI d &&& 31))) f w (P 7 6)))) A1 G1 (by omega) (hc.fr f2)
    refine ⟨A', G', g', ?_, f2.tr k2⟩
    rw [← k1]
    refine (s_X6_first_77).trans ?_
    have q10 := hc.2.1.1.2.1
    have hn : (nI (P 7 1) ≤ nI d) = False := eq_false (by rw [nI_leI (by omega) (by omega)]; omega)
    have m1 := pf_fs_le hv s.1 f w d
    have m2 := pf_a_le hv (s.1 ^^^ ((1 : Int32) <<< (nI d &&& 31))) f w hv.2.2.2.2.2.2.2.2.1
    have e1 : pf_fs P s.1 f w (d + 1) = if (pf_fs P s.1 f w d).2 < pf_a P (s.1 ^^^ ((1 : Int32) <<< (nI d &&& 31))) f w (P 7 6) then (d, pf_a P (s.1 ^^^ ((1 : Int32) <<< (nI d &&& 31))) f w (P 7 6)) else pf_fs P s.1 f w d := rfl
    have hle : (nI (pf_a P (s.1 ^^^ ((1 : Int32) <<< (nI d &&& 31))) f w (P 7 6)) ≤ nI (pf_fs P s.1 f w d).2) = (pf_a P (s.1 ^^^ ((1 : Int32) <<< (nI d &&& 31))) f w (P 7 6) ≤ (pf_fs P s.1 f w d).2) := propext (nI_leI (by omega) (by omega))
    by_cases hlt : (pf_fs P s.1 f w d).2 < pf_a P (s.1 ^^^ ((1 : Int32) <<< (nI d &&& 31))) f w (P 7 6)
    · have hle := hle.trans (eq_false (by omega))
      rw [e1, if_pos hlt]
      rcases hc.1.pp.1 with rfl | rfl <;> simp only [s_X6_first_79, s_X6_first_80, s_X6_first_83_at5, s_X6_first_83_at25, s_X6_first_86, s_X6_first_89, s_X6_first_90, s_X6_first_91, s_X6_first_94_at45, s_X6_first_94_at48, s_X6_first_94_at51, s_X6_first_97, s_X6_first_98, s_X6_first_100, s_X6_first_101, s_X6_first_102, s_X6_first_104, s_X6_first_106, s_X6_first_109, s_X6_first_111, s_X6_first_113, s_X6_first_115, s_X6_first_118, s_X6_first_120, s_X6_first_122, s_X6_first_124, s_X6_first_126, s_X6_first_129, hc.1.1, q10, hn, if_false, hc.2.2.2.1, f1, am_k_some, am_push_i, hle, am_add1]
    · have hle := hle.trans (eq_true (by omega))
      rw [e1, if_neg hlt]
      rcases hc.1.pp.1 with rfl | rfl <;> simp only [s_X6_first_79, s_X6_first_80, s_X6_first_83_at5, s_X6_first_83_at25, s_X6_first_86, s_X6_first_89, s_X6_first_90, s_X6_first_91, s_X6_first_94_at45, s_X6_first_94_at48, s_X6_first_94_at51, s_X6_first_97, s_X6_first_98, s_X6_first_100, s_X6_first_101, s_X6_first_102, s_X6_first_104, s_X6_first_106, s_X6_first_109, s_X6_first_111, s_X6_first_113, s_X6_first_115, s_X6_first_118, s_X6_first_120, s_X6_first_122, s_X6_first_124, s_X6_first_126, s_X6_first_129, hc.1.1, q10, hn, if_false, hc.2.2.2.1, f1, am_k_some, am_push_i, hle, if_true, am_add1]
def pf_first (P : sg_P) (s : sg_S) (i t x : Int32) : Int32 := if pf_hl P i ∧ pf_hr t ∧ (x = 0 ∨ x = 1) then (if x = 0 then nI (pf_fs P s.1 (s.2.1 ||| ((1 : Int32) <<< (i &&& 31))) (pf_wy P t) (P 7 1)).1 else nI (pf_fs P s.1 (s.2.1 ||| ((1 : Int32) <<< (i &&& 31))) (pf_wy P t) (P 7 1)).2) else -1
theorem e_X6_ei {x : Int32} {I A : am_F} {G : am_G} : ((x = 0 ∨ x = 1) → am_e 63 0 [.int x] [] I A G = some (.int 1, I, A, G)) ∧ (¬ (x = 0 ∨ x = 1) → am_e 63 0 [.int x] [] I A G = some (.int 0, I, A, G)) := by
  refine ⟨fun h => ?_, fun h => ?_⟩
  · rw [e_X6_isEither, decide_eq_true h]; rfl
  · rw [e_X6_isEither, decide_eq_false h]; rfl
theorem e_X6_first {p p' : Nat} {P : sg_P} {s : sg_S} {i t x : Int32} {I A : am_F} {G : am_G} (hv : vp_p P) (hs : sv_s P s) (hc : ck P s p p' I A G) : ∃ (A' : am_F) (G' : am_G), am_e 50 0 [.ref 0, .int i, .int t, .int x, .null, .null, .null, .null, .null, .null] [] I A G = some (.int (pf_first P s i t x), I, A', G') ∧ fr_c A A' G G' := by
  obtain ⟨h1, h2, h3, h4⟩ := id hc
  have hpp := h1.pp.1
  have hH := hv.1.2
  obtain ⟨r1, r0⟩ := @e_X6_hr t I A G
  obtain ⟨l1, l0⟩ := @e_X6_hl p P i I A G hpp h1.1 hv h2.1
  obtain ⟨x1, x0⟩ := @e_X6_ei x I A G
  unfold pf_first
  by_cases hall : pf_hl P i ∧ pf_hr t ∧ (x = 0 ∨ x = 1)
  · obtain ⟨hi, ht, hx⟩ := hall
    rw [if_pos ⟨hi, ht, hx⟩]
    have hi2 := hi
    obtain ⟨j, hj, rfl⟩ := (am_rngM (by omega)).mp hi2
    have h8 : am_hb (s.2.1 ||| ((1 : Int32) <<< (nI j &&& 31))) 8 = false := by
      rw [am_hb_or (by omega) (by omega), hs.h8 hv, decide_eq_false (by omega)]; rfl
    generalize hf : s.2.1 ||| ((1 : Int32) <<< (nI j &&& 31)) = f at *
    have hwb : pf_wb s.2.1 (nI j) 1 = f := by unfold pf_wb; rw [if_neg (by decide), hf]
    obtain ⟨A1, G1, f1, f2⟩ := e_X6_wardAir (o := s.1) (f := f) (w := pf_wy P t) hv h8 (pf_way_w _ _) hc
    obtain ⟨A', G', g', k1, k2⟩ := X6_firstL (l1 := .int (nI j)) (l2 := .int t) (l3 := .int x) (I := I) (w := pf_wy P t) hv h8 (pf_way_w _ _) (P 7 1) 0 .null A1 G1 (by omega) (hc.fr f2)
    refine ⟨A', G', ?_, f2.tr k2⟩
    have hw := @e_X2_wayIn p I A G P t hpp h2.1
    have q10 := h2.1.2.1
    have e0 : am_e 50 0 [.ref 0, .int (nI j), .int t, .int x, .null, .null, .null, .null, .null, .null] [] I A G = am_e 50 77 [.ref 0, .int (nI j), .int t, .int x, .int f, .int (pf_wy P t), .int (nI (pf_fs P s.1 f (pf_wy P t) 0).1), .int (nI (pf_fs P s.1 f (pf_wy P t) 0).2), .int (nI 0), .null] [] I A1 G1 := by
      rcases hpp with rfl | rfl <;> (simp only [s_X6_first_0, s_X6_first_1, s_X6_first_2, s_X6_first_5, s_X6_first_8, s_X6_first_9, s_X6_first_12, s_X6_first_15, s_X6_first_16, s_X6_first_19, s_X6_first_22, s_X6_first_23, s_X6_first_24, s_X6_first_25, s_X6_first_28_at45, s_X6_first_28_at48, s_X6_first_28_at51, s_X6_first_31, s_X6_first_32, s_X6_first_33, s_X6_first_36, s_X6_first_38, s_X6_first_39, s_X6_first_42, s_X6_first_43_at5, s_X6_first_43_at25, s_X6_first_46, s_X6_first_48, s_X6_first_49, s_X6_first_52_at5, s_X6_first_52_at25, s_X6_first_55, s_X6_first_57, s_X6_first_58, s_X6_first_59, s_X6_first_62_at45, s_X6_first_62_at48, s_X6_first_62_at51, s_X6_first_65, s_X6_first_67, s_X6_first_69, s_X6_first_72, s_X6_first_74, s_X6_first_75, l1 hi, r1 ht, x1 hx, am_k_some, am_push_i, am_10, if_false, h4.2.1, e_X6_withBit, hwb, h1.1, hw, q10, h4.1, f1]; rfl)
    rw [e0, k1]
    by_cases hx0 : x = 0
    · rw [if_pos hx0]
      simp only [s_X6_first_132, s_X6_first_133, s_X6_first_136, s_X6_first_138, s_X6_first_141, s_X6_first_143, hx0, if_true]
    · rw [if_neg hx0]
      simp only [s_X6_first_132, s_X6_first_133, s_X6_first_136, s_X6_first_138, s_X6_first_141, s_X6_first_143, hx0, if_false]
  · rw [if_neg hall]
    refine ⟨A, G, ?_, fr_c.rf A G⟩
    by_cases hi : pf_hl P i
    · by_cases ht : pf_hr t
      · have hx : ¬ (x = 0 ∨ x = 1) := fun q => hall ⟨hi, ht, q⟩
        simp only [s_X6_first_0, s_X6_first_1, s_X6_first_2, s_X6_first_5, s_X6_first_8, s_X6_first_9, s_X6_first_12, s_X6_first_15, s_X6_first_16, s_X6_first_19, s_X6_first_22, s_X6_first_23, l1 hi, r1 ht, x0 hx, am_k_some, am_push_i, am_10, if_false, if_true]
      · simp only [s_X6_first_0, s_X6_first_1, s_X6_first_2, s_X6_first_5, s_X6_first_8, s_X6_first_9, s_X6_first_12, s_X6_first_15, s_X6_first_16, s_X6_first_19, s_X6_first_22, s_X6_first_23, l1 hi, r0 ht, am_k_some, am_push_i, am_10, if_false, if_true]
    · simp only [s_X6_first_0, s_X6_first_1, s_X6_first_2, s_X6_first_5, s_X6_first_8, s_X6_first_9, s_X6_first_12, s_X6_first_15, s_X6_first_16, s_X6_first_19, s_X6_first_22, s_X6_first_23, l0 hi, am_k_some, am_push_i, if_true]
