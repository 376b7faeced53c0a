/-! ===== the model: downwind ===== -/
theorem X7_dwIn {H D n i : Nat} {F T L q r : Nat → Nat} {S : Nat → Bool} {I A : am_F} {G : am_G} (hv : fl_v H D F T r) (hq : ∀ d, d < D → q d ≤ 500) (hI : I 69 24 = nI D) (hw : mw_ok D F T L A) (h81 : ∀ d, d < D → A 81 d = nI (q d)) : ∀ (s d : Nat) (Y : Int32) (g : Value), d + s = D → (∀ j, j < 32 → am_hb Y j = true → j < H ∧ fl_r D F T q S j = true) → (∀ j, j < H → fl_R D F T q S n j = true → am_hb Y j = true) → (∀ e, e < d → 0 < q e → F e ≠ 8 → T e ≠ 8 → fl_R D F T q S n (F e) = true → am_hb Y (T e) = true) → ∃ (Y' : Int32) (g' : Value), am_e 111 15 [.ref 69, .int (nI i), .int Y, .int (nI n), .int (nI d), g] [] I A G = am_e 111 106 [.ref 69, .int (nI i), .int Y', .int (nI n), .int (nI D), g'] [] I A G ∧ (∀ j, j < 32 → am_hb Y' j = true → j < H ∧ fl_r D F T q S j = true) ∧ (∀ j, j < H → fl_R D F T q S (n + 1) j = true → am_hb Y' j = true) := by
  have hH := hv.1
  have hD := hv.2.1
  intro s
  induction s with
  | zero =>
    intro d Y g hd h1 h2 h3
    have : d = D := by omega
    subst this
    refine ⟨Y, g, ?_, h1, fun j hj h => ?_⟩
    · refine (s_X7_downwindOf_15).trans ?_
      simp only [s_X7_downwindOf_17, s_X7_downwindOf_18, s_X7_downwindOf_21, hI, Int32.le_refl, if_true]
    · rcases (fl_R_s d F T q S n j).mp h with h | ⟨e, a1, a2, a3, a4, a5⟩
      · exact h2 j hj (fl_R_S d F T q S n j h)
      · rw [← a4]
        exact h3 e a1 a2 a3 (by omega) a5
  | succ s ih =>
    intro d Y g hd h1 h2 h3
    have hdl : d < D := by omega
    obtain ⟨b1, b2, b3, b4⟩ := hv.2.2.2 d hdl
    obtain ⟨lA, fA, tA⟩ := hw d hdl
    have qA := h81 d hdl
    have hq5 := hq d hdl
    have cd := nI_clamp (show d < 2 ^ 31 by omega)
    have xd := am_ixF (show d < 11 by omega) (show 11 < 2 ^ 31 by omega)
    have hn' : (nI D ≤ nI d) = False := eq_false (by rw [nI_leI (by omega) (by omega)]; omega)
    have hq0 := am_nle0 (n := q d) (by omega)
    have f4 := mN_m4 (k := F d) (by omega)
    have t4 := mN_m4 (k := T d) (by omega)
    by_cases hc : 0 < q d ∧ F d ≠ 8 ∧ T d ≠ 8 ∧ am_hb Y (F d) = true
    · obtain ⟨hc1, hc2, hc3, hc4⟩ := hc
      have hTH := b2.resolve_right hc3
      have hfr := h1 (F d) (by omega) hc4
      obtain ⟨Y', g', f1, f2, f3⟩ := ih (d + 1) (Y ||| ((1 : Int32) <<< (nI (T d) &&& 31))) (.int 1) (by omega) (fun j hj hb => by
        rw [am_hb_or (by omega) hj, Bool.or_eq_true, decide_eq_true_iff] at hb
        rcases hb with hb | hb
        · exact h1 j hj hb
        · subst hb
          exact ⟨hTH, (fl_r_eq hv hTH).mpr (Or.inr ⟨d, hdl, hc1, hc2, rfl, hfr.2⟩)⟩) (fun j hj hb => by
        rw [am_hb_or (by omega) (by omega), h2 j hj hb]; rfl) (fun e he a1 a2 a3 a4 => by
        obtain ⟨-, c2, -⟩ := hv.2.2.2 e (by omega)
        rw [am_hb_or (by omega) (by omega), Bool.or_eq_true, decide_eq_true_iff]
        by_cases hed : e = d
        · subst hed; exact Or.inr rfl
        · exact Or.inl (h3 e (by omega) a1 a2 a3 a4))
      refine ⟨Y', g', ?_, f2, f3⟩
      rw [← f1]
      refine (s_X7_downwindOf_15).trans ?_
      have hq0 := hq0.trans (eq_false (by omega))
      have f4 := f4.trans (eq_false hc2)
      have t4 := t4.trans (eq_false hc3)
      rw [mN_n hc2] at fA f4
      rw [mN_n hc3] at tA t4
      simp only [s_X7_downwindOf_17, s_X7_downwindOf_18, s_X7_downwindOf_21, s_X7_downwindOf_24, s_X7_downwindOf_25, s_X7_downwindOf_28, s_X7_downwindOf_30, s_X7_downwindOf_31, s_X7_downwindOf_34, s_X7_downwindOf_35, s_X7_downwindOf_38, s_X7_downwindOf_40, s_X7_downwindOf_41, s_X7_downwindOf_43, s_X7_downwindOf_46, s_X7_downwindOf_47, s_X7_downwindOf_50, s_X7_downwindOf_52, s_X7_downwindOf_53, s_X7_downwindOf_55, s_X7_downwindOf_58, s_X7_downwindOf_59, s_X7_downwindOf_60, s_X7_downwindOf_63, s_X7_downwindOf_65, s_X7_downwindOf_66, s_X7_downwindOf_69, s_X7_downwindOf_72, s_X7_downwindOf_73, s_X7_downwindOf_76, s_X7_downwindOf_77, s_X7_downwindOf_79, s_X7_downwindOf_81, s_X7_downwindOf_84, s_X7_downwindOf_85, s_X7_downwindOf_86, s_X7_downwindOf_87, s_X7_downwindOf_90, s_X7_downwindOf_92, s_X7_downwindOf_93, s_X7_downwindOf_94, s_X7_downwindOf_95, s_X7_downwindOf_98, s_X7_downwindOf_99, s_X7_downwindOf_100, s_X7_downwindOf_103, hI, hn', if_false, am_len_81, am_len_83, am_len_84, cd, xd, qA, hq0, fA, f4, tA, t4, e_X7_has, am_hb_d, hc4, am_k_some, am_push_i, am_bi_0, Bool.true_eq_false, am_10, am_add1]
    · obtain ⟨Y', g', f1, f2, f3⟩ := ih (d + 1) Y (.int 0) (by omega) h1 h2 (fun e he a1 a2 a3 a4 => by
        by_cases hed : e = d
        · subst hed
          exact absurd ⟨a1, a2, a3, h2 _ (b1.resolve_right a2) a4⟩ hc
        · exact h3 e (by omega) a1 a2 a3 a4)
      refine ⟨Y', g', ?_, f2, f3⟩
      rw [← f1]
      refine (s_X7_downwindOf_15).trans ?_
      by_cases hz : q d = 0
      · have hq0 := hq0.trans (eq_true hz)
        simp only [s_X7_downwindOf_17, s_X7_downwindOf_18, s_X7_downwindOf_21, s_X7_downwindOf_24, s_X7_downwindOf_25, s_X7_downwindOf_28, s_X7_downwindOf_30, s_X7_downwindOf_31, s_X7_downwindOf_34, s_X7_downwindOf_35, s_X7_downwindOf_38, s_X7_downwindOf_40, s_X7_downwindOf_41, s_X7_downwindOf_43, s_X7_downwindOf_46, s_X7_downwindOf_47, s_X7_downwindOf_50, s_X7_downwindOf_52, s_X7_downwindOf_53, s_X7_downwindOf_55, s_X7_downwindOf_58, s_X7_downwindOf_59, s_X7_downwindOf_60, s_X7_downwindOf_63, s_X7_downwindOf_65, s_X7_downwindOf_66, s_X7_downwindOf_69, s_X7_downwindOf_72, s_X7_downwindOf_73, s_X7_downwindOf_76, s_X7_downwindOf_77, s_X7_downwindOf_79, s_X7_downwindOf_81, s_X7_downwindOf_84, s_X7_downwindOf_85, s_X7_downwindOf_86, s_X7_downwindOf_87, s_X7_downwindOf_90, s_X7_downwindOf_92, s_X7_downwindOf_93, s_X7_downwindOf_94, s_X7_downwindOf_95, s_X7_downwindOf_98, s_X7_downwindOf_99, s_X7_downwindOf_100, s_X7_downwindOf_103, hI, hn', if_false, am_len_81, am_len_83, am_len_84, cd, xd, qA, hq0, if_true, am_add1]
      · have hq0 := hq0.trans (eq_false hz)
        by_cases hf : F d = 8
        · have f4 := f4.trans (eq_true hf)
          simp only [s_X7_downwindOf_17, s_X7_downwindOf_18, s_X7_downwindOf_21, s_X7_downwindOf_24, s_X7_downwindOf_25, s_X7_downwindOf_28, s_X7_downwindOf_30, s_X7_downwindOf_31, s_X7_downwindOf_34, s_X7_downwindOf_35, s_X7_downwindOf_38, s_X7_downwindOf_40, s_X7_downwindOf_41, s_X7_downwindOf_43, s_X7_downwindOf_46, s_X7_downwindOf_47, s_X7_downwindOf_50, s_X7_downwindOf_52, s_X7_downwindOf_53, s_X7_downwindOf_55, s_X7_downwindOf_58, s_X7_downwindOf_59, s_X7_downwindOf_60, s_X7_downwindOf_63, s_X7_downwindOf_65, s_X7_downwindOf_66, s_X7_downwindOf_69, s_X7_downwindOf_72, s_X7_downwindOf_73, s_X7_downwindOf_76, s_X7_downwindOf_77, s_X7_downwindOf_79, s_X7_downwindOf_81, s_X7_downwindOf_84, s_X7_downwindOf_85, s_X7_downwindOf_86, s_X7_downwindOf_87, s_X7_downwindOf_90, s_X7_downwindOf_92, s_X7_downwindOf_93, s_X7_downwindOf_94, s_X7_downwindOf_95, s_X7_downwindOf_98, s_X7_downwindOf_99, s_X7_downwindOf_100, s_X7_downwindOf_103, hI, hn', if_false, am_len_81, am_len_83, am_len_84, cd, xd, qA, hq0, fA, f4, if_true, am_add1]
        · have f4 := f4.trans (eq_false hf)
          rw [mN_n hf] at fA f4
          by_cases ht : T d = 8
          · have t4 := t4.trans (eq_true ht)
            simp only [s_X7_downwindOf_17, s_X7_downwindOf_18, s_X7_downwindOf_21, s_X7_downwindOf_24, s_X7_downwindOf_25, s_X7_downwindOf_28, s_X7_downwindOf_30, s_X7_downwindOf_31, s_X7_downwindOf_34, s_X7_downwindOf_35, s_X7_downwindOf_38, s_X7_downwindOf_40, s_X7_downwindOf_41, s_X7_downwindOf_43, s_X7_downwindOf_46, s_X7_downwindOf_47, s_X7_downwindOf_50, s_X7_downwindOf_52, s_X7_downwindOf_53, s_X7_downwindOf_55, s_X7_downwindOf_58, s_X7_downwindOf_59, s_X7_downwindOf_60, s_X7_downwindOf_63, s_X7_downwindOf_65, s_X7_downwindOf_66, s_X7_downwindOf_69, s_X7_downwindOf_72, s_X7_downwindOf_73, s_X7_downwindOf_76, s_X7_downwindOf_77, s_X7_downwindOf_79, s_X7_downwindOf_81, s_X7_downwindOf_84, s_X7_downwindOf_85, s_X7_downwindOf_86, s_X7_downwindOf_87, s_X7_downwindOf_90, s_X7_downwindOf_92, s_X7_downwindOf_93, s_X7_downwindOf_94, s_X7_downwindOf_95, s_X7_downwindOf_98, s_X7_downwindOf_99, s_X7_downwindOf_100, s_X7_downwindOf_103, hI, hn', if_false, am_len_81, am_len_83, am_len_84, cd, xd, qA, hq0, fA, f4, tA, t4, if_true, am_add1]
          · have t4 := t4.trans (eq_false ht)
            rw [mN_n ht] at tA t4
            have hb : am_hb Y (F d) = false := Bool.eq_false_iff.mpr (fun w => hc ⟨by omega, hf, ht, w⟩)
            simp only [s_X7_downwindOf_17, s_X7_downwindOf_18, s_X7_downwindOf_21, s_X7_downwindOf_24, s_X7_downwindOf_25, s_X7_downwindOf_28, s_X7_downwindOf_30, s_X7_downwindOf_31, s_X7_downwindOf_34, s_X7_downwindOf_35, s_X7_downwindOf_38, s_X7_downwindOf_40, s_X7_downwindOf_41, s_X7_downwindOf_43, s_X7_downwindOf_46, s_X7_downwindOf_47, s_X7_downwindOf_50, s_X7_downwindOf_52, s_X7_downwindOf_53, s_X7_downwindOf_55, s_X7_downwindOf_58, s_X7_downwindOf_59, s_X7_downwindOf_60, s_X7_downwindOf_63, s_X7_downwindOf_65, s_X7_downwindOf_66, s_X7_downwindOf_69, s_X7_downwindOf_72, s_X7_downwindOf_73, s_X7_downwindOf_76, s_X7_downwindOf_77, s_X7_downwindOf_79, s_X7_downwindOf_81, s_X7_downwindOf_84, s_X7_downwindOf_85, s_X7_downwindOf_86, s_X7_downwindOf_87, s_X7_downwindOf_90, s_X7_downwindOf_92, s_X7_downwindOf_93, s_X7_downwindOf_94, s_X7_downwindOf_95, s_X7_downwindOf_98, s_X7_downwindOf_99, s_X7_downwindOf_100, s_X7_downwindOf_103, hI, hn', if_false, am_len_81, am_len_83, am_len_84, cd, xd, qA, hq0, fA, f4, tA, t4, e_X7_has, am_hb_d, hb, am_k_some, am_push_i, am_bi_0, if_true, am_add1]
theorem X7_dwOut {H D i : Nat} {F T L q r : Nat → Nat} {S : Nat → Bool} {I A : am_F} {G : am_G} (hv : fl_v H D F T r) (hq : ∀ d, d < D → q d ≤ 500) (hI : I 69 24 = nI D) (hw : mw_ok D F T L A) (h81 : ∀ d, d < D → A 81 d = nI (q d)) : ∀ (s n : Nat) (Y : Int32) (g4 g5 : Value), n + s = 8 → (∀ j, j < 32 → am_hb Y j = true → j < H ∧ fl_r D F T q S j = true) → (∀ j, j < H → fl_R D F T q S n j = true → am_hb Y j = true) → ∃ Y' : Int32, am_e 111 6 [.ref 69, .int (nI i), .int Y, .int (nI n), g4, g5] [] I A G = some (.int (Y' &&& (((1 : Int32) <<< (nI i &&& 31)) ^^^ (-1))), I, A, G) ∧ (∀ j, j < 32 → am_hb Y' j = true → j < H ∧ fl_r D F T q S j = true) ∧ (∀ j, j < H → fl_r D F T q S j = true → am_hb Y' j = true) := by
  intro s
  induction s with
  | zero =>
    intro n Y g4 g5 hn h1 h2
    have : n = 8 := by omega
    subst this
    refine ⟨Y, ?_, h1, h2⟩
    refine (s_X7_downwindOf_6).trans ?_
    simp only [s_X7_downwindOf_7, s_X7_downwindOf_9, s_X7_downwindOf_112, s_X7_downwindOf_113, s_X7_downwindOf_114, s_X7_downwindOf_115, s_X7_downwindOf_116, s_X7_downwindOf_117, s_X7_downwindOf_118, s_X7_downwindOf_119, show ((8 : Int32) ≤ nI 8) = True from eq_true (by decide), if_true]
  | succ s ih =>
    intro n Y g4 g5 hn h1 h2
    obtain ⟨Y1, g1, f1, f2, f3⟩ := X7_dwIn (n := n) (i := i) (I := I) (A := A) (G := G) hv hq hI hw h81 D 0 Y g5 (by omega) h1 h2 (fun e he => by omega)
    obtain ⟨Y', k1, k2, k3⟩ := ih (n + 1) Y1 (.int (nI D)) g1 (by omega) f2 f3
    refine ⟨Y', ?_, k2, k3⟩
    rw [← k1]
    have hn' : ((8 : Int32) ≤ nI n) = False := eq_false (by rw [show (8 : Int32) = nI 8 from rfl, nI_leI (by omega) (by omega)]; omega)
    have e1 : am_e 111 6 [.ref 69, .int (nI i), .int Y, .int (nI n), g4, g5] [] I A G = am_e 111 15 [.ref 69, .int (nI i), .int Y, .int (nI n), .int (nI 0), g5] [] I A G := by
      refine (s_X7_downwindOf_6).trans ?_
      simp only [s_X7_downwindOf_7, s_X7_downwindOf_9, s_X7_downwindOf_12, s_X7_downwindOf_13, hn', if_false]; rfl
    rw [e1, f1]
    simp only [s_X7_downwindOf_106, s_X7_downwindOf_109, am_add1]
/-- downwind of a hall, as bits -/
def pf_db (P : sg_P) (o f w : Int32) (i j : Nat) : Bool := decide (j < P 7 0) && (decide (j ≠ i) && pf_r P o f w (fun k => decide (k = i)) j)
theorem e_X7_downwindOf {i : Nat} {P : sg_P} {o f w : Int32} {I A : am_F} {G : am_G} (hv : vp_p P) (hI : I 69 24 = nI (P 7 1)) (hb : mb_ok P o f w A) (hi : i < P 7 0) : ∃ Y : Int32, am_e 111 0 [.ref 69, .int (nI i), .null, .null, .null, .null] [] I A G = some (.int Y, I, A, G) ∧ ∀ j, j < 32 → am_hb Y j = pf_db P o f w i j := by
  obtain ⟨h1, h2, h3⟩ := hb
  have hH := hv.1.2
  obtain ⟨Y, f1, f2, f3⟩ := X7_dwOut (i := i) (q := pf_q P o f w) (S := fun k => decide (k = i)) (I := I) (A := A) (G := G) (pf_flv (pf_u w) hv) (fun d hd => pf_q_le hv o f w hd) hI h3 h2 8 0 ((1 : Int32) <<< (nI i &&& 31)) .null .null (by omega) (fun j hj h => by
    rw [am_hb_1 (by omega) hj] at h
    have h := of_decide_eq_true h
    subst h
    exact ⟨hi, fl_R_S _ _ _ _ _ _ _ (decide_eq_true rfl)⟩) (fun j hj h => by
    rw [am_hb_1 (by omega) (by omega)]; exact h)
  refine ⟨Y &&& (((1 : Int32) <<< (nI i &&& 31)) ^^^ (-1)), ?_, fun j hj => ?_⟩
  · rw [← f1]
    simp only [s_X7_downwindOf_0, s_X7_downwindOf_1, s_X7_downwindOf_2, s_X7_downwindOf_3, s_X7_downwindOf_4, s_X7_downwindOf_5]
    rfl
  · rw [am_hb_an (by omega) hj]
    unfold pf_db
    by_cases hji : j = i
    · simp [hji]
    · rw [decide_eq_false hji, decide_eq_true hji, Bool.not_false, Bool.and_true, Bool.true_and]
      by_cases hjH : j < P 7 0
      · rw [decide_eq_true hjH, Bool.true_and]
        exact Bool.eq_iff_iff.mpr ⟨fun q => (f2 j hj q).2, f3 j hjH⟩
      · rw [decide_eq_false hjH, Bool.false_and]
        exact Bool.eq_false_iff.mpr (fun q => hjH (f2 j hj q).1)
theorem pf_r_c {P : sg_P} (hv : vp_p P) {o f w : Int32} {S S' : Nat → Bool} (h : ∀ i, i < P 7 0 → S i = S' i) {j : Nat} (hj : j < P 7 0) : pf_r P o f w S j = pf_r P o f w S' j := by
  have hfv := pf_flv (pf_u w) hv
  refine (fl_r_uq hfv (fun k hk => ?_) 8 j hj (by have := hfv.2.2.1 j hj; omega))
  rw [← h k hk]
  exact fl_r_eq hfv hk
/-- the class's bits: what is reached, itself left out -/
theorem e_X0_dw {p i : Nat} {P : sg_P} {o f w : Int32} {I A : am_F} {G : am_G} (hpp : p = 5 ∨ p = 25) (hv : vp_p P) (hw : w = 0 ∨ w = 1 ∨ w = 2) (hwd : wd_both P p I A) (hcb : cb_ok P o f w p A G) (hi : i < P 7 0) : ∃ Y : Int32, am_e 3 0 [.ref 58, .int ((1 : Int32) <<< (nI i &&& 31)), .null, .null, .null] [] I A G = some (.int Y, I, A, G) ∧ ∀ j, j < 32 → am_hb Y j = (decide (j < P 7 0) && pf_r P o f w (fun k => decide (k = i)) j) := by
  have hH := hv.1.2
  obtain ⟨Y, f1, f2, f3⟩ := e_X0_carriedFrom (X := (1 : Int32) <<< (nI i &&& 31)) hpp hv hw hwd hcb (by rw [am_hb_1 (by omega) (by omega)]; exact decide_eq_false (by omega))
  refine ⟨Y, f1, fun j hj => ?_⟩
  by_cases hjH : j < P 7 0
  · rw [decide_eq_true hjH, Bool.true_and, f2 j hjH]
    exact pf_r_c hv (fun k hk => am_hb_1 (by omega) (by omega)) hjH
  · rw [decide_eq_false hjH, Bool.false_and, f3 j (by omega) hj, am_hb_1 (by omega) hj]
    exact decide_eq_false (by omega)
