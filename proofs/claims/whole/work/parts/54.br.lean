/-! ===== the model: halls that breathe; what a hall gives out ===== -/
/-- ways and lets as the model has laid them -/
def mw_ok (D : Nat) (F T L : Nat → Nat) (A : am_F) : Prop := ∀ d, d < D → A 82 d = nI (L d) ∧ A 83 d = mN (F d) ∧ A 84 d = mN (T d)
theorem mw_ok.fr {D : Nat} {F T L : Nat → Nat} {A A' : am_F} (h : mw_ok D F T L A) (h2 : A' 82 = A 82) (h3 : A' 83 = A 83) (h4 : A' 84 = A 84) : mw_ok D F T L A' := fun d hd => by
  rw [h2, h3, h4]; exact h d hd
theorem X7_brIn {H D n : Nat} {F T L r : Nat → Nat} {I A : am_F} {G : am_G} (hv : fl_v H D F T r) (hL : ∀ d, d < D → L d ≤ 50) (hI : I 69 24 = nI D) (hw : mw_ok D F T L A) : ∀ (s d : Nat) (B : Int32), d + s = D → (∀ i, i < 32 → am_hb B i = true → i < H ∧ fl_b D F T L i = true) → (∀ i, i < H → fl_B D F T L n i = true → am_hb B i = true) → (∀ e, e < d → 0 < L e → F e ≠ 8 → (T e = 8 ∨ fl_B D F T L n (T e) = true) → am_hb B (F e) = true) → ∃ B' : Int32, am_e 103 12 [.ref 69, .int B, .int (nI n), .int (nI d)] [] I A G = am_e 103 81 [.ref 69, .int B', .int (nI n), .int (nI D)] [] I A G ∧ (∀ i, i < 32 → am_hb B' i = true → i < H ∧ fl_b D F T L i = true) ∧ (∀ i, i < H → fl_B D F T L (n + 1) i = true → am_hb B' i = true) := by
  have hH := hv.1
  have hD := hv.2.1
  intro s
  induction s with
  | zero =>
    intro d B hd h1 h2 h3
    have : d = D := by omega
    subst this
    refine ⟨B, ?_, h1, fun i hi h => ?_⟩
    · refine (s_X7_breathers_12).trans ?_
      simp only [s_X7_breathers_13, s_X7_breathers_14, s_X7_breathers_17, hI, Int32.le_refl, if_true]
    · obtain ⟨e, a1, a2, a3, a4⟩ := (fl_B_s d F T L n i).mp h
      rw [← a3]
      exact h3 e a1 a2 (by omega) a4
  | succ s ih =>
    intro d B hd h1 h2 h3
    have hdl : d < D := by omega
    obtain ⟨b1, b2, b3, b4⟩ := hv.2.2.2 d hdl
    obtain ⟨lA, fA, tA⟩ := hw d hdl
    have hl5 := hL d hdl
    have cd := nI_clamp (show d < 2 ^ 31 by omega)
    have xd := am_ixF (show d < 11 by omega) (show 11 < 2 ^ 31 by omega)
    have hn' : (nI D ≤ nI d) = False := eq_false (by rw [nI_leI (by omega) (by omega)]; omega)
    have hl0 := am_nle0 (n := L d) (by omega)
    have f4 := mN_m4 (k := F d) (by omega)
    have t4 := mN_m4 (k := T d) (by omega)
    by_cases hc : 0 < L d ∧ F d ≠ 8 ∧ (T d = 8 ∨ am_hb B (T d) = true)
    · obtain ⟨hc1, hc2, hc3⟩ := hc
      have hFH := b1.resolve_right hc2
      obtain ⟨B', f1, f2, f3⟩ := ih (d + 1) (B ||| ((1 : Int32) <<< (nI (F d) &&& 31))) (by omega) (fun i hi hb => by
        rw [am_hb_or (by omega) hi, Bool.or_eq_true, decide_eq_true_iff] at hb
        rcases hb with hb | hb
        · exact h1 i hi hb
        · subst hb
          refine ⟨hFH, (fl_b_eq hv hFH).mpr ⟨d, hdl, hc1, rfl, ?_⟩⟩
          rcases hc3 with q | q
          · exact Or.inl q
          · exact Or.inr (h1 _ (by omega) q).2) (fun i hi hb => by
        rw [am_hb_or (by omega) (by omega), h2 i hi hb]; rfl) (fun e he a1 a2 a3 => by
        obtain ⟨c1, -⟩ := hv.2.2.2 e (by omega)
        rw [am_hb_or (by omega) (by omega), Bool.or_eq_true, decide_eq_true_iff]
        by_cases hed : e = d
        · subst hed; exact Or.inr rfl
        · exact Or.inl (h3 e (by omega) a1 a2 a3))
      refine ⟨B', ?_, f2, f3⟩
      rw [← f1]
      refine (s_X7_breathers_12).trans ?_
      have hl0 := hl0.trans (eq_false (by omega))
      have f4 := f4.trans (eq_false hc2)
      have fn := mN_n hc2
      rw [fn] at fA f4
      by_cases ht : T d = 8
      · have t4 := t4.trans (eq_true ht)
        simp only [s_X7_breathers_13, s_X7_breathers_14, s_X7_breathers_17, s_X7_breathers_20, s_X7_breathers_21, s_X7_breathers_24, s_X7_breathers_25, s_X7_breathers_26, s_X7_breathers_29, s_X7_breathers_30, s_X7_breathers_33, s_X7_breathers_34, s_X7_breathers_35, s_X7_breathers_37, s_X7_breathers_40, s_X7_breathers_41, s_X7_breathers_44, s_X7_breathers_45, s_X7_breathers_46, s_X7_breathers_48, s_X7_breathers_51, s_X7_breathers_52, s_X7_breathers_53, s_X7_breathers_56, s_X7_breathers_57, s_X7_breathers_58, s_X7_breathers_61, s_X7_breathers_64, s_X7_breathers_65, s_X7_breathers_66, s_X7_breathers_67, s_X7_breathers_70, s_X7_breathers_71, s_X7_breathers_72, s_X7_breathers_73, s_X7_breathers_74, s_X7_breathers_75, s_X7_breathers_78, hI, hn', if_false, am_len_82, am_len_83, am_len_84, cd, xd, lA, hl0, fA, f4, tA, t4, if_true, am_add1]
      · have hb := hc3.resolve_left ht
        have t4 := t4.trans (eq_false ht)
        rw [mN_n ht] at tA t4
        simp only [s_X7_breathers_13, s_X7_breathers_14, s_X7_breathers_17, s_X7_breathers_20, s_X7_breathers_21, s_X7_breathers_24, s_X7_breathers_25, s_X7_breathers_26, s_X7_breathers_29, s_X7_breathers_30, s_X7_breathers_33, s_X7_breathers_34, s_X7_breathers_35, s_X7_breathers_37, s_X7_breathers_40, s_X7_breathers_41, s_X7_breathers_44, s_X7_breathers_45, s_X7_breathers_46, s_X7_breathers_48, s_X7_breathers_51, s_X7_breathers_52, s_X7_breathers_53, s_X7_breathers_56, s_X7_breathers_57, s_X7_breathers_58, s_X7_breathers_61, s_X7_breathers_64, s_X7_breathers_65, s_X7_breathers_66, s_X7_breathers_67, s_X7_breathers_70, s_X7_breathers_71, s_X7_breathers_72, s_X7_breathers_73, s_X7_breathers_74, s_X7_breathers_75, s_X7_breathers_78, hI, hn', if_false, am_len_82, am_len_83, am_len_84, cd, xd, lA, hl0, fA, f4, tA, t4, e_X7_has, am_hb_d, hb, am_k_some, am_push_i, am_bi_0, Bool.true_eq_false, am_add1]
    · obtain ⟨B', f1, f2, f3⟩ := ih (d + 1) B (by omega) h1 h2 (fun e he a1 a2 a3 => by
        by_cases hed : e = d
        · subst hed
          refine absurd ⟨a1, a2, ?_⟩ hc
          rcases b2 with b2 | b2
          · exact a3.imp id (h2 _ b2)
          · exact Or.inl b2
        · exact h3 e (by omega) a1 a2 a3)
      refine ⟨B', ?_, f2, f3⟩
      rw [← f1]
      refine (s_X7_breathers_12).trans ?_
      by_cases hz : L d = 0
      · have hl0 := hl0.trans (eq_true hz)
        simp only [s_X7_breathers_13, s_X7_breathers_14, s_X7_breathers_17, s_X7_breathers_20, s_X7_breathers_21, s_X7_breathers_24, s_X7_breathers_25, s_X7_breathers_26, s_X7_breathers_29, s_X7_breathers_30, s_X7_breathers_33, s_X7_breathers_34, s_X7_breathers_35, s_X7_breathers_37, s_X7_breathers_40, s_X7_breathers_41, s_X7_breathers_44, s_X7_breathers_45, s_X7_breathers_46, s_X7_breathers_48, s_X7_breathers_51, s_X7_breathers_52, s_X7_breathers_53, s_X7_breathers_56, s_X7_breathers_57, s_X7_breathers_58, s_X7_breathers_61, s_X7_breathers_64, s_X7_breathers_65, s_X7_breathers_66, s_X7_breathers_67, s_X7_breathers_70, s_X7_breathers_71, s_X7_breathers_72, s_X7_breathers_73, s_X7_breathers_74, s_X7_breathers_75, s_X7_breathers_78, hI, hn', if_false, am_len_82, am_len_83, am_len_84, cd, xd, lA, hl0, if_true, am_add1]
      · have hl0 := hl0.trans (eq_false hz)
        by_cases hf : F d = 8
        · have f4 := f4.trans (eq_true hf)
          simp only [s_X7_breathers_13, s_X7_breathers_14, s_X7_breathers_17, s_X7_breathers_20, s_X7_breathers_21, s_X7_breathers_24, s_X7_breathers_25, s_X7_breathers_26, s_X7_breathers_29, s_X7_breathers_30, s_X7_breathers_33, s_X7_breathers_34, s_X7_breathers_35, s_X7_breathers_37, s_X7_breathers_40, s_X7_breathers_41, s_X7_breathers_44, s_X7_breathers_45, s_X7_breathers_46, s_X7_breathers_48, s_X7_breathers_51, s_X7_breathers_52, s_X7_breathers_53, s_X7_breathers_56, s_X7_breathers_57, s_X7_breathers_58, s_X7_breathers_61, s_X7_breathers_64, s_X7_breathers_65, s_X7_breathers_66, s_X7_breathers_67, s_X7_breathers_70, s_X7_breathers_71, s_X7_breathers_72, s_X7_breathers_73, s_X7_breathers_74, s_X7_breathers_75, s_X7_breathers_78, hI, hn', if_false, am_len_82, am_len_83, am_len_84, cd, xd, lA, hl0, fA, f4, if_true, am_add1]
        · have f4 := f4.trans (eq_false hf)
          have ht : ¬ T d = 8 := fun q => hc ⟨by omega, hf, Or.inl q⟩
          have hb : am_hb B (T d) = false := Bool.eq_false_iff.mpr (fun q => hc ⟨by omega, hf, Or.inr q⟩)
          have t4 := t4.trans (eq_false ht)
          rw [mN_n hf] at fA f4
          rw [mN_n ht] at tA t4
          simp only [s_X7_breathers_13, s_X7_breathers_14, s_X7_breathers_17, s_X7_breathers_20, s_X7_breathers_21, s_X7_breathers_24, s_X7_breathers_25, s_X7_breathers_26, s_X7_breathers_29, s_X7_breathers_30, s_X7_breathers_33, s_X7_breathers_34, s_X7_breathers_35, s_X7_breathers_37, s_X7_breathers_40, s_X7_breathers_41, s_X7_breathers_44, s_X7_breathers_45, s_X7_breathers_46, s_X7_breathers_48, s_X7_breathers_51, s_X7_breathers_52, s_X7_breathers_53, s_X7_breathers_56, s_X7_breathers_57, s_X7_breathers_58, s_X7_breathers_61, s_X7_breathers_64, s_X7_breathers_65, s_X7_breathers_66, s_X7_breathers_67, s_X7_breathers_70, s_X7_breathers_71, s_X7_breathers_72, s_X7_breathers_73, s_X7_breathers_74, s_X7_breathers_75, s_X7_breathers_78, hI, hn', if_false, am_len_82, am_len_83, am_len_84, cd, xd, lA, hl0, fA, f4, tA, t4, e_X7_has, am_hb_d, hb, am_k_some, am_push_i, am_bi_0, if_true, am_add1]
theorem X7_brOut {H D : Nat} {F T L r : Nat → Nat} {I A : am_F} {G : am_G} (hv : fl_v H D F T r) (hL : ∀ d, d < D → L d ≤ 50) (hI : I 69 24 = nI D) (hw : mw_ok D F T L A) : ∀ (s n : Nat) (B : Int32) (g : Value), n + s = 8 → (∀ i, i < 32 → am_hb B i = true → i < H ∧ fl_b D F T L i = true) → (∀ i, i < H → fl_B D F T L n i = true → am_hb B i = true) → ∃ B' : Int32, am_e 103 4 [.ref 69, .int B, .int (nI n), g] [] I A G = some (.int B', I, A, G) ∧ (∀ i, i < 32 → am_hb B' i = true → i < H ∧ fl_b D F T L i = true) ∧ (∀ i, i < H → fl_b D F T L i = true → am_hb B' i = true) := by
  intro s
  induction s with
  | zero =>
    intro n B g hn h1 h2
    have : n = 8 := by omega
    subst this
    refine ⟨B, ?_, h1, h2⟩
    refine (s_X7_breathers_4).trans ?_
    simp only [s_X7_breathers_5, s_X7_breathers_7, s_X7_breathers_87, s_X7_breathers_88, show ((8 : Int32) ≤ nI 8) = True from eq_true (by decide), if_true]
  | succ s ih =>
    intro n B g hn h1 h2
    obtain ⟨B1, f1, f2, f3⟩ := X7_brIn (n := n) (I := I) (A := A) (G := G) hv hL hI hw D 0 B (by omega) h1 h2 (fun e he => by omega)
    obtain ⟨B', k1, k2, k3⟩ := ih (n + 1) B1 (.int (nI D)) (by omega) f2 f3
    refine ⟨B', ?_, k2, k3⟩
    rw [← k1]
    have hn' : ((8 : Int32) ≤ nI n) = False := eq_false (by rw [show (8 : Int32) = nI 8 from rfl, nI_leI (by omega) (by omega)]; omega)
    have e1 : am_e 103 4 [.ref 69, .int B, .int (nI n), g] [] I A G = am_e 103 12 [.ref 69, .int B, .int (nI n), .int (nI 0)] [] I A G := by
      refine (s_X7_breathers_4).trans ?_
      simp only [s_X7_breathers_5, s_X7_breathers_7, s_X7_breathers_10, s_X7_breathers_11, hn', if_false]; rfl
    rw [e1, f1]
    simp only [s_X7_breathers_81, s_X7_breathers_84, am_add1]
theorem e_X7_breathers {H D : Nat} {F T L r : Nat → Nat} {I A : am_F} {G : am_G} (hv : fl_v H D F T r) (hL : ∀ d, d < D → L d ≤ 50) (hI : I 69 24 = nI D) (hw : mw_ok D F T L A) : ∃ B : Int32, am_e 103 0 [.ref 69, .null, .null, .null] [] I A G = some (.int B, I, A, G) ∧ (∀ i, i < H → am_hb B i = fl_b D F T L i) := by
  have hH := hv.1
  obtain ⟨B, f1, f2, f3⟩ := X7_brOut (I := I) (A := A) (G := G) hv hL hI hw 8 0 0 .null (by omega) (fun i hi h => by rw [am_hb_0 hi] at h; cases h) (fun i hi h => by cases h)
  refine ⟨B, ?_, fun i hi => Bool.eq_iff_iff.mpr ⟨fun h => (f2 i (by omega) h).2, f3 i hi⟩⟩
  rw [← f1]
  simp only [s_X7_breathers_0, s_X7_breathers_1, s_X7_breathers_2, s_X7_breathers_3]; rfl
theorem e_X7_leadsOn {H D d i : Nat} {F T L r : Nat → Nat} {B : Int32} {I A : am_F} {G : am_G} (hv : fl_v H D F T r) (hL : ∀ d, d < D → L d ≤ 50) (hw : mw_ok D F T L A) (hB : ∀ i, i < H → am_hb B i = fl_b D F T L i) (hd : d < D) (hi : i < H) : am_e 105 0 [.ref 69, .int (nI d), .int (nI i), .int B] [] I A G = some (.int (am_bi (decide (F d = i ∧ fl_on D F T L d = true))), I, A, G) := by
  have hH := hv.1
  have hD := hv.2.1
  obtain ⟨b1, b2, b3, b4⟩ := hv.2.2.2 d hd
  obtain ⟨lA, fA, tA⟩ := hw d hd
  have hl5 := hL d hd
  have cd := nI_clamp (show d < 2 ^ 31 by omega)
  have xd := am_ixF (show d < 11 by omega) (show 11 < 2 ^ 31 by omega)
  have hl0 := am_nle0 (n := L d) (by omega)
  have fi := mN_eq (k := F d) (i := i) (by omega) (by omega)
  have t4 := mN_m4 (k := T d) (by omega)
  by_cases hF : F d = i
  · have fi := fi.trans (eq_true hF)
    by_cases hz : L d = 0
    · have hl0 := hl0.trans (eq_true hz)
      rw [decide_eq_false (fun q => fl_on_z hz q.2)]
      simp only [s_X7_leadsOn_0, s_X7_leadsOn_1, s_X7_leadsOn_4, s_X7_leadsOn_5, s_X7_leadsOn_6, s_X7_leadsOn_7, s_X7_leadsOn_10, s_X7_leadsOn_11, s_X7_leadsOn_14, s_X7_leadsOn_15, s_X7_leadsOn_16, s_X7_leadsOn_19, s_X7_leadsOn_20, s_X7_leadsOn_23, s_X7_leadsOn_24, s_X7_leadsOn_25, s_X7_leadsOn_27, s_X7_leadsOn_30, s_X7_leadsOn_31, s_X7_leadsOn_32, s_X7_leadsOn_35, s_X7_leadsOn_36, s_X7_leadsOn_37, s_X7_leadsOn_40, s_X7_leadsOn_43, s_X7_leadsOn_44, s_X7_leadsOn_47, s_X7_leadsOn_48, am_len_82, am_len_83, am_len_84, cd, xd, if_false, fA, fi, lA, hl0, if_true, am_01_0]
      rfl
    · have hl0 := hl0.trans (eq_false hz)
      by_cases ht : T d = 8
      · have t4 := t4.trans (eq_true ht)
        rw [decide_eq_true ⟨hF, fl_on_iff.mpr ⟨by omega, Or.inl ht⟩⟩]
        simp only [s_X7_leadsOn_0, s_X7_leadsOn_1, s_X7_leadsOn_4, s_X7_leadsOn_5, s_X7_leadsOn_6, s_X7_leadsOn_7, s_X7_leadsOn_10, s_X7_leadsOn_11, s_X7_leadsOn_14, s_X7_leadsOn_15, s_X7_leadsOn_16, s_X7_leadsOn_19, s_X7_leadsOn_20, s_X7_leadsOn_23, s_X7_leadsOn_24, s_X7_leadsOn_25, s_X7_leadsOn_27, s_X7_leadsOn_30, s_X7_leadsOn_31, s_X7_leadsOn_32, s_X7_leadsOn_35, s_X7_leadsOn_36, s_X7_leadsOn_37, s_X7_leadsOn_40, s_X7_leadsOn_43, s_X7_leadsOn_44, s_X7_leadsOn_47, s_X7_leadsOn_48, am_len_82, am_len_83, am_len_84, cd, xd, if_false, fA, fi, lA, hl0, tA, t4, if_true, am_01_1]
        rfl
      · have t4 := t4.trans (eq_false ht)
        rw [mN_n ht] at tA t4
        have hb := hB (T d) (b2.resolve_right ht)
        cases hbb : fl_b D F T L (T d) with
        | true =>
          rw [hbb] at hb
          rw [decide_eq_true ⟨hF, fl_on_iff.mpr ⟨by omega, Or.inr hbb⟩⟩]
          simp only [s_X7_leadsOn_0, s_X7_leadsOn_1, s_X7_leadsOn_4, s_X7_leadsOn_5, s_X7_leadsOn_6, s_X7_leadsOn_7, s_X7_leadsOn_10, s_X7_leadsOn_11, s_X7_leadsOn_14, s_X7_leadsOn_15, s_X7_leadsOn_16, s_X7_leadsOn_19, s_X7_leadsOn_20, s_X7_leadsOn_23, s_X7_leadsOn_24, s_X7_leadsOn_25, s_X7_leadsOn_27, s_X7_leadsOn_30, s_X7_leadsOn_31, s_X7_leadsOn_32, s_X7_leadsOn_35, s_X7_leadsOn_36, s_X7_leadsOn_37, s_X7_leadsOn_40, s_X7_leadsOn_43, s_X7_leadsOn_44, s_X7_leadsOn_47, s_X7_leadsOn_48, am_len_82, am_len_83, am_len_84, cd, xd, if_false, fA, fi, lA, hl0, tA, t4, if_true, e_X7_has, am_hb_d, hb, am_k_some, am_push_i, am_bi_0, Bool.true_eq_false, am_01_1]
          rfl
        | false =>
          rw [hbb] at hb
          rw [decide_eq_false (fun q => (fl_on_iff.mp q.2).2.elim ht (fun w => by rw [hbb] at w; cases w))]
          simp only [s_X7_leadsOn_0, s_X7_leadsOn_1, s_X7_leadsOn_4, s_X7_leadsOn_5, s_X7_leadsOn_6, s_X7_leadsOn_7, s_X7_leadsOn_10, s_X7_leadsOn_11, s_X7_leadsOn_14, s_X7_leadsOn_15, s_X7_leadsOn_16, s_X7_leadsOn_19, s_X7_leadsOn_20, s_X7_leadsOn_23, s_X7_leadsOn_24, s_X7_leadsOn_25, s_X7_leadsOn_27, s_X7_leadsOn_30, s_X7_leadsOn_31, s_X7_leadsOn_32, s_X7_leadsOn_35, s_X7_leadsOn_36, s_X7_leadsOn_37, s_X7_leadsOn_40, s_X7_leadsOn_43, s_X7_leadsOn_44, s_X7_leadsOn_47, s_X7_leadsOn_48, am_len_82, am_len_83, am_len_84, cd, xd, if_false, fA, fi, lA, hl0, tA, t4, if_true, e_X7_has, am_hb_d, hb, am_k_some, am_push_i, am_bi_0, am_01_0]
          rfl
  · have fi := fi.trans (eq_false hF)
    rw [decide_eq_false (fun q => hF q.1)]
    simp only [s_X7_leadsOn_0, s_X7_leadsOn_1, s_X7_leadsOn_4, s_X7_leadsOn_5, s_X7_leadsOn_6, s_X7_leadsOn_7, s_X7_leadsOn_10, s_X7_leadsOn_11, s_X7_leadsOn_14, s_X7_leadsOn_15, s_X7_leadsOn_16, s_X7_leadsOn_19, s_X7_leadsOn_20, s_X7_leadsOn_23, s_X7_leadsOn_24, s_X7_leadsOn_25, s_X7_leadsOn_27, s_X7_leadsOn_30, s_X7_leadsOn_31, s_X7_leadsOn_32, s_X7_leadsOn_35, s_X7_leadsOn_36, s_X7_leadsOn_37, s_X7_leadsOn_40, s_X7_leadsOn_43, s_X7_leadsOn_44, s_X7_leadsOn_47, s_X7_leadsOn_48, am_len_82, am_len_83, am_len_84, cd, xd, if_false, fA, fi, am_01_0, if_true]
    rfl
theorem fl_l_tot {D : Nat} {F T L : Nat → Nat} {i d : Nat} (hd : d < D) (hF : F d = i) : fl_l D F T L d ≤ fl_tot D F T L i := by
  have h3 : fl_s (fun j => if j = d then fl_l D F T L d else 0) D ≤ fl_tot D F T L i := fl_s_le D (fun j _ => by
    by_cases h : j = d
    · subst h; rw [if_pos rfl, if_pos hF]; exact Nat.le_refl _
    · rw [if_neg h]; omega)
  rw [fl_s_one, if_pos hd] at h3
  exact h3
theorem fl_ba_off {D : Nat} {F T L : Nat → Nat} {a i d : Nat} (ho : ¬ fl_on D F T L d = true) : fl_ba D F T L a i d = 0 := by
  unfold fl_ba; rw [fl_l_off ho, Nat.mul_zero, Nat.zero_div]
theorem fl_sh_off {D : Nat} {F T L : Nat → Nat} {a i d : Nat} (ho : ¬ fl_on D F T L d = true) : fl_sh D F T L a i d = 0 := by
  unfold fl_sh; rw [fl_ba_off ho, if_neg (fun q => ho q.1)]
theorem X7_gv1 {H D i : Nat} {F T L r : Nat → Nat} {B : Int32} {I A : am_F} {G : am_G} (hv : fl_v H D F T r) (hL : ∀ d, d < D → L d ≤ 50) (hI : I 69 24 = nI D) (hw : mw_ok D F T L A) (hB : ∀ i, i < H → am_hb B i = fl_b D F T L i) (hi : i < H) : ∀ (s d : Nat) (g : Value), d + s = D → am_e 104 5 [.ref 69, .int (nI i), .int B, .int (nI (fl_s (fun e => if F e = i then fl_l D F T L e else 0) d)), .int (nI d), g] [] I A G = am_e 104 45 [.ref 69, .int (nI i), .int B, .int (nI (fl_tot D F T L i)), .int (nI D), g] [] I A G := by
  have hD := hv.2.1
  intro s
  induction s with
  | zero =>
    intro d g hd
    have : d = D := by omega
    subst this
    refine (s_X7_giveOut_5).trans ?_
    simp only [s_X7_giveOut_7, s_X7_giveOut_8, s_X7_giveOut_11, hI, Int32.le_refl, if_true]
    rfl
  | succ s ih =>
    intro d g hd
    have hdl : d < D := by omega
    rw [← ih (d + 1) g (by omega)]
    refine (s_X7_giveOut_5).trans ?_
    have lA := (hw d hdl).1
    have cd := nI_clamp (show d < 2 ^ 31 by omega)
    have xd := am_ixF (show d < 11 by omega) (show 11 < 2 ^ 31 by omega)
    have hn' : (nI D ≤ nI d) = False := eq_false (by rw [nI_leI (by omega) (by omega)]; omega)
    have hlo := @e_X7_leadsOn H D d i F T L r B I A G hv hL hw hB hdl hi
    have e1 : fl_s (fun e => if F e = i then fl_l D F T L e else 0) (d + 1) = fl_s (fun e => if F e = i then fl_l D F T L e else 0) d + if F d = i then fl_l D F T L d else 0 := rfl
    by_cases hc : F d = i ∧ fl_on D F T L d = true
    · rw [decide_eq_true hc] at hlo
      rw [e1, if_pos hc.1, (fl_l_on hc.2).1]
      simp only [s_X7_giveOut_7, s_X7_giveOut_8, s_X7_giveOut_11, s_X7_giveOut_14, s_X7_giveOut_15, s_X7_giveOut_16, s_X7_giveOut_18, s_X7_giveOut_19, s_X7_giveOut_20, s_X7_giveOut_23, s_X7_giveOut_26, s_X7_giveOut_27, s_X7_giveOut_30, s_X7_giveOut_32, s_X7_giveOut_33, s_X7_giveOut_36, s_X7_giveOut_37, s_X7_giveOut_38, s_X7_giveOut_39, s_X7_giveOut_42, hI, hn', if_false, hlo, am_k_some, am_push_i, am_bi_0, Bool.true_eq_false, am_len_82, cd, xd, lA, nI_add, am_add1]
    · rw [decide_eq_false hc] at hlo
      have e2 : (if F d = i then fl_l D F T L d else 0) = 0 := by
        by_cases hF : F d = i
        · rw [if_pos hF, fl_l_off (fun q => hc ⟨hF, q⟩)]
        · rw [if_neg hF]
      rw [e1, e2, Nat.add_zero]
      simp only [s_X7_giveOut_7, s_X7_giveOut_8, s_X7_giveOut_11, s_X7_giveOut_14, s_X7_giveOut_15, s_X7_giveOut_16, s_X7_giveOut_18, s_X7_giveOut_19, s_X7_giveOut_20, s_X7_giveOut_23, s_X7_giveOut_26, s_X7_giveOut_27, s_X7_giveOut_30, s_X7_giveOut_32, s_X7_giveOut_33, s_X7_giveOut_36, s_X7_giveOut_37, s_X7_giveOut_38, s_X7_giveOut_39, s_X7_giveOut_42, hI, hn', if_false, hlo, am_k_some, am_push_i, am_bi_0, if_true, Int32.add_zero, am_add1]
theorem X7_gv2 {H D i av : Nat} {F T L r : Nat → Nat} {B : Int32} {I : am_F} {G : am_G} (hv : fl_v H D F T r) (hL : ∀ d, d < D → L d ≤ 50) (hI : I 69 24 = nI D) (hB : ∀ i, i < H → am_hb B i = fl_b D F T L i) (hi : i < H) (hav : av ≤ 500) : ∀ (s d : Nat) (A : am_F), d + s = D → mw_ok D F T L A → A 80 i = nI av → (∀ e, e < D → F e = i → A 81 e = nI (if e < d then fl_ba D F T L av i e else 0)) → ∃ A' : am_F, am_e 104 56 [.ref 69, .int (nI i), .int B, .int (nI (fl_tot D F T L i)), .int (nI (av - fl_s (fun e => if F e = i then fl_ba D F T L av i e else 0) d)), .int (nI d)] [] I A G = am_e 104 117 [.ref 69, .int (nI i), .int B, .int (nI (fl_tot D F T L i)), .int (nI (fl_lf D F T L av i)), .int (nI D)] [] I A' G ∧ (∀ b, b ≠ 81 → A' b = A b) ∧ (∀ e, ¬ (e < D ∧ F e = i) → A' 81 e = A 81 e) ∧ ∀ e, e < D → F e = i → A' 81 e = nI (fl_ba D F T L av i e) := by
  have hD := hv.2.1
  have hH := hv.1
  intro s
  induction s with
  | zero =>
    intro d A hd hw h80 h81
    have : d = D := by omega
    subst this
    refine ⟨A, ?_, fun b _ => rfl, fun e _ => rfl, fun e he hF => by rw [h81 e he hF, if_pos he]⟩
    refine (s_X7_giveOut_56).trans ?_
    simp only [s_X7_giveOut_58, s_X7_giveOut_59, s_X7_giveOut_62, hI, Int32.le_refl, if_true]
    rfl
  | succ s ih =>
    intro d A hd hw h80 h81
    have hdl : d < D := by omega
    have lA := (hw d hdl).1
    have hl5 := hL d hdl
    have cd := nI_clamp (show d < 2 ^ 31 by omega)
    have xd := am_ixF (show d < 11 by omega) (show 11 < 2 ^ 31 by omega)
    have ci := nI_clamp (show i < 2 ^ 31 by omega)
    have xi := am_ixF (show i < 8 by omega) (show 8 < 2 ^ 31 by omega)
    have hn' : (nI D ≤ nI d) = False := eq_false (by rw [nI_leI (by omega) (by omega)]; omega)
    have hlo := @e_X7_leadsOn H D d i F T L r B I A G hv hL hw hB hdl hi
    have e1 : fl_s (fun e => if F e = i then fl_ba D F T L av i e else 0) (d + 1) = fl_s (fun e => if F e = i then fl_ba D F T L av i e else 0) d + if F d = i then fl_ba D F T L av i d else 0 := rfl
    by_cases hc : F d = i ∧ fl_on D F T L d = true
    · rw [decide_eq_true hc] at hlo
      have hll := fl_l_on hc.2
      have hlt := fl_l_tot (F := F) (T := T) (L := L) hdl hc.1
      have ht5 := fl_tot_le (F := F) (T := T) hD hL i
      have hbp := fl_ba_p D F T L av i hdl hc.1
      have hml : av * L d ≤ 500 * 50 := Nat.mul_le_mul hav hl5
      have hne : (nI (fl_tot D F T L i) = 0) = False := eq_false (nI_ne0 (by omega) (by omega))
      have hdv : nI av * nI (L d) / nI (fl_tot D F T L i) = nI (fl_ba D F T L av i d) := by
        rw [pk_mul, pk_div (by omega) (by omega) (by omega), ← hll.1]; rfl
      have hsub : nI (av - fl_s (fun e => if F e = i then fl_ba D F T L av i e else 0) d) - nI (fl_ba D F T L av i d) = nI (av - fl_s (fun e => if F e = i then fl_ba D F T L av i e else 0) (d + 1)) := by
        rw [pk_sub (by omega), e1, if_pos hc.1]
        congr 1
        omega
      obtain ⟨A', f1, f2, f3, f4⟩ := ih (d + 1) (am_u A 81 d (nI (fl_ba D F T L av i d))) (by omega) (hw.fr (am_u_ne (by omega)) (am_u_ne (by omega)) (am_u_ne (by omega))) (by rw [am_u_ne (by omega)]; exact h80) (fun e he hF => by
        rw [am_u_at]
        by_cases hed : e = d
        · rw [if_pos ⟨rfl, hed⟩, hed, if_pos (by omega)]
        · rw [if_neg (fun q => hed q.2), h81 e he hF]
          congr 1
          by_cases q : e < d
          · rw [if_pos q, if_pos (by omega)]
          · rw [if_neg q, if_neg (by omega)])
      refine ⟨A', ?_, fun b hb => by rw [f2 b hb, am_u_ne hb], fun e he => by rw [f3 e he, am_u_at, if_neg (fun q => he ⟨by omega, by rw [q.2]; exact hc.1⟩)], f4⟩
      rw [← f1]
      refine (s_X7_giveOut_56).trans ?_
      simp only [s_X7_giveOut_58, s_X7_giveOut_59, s_X7_giveOut_62, s_X7_giveOut_65, s_X7_giveOut_66, s_X7_giveOut_68, s_X7_giveOut_69, s_X7_giveOut_70, s_X7_giveOut_73, s_X7_giveOut_76, s_X7_giveOut_77, s_X7_giveOut_80, s_X7_giveOut_82, s_X7_giveOut_83, s_X7_giveOut_86, s_X7_giveOut_87, s_X7_giveOut_88, s_X7_giveOut_89, s_X7_giveOut_92, s_X7_giveOut_94, s_X7_giveOut_95, s_X7_giveOut_96, s_X7_giveOut_97, s_X7_giveOut_98, s_X7_giveOut_99, s_X7_giveOut_101, s_X7_giveOut_102, s_X7_giveOut_105, s_X7_giveOut_107, s_X7_giveOut_108, s_X7_giveOut_109, s_X7_giveOut_111, s_X7_giveOut_114, hI, hn', if_false, hlo, am_k_some, am_push_i, am_bi_0, Bool.true_eq_false, am_len_80, am_len_81, am_len_82, cd, xd, ci, xi, h80, lA, hne, hdv, am_u_eq, hsub, am_add1]
    · rw [decide_eq_false hc] at hlo
      have e2 : (if F d = i then fl_ba D F T L av i d else 0) = 0 := by
        by_cases hF : F d = i
        · rw [if_pos hF, fl_ba_off (fun q => hc ⟨hF, q⟩)]
        · rw [if_neg hF]
      rw [e2] at e1
      obtain ⟨A', f1, f2, f3, f4⟩ := ih (d + 1) A (by omega) hw h80 (fun e he hF => by
        rw [h81 e he hF]
        congr 1
        by_cases hed : e = d
        · subst hed
          rw [if_neg (by omega), if_pos (by omega), fl_ba_off (fun q => hc ⟨hF, q⟩)]
        · by_cases q : e < d
          · rw [if_pos q, if_pos (by omega)]
          · rw [if_neg q, if_neg (by omega)])
      refine ⟨A', ?_, f2, f3, f4⟩
      rw [← f1, e1]
      refine (s_X7_giveOut_56).trans ?_
      simp only [s_X7_giveOut_58, s_X7_giveOut_59, s_X7_giveOut_62, s_X7_giveOut_65, s_X7_giveOut_66, s_X7_giveOut_68, s_X7_giveOut_69, s_X7_giveOut_70, s_X7_giveOut_73, s_X7_giveOut_76, s_X7_giveOut_77, s_X7_giveOut_80, s_X7_giveOut_82, s_X7_giveOut_83, s_X7_giveOut_86, s_X7_giveOut_87, s_X7_giveOut_88, s_X7_giveOut_89, s_X7_giveOut_92, s_X7_giveOut_94, s_X7_giveOut_95, s_X7_giveOut_96, s_X7_giveOut_97, s_X7_giveOut_98, s_X7_giveOut_99, s_X7_giveOut_101, s_X7_giveOut_102, s_X7_giveOut_105, s_X7_giveOut_107, s_X7_giveOut_108, s_X7_giveOut_109, s_X7_giveOut_111, s_X7_giveOut_114, hI, hn', if_false, hlo, am_k_some, am_push_i, am_bi_0, if_true, am_add1, Nat.add_zero]
theorem fl_ct_mono (D : Nat) (F T L : Nat → Nat) (i : Nat) {m n : Nat} (h : m ≤ n) : fl_ct D F T L i m ≤ fl_ct D F T L i n := fl_s_mono _ m n h
theorem X7_gv3 {H D i av : Nat} {F T L r : Nat → Nat} {B : Int32} {g : Value} {I : am_F} {G : am_G} (hv : fl_v H D F T r) (hL : ∀ d, d < D → L d ≤ 50) (hI : I 69 24 = nI D) (hB : ∀ i, i < H → am_hb B i = fl_b D F T L i) (hi : i < H) (hav : av ≤ 500) : ∀ (s d : Nat) (A : am_F), d + s = D → mw_ok D F T L A → (∀ e, e < D → F e = i → A 81 e = nI (if e < d then fl_sh D F T L av i e else fl_ba D F T L av i e)) → ∃ A' : am_F, am_e 104 120 [.ref 69, .int (nI i), .int B, g, .int (nI (fl_lf D F T L av i - fl_ct D F T L i d)), .int (nI d)] [] I A G = some (.null, I, A', G) ∧ (∀ b, b ≠ 81 → A' b = A b) ∧ (∀ e, ¬ (e < D ∧ F e = i) → A' 81 e = A 81 e) ∧ ∀ e, e < D → F e = i → A' 81 e = nI (fl_sh D F T L av i e) := by
  have hD := hv.2.1
  have hH := hv.1
  have hlf : fl_lf D F T L av i ≤ 500 := by unfold fl_lf; omega
  intro s
  induction s with
  | zero =>
    intro d A hd hw h81
    have : d = D := by omega
    subst this
    refine ⟨A, ?_, fun b _ => rfl, fun e _ => rfl, fun e he hF => by rw [h81 e he hF, if_pos he]⟩
    refine (s_X7_giveOut_120).trans ?_
    simp only [s_X7_giveOut_122, s_X7_giveOut_123, s_X7_giveOut_126, s_X7_giveOut_165, hI, Int32.le_refl, if_true]
  | succ s ih =>
    intro d A hd hw h81
    have hdl : d < D := by omega
    have cd := nI_clamp (show d < 2 ^ 31 by omega)
    have xd := am_ixF (show d < 11 by omega) (show 11 < 2 ^ 31 by omega)
    have hn' : (nI D ≤ nI d) = False := eq_false (by rw [nI_leI (by omega) (by omega)]; omega)
    have hf0 := am_nle0 (n := fl_lf D F T L av i - fl_ct D F T L i d) (by omega)
    by_cases hz : fl_lf D F T L av i - fl_ct D F T L i d = 0
    · have hf0 := hf0.trans (eq_true hz)
      refine ⟨A, ?_, fun b _ => rfl, fun e _ => rfl, fun e he hF => ?_⟩
      · refine (s_X7_giveOut_120).trans ?_
        simp only [s_X7_giveOut_122, s_X7_giveOut_123, s_X7_giveOut_126, s_X7_giveOut_129, s_X7_giveOut_131, s_X7_giveOut_165, hI, hn', if_false, hf0, if_true]
      · rw [h81 e he hF]
        congr 1
        by_cases q : e < d
        · rw [if_pos q]
        · rw [if_neg q]
          have := fl_ct_mono D F T L i (show d ≤ e by omega)
          unfold fl_sh
          rw [if_neg (by omega)]; omega
    · have hf0 := hf0.trans (eq_false hz)
      have hlo := @e_X7_leadsOn H D d i F T L r B I A G hv hL hw hB hdl hi
      by_cases hc : F d = i ∧ fl_on D F T L d = true
      · rw [decide_eq_true hc] at hlo
        have qA := h81 d hdl hc.1
        rw [if_neg (by omega)] at qA
        have hs : nI (fl_ba D F T L av i d) + 1 = nI (fl_sh D F T L av i d) := by unfold fl_sh; rw [if_pos ⟨hc.2, by omega⟩, am_add1]
        have hd1 : nI (fl_lf D F T L av i - fl_ct D F T L i d) - 1 = nI (fl_lf D F T L av i - fl_ct D F T L i (d + 1)) := by
          rw [fl_ct_s, if_pos hc, show fl_lf D F T L av i - fl_ct D F T L i d = (fl_lf D F T L av i - (fl_ct D F T L i d + 1)) + 1 by omega, nI_pred]
        obtain ⟨A', f1, f2, f3, f4⟩ := ih (d + 1) (am_u A 81 d (nI (fl_sh D F T L av i d))) (by omega) (hw.fr (am_u_ne (by omega)) (am_u_ne (by omega)) (am_u_ne (by omega))) (fun e he hF => by
          rw [am_u_at]
          by_cases hed : e = d
          · rw [if_pos ⟨rfl, hed⟩, hed, if_pos (by omega)]
          · rw [if_neg (fun q => hed q.2), h81 e he hF]
            congr 1
            by_cases q : e < d
            · rw [if_pos q, if_pos (by omega)]
            · rw [if_neg q, if_neg (by omega)])
        refine ⟨A', ?_, fun b hb => by rw [f2 b hb, am_u_ne hb], fun e he => by rw [f3 e he, am_u_at, if_neg (fun q => he ⟨by omega, by rw [q.2]; exact hc.1⟩)], f4⟩
        rw [← f1]
        refine (s_X7_giveOut_120).trans ?_
        simp only [s_X7_giveOut_122, s_X7_giveOut_123, s_X7_giveOut_126, s_X7_giveOut_129, s_X7_giveOut_131, s_X7_giveOut_134, s_X7_giveOut_135, s_X7_giveOut_137, s_X7_giveOut_138, s_X7_giveOut_139, s_X7_giveOut_142, s_X7_giveOut_145, s_X7_giveOut_146, s_X7_giveOut_149, s_X7_giveOut_151, s_X7_giveOut_152, s_X7_giveOut_153, s_X7_giveOut_154, s_X7_giveOut_155, s_X7_giveOut_156, s_X7_giveOut_159, s_X7_giveOut_162, hI, hn', if_false, hf0, hlo, am_k_some, am_push_i, am_bi_0, Bool.true_eq_false, am_len_81, cd, xd, qA, hs, am_dec1, hd1, am_add1]
      · rw [decide_eq_false hc] at hlo
        have hd1 : fl_ct D F T L i (d + 1) = fl_ct D F T L i d := by
          rw [fl_ct_s, if_neg hc]; omega
        obtain ⟨A', f1, f2, f3, f4⟩ := ih (d + 1) A (by omega) hw (fun e he hF => by
          rw [h81 e he hF]
          congr 1
          by_cases hed : e = d
          · subst hed
            have ho : ¬ fl_on D F T L e = true := fun q => hc ⟨hF, q⟩
            rw [if_neg (by omega), if_pos (by omega), fl_ba_off ho, fl_sh_off ho]
          · by_cases q : e < d
            · rw [if_pos q, if_pos (by omega)]
            · rw [if_neg q, if_neg (by omega)])
        refine ⟨A', ?_, f2, f3, f4⟩
        rw [← f1, hd1]
        refine (s_X7_giveOut_120).trans ?_
        simp only [s_X7_giveOut_122, s_X7_giveOut_123, s_X7_giveOut_126, s_X7_giveOut_129, s_X7_giveOut_131, s_X7_giveOut_134, s_X7_giveOut_135, s_X7_giveOut_137, s_X7_giveOut_138, s_X7_giveOut_139, s_X7_giveOut_142, s_X7_giveOut_145, s_X7_giveOut_146, s_X7_giveOut_149, s_X7_giveOut_151, s_X7_giveOut_152, s_X7_giveOut_153, s_X7_giveOut_154, s_X7_giveOut_155, s_X7_giveOut_156, s_X7_giveOut_159, s_X7_giveOut_162, hI, hn', if_false, hf0, hlo, am_k_some, am_push_i, am_bi_0, if_true, am_add1]
theorem e_X7_giveOut {H D i av : Nat} {F T L r : Nat → Nat} {B : Int32} {I A : am_F} {G : am_G} (hv : fl_v H D F T r) (hL : ∀ d, d < D → L d ≤ 50) (hI : I 69 24 = nI D) (hB : ∀ i, i < H → am_hb B i = fl_b D F T L i) (hi : i < H) (hav : av ≤ 500) (hw : mw_ok D F T L A) (h80 : A 80 i = nI av) (h81 : ∀ e, e < D → F e = i → A 81 e = 0) : ∃ A' : am_F, am_e 104 0 [.ref 69, .int (nI i), .int B, .null, .null, .null] [] I A G = some (.null, I, A', G) ∧ (∀ b, b ≠ 81 → A' b = A b) ∧ (∀ e, ¬ (e < D ∧ F e = i) → A' 81 e = A 81 e) ∧ ∀ e, e < D → F e = i → A' 81 e = nI (fl_sh D F T L av i e) := by
  have hH := hv.1
  have g1 := X7_gv1 (I := I) (G := G) hv hL hI hw hB hi D 0 .null (by omega)
  obtain ⟨A1, a1, a2, a3, a4⟩ := X7_gv2 (I := I) (G := G) hv hL hI hB hi hav D 0 A (by omega) hw h80 (fun e he hF => by rw [h81 e he hF, if_neg (by omega)]; rfl)
  obtain ⟨A2, b1, b2, b3, b4⟩ := X7_gv3 (I := I) (G := G) (g := .int (nI (fl_tot D F T L i))) hv hL hI hB hi hav D 0 A1 (by omega) (hw.fr (a2 82 (by omega)) (a2 83 (by omega)) (a2 84 (by omega))) (fun e he hF => by rw [a4 e he hF, if_neg (by omega)])
  refine ⟨A2, ?_, fun b hb => by rw [b2 b hb, a2 b hb], fun e he => by rw [b3 e he, a3 e he], b4⟩
  have ci := nI_clamp (show i < 2 ^ 31 by omega)
  have xi := am_ixF (show i < 8 by omega) (show 8 < 2 ^ 31 by omega)
  have e1 : am_e 104 0 [.ref 69, .int (nI i), .int B, .null, .null, .null] [] I A G = am_e 104 5 [.ref 69, .int (nI i), .int B, .int (nI 0), .int (nI 0), .null] [] I A G := by
    simp only [s_X7_giveOut_0, s_X7_giveOut_1, s_X7_giveOut_2, s_X7_giveOut_3]; rfl
  have e2 : am_e 104 45 [.ref 69, .int (nI i), .int B, .int (nI (fl_tot D F T L i)), .int (nI D), .null] [] I A G = am_e 104 56 [.ref 69, .int (nI i), .int B, .int (nI (fl_tot D F T L i)), .int (nI av), .int (nI 0)] [] I A G := by
    simp only [s_X7_giveOut_45, s_X7_giveOut_46, s_X7_giveOut_49, s_X7_giveOut_50, s_X7_giveOut_51, s_X7_giveOut_53, s_X7_giveOut_54, am_len_80, ci, xi, if_false, h80]; rfl
  have e3 : am_e 104 117 [.ref 69, .int (nI i), .int B, .int (nI (fl_tot D F T L i)), .int (nI (fl_lf D F T L av i)), .int (nI D)] [] I A1 G = am_e 104 120 [.ref 69, .int (nI i), .int B, .int (nI (fl_tot D F T L i)), .int (nI (fl_lf D F T L av i)), .int (nI 0)] [] I A1 G := by
    simp only [s_X7_giveOut_117, s_X7_giveOut_118]; rfl
  rw [e1]
  refine g1.trans ?_
  rw [e2]
  refine a1.trans ?_
  rw [e3]
  exact b1
