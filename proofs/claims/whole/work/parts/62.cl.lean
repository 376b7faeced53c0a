/-! ===== sick and clean, both ===== -/
theorem pf_smk_b (P : sg_P) : ∀ (h j : Nat), h ≤ 8 → j < 32 → am_hb (pf_smk P h) j = (decide (j < h) && decide (0 < P 1 j))
  | 0, j, _, hj => by
    show am_hb 0 j = _
    rw [am_hb_0 hj, decide_eq_false (by omega)]; rfl
  | h + 1, j, hh, hj => by
    show am_hb (pf_wb (pf_smk P h) (nI h) (if 0 < P 1 h then 1 else 0)) j = _
    rw [am_hb_wb (by omega) hj]
    by_cases hjh : j = h
    · subst hjh
      rw [if_pos rfl, decide_eq_true (show j < j + 1 by omega), Bool.true_and]
      by_cases hp : 0 < P 1 j
      · rw [if_pos hp, decide_eq_true hp]; decide
      · rw [if_neg hp, decide_eq_false hp]; decide
    · rw [if_neg hjh, pf_smk_b P h j (by omega) hj]
      congr 1
      by_cases q : j < h
      · rw [decide_eq_true q, decide_eq_true (by omega)]
      · rw [decide_eq_false q, decide_eq_false (by omega)]
/-- the ward is downwind of a hall that makes smoke -/
def pf_sk (P : sg_P) (o f w : Int32) : Bool := (List.range (P 7 0)).any (fun i => decide (0 < P 1 i) && pf_db P o f w i (P 7 6))
theorem pf_sk_iff {P : sg_P} (hv : vp_p P) {o f w : Int32} : pf_sk P o f w = true ↔ ∃ i, i < P 7 0 ∧ 0 < P 1 i ∧ P 7 6 ≠ i ∧ pf_r P o f w (fun k => decide (k = i)) (P 7 6) = true := by
  have hwd := hv.2.2.2.2.2.2.2.2.1
  unfold pf_sk pf_db
  rw [List.any_eq_true]
  constructor
  · rintro ⟨i, h1, h2⟩
    simp only [Bool.and_eq_true, decide_eq_true_eq] at h2
    exact ⟨i, List.mem_range.mp h1, h2.1, h2.2.2.1, h2.2.2.2⟩
  · rintro ⟨i, h1, h2, h3, h4⟩
    refine ⟨i, List.mem_range.mpr h1, ?_⟩
    simp only [Bool.and_eq_true, decide_eq_true_eq]
    exact ⟨h2, hwd, h3, h4⟩
theorem pf_sk_0 {P : sg_P} (hv : vp_p P) (o f : Int32) : pf_sk P o f 0 = false := by
  rw [Bool.eq_false_iff]
  intro h
  obtain ⟨i, h1, h2, h3, h4⟩ := (pf_sk_iff hv).mp h
  rw [pf_r_0 hv] at h4
  exact h3 (of_decide_eq_true h4)
theorem e_X6_sick {p p' : Nat} {P : sg_P} {s : sg_S} {o f w : Int32} {I A : am_F} {G : am_G} (hv : vp_p P) (hw : w = 0 ∨ w = 1 ∨ w = 2) (hc : ck P s p p' I A G) (hcb : cb_ok P o f w p A G) : am_e 69 0 [.ref 0, .null] [] I A G = some (.int (am_bi (pf_sk P o f w)), I, A, G) := by
  obtain ⟨h1, h2, h3, h4⟩ := hc
  have hpp := h1.pp.1
  have hH := hv.1.2
  have hwd := hv.2.2.2.2.2.2.2.2.1
  have hS : ∀ j, j < 32 → am_hb (pf_wb (pf_smk P (P 7 0)) (nI (P 7 6)) 0) j = (decide (j ≠ P 7 6) && (decide (j < P 7 0) && decide (0 < P 1 j))) := fun j hj => by
    rw [am_hb_wb (by omega) hj]
    by_cases q : j = P 7 6
    · rw [if_pos q, decide_eq_false (not_not_intro q)]; simp
    · rw [if_neg q, decide_eq_true q, pf_smk_b P (P 7 0) j hH hj, Bool.true_and]
  obtain ⟨Y, f1, f2, f3⟩ := e_X0_carriedFrom (X := pf_wb (pf_smk P (P 7 0)) (nI (P 7 6)) 0) hpp hv hw h3 hcb (by rw [hS 8 (by omega), decide_eq_false (show ¬ 8 < P 7 0 by omega)]; simp)
  have hb : am_hb Y (P 7 6) = pf_sk P o f w := by
    rw [f2 _ hwd]
    apply Bool.eq_iff_iff.mpr
    rw [pf_sk_iff hv]
    refine (fl_R_un _ _ (pf_flv (pf_u w) hv) 8 _ hwd).trans ?_
    constructor
    · rintro ⟨i, q1, q2, q3⟩
      rw [hS i (by omega)] at q2
      simp only [Bool.and_eq_true, decide_eq_true_eq] at q2
      exact ⟨i, q1, q2.2.2, fun q => q2.1 q.symm, q3⟩
    · rintro ⟨i, q1, q2, q3, q4⟩
      refine ⟨i, q1, ?_, q4⟩
      rw [hS i (by omega)]
      simp only [Bool.and_eq_true, decide_eq_true_eq]
      exact ⟨fun q => q3 q.symm, q1, q2⟩
  have q11 := h2.2
  have q16 := h2.1.2.2.2.2.2.2.2.2.1
  have hbi : (am_bi (am_hb Y (P 7 6)) = 1) = (pf_sk P o f w = true) := by rw [am_bi_1, hb]
  cases hsk : pf_sk P o f w with
  | true =>
    rw [hsk] at hbi
    have hbi := hbi.trans (eq_true rfl)
    rcases hpp with rfl | rfl <;> (simp only [s_X6_isWardDownwindOfSmoke_0, s_X6_isWardDownwindOfSmoke_1, s_X6_isWardDownwindOfSmoke_4_at5, s_X6_isWardDownwindOfSmoke_4_at25, s_X6_isWardDownwindOfSmoke_7, s_X6_isWardDownwindOfSmoke_8, s_X6_isWardDownwindOfSmoke_11_at5, s_X6_isWardDownwindOfSmoke_11_at25, s_X6_isWardDownwindOfSmoke_14, s_X6_isWardDownwindOfSmoke_15, s_X6_isWardDownwindOfSmoke_18, s_X6_isWardDownwindOfSmoke_19, s_X6_isWardDownwindOfSmoke_20, s_X6_isWardDownwindOfSmoke_23, s_X6_isWardDownwindOfSmoke_24, s_X6_isWardDownwindOfSmoke_27, s_X6_isWardDownwindOfSmoke_28, s_X6_isWardDownwindOfSmoke_31_at5, s_X6_isWardDownwindOfSmoke_31_at25, s_X6_isWardDownwindOfSmoke_34, s_X6_isWardDownwindOfSmoke_37, s_X6_isWardDownwindOfSmoke_38, s_X6_isWardDownwindOfSmoke_41, s_X6_isWardDownwindOfSmoke_42, s_X6_isWardDownwindOfSmoke_45, s_X6_isWardDownwindOfSmoke_46, h1.1, q11, q16, e_X6_withBit, f1, e_X6_bitOf, am_hb_d, am_k_some, am_push_i, hbi, if_true, am_01_1]; rfl)
  | false =>
    rw [hsk] at hbi
    have hbi := hbi.trans (eq_false (by decide))
    rcases hpp with rfl | rfl <;> (simp only [s_X6_isWardDownwindOfSmoke_0, s_X6_isWardDownwindOfSmoke_1, s_X6_isWardDownwindOfSmoke_4_at5, s_X6_isWardDownwindOfSmoke_4_at25, s_X6_isWardDownwindOfSmoke_7, s_X6_isWardDownwindOfSmoke_8, s_X6_isWardDownwindOfSmoke_11_at5, s_X6_isWardDownwindOfSmoke_11_at25, s_X6_isWardDownwindOfSmoke_14, s_X6_isWardDownwindOfSmoke_15, s_X6_isWardDownwindOfSmoke_18, s_X6_isWardDownwindOfSmoke_19, s_X6_isWardDownwindOfSmoke_20, s_X6_isWardDownwindOfSmoke_23, s_X6_isWardDownwindOfSmoke_24, s_X6_isWardDownwindOfSmoke_27, s_X6_isWardDownwindOfSmoke_28, s_X6_isWardDownwindOfSmoke_31_at5, s_X6_isWardDownwindOfSmoke_31_at25, s_X6_isWardDownwindOfSmoke_34, s_X6_isWardDownwindOfSmoke_37, s_X6_isWardDownwindOfSmoke_38, s_X6_isWardDownwindOfSmoke_41, s_X6_isWardDownwindOfSmoke_42, s_X6_isWardDownwindOfSmoke_45, s_X6_isWardDownwindOfSmoke_46, h1.1, q11, q16, e_X6_withBit, f1, e_X6_bitOf, am_hb_d, am_k_some, am_push_i, hbi, if_false, am_01_0, if_true]; rfl)
def pf_nd (P : sg_P) (o f w : Int32) : Bool := (List.range (P 7 0)).all (fun i => decide (P 2 i ≤ pf_a P o f w i))
theorem pf_nd_iff {P : sg_P} {o f w : Int32} : pf_nd P o f w = true ↔ ∀ i, i < P 7 0 → P 2 i ≤ pf_a P o f w i := by
  unfold pf_nd
  rw [List.all_eq_true]
  exact ⟨fun h i hi => of_decide_eq_true (h i (List.mem_range.mpr hi)), fun h i hi => decide_eq_true (h i (List.mem_range.mp hi))⟩
/-- clean by one way of the air; clean -/
def pf_cn (P : sg_P) (o f w : Int32) : Bool := decide (w = 0) || (pf_nd P o f w && !pf_sk P o f w)
def pf_cl (P : sg_P) (o f : Int32) : Bool := pf_cn P o f (pf_way P (nI (P 7 4))) && pf_cn P o f (pf_way P (nI (P 7 5)))
theorem X6_ndL {p p' : Nat} {P : sg_P} {s : sg_S} {o f w : Int32} {l1 l2 : Value} {I A : am_F} {G : am_G} (hv : vp_p P) (hc : ck P s p p' I A G) (hcb : cb_ok P o f w p A G) : ∀ (r i : Nat), i + r = P 7 0 → (∀ j, j < i → P 2 j ≤ pf_a P o f w j) → am_e 72 28 [.ref 0, l1, l2, .int (nI i)] [] I A G = if pf_nd P o f w = true then am_e 72 68 [.ref 0, l1, l2, .int (nI (P 7 0))] [] I A G else some (.int 0, I, A, G) := by
  have hpp := hc.1.pp.1
  have hH := hv.1.2
  have q9 := hc.2.1.1.1
  intro r
  induction r with
  | zero =>
    intro i hi hall
    have : i = P 7 0 := by omega
    subst this
    rw [if_pos (pf_nd_iff.mpr hall)]
    refine (s_X6_isCleanBy_28).trans ?_
    rcases hpp with rfl | rfl <;> simp only [s_X6_isCleanBy_29, s_X6_isCleanBy_30, s_X6_isCleanBy_33_at5, s_X6_isCleanBy_33_at25, s_X6_isCleanBy_36, hc.1.1, q9, Int32.le_refl, if_true]
  | succ r ih =>
    intro i hi hall
    have hil : i < P 7 0 := by omega
    have b3 := (hc.2.1.1.2.2.1 i hil).2.2
    have aA := hcb.2.1 i hil
    have hn2 := (hv.2.2.1 i hil).2.2
    have ha5 := pf_a_le hv o f w hil
    have ci := nI_clamp (show i < 2 ^ 31 by omega)
    have x8 := am_ixF (show i < 8 by omega) (show 8 < 2 ^ 31 by omega)
    have x9 := am_ixF (show i < 9 by omega) (show 9 < 2 ^ 31 by omega)
    have hn : (nI (P 7 0) ≤ nI i) = False := eq_false (by rw [nI_leI (by omega) (by omega)]; omega)
    have hle : (nI (P 2 i) ≤ nI (pf_a P o f w i)) = (P 2 i ≤ pf_a P o f w i) := propext (nI_leI (by omega) (by omega))
    by_cases hge : P 2 i ≤ pf_a P o f w i
    · have hle := hle.trans (eq_true hge)
      rw [← ih (i + 1) (by omega) (fun j hj => by
        by_cases q : j = i
        · rw [q]; exact hge
        · exact hall j (by omega))]
      refine (s_X6_isCleanBy_28).trans ?_
      rcases hpp with rfl | rfl <;>
      (simp only [Nat.reduceAdd] at b3
       simp only [s_X6_isCleanBy_29, s_X6_isCleanBy_30, s_X6_isCleanBy_33_at5, s_X6_isCleanBy_33_at25, s_X6_isCleanBy_36, s_X6_isCleanBy_39, s_X6_isCleanBy_40, s_X6_isCleanBy_43, s_X6_isCleanBy_46, s_X6_isCleanBy_47, s_X6_isCleanBy_48, s_X6_isCleanBy_49, s_X6_isCleanBy_52_at5, s_X6_isCleanBy_52_at25, s_X6_isCleanBy_55, s_X6_isCleanBy_56, s_X6_isCleanBy_57, s_X6_isCleanBy_60, s_X6_isCleanBy_61, s_X6_isCleanBy_62, s_X6_isCleanBy_65, hc.1.1, q9, hn, if_false, am_len_59, am_len_8, am_len_28, ci, x8, x9, aA, b3, hle, if_true, am_add1])
    · have hle := hle.trans (eq_false hge)
      rw [if_neg (fun q => hge (pf_nd_iff.mp q i hil))]
      refine (s_X6_isCleanBy_28).trans ?_
      rcases hpp with rfl | rfl <;>
      (simp only [Nat.reduceAdd] at b3
       simp only [s_X6_isCleanBy_29, s_X6_isCleanBy_30, s_X6_isCleanBy_33_at5, s_X6_isCleanBy_33_at25, s_X6_isCleanBy_36, s_X6_isCleanBy_39, s_X6_isCleanBy_40, s_X6_isCleanBy_43, s_X6_isCleanBy_46, s_X6_isCleanBy_47, s_X6_isCleanBy_48, s_X6_isCleanBy_49, s_X6_isCleanBy_52_at5, s_X6_isCleanBy_52_at25, s_X6_isCleanBy_55, s_X6_isCleanBy_56, s_X6_isCleanBy_57, s_X6_isCleanBy_60, s_X6_isCleanBy_61, hc.1.1, q9, hn, if_false, am_len_59, am_len_8, am_len_28, ci, x8, x9, aA, b3, hle, am_01_0, if_true, true_or, Bool.false_eq_true])
theorem e_X6_isCleanBy {p p' : Nat} {P : sg_P} {s : sg_S} {o w : Int32} {I A : am_F} {G : am_G} (hv : vp_p P) (hs : sv_s P s) (hw : w = 0 ∨ w = 1 ∨ w = 2) (hc : ck P s p p' I A G) : ∃ (A' : am_F) (G' : am_G), am_e 72 0 [.ref 0, .int o, .int w, .null] [] I A G = some (.int (am_bi (pf_cn P o s.2.1 w)), I, A', G') ∧ fr_c A A' G G' := by
  unfold pf_cn
  by_cases h0 : w = 0
  · refine ⟨A, G, ?_, fr_c.rf A G⟩
    rw [decide_eq_true h0, Bool.true_or]
    simp only [s_X6_isCleanBy_0, s_X6_isCleanBy_1, s_X6_isCleanBy_4, s_X6_isCleanBy_5, h0, if_true, am_01_1]; rfl
  · rw [decide_eq_false h0, Bool.false_or]
    obtain ⟨A', G', f1, f2, f3⟩ := blow_c (o := o) (G := G) hc.1.pp.1 hv (hs.h8 hv) hw hc.2.1.1 hc.2.2.1
    have hc' := hc.fr f2
    have hl := X6_ndL (l1 := .int o) (l2 := .int w) (I := I) hv hc' f3 (P 7 0) 0 (by omega) (fun j hj => by omega)
    have hsk := e_X6_sick hv hw hc' f3
    refine ⟨A', G', ?_, f2⟩
    have e0 : am_e 72 0 [.ref 0, .int o, .int w, .null] [] I A G = am_e 72 28 [.ref 0, .int o, .int w, .int (nI 0)] [] I A' G' := by
      have h451 := hc.2.2.2.2.1
      simp only [s_X6_isCleanBy_0, s_X6_isCleanBy_1, s_X6_isCleanBy_4, s_X6_isCleanBy_5, s_X6_isCleanBy_6, s_X6_isCleanBy_7, s_X6_isCleanBy_10, s_X6_isCleanBy_11, s_X6_isCleanBy_14, s_X6_isCleanBy_15, s_X6_isCleanBy_16, s_X6_isCleanBy_19_at45, s_X6_isCleanBy_19_at48, s_X6_isCleanBy_19_at51, s_X6_isCleanBy_22, s_X6_isCleanBy_23, s_X6_isCleanBy_26, s_X6_isCleanBy_27, h0, if_false, hc.1.1, h451, f1, am_k_some, am_push_n]; rfl
    rw [e0, hl]
    cases hnd : pf_nd P o s.2.1 w with
    | false =>
      rw [if_neg (by decide)]; rfl
    | true =>
      rw [if_pos rfl, Bool.true_and]
      cases hk : pf_sk P o s.2.1 w with
      | true =>
        rw [hk] at hsk
        simp only [s_X6_isCleanBy_68, s_X6_isCleanBy_69, s_X6_isCleanBy_72, s_X6_isCleanBy_75, s_X6_isCleanBy_76, s_X6_isCleanBy_79, s_X6_isCleanBy_80, hsk, am_k_some, am_push_i, am_bi_0, Bool.true_eq_false, if_false, am_01_0, if_true]; rfl
      | false =>
        rw [hk] at hsk
        simp only [s_X6_isCleanBy_68, s_X6_isCleanBy_69, s_X6_isCleanBy_72, s_X6_isCleanBy_75, s_X6_isCleanBy_76, s_X6_isCleanBy_79, s_X6_isCleanBy_80, hsk, am_k_some, am_push_i, am_bi_0, if_true, am_01_1]; rfl
theorem e_X6_isClean {p p' : Nat} {P : sg_P} {s : sg_S} {o : Int32} {I A : am_F} {G : am_G} (hv : vp_p P) (hs : sv_s P s) (hc : ck P s p p' I A G) : ∃ (A' : am_F) (G' : am_G), am_e 71 0 [.ref 0, .int o, .null, .null] [] I A G = some (.int (am_bi (pf_cl P o s.2.1)), I, A', G') ∧ fr_c A A' G G' := by
  have hpp := hc.1.pp.1
  have w1 := @e_X2_wayAt p I A G P (nI (P 7 4)) hpp hc.2.1.1
  have w2 := @e_X2_wayAt p I A G P (nI (P 7 5)) hpp hc.2.1.1
  have q14 := hc.2.1.1.2.2.2.2.2.2.1
  have q15 := hc.2.1.1.2.2.2.2.2.2.2.1
  obtain ⟨A1, G1, f1, f2⟩ := e_X6_isCleanBy (o := o) (w := pf_way P (nI (P 7 4))) hv hs (pf_way_w _ _) hc
  unfold pf_cl
  cases hb1 : pf_cn P o s.2.1 (pf_way P (nI (P 7 4))) with
  | false =>
    rw [hb1] at f1
    refine ⟨A1, G1, ?_, f2⟩
    rcases hpp with rfl | rfl <;> (simp only [s_X6_isClean_0, s_X6_isClean_1, s_X6_isClean_4, s_X6_isClean_5, s_X6_isClean_8_at5, s_X6_isClean_8_at25, s_X6_isClean_11_at5, s_X6_isClean_11_at25, s_X6_isClean_14, s_X6_isClean_15, s_X6_isClean_16, s_X6_isClean_19, s_X6_isClean_20, s_X6_isClean_23_at5, s_X6_isClean_23_at25, s_X6_isClean_26_at5, s_X6_isClean_26_at25, s_X6_isClean_29, s_X6_isClean_30, s_X6_isClean_31, s_X6_isClean_32, s_X6_isClean_33, s_X6_isClean_36, s_X6_isClean_39, s_X6_isClean_40, s_X6_isClean_41, s_X6_isClean_44, s_X6_isClean_45, s_X6_isClean_46, s_X6_isClean_47, s_X6_isClean_50, s_X6_isClean_53, s_X6_isClean_54, s_X6_isClean_57, s_X6_isClean_58, hc.1.1, q14, q15, w1, w2, f1, am_k_some, am_push_i, am_bi_0, if_true, am_01_0, Bool.false_and]; rfl)
  | true =>
    rw [hb1] at f1
    by_cases he : pf_way P (nI (P 7 5)) = pf_way P (nI (P 7 4))
    · refine ⟨A1, G1, ?_, f2⟩
      have e2 : pf_cn P o s.2.1 (pf_way P (nI (P 7 5))) = true := by rw [he]; exact hb1
      rw [e2]
      rcases hpp with rfl | rfl <;> (simp only [s_X6_isClean_0, s_X6_isClean_1, s_X6_isClean_4, s_X6_isClean_5, s_X6_isClean_8_at5, s_X6_isClean_8_at25, s_X6_isClean_11_at5, s_X6_isClean_11_at25, s_X6_isClean_14, s_X6_isClean_15, s_X6_isClean_16, s_X6_isClean_19, s_X6_isClean_20, s_X6_isClean_23_at5, s_X6_isClean_23_at25, s_X6_isClean_26_at5, s_X6_isClean_26_at25, s_X6_isClean_29, s_X6_isClean_30, s_X6_isClean_31, s_X6_isClean_32, s_X6_isClean_33, s_X6_isClean_36, s_X6_isClean_39, s_X6_isClean_40, s_X6_isClean_41, s_X6_isClean_44, s_X6_isClean_45, s_X6_isClean_46, s_X6_isClean_47, s_X6_isClean_50, s_X6_isClean_53, s_X6_isClean_54, s_X6_isClean_57, s_X6_isClean_58, hc.1.1, q14, q15, w1, w2, f1, am_k_some, am_push_i, am_bi_0, Bool.true_eq_false, if_false, he, if_true, am_01_1, Bool.true_and]; rfl)
    · obtain ⟨A2, G2, k1, k2⟩ := e_X6_isCleanBy (o := o) (w := pf_way P (nI (P 7 5))) hv hs (pf_way_w _ _) (hc.fr f2)
      refine ⟨A2, G2, ?_, f2.tr k2⟩
      cases hb2 : pf_cn P o s.2.1 (pf_way P (nI (P 7 5))) with
      | true =>
        rw [hb2] at k1
        rcases hpp with rfl | rfl <;> (simp only [s_X6_isClean_0, s_X6_isClean_1, s_X6_isClean_4, s_X6_isClean_5, s_X6_isClean_8_at5, s_X6_isClean_8_at25, s_X6_isClean_11_at5, s_X6_isClean_11_at25, s_X6_isClean_14, s_X6_isClean_15, s_X6_isClean_16, s_X6_isClean_19, s_X6_isClean_20, s_X6_isClean_23_at5, s_X6_isClean_23_at25, s_X6_isClean_26_at5, s_X6_isClean_26_at25, s_X6_isClean_29, s_X6_isClean_30, s_X6_isClean_31, s_X6_isClean_32, s_X6_isClean_33, s_X6_isClean_36, s_X6_isClean_39, s_X6_isClean_40, s_X6_isClean_41, s_X6_isClean_44, s_X6_isClean_45, s_X6_isClean_46, s_X6_isClean_47, s_X6_isClean_50, s_X6_isClean_53, s_X6_isClean_54, s_X6_isClean_57, s_X6_isClean_58, hc.1.1, q14, q15, w1, w2, f1, am_k_some, am_push_i, am_bi_0, Bool.true_eq_false, if_false, he, k1, if_true, am_01_1, Bool.true_and]; rfl)
      | false =>
        rw [hb2] at k1
        rcases hpp with rfl | rfl <;> (simp only [s_X6_isClean_0, s_X6_isClean_1, s_X6_isClean_4, s_X6_isClean_5, s_X6_isClean_8_at5, s_X6_isClean_8_at25, s_X6_isClean_11_at5, s_X6_isClean_11_at25, s_X6_isClean_14, s_X6_isClean_15, s_X6_isClean_16, s_X6_isClean_19, s_X6_isClean_20, s_X6_isClean_23_at5, s_X6_isClean_23_at25, s_X6_isClean_26_at5, s_X6_isClean_26_at25, s_X6_isClean_29, s_X6_isClean_30, s_X6_isClean_31, s_X6_isClean_32, s_X6_isClean_33, s_X6_isClean_36, s_X6_isClean_39, s_X6_isClean_40, s_X6_isClean_41, s_X6_isClean_44, s_X6_isClean_45, s_X6_isClean_46, s_X6_isClean_47, s_X6_isClean_50, s_X6_isClean_53, s_X6_isClean_54, s_X6_isClean_57, s_X6_isClean_58, hc.1.1, q14, q15, w1, w2, f1, am_k_some, am_push_i, am_bi_0, Bool.true_eq_false, if_false, he, k1, if_true, am_01_0, Bool.true_and]; rfl)
/-! the model -/
theorem X7_skL {P : sg_P} {o f w : Int32} {I A : am_F} {G : am_G} (hv : vp_p P) (hp : mr_p P I A) (h24 : I 69 24 = nI (P 7 1)) (hb : mb_ok P o f w A) : ∀ (r i : Nat), i + r = P 7 0 → am_e 115 4 [.ref 69, .int (am_bi ((List.range i).any (fun i => decide (0 < P 1 i) && pf_db P o f w i (P 7 6)))), .int (nI i)] [] I A G = some (.int (am_bi (pf_sk P o f w)), I, A, G) := by
  have hH := hv.1.2
  have hwd := hv.2.2.2.2.2.2.2.2.1
  intro r
  induction r with
  | zero =>
    intro i hi
    have : i = P 7 0 := by omega
    subst this
    refine (s_X7_isSick_4).trans ?_
    simp only [s_X7_isSick_5, s_X7_isSick_6, s_X7_isSick_9, s_X7_isSick_58, s_X7_isSick_59, hp.1, Int32.le_refl, if_true, am_bi_01]
    rfl
  | succ r ih =>
    intro i hi
    have hil : i < P 7 0 := by omega
    rw [← ih (i + 1) (by omega), List.range_succ, List.any_append, List.any_cons, List.any_nil, Bool.or_false]
    refine (s_X7_isSick_4).trans ?_
    have hn : (nI (P 7 0) ≤ nI i) = False := eq_false (by rw [nI_leI (by omega) (by omega)]; omega)
    have b2 := (hp.2.2.1 i hil).2.1
    have h50 := (hv.2.2.1 i hil).2.1
    have c3 := nI_clamp (show 3 * i + 1 < 2 ^ 31 by omega)
    have x3 := am_ixF (show 3 * i + 1 < 24 by omega) (show 24 < 2 ^ 31 by omega)
    have hle := am_nle0 (n := P 1 i) (by omega)
    have z4 : (4 : Int32).toNatClampNeg = 4 := by decide
    have y4 : ((4 : Int32) < 0 ∨ 6 ≤ 4) = False := by decide
    have wA : A 76 4 = nI (P 7 6) := hp.2.2.2.2.2.2.2.2.1
    generalize (List.range i).any (fun i => decide (0 < P 1 i) && pf_db P o f w i (P 7 6)) = b
    cases b with
    | true =>
      simp only [s_X7_isSick_5, s_X7_isSick_6, s_X7_isSick_9, s_X7_isSick_12, s_X7_isSick_13, s_X7_isSick_16, s_X7_isSick_17, s_X7_isSick_20, s_X7_isSick_21, s_X7_isSick_22, s_X7_isSick_23, s_X7_isSick_24, s_X7_isSick_25, s_X7_isSick_26, s_X7_isSick_29, s_X7_isSick_30, s_X7_isSick_31, s_X7_isSick_34, s_X7_isSick_35, s_X7_isSick_38, s_X7_isSick_39, s_X7_isSick_40, s_X7_isSick_43, s_X7_isSick_46, s_X7_isSick_47, s_X7_isSick_50, s_X7_isSick_51, s_X7_isSick_52, s_X7_isSick_55, hp.1, hn, if_false, am_bi_0, Bool.true_eq_false, Bool.true_or, am_add1]
      rfl
    | false =>
      rw [Bool.false_or]
      by_cases hz : P 1 i = 0
      · have hle := hle.trans (eq_true hz)
        rw [decide_eq_false (show ¬ 0 < P 1 i by omega), Bool.false_and]
        simp only [s_X7_isSick_5, s_X7_isSick_6, s_X7_isSick_9, s_X7_isSick_12, s_X7_isSick_13, s_X7_isSick_16, s_X7_isSick_17, s_X7_isSick_20, s_X7_isSick_21, s_X7_isSick_22, s_X7_isSick_23, s_X7_isSick_24, s_X7_isSick_25, s_X7_isSick_26, s_X7_isSick_29, s_X7_isSick_30, s_X7_isSick_31, s_X7_isSick_34, s_X7_isSick_35, s_X7_isSick_38, s_X7_isSick_39, s_X7_isSick_40, s_X7_isSick_43, s_X7_isSick_46, s_X7_isSick_47, s_X7_isSick_50, s_X7_isSick_51, s_X7_isSick_52, s_X7_isSick_55, hp.1, hn, if_false, am_bi_0, if_true, am_len_74, am_mul3, am_add1, c3, x3, b2, hle]
        rfl
      · have hle := hle.trans (eq_false hz)
        rw [decide_eq_true (show 0 < P 1 i by omega), Bool.true_and]
        obtain ⟨Y, k1, k2⟩ := e_X7_downwindOf (I := I) (G := G) hv h24 hb hil
        have hY := k2 (P 7 6) (by omega)
        cases hd : pf_db P o f w i (P 7 6) with
        | true =>
          rw [hd] at hY
          simp only [s_X7_isSick_5, s_X7_isSick_6, s_X7_isSick_9, s_X7_isSick_12, s_X7_isSick_13, s_X7_isSick_16, s_X7_isSick_17, s_X7_isSick_20, s_X7_isSick_21, s_X7_isSick_22, s_X7_isSick_23, s_X7_isSick_24, s_X7_isSick_25, s_X7_isSick_26, s_X7_isSick_29, s_X7_isSick_30, s_X7_isSick_31, s_X7_isSick_34, s_X7_isSick_35, s_X7_isSick_38, s_X7_isSick_39, s_X7_isSick_40, s_X7_isSick_43, s_X7_isSick_46, s_X7_isSick_47, s_X7_isSick_50, s_X7_isSick_51, s_X7_isSick_52, s_X7_isSick_55, hp.1, hn, if_false, am_bi_0, if_true, am_len_74, am_len_76, am_mul3, am_add1, c3, x3, b2, hle, k1, am_k_some, am_push_i, z4, y4, wA, e_X7_has, am_hb_d, hY, Bool.true_eq_false]
          rfl
        | false =>
          rw [hd] at hY
          simp only [s_X7_isSick_5, s_X7_isSick_6, s_X7_isSick_9, s_X7_isSick_12, s_X7_isSick_13, s_X7_isSick_16, s_X7_isSick_17, s_X7_isSick_20, s_X7_isSick_21, s_X7_isSick_22, s_X7_isSick_23, s_X7_isSick_24, s_X7_isSick_25, s_X7_isSick_26, s_X7_isSick_29, s_X7_isSick_30, s_X7_isSick_31, s_X7_isSick_34, s_X7_isSick_35, s_X7_isSick_38, s_X7_isSick_39, s_X7_isSick_40, s_X7_isSick_43, s_X7_isSick_46, s_X7_isSick_47, s_X7_isSick_50, s_X7_isSick_51, s_X7_isSick_52, s_X7_isSick_55, hp.1, hn, if_false, am_bi_0, if_true, am_len_74, am_len_76, am_mul3, am_add1, c3, x3, b2, hle, k1, am_k_some, am_push_i, z4, y4, wA, e_X7_has, am_hb_d, hY]
          rfl
theorem e_X7_isSick {P : sg_P} {o f w : Int32} {I A : am_F} {G : am_G} (hv : vp_p P) (hp : mr_p P I A) (h24 : I 69 24 = nI (P 7 1)) (hb : mb_ok P o f w A) : am_e 115 0 [.ref 69, .null, .null] [] I A G = some (.int (am_bi (pf_sk P o f w)), I, A, G) := by
  rw [← X7_skL (I := I) (G := G) hv hp h24 hb (P 7 0) 0 (by omega)]
  simp only [s_X7_isSick_0, s_X7_isSick_1, s_X7_isSick_2, s_X7_isSick_3]
  rfl
theorem lak_m {P : sg_P} {s : sg_S} {o f w : Int32} {I A : am_F} {G : am_G} (hv : vp_p P) (hm : mk P s I A) (h24 : I 69 24 = nI (P 7 1)) : ∃ I' A' A'' : am_F, am_e 106 0 [.ref 69, .int w, .int o, .int f, .null, .null, .null, .null, .null] [] I A G = some (.null, I', A', G) ∧ am_e 108 0 [.ref 69, .int 0, .null, .null] [] I' A' G = some (.null, I', A'', G) ∧ fr_l I A I' A'' ∧ mb_ok P o f w A'' ∧ fr_l I A I' A' := by
  obtain ⟨I1, A1, f1, f2, f3⟩ := lay_m (o := o) (f := f) (w := w) (G := G) hv (hm.1.ml h24)
  obtain ⟨A2, k1, k2, k3⟩ := e_X7_keepIns (I := I1) (G := G) hv (by rw [f2.1 _ _ (by omega)]; exact h24) f3
  exact ⟨I1, A1, A2, f1, k1, ⟨f2.1, fun b hb => by rw [k2 b (by omega), f2.2 b hb]⟩, k3, f2⟩
theorem X7_clN {P : sg_P} {o f w : Int32} {b : Bool} {l1 l3 : Value} {I A : am_F} {G : am_G} (hv : vp_p P) (hw : ¬ w ≤ 0) (hp : mr_p P I A) (hb : mb_ok P o f w A) : ∀ (r i : Nat), i + r = P 7 0 → am_e 116 62 [.ref 69, l1, .int (am_bi (b && (List.range i).all (fun i => decide (P 2 i ≤ pf_a P o f w i)))), l3, .int w, .int (nI i)] [] I A G = am_e 116 113 [.ref 69, l1, .int (am_bi (b && pf_nd P o f w)), l3, .int w, .int (nI (P 7 0))] [] I A G := by
  have hH := hv.1.2
  intro r
  induction r with
  | zero =>
    intro i hi
    have : i = P 7 0 := by omega
    subst this
    refine (s_X7_isClean_62).trans ?_
    simp only [s_X7_isClean_64, s_X7_isClean_65, s_X7_isClean_68, hp.1, Int32.le_refl, if_true]
    rfl
  | succ r ih =>
    intro i hi
    have hil : i < P 7 0 := by omega
    rw [← ih (i + 1) (by omega), List.range_succ, List.all_append, List.all_cons, List.all_nil, Bool.and_true, ← Bool.and_assoc]
    refine (s_X7_isClean_62).trans ?_
    have hn : (nI (P 7 0) ≤ nI i) = False := eq_false (by rw [nI_leI (by omega) (by omega)]; omega)
    have b3 := (hp.2.2.1 i hil).2.2
    have aA := hb.1 i hil
    have hn2 := (hv.2.2.1 i hil).2.2
    have ha5 := pf_a_le hv o f w hil
    have ci := nI_clamp (show i < 2 ^ 31 by omega)
    have x8 := am_ixF (show i < 8 by omega) (show 8 < 2 ^ 31 by omega)
    have c3 := nI_clamp (show 3 * i + 2 < 2 ^ 31 by omega)
    have x3 := am_ixF (show 3 * i + 2 < 24 by omega) (show 24 < 2 ^ 31 by omega)
    have hlt : (nI (pf_a P o f w i) < nI (P 2 i)) = (pf_a P o f w i < P 2 i) := propext (nI_ltI (by omega) (by omega))
    have hw' : (w ≤ 0) = False := eq_false hw
    generalize (b && (List.range i).all (fun i => decide (P 2 i ≤ pf_a P o f w i))) = c
    cases c with
    | false =>
      simp only [s_X7_isClean_64, s_X7_isClean_65, s_X7_isClean_68, s_X7_isClean_71, s_X7_isClean_73, s_X7_isClean_76, s_X7_isClean_77, s_X7_isClean_80, s_X7_isClean_81, s_X7_isClean_84, s_X7_isClean_86, s_X7_isClean_87, s_X7_isClean_88, s_X7_isClean_91, s_X7_isClean_92, s_X7_isClean_94, s_X7_isClean_95, s_X7_isClean_96, s_X7_isClean_97, s_X7_isClean_98, s_X7_isClean_101, s_X7_isClean_102, s_X7_isClean_105, s_X7_isClean_106, s_X7_isClean_107, s_X7_isClean_110, hp.1, hn, if_false, hw', am_bi_0, if_true, Bool.false_and, am_add1]
      rfl
    | true =>
      rw [Bool.true_and]
      by_cases hge : P 2 i ≤ pf_a P o f w i
      · have hlt := hlt.trans (eq_false (by omega))
        rw [decide_eq_true hge]
        simp only [s_X7_isClean_64, s_X7_isClean_65, s_X7_isClean_68, s_X7_isClean_71, s_X7_isClean_73, s_X7_isClean_76, s_X7_isClean_77, s_X7_isClean_80, s_X7_isClean_81, s_X7_isClean_84, s_X7_isClean_86, s_X7_isClean_87, s_X7_isClean_88, s_X7_isClean_91, s_X7_isClean_92, s_X7_isClean_94, s_X7_isClean_95, s_X7_isClean_96, s_X7_isClean_97, s_X7_isClean_98, s_X7_isClean_101, s_X7_isClean_102, s_X7_isClean_105, s_X7_isClean_106, s_X7_isClean_107, s_X7_isClean_110, hp.1, hn, if_false, hw', am_bi_0, Bool.true_eq_false, am_len_80, am_len_74, ci, x8, am_mul3, am_add2, c3, x3, aA, b3, hlt, am_add1]
        rfl
      · have hlt := hlt.trans (eq_true (by omega))
        rw [decide_eq_false hge]
        simp only [s_X7_isClean_64, s_X7_isClean_65, s_X7_isClean_68, s_X7_isClean_71, s_X7_isClean_73, s_X7_isClean_76, s_X7_isClean_77, s_X7_isClean_80, s_X7_isClean_81, s_X7_isClean_84, s_X7_isClean_86, s_X7_isClean_87, s_X7_isClean_88, s_X7_isClean_91, s_X7_isClean_92, s_X7_isClean_94, s_X7_isClean_95, s_X7_isClean_96, s_X7_isClean_97, s_X7_isClean_98, s_X7_isClean_101, s_X7_isClean_102, s_X7_isClean_105, s_X7_isClean_106, s_X7_isClean_107, s_X7_isClean_110, hp.1, hn, if_false, hw', am_bi_0, Bool.true_eq_false, am_len_80, am_len_74, ci, x8, am_mul3, am_add2, c3, x3, aA, b3, hlt, if_true, am_add1]
        rfl
theorem X7_clR {P : sg_P} {s : sg_S} {o t : Int32} {l2 l4 l5 : Value} {I A : am_F} {G : am_G} (hv : vp_p P) (hm : mk P s I A) (h24 : I 69 24 = nI (P 7 1)) : ∃ (I' A' : am_F) (g4 g5 : Value), am_e 116 22 [.ref 69, .int o, l2, .int t, l4, l5] [] I A G = am_e 116 12 [.ref 69, .int o, .int (am_bi (pf_cn P o s.2.1 (pf_wy P t))), .int (t + 12), g4, g5] [] I' A' G ∧ fr_l I A I' A' := by
  obtain ⟨I1, A1, A2, f1, f2, f3, f4, f5⟩ := lak_m (o := o) (f := s.2.1) (w := pf_wy P t) (G := G) hv hm h24
  have hm2 := hm.fr f3.a
  have h24' : I1 69 24 = nI (P 7 1) := by rw [f3.1 _ _ (by omega)]; exact h24
  have hsk := e_X7_isSick (I := I1) (G := G) hv hm2.1 h24' f4
  have g1 := @e_X7_goesBy I A G P t 0 hm.1
  rw [Int32.add_zero] at g1
  have e0 : am_e 116 22 [.ref 69, .int o, l2, .int t, l4, l5] [] I A G = am_e 116 62 [.ref 69, .int o, .int (am_bi (!pf_sk P o s.2.1 (pf_wy P t))), .int t, .int (pf_wy P t), .int (nI 0)] [] I1 A2 G := by
    cases hk : pf_sk P o s.2.1 (pf_wy P t) with
    | true =>
      rw [hk] at hsk
      simp only [s_X7_isClean_22, s_X7_isClean_23, s_X7_isClean_24, s_X7_isClean_25, s_X7_isClean_28, s_X7_isClean_30, s_X7_isClean_31, s_X7_isClean_33, s_X7_isClean_34, s_X7_isClean_35, s_X7_isClean_38, s_X7_isClean_41, s_X7_isClean_42, s_X7_isClean_43, s_X7_isClean_46, s_X7_isClean_47, s_X7_isClean_50, s_X7_isClean_53, s_X7_isClean_54, s_X7_isClean_57, s_X7_isClean_58, s_X7_isClean_59, s_X7_isClean_60, g1, am_k_some, am_push_i, am_push_n, hm.2.2.1, f1, f2, hsk, am_bi_0, Bool.true_eq_false, if_false]
      rfl
    | false =>
      rw [hk] at hsk
      simp only [s_X7_isClean_22, s_X7_isClean_23, s_X7_isClean_24, s_X7_isClean_25, s_X7_isClean_28, s_X7_isClean_30, s_X7_isClean_31, s_X7_isClean_33, s_X7_isClean_34, s_X7_isClean_35, s_X7_isClean_38, s_X7_isClean_41, s_X7_isClean_42, s_X7_isClean_43, s_X7_isClean_46, s_X7_isClean_47, s_X7_isClean_50, s_X7_isClean_53, s_X7_isClean_54, s_X7_isClean_57, s_X7_isClean_58, s_X7_isClean_59, s_X7_isClean_60, g1, am_k_some, am_push_i, am_push_n, hm.2.2.1, f1, f2, hsk, am_bi_0, if_true]
      rfl
  rcases pf_way_w P (pf_out P t) with hw | hw
  · have hw : pf_wy P t = 0 := hw
    rw [hw] at e0 ⊢
    rw [pf_sk_0 hv] at e0
    refine ⟨I1, A2, .int 0, .int (nI 0), ?_, f3⟩
    rw [e0]
    have hH := hv.1.2
    have h1 := hv.1.1
    have hn : (nI (P 7 0) ≤ nI 0) = False := eq_false (by rw [nI_leI (by omega) (by omega)]; omega)
    have hle : ((0 : Int32) ≤ 0) = True := by decide
    unfold pf_cn
    rw [decide_eq_true rfl, Bool.true_or]
    simp only [s_X7_isClean_62, s_X7_isClean_64, s_X7_isClean_65, s_X7_isClean_68, s_X7_isClean_71, s_X7_isClean_73, s_X7_isClean_113, s_X7_isClean_116, hm2.1.1, hn, if_false, hle, if_true]
    rfl
  · have hwn : ¬ pf_wy P t ≤ 0 := by
      show ¬ pf_way P (pf_out P t) ≤ 0
      rcases hw with hw | hw <;> rw [hw] <;> decide
    have hw0 : ¬ pf_wy P t = 0 := by
      show ¬ pf_way P (pf_out P t) = 0
      rcases hw with hw | hw <;> rw [hw] <;> decide
    have hl := X7_clN (b := !pf_sk P o s.2.1 (pf_wy P t)) (l1 := .int o) (l3 := .int t) (I := I1) (G := G) hv hwn hm2.1 f4 (P 7 0) 0 (by omega)
    rw [List.range_zero, List.all_nil, Bool.and_true] at hl
    refine ⟨I1, A2, .int (pf_wy P t), .int (nI (P 7 0)), ?_, f3⟩
    rw [e0, hl]
    unfold pf_cn
    rw [decide_eq_false hw0, Bool.false_or, Bool.and_comm]
    simp only [s_X7_isClean_113, s_X7_isClean_116]
theorem e_X7_isClean {P : sg_P} {s : sg_S} {o : Int32} {I A : am_F} {G : am_G} (hv : vp_p P) (hm : mk P s I A) : ∃ I' A' : am_F, am_e 116 0 [.ref 69, .int o, .null, .null, .null, .null] [] I A G = some (.int (am_bi (pf_cl P o s.2.1)), I', A', G) ∧ fr_a I A I' A' := by
  obtain ⟨m1, m2⟩ := mk_24 hm
  obtain ⟨I1, A1, g4, g5, f1, f2⟩ := X7_clR (o := o) (t := 0) (l2 := .int 1) (l4 := .null) (l5 := .null) (G := G) hv m1 (am_u_eq _ _ _ _)
  have m3 := m1.fr f2.a
  obtain ⟨I2, A2, h4, h5, k1, k2⟩ := X7_clR (o := o) (t := 12) (l2 := .int 1) (l4 := g4) (l5 := g5) (G := G) hv m3 (by rw [f2.1 _ _ (by omega), am_u_eq])
  have p0 : pf_wy P 0 = pf_way P (nI (P 7 4)) := by unfold pf_wy; rw [pf_out_0]
  have p12 : pf_wy P 12 = pf_way P (nI (P 7 5)) := by unfold pf_wy; rw [pf_out_12]
  rw [p0] at f1
  rw [p12] at k1
  have e0 : am_e 116 0 [.ref 69, .int o, .null, .null, .null, .null] [] I A G = am_e 116 22 [.ref 69, .int o, .int 1, .int 0, .null, .null] [] (am_u I 69 24 (nI (P 7 1))) A G := by
    simp only [s_X7_isClean_0, s_X7_isClean_1, s_X7_isClean_2, s_X7_isClean_3, s_X7_isClean_4, s_X7_isClean_7, s_X7_isClean_10, s_X7_isClean_11, s_X7_isClean_12, s_X7_isClean_13, s_X7_isClean_15, s_X7_isClean_18, s_X7_isClean_19, hm.1.2.1, show ((24 : Int32) ≤ 0) = False by decide, am_10, if_false]
  have z12 : (0 : Int32) + 12 = 12 := by decide
  have z24 : (12 : Int32) + 12 = 24 := by decide
  rw [z12] at f1
  rw [z24] at k1
  unfold pf_cl
  cases hb1 : pf_cn P o s.2.1 (pf_way P (nI (P 7 4))) with
  | false =>
    rw [hb1] at f1
    refine ⟨I1, A1, ?_, (fr_a_24 I A _).tr f2.a⟩
    rw [e0, f1]
    simp only [s_X7_isClean_12, s_X7_isClean_13, s_X7_isClean_15, s_X7_isClean_18, s_X7_isClean_19, s_X7_isClean_119, s_X7_isClean_120, show ((24 : Int32) ≤ 12) = False by decide, if_false, am_bi_0, if_true, true_or, Bool.false_and]
  | true =>
    rw [hb1] at f1
    refine ⟨I2, A2, ?_, (fr_a_24 I A _).tr (f2.tr k2).a⟩
    have e1 : am_e 116 12 [.ref 69, .int o, .int (am_bi true), .int 12, g4, g5] [] I1 A1 G = am_e 116 22 [.ref 69, .int o, .int 1, .int 12, g4, g5] [] I1 A1 G := by
      simp only [s_X7_isClean_12, s_X7_isClean_13, s_X7_isClean_15, s_X7_isClean_18, s_X7_isClean_19, show ((24 : Int32) ≤ 12) = False by decide, if_false, am_bi_0, Bool.true_eq_false]
      rfl
    rw [e0, f1, e1, k1]
    simp only [s_X7_isClean_12, s_X7_isClean_13, s_X7_isClean_15, s_X7_isClean_119, s_X7_isClean_120, show ((24 : Int32) ≤ 24) = True by decide, if_true, am_bi_01, Bool.true_and]
