/-! ===== the class: which way the doors lead ===== -/
def pf_fr (P : sg_P) (u : Bool) (d : Nat) : Nat := if P 4 d = 8 then (if decide (P 0 (P 3 d) < P 7 2) = u then 8 else P 3 d) else (if decide (P 0 (P 3 d) < P 0 (P 4 d)) = u then P 3 d else P 4 d)
def pf_to (P : sg_P) (u : Bool) (d : Nat) : Nat := if P 4 d = 8 then (if decide (P 0 (P 3 d) < P 7 2) = u then P 3 d else 8) else (if decide (P 0 (P 3 d) < P 0 (P 4 d)) = u then P 4 d else P 3 d)
/-- a plan and one of its winds -/
def wd_px (p x : Nat) : Prop := (p = 5 ∧ (x = 13 ∨ x = 19)) ∨ (p = 25 ∧ (x = 33 ∨ x = 39))
theorem am_bi_eq {b u : Bool} : (am_bi b = am_bi u) = (b = u) := by cases b <;> cases u <;> decide
theorem e_X5_leadInside {p x d : Nat} {P : sg_P} {u : Bool} {I A : am_F} {G : am_G} (hx : wd_px p x) (hv : vp_p P) (hp : cr_p p P I A) (hd : d < P 7 1) (ho : P 4 d ≠ 8) : am_e 30 0 [.ref x, .ref p, .int (nI d), .int (am_bi u), .null, .null, .null] [] I A G = some (.null, I, am_u (am_u A (x + 1) d (nI (pf_fr P u d))) (x + 2) d (nI (pf_to P u d)), G) := by
  have hD := hv.2.1
  have hH := hv.1.2
  obtain ⟨v1, v2, v3, v4⟩ := hv.2.2.2.1 d hd
  have v2 := v2.resolve_left ho
  obtain ⟨a1, a2, a3, a4⟩ := hp.2.2.2.1 d hd
  have b1 := (hp.2.2.1 (P 3 d) v1).1
  have b2 := (hp.2.2.1 (P 4 d) v2.1).1
  have c0 := nI_clamp (show d < 2 ^ 31 by omega)
  have x0 := am_ixF (show d < 10 by omega) (show 10 < 2 ^ 31 by omega)
  have c1 := nI_clamp (show P 3 d < 2 ^ 31 by omega)
  have x1 := am_ixF (show P 3 d < 8 by omega) (show 8 < 2 ^ 31 by omega)
  have c2 := nI_clamp (show P 4 d < 2 ^ 31 by omega)
  have x2 := am_ixF (show P 4 d < 8 by omega) (show 8 < 2 ^ 31 by omega)
  have g1 : (nI (P 0 (P 4 d)) ≤ nI (P 0 (P 3 d))) = (P 0 (P 4 d) ≤ P 0 (P 3 d)) := propext (nI_leI (by have := hv.2.2.1 _ v2.1; omega) (by have := hv.2.2.1 _ v1; omega))
  unfold pf_fr pf_to
  rw [if_neg ho, if_neg ho]
  by_cases hlt : P 0 (P 3 d) < P 0 (P 4 d)
  · rw [decide_eq_true hlt]
    have g1' := g1.trans (eq_false (by omega))
    cases u with
    | true =>
      rw [if_pos rfl, if_pos rfl]
      rcases hx with ⟨rfl, rfl | rfl⟩ | ⟨rfl, rfl | rfl⟩ <;>
      (simp only [Nat.reduceAdd] at a1 a2 b1 b2 ⊢
       simp only [s_X5_leadInside_0, s_X5_leadInside_1_at5, s_X5_leadInside_1_at25, s_X5_leadInside_4, s_X5_leadInside_5, s_X5_leadInside_6, s_X5_leadInside_8, s_X5_leadInside_9_at5, s_X5_leadInside_9_at25, s_X5_leadInside_12, s_X5_leadInside_13, s_X5_leadInside_14, s_X5_leadInside_16, s_X5_leadInside_17_at5, s_X5_leadInside_17_at25, s_X5_leadInside_20, s_X5_leadInside_22, s_X5_leadInside_23, s_X5_leadInside_24_at5, s_X5_leadInside_24_at25, s_X5_leadInside_27, s_X5_leadInside_29, s_X5_leadInside_30, s_X5_leadInside_33, s_X5_leadInside_34, s_X5_leadInside_37, s_X5_leadInside_38, s_X5_leadInside_39, s_X5_leadInside_42, s_X5_leadInside_43, s_X5_leadInside_46, s_X5_leadInside_47, s_X5_leadInside_49, s_X5_leadInside_50_at13, s_X5_leadInside_50_at19, s_X5_leadInside_50_at33, s_X5_leadInside_50_at39, s_X5_leadInside_53, s_X5_leadInside_54, s_X5_leadInside_56, s_X5_leadInside_59, s_X5_leadInside_61, s_X5_leadInside_64, s_X5_leadInside_66, s_X5_leadInside_67, s_X5_leadInside_68_at13, s_X5_leadInside_68_at19, s_X5_leadInside_68_at33, s_X5_leadInside_68_at39, s_X5_leadInside_71, s_X5_leadInside_72, s_X5_leadInside_74, s_X5_leadInside_77, s_X5_leadInside_79, s_X5_leadInside_82, s_X5_leadInside_84, s_X5_leadInside_85, am_len_9, am_len_10, am_len_6, am_len_29, am_len_30, am_len_26, am_len_14, am_len_15, am_len_20, am_len_21, am_len_34, am_len_35, am_len_40, am_len_41, am_bi, a1, a2, b1, b2, c0, x0, c1, x1, c2, x2, g1', if_false, if_true, show ((1 : Int32) = 0) = False by decide, show ((0 : Int32) = 1) = False by decide])
    | false =>
      rw [if_neg (by decide), if_neg (by decide)]
      rcases hx with ⟨rfl, rfl | rfl⟩ | ⟨rfl, rfl | rfl⟩ <;>
      (simp only [Nat.reduceAdd] at a1 a2 b1 b2 ⊢
       simp only [s_X5_leadInside_0, s_X5_leadInside_1_at5, s_X5_leadInside_1_at25, s_X5_leadInside_4, s_X5_leadInside_5, s_X5_leadInside_6, s_X5_leadInside_8, s_X5_leadInside_9_at5, s_X5_leadInside_9_at25, s_X5_leadInside_12, s_X5_leadInside_13, s_X5_leadInside_14, s_X5_leadInside_16, s_X5_leadInside_17_at5, s_X5_leadInside_17_at25, s_X5_leadInside_20, s_X5_leadInside_22, s_X5_leadInside_23, s_X5_leadInside_24_at5, s_X5_leadInside_24_at25, s_X5_leadInside_27, s_X5_leadInside_29, s_X5_leadInside_30, s_X5_leadInside_33, s_X5_leadInside_34, s_X5_leadInside_37, s_X5_leadInside_38, s_X5_leadInside_39, s_X5_leadInside_42, s_X5_leadInside_43, s_X5_leadInside_46, s_X5_leadInside_47, s_X5_leadInside_49, s_X5_leadInside_50_at13, s_X5_leadInside_50_at19, s_X5_leadInside_50_at33, s_X5_leadInside_50_at39, s_X5_leadInside_53, s_X5_leadInside_54, s_X5_leadInside_56, s_X5_leadInside_59, s_X5_leadInside_61, s_X5_leadInside_64, s_X5_leadInside_66, s_X5_leadInside_67, s_X5_leadInside_68_at13, s_X5_leadInside_68_at19, s_X5_leadInside_68_at33, s_X5_leadInside_68_at39, s_X5_leadInside_71, s_X5_leadInside_72, s_X5_leadInside_74, s_X5_leadInside_77, s_X5_leadInside_79, s_X5_leadInside_82, s_X5_leadInside_84, s_X5_leadInside_85, am_len_9, am_len_10, am_len_6, am_len_29, am_len_30, am_len_26, am_len_14, am_len_15, am_len_20, am_len_21, am_len_34, am_len_35, am_len_40, am_len_41, am_bi, a1, a2, b1, b2, c0, x0, c1, x1, c2, x2, g1', if_false, if_true, show ((1 : Int32) = 0) = False by decide, show ((0 : Int32) = 1) = False by decide])
  · rw [decide_eq_false hlt]
    have g1' := g1.trans (eq_true (by omega))
    cases u with
    | true =>
      rw [if_neg (by decide), if_neg (by decide)]
      rcases hx with ⟨rfl, rfl | rfl⟩ | ⟨rfl, rfl | rfl⟩ <;>
      (simp only [Nat.reduceAdd] at a1 a2 b1 b2 ⊢
       simp only [s_X5_leadInside_0, s_X5_leadInside_1_at5, s_X5_leadInside_1_at25, s_X5_leadInside_4, s_X5_leadInside_5, s_X5_leadInside_6, s_X5_leadInside_8, s_X5_leadInside_9_at5, s_X5_leadInside_9_at25, s_X5_leadInside_12, s_X5_leadInside_13, s_X5_leadInside_14, s_X5_leadInside_16, s_X5_leadInside_17_at5, s_X5_leadInside_17_at25, s_X5_leadInside_20, s_X5_leadInside_22, s_X5_leadInside_23, s_X5_leadInside_24_at5, s_X5_leadInside_24_at25, s_X5_leadInside_27, s_X5_leadInside_29, s_X5_leadInside_30, s_X5_leadInside_33, s_X5_leadInside_34, s_X5_leadInside_37, s_X5_leadInside_38, s_X5_leadInside_39, s_X5_leadInside_42, s_X5_leadInside_43, s_X5_leadInside_46, s_X5_leadInside_47, s_X5_leadInside_49, s_X5_leadInside_50_at13, s_X5_leadInside_50_at19, s_X5_leadInside_50_at33, s_X5_leadInside_50_at39, s_X5_leadInside_53, s_X5_leadInside_54, s_X5_leadInside_56, s_X5_leadInside_59, s_X5_leadInside_61, s_X5_leadInside_64, s_X5_leadInside_66, s_X5_leadInside_67, s_X5_leadInside_68_at13, s_X5_leadInside_68_at19, s_X5_leadInside_68_at33, s_X5_leadInside_68_at39, s_X5_leadInside_71, s_X5_leadInside_72, s_X5_leadInside_74, s_X5_leadInside_77, s_X5_leadInside_79, s_X5_leadInside_82, s_X5_leadInside_84, s_X5_leadInside_85, am_len_9, am_len_10, am_len_6, am_len_29, am_len_30, am_len_26, am_len_14, am_len_15, am_len_20, am_len_21, am_len_34, am_len_35, am_len_40, am_len_41, am_bi, a1, a2, b1, b2, c0, x0, c1, x1, c2, x2, g1', if_false, if_true, show ((1 : Int32) = 0) = False by decide, show ((0 : Int32) = 1) = False by decide])
    | false =>
      rw [if_pos rfl, if_pos rfl]
      rcases hx with ⟨rfl, rfl | rfl⟩ | ⟨rfl, rfl | rfl⟩ <;>
      (simp only [Nat.reduceAdd] at a1 a2 b1 b2 ⊢
       simp only [s_X5_leadInside_0, s_X5_leadInside_1_at5, s_X5_leadInside_1_at25, s_X5_leadInside_4, s_X5_leadInside_5, s_X5_leadInside_6, s_X5_leadInside_8, s_X5_leadInside_9_at5, s_X5_leadInside_9_at25, s_X5_leadInside_12, s_X5_leadInside_13, s_X5_leadInside_14, s_X5_leadInside_16, s_X5_leadInside_17_at5, s_X5_leadInside_17_at25, s_X5_leadInside_20, s_X5_leadInside_22, s_X5_leadInside_23, s_X5_leadInside_24_at5, s_X5_leadInside_24_at25, s_X5_leadInside_27, s_X5_leadInside_29, s_X5_leadInside_30, s_X5_leadInside_33, s_X5_leadInside_34, s_X5_leadInside_37, s_X5_leadInside_38, s_X5_leadInside_39, s_X5_leadInside_42, s_X5_leadInside_43, s_X5_leadInside_46, s_X5_leadInside_47, s_X5_leadInside_49, s_X5_leadInside_50_at13, s_X5_leadInside_50_at19, s_X5_leadInside_50_at33, s_X5_leadInside_50_at39, s_X5_leadInside_53, s_X5_leadInside_54, s_X5_leadInside_56, s_X5_leadInside_59, s_X5_leadInside_61, s_X5_leadInside_64, s_X5_leadInside_66, s_X5_leadInside_67, s_X5_leadInside_68_at13, s_X5_leadInside_68_at19, s_X5_leadInside_68_at33, s_X5_leadInside_68_at39, s_X5_leadInside_71, s_X5_leadInside_72, s_X5_leadInside_74, s_X5_leadInside_77, s_X5_leadInside_79, s_X5_leadInside_82, s_X5_leadInside_84, s_X5_leadInside_85, am_len_9, am_len_10, am_len_6, am_len_29, am_len_30, am_len_26, am_len_14, am_len_15, am_len_20, am_len_21, am_len_34, am_len_35, am_len_40, am_len_41, am_bi, a1, a2, b1, b2, c0, x0, c1, x1, c2, x2, g1', if_false, if_true, show ((1 : Int32) = 0) = False by decide, show ((0 : Int32) = 1) = False by decide])
theorem e_X5_leadOutside {p x d : Nat} {P : sg_P} {u : Bool} {I A : am_F} {G : am_G} (hx : wd_px p x) (hv : vp_p P) (hp : cr_p p P I A) (hd : d < P 7 1) (ho : P 4 d = 8) : am_e 31 0 [.ref x, .ref p, .int (nI d), .int (am_bi u), .null, .null] [] I A G = some (.null, I, am_u (am_u A (x + 1) d (nI (pf_fr P u d))) (x + 2) d (nI (pf_to P u d)), G) := by
  have hD := hv.2.1
  have hH := hv.1.2
  obtain ⟨v1, v2, v3, v4⟩ := hv.2.2.2.1 d hd
  obtain ⟨a1, a2, a3, a4⟩ := hp.2.2.2.1 d hd
  have b1 := (hp.2.2.1 (P 3 d) v1).1
  have b2 := hp.2.2.2.2.1
  have c0 := nI_clamp (show d < 2 ^ 31 by omega)
  have x0 := am_ixF (show d < 10 by omega) (show 10 < 2 ^ 31 by omega)
  have c1 := nI_clamp (show P 3 d < 2 ^ 31 by omega)
  have x1 := am_ixF (show P 3 d < 8 by omega) (show 8 < 2 ^ 31 by omega)
  have n8 : (8 : Int32) = nI 8 := rfl
  have g1 : (nI (P 7 2) ≤ nI (P 0 (P 3 d))) = (P 7 2 ≤ P 0 (P 3 d)) := propext (nI_leI (by have := hv.2.2.2.2.1; omega) (by have := hv.2.2.1 _ v1; omega))
  unfold pf_fr pf_to
  rw [if_pos ho, if_pos ho]
  by_cases hlt : P 0 (P 3 d) < P 7 2
  · rw [decide_eq_true hlt]
    have g1' := g1.trans (eq_false (by omega))
    cases u with
    | true =>
      rw [if_pos rfl, if_pos rfl]
      rcases hx with ⟨rfl, rfl | rfl⟩ | ⟨rfl, rfl | rfl⟩ <;>
      (simp only [Nat.reduceAdd] at a1 b1 ⊢
       simp only [s_X5_leadOutside_0, s_X5_leadOutside_1_at5, s_X5_leadOutside_1_at25, s_X5_leadOutside_4, s_X5_leadOutside_5, s_X5_leadOutside_6, s_X5_leadOutside_8, s_X5_leadOutside_9_at5, s_X5_leadOutside_9_at25, s_X5_leadOutside_12, s_X5_leadOutside_14, s_X5_leadOutside_15, s_X5_leadOutside_16_at5, s_X5_leadOutside_16_at25, s_X5_leadOutside_19, s_X5_leadOutside_22, s_X5_leadOutside_23, s_X5_leadOutside_26, s_X5_leadOutside_27, s_X5_leadOutside_28, s_X5_leadOutside_31, s_X5_leadOutside_32, s_X5_leadOutside_35, s_X5_leadOutside_36, s_X5_leadOutside_38, s_X5_leadOutside_39_at13, s_X5_leadOutside_39_at19, s_X5_leadOutside_39_at33, s_X5_leadOutside_39_at39, s_X5_leadOutside_42, s_X5_leadOutside_43, s_X5_leadOutside_45, s_X5_leadOutside_48, s_X5_leadOutside_50, s_X5_leadOutside_53, s_X5_leadOutside_55, s_X5_leadOutside_56, s_X5_leadOutside_57_at13, s_X5_leadOutside_57_at19, s_X5_leadOutside_57_at33, s_X5_leadOutside_57_at39, s_X5_leadOutside_60, s_X5_leadOutside_61, s_X5_leadOutside_63, s_X5_leadOutside_66, s_X5_leadOutside_68, s_X5_leadOutside_71, s_X5_leadOutside_73, s_X5_leadOutside_74, am_len_9, am_len_6, am_len_29, am_len_26, am_len_14, am_len_15, am_len_20, am_len_21, am_len_34, am_len_35, am_len_40, am_len_41, am_bi, a1, b1, b2, c0, x0, c1, x1, g1', if_false, if_true, show ((1 : Int32) = 0) = False by decide, show ((0 : Int32) = 1) = False by decide, n8])
    | false =>
      rw [if_neg (by decide), if_neg (by decide)]
      rcases hx with ⟨rfl, rfl | rfl⟩ | ⟨rfl, rfl | rfl⟩ <;>
      (simp only [Nat.reduceAdd] at a1 b1 ⊢
       simp only [s_X5_leadOutside_0, s_X5_leadOutside_1_at5, s_X5_leadOutside_1_at25, s_X5_leadOutside_4, s_X5_leadOutside_5, s_X5_leadOutside_6, s_X5_leadOutside_8, s_X5_leadOutside_9_at5, s_X5_leadOutside_9_at25, s_X5_leadOutside_12, s_X5_leadOutside_14, s_X5_leadOutside_15, s_X5_leadOutside_16_at5, s_X5_leadOutside_16_at25, s_X5_leadOutside_19, s_X5_leadOutside_22, s_X5_leadOutside_23, s_X5_leadOutside_26, s_X5_leadOutside_27, s_X5_leadOutside_28, s_X5_leadOutside_31, s_X5_leadOutside_32, s_X5_leadOutside_35, s_X5_leadOutside_36, s_X5_leadOutside_38, s_X5_leadOutside_39_at13, s_X5_leadOutside_39_at19, s_X5_leadOutside_39_at33, s_X5_leadOutside_39_at39, s_X5_leadOutside_42, s_X5_leadOutside_43, s_X5_leadOutside_45, s_X5_leadOutside_48, s_X5_leadOutside_50, s_X5_leadOutside_53, s_X5_leadOutside_55, s_X5_leadOutside_56, s_X5_leadOutside_57_at13, s_X5_leadOutside_57_at19, s_X5_leadOutside_57_at33, s_X5_leadOutside_57_at39, s_X5_leadOutside_60, s_X5_leadOutside_61, s_X5_leadOutside_63, s_X5_leadOutside_66, s_X5_leadOutside_68, s_X5_leadOutside_71, s_X5_leadOutside_73, s_X5_leadOutside_74, am_len_9, am_len_6, am_len_29, am_len_26, am_len_14, am_len_15, am_len_20, am_len_21, am_len_34, am_len_35, am_len_40, am_len_41, am_bi, a1, b1, b2, c0, x0, c1, x1, g1', if_false, if_true, show ((1 : Int32) = 0) = False by decide, show ((0 : Int32) = 1) = False by decide, n8])
  · rw [decide_eq_false hlt]
    have g1' := g1.trans (eq_true (by omega))
    cases u with
    | true =>
      rw [if_neg (by decide), if_neg (by decide)]
      rcases hx with ⟨rfl, rfl | rfl⟩ | ⟨rfl, rfl | rfl⟩ <;>
      (simp only [Nat.reduceAdd] at a1 b1 ⊢
       simp only [s_X5_leadOutside_0, s_X5_leadOutside_1_at5, s_X5_leadOutside_1_at25, s_X5_leadOutside_4, s_X5_leadOutside_5, s_X5_leadOutside_6, s_X5_leadOutside_8, s_X5_leadOutside_9_at5, s_X5_leadOutside_9_at25, s_X5_leadOutside_12, s_X5_leadOutside_14, s_X5_leadOutside_15, s_X5_leadOutside_16_at5, s_X5_leadOutside_16_at25, s_X5_leadOutside_19, s_X5_leadOutside_22, s_X5_leadOutside_23, s_X5_leadOutside_26, s_X5_leadOutside_27, s_X5_leadOutside_28, s_X5_leadOutside_31, s_X5_leadOutside_32, s_X5_leadOutside_35, s_X5_leadOutside_36, s_X5_leadOutside_38, s_X5_leadOutside_39_at13, s_X5_leadOutside_39_at19, s_X5_leadOutside_39_at33, s_X5_leadOutside_39_at39, s_X5_leadOutside_42, s_X5_leadOutside_43, s_X5_leadOutside_45, s_X5_leadOutside_48, s_X5_leadOutside_50, s_X5_leadOutside_53, s_X5_leadOutside_55, s_X5_leadOutside_56, s_X5_leadOutside_57_at13, s_X5_leadOutside_57_at19, s_X5_leadOutside_57_at33, s_X5_leadOutside_57_at39, s_X5_leadOutside_60, s_X5_leadOutside_61, s_X5_leadOutside_63, s_X5_leadOutside_66, s_X5_leadOutside_68, s_X5_leadOutside_71, s_X5_leadOutside_73, s_X5_leadOutside_74, am_len_9, am_len_6, am_len_29, am_len_26, am_len_14, am_len_15, am_len_20, am_len_21, am_len_34, am_len_35, am_len_40, am_len_41, am_bi, a1, b1, b2, c0, x0, c1, x1, g1', if_false, if_true, show ((1 : Int32) = 0) = False by decide, show ((0 : Int32) = 1) = False by decide, n8])
    | false =>
      rw [if_pos rfl, if_pos rfl]
      rcases hx with ⟨rfl, rfl | rfl⟩ | ⟨rfl, rfl | rfl⟩ <;>
      (simp only [Nat.reduceAdd] at a1 b1 ⊢
       simp only [s_X5_leadOutside_0, s_X5_leadOutside_1_at5, s_X5_leadOutside_1_at25, s_X5_leadOutside_4, s_X5_leadOutside_5, s_X5_leadOutside_6, s_X5_leadOutside_8, s_X5_leadOutside_9_at5, s_X5_leadOutside_9_at25, s_X5_leadOutside_12, s_X5_leadOutside_14, s_X5_leadOutside_15, s_X5_leadOutside_16_at5, s_X5_leadOutside_16_at25, s_X5_leadOutside_19, s_X5_leadOutside_22, s_X5_leadOutside_23, s_X5_leadOutside_26, s_X5_leadOutside_27, s_X5_leadOutside_28, s_X5_leadOutside_31, s_X5_leadOutside_32, s_X5_leadOutside_35, s_X5_leadOutside_36, s_X5_leadOutside_38, s_X5_leadOutside_39_at13, s_X5_leadOutside_39_at19, s_X5_leadOutside_39_at33, s_X5_leadOutside_39_at39, s_X5_leadOutside_42, s_X5_leadOutside_43, s_X5_leadOutside_45, s_X5_leadOutside_48, s_X5_leadOutside_50, s_X5_leadOutside_53, s_X5_leadOutside_55, s_X5_leadOutside_56, s_X5_leadOutside_57_at13, s_X5_leadOutside_57_at19, s_X5_leadOutside_57_at33, s_X5_leadOutside_57_at39, s_X5_leadOutside_60, s_X5_leadOutside_61, s_X5_leadOutside_63, s_X5_leadOutside_66, s_X5_leadOutside_68, s_X5_leadOutside_71, s_X5_leadOutside_73, s_X5_leadOutside_74, am_len_9, am_len_6, am_len_29, am_len_26, am_len_14, am_len_15, am_len_20, am_len_21, am_len_34, am_len_35, am_len_40, am_len_41, am_bi, a1, b1, b2, c0, x0, c1, x1, g1', if_false, if_true, show ((1 : Int32) = 0) = False by decide, show ((0 : Int32) = 1) = False by decide, n8])
/-- is the hall i later than the hall k, as air goes -/
def pf_lt (P : sg_P) (u : Bool) (i k : Nat) : Bool := match u with
  | true => decide (P 0 k < P 0 i)
  | false => decide (P 0 i < P 0 k)
