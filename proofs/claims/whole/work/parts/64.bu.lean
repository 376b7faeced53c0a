/-! ===== burns, both ===== -/
def sv_z (P : sg_P) (m : Nat) (z : Nat → Nat × Nat × Nat) : Prop := m ≤ 10 ∧ ∀ e, e < m → (z e).1 < 24 ∧ (z e).2.1 < P 7 0 ∧ (z e).2.2 ≤ 1
/-- halls that are left by one that was told -/
def pf_bi (P : sg_P) (s : sg_S) (y : Nat × Nat × Nat) (X : Int32) : Nat → Int32
  | 0 => X
  | i + 1 => if pf_r P s.1 s.2.1 (pf_wy P (nI y.1)) (fun k => decide (k = i)) y.2.1 = decide (y.2.2 = 1) then pf_bi P s y X i else pf_bi P s y X i &&& (((1 : Int32) <<< (nI i &&& 31)) ^^^ (-1))
def pf_bo (P : sg_P) (s : sg_S) (z : Nat → Nat × Nat × Nat) : Nat → Int32
  | 0 => nI (2 ^ P 7 0) - 1
  | k + 1 => pf_bi P s (z k) (pf_bo P s z k) (P 7 0)
theorem am_bi_n {b : Bool} {n : Nat} (h : n ≤ 1) : (am_bi b = nI n) = (b = decide (n = 1)) := by
  have : n = 0 ∨ n = 1 := by omega
  rcases this with rfl | rfl <;> cases b <;> decide
theorem X6_buI {p p' k : Nat} {P : sg_P} {s : sg_S} {y : Nat × Nat × Nat} {X : Int32} {I A : am_F} {G : am_G} (hv : vp_p P) (hc : ck P s p p' I A G) (hcb : cb_ok P s.1 s.2.1 (pf_wy P (nI y.1)) p A G) (hk : k < 10) (h56 : A 56 k = nI y.2.1) (h57 : A 57 k = nI y.2.2) (hy1 : y.2.1 < P 7 0) (hy2 : y.2.2 ≤ 1) : ∀ (r i : Nat) (g : Value), i + r = P 7 0 → ∃ g' : Value, am_e 53 47 [.ref 0, .int (pf_bi P s y X i), .int (nI k), .int (nI i), g] [] I A G = am_e 53 109 [.ref 0, .int (pf_bi P s y X (P 7 0)), .int (nI k), .int (nI (P 7 0)), g'] [] I A G := by
  have hpp := hc.1.pp.1
  have hH := hv.1.2
  have q9 := hc.2.1.1.1
  intro r
  induction r with
  | zero =>
    intro i g hi
    have : i = P 7 0 := by omega
    subst this
    refine ⟨g, ?_⟩
    refine (s_X6_burns_47).trans ?_
    rcases hpp with rfl | rfl <;> simp only [s_X6_burns_48, s_X6_burns_49, s_X6_burns_52_at5, s_X6_burns_52_at25, s_X6_burns_55, hc.1.1, q9, Int32.le_refl, if_true]
  | succ r ih =>
    intro i g hi
    have hil : i < P 7 0 := by omega
    obtain ⟨Y, f1, f2⟩ := e_X0_dw (i := i) hpp hv (pf_way_w _ _) hc.2.2.1 hcb hil
    obtain ⟨g', k1⟩ := ih (i + 1) (.int Y) (by omega)
    refine ⟨g', ?_⟩
    rw [← k1]
    refine (s_X6_burns_47).trans ?_
    have hn : (nI (P 7 0) ≤ nI i) = False := eq_false (by rw [nI_leI (by omega) (by omega)]; omega)
    have ck := nI_clamp (show k < 2 ^ 31 by omega)
    have xk := am_ixF (show k < 10 by omega) (show 10 < 2 ^ 31 by omega)
    have hY := f2 y.2.1 (by omega)
    rw [decide_eq_true hy1, Bool.true_and] at hY
    have hcmp := am_bi_n (b := pf_r P s.1 s.2.1 (pf_wy P (nI y.1)) (fun k => decide (k = i)) y.2.1) hy2
    have e1 : pf_bi P s y X (i + 1) = if pf_r P s.1 s.2.1 (pf_wy P (nI y.1)) (fun k => decide (k = i)) y.2.1 = decide (y.2.2 = 1) then pf_bi P s y X i else pf_bi P s y X i &&& (((1 : Int32) <<< (nI i &&& 31)) ^^^ (-1)) := rfl
    have wb : pf_wb (pf_bi P s y X i) (nI i) 0 = pf_bi P s y X i &&& (((1 : Int32) <<< (nI i &&& 31)) ^^^ (-1)) := if_pos rfl
    by_cases he : pf_r P s.1 s.2.1 (pf_wy P (nI y.1)) (fun k => decide (k = i)) y.2.1 = decide (y.2.2 = 1)
    · have hcmp := hcmp.trans (eq_true he)
      rw [e1, if_pos he]
      rcases hpp with rfl | rfl <;> simp only [s_X6_burns_48, s_X6_burns_49, s_X6_burns_52_at5, s_X6_burns_52_at25, s_X6_burns_55, s_X6_burns_58, s_X6_burns_59, s_X6_burns_62, s_X6_burns_63, s_X6_burns_64, s_X6_burns_65, s_X6_burns_68, s_X6_burns_70, s_X6_burns_72, s_X6_burns_73, s_X6_burns_76, s_X6_burns_79, s_X6_burns_80, s_X6_burns_81, s_X6_burns_84, s_X6_burns_85, s_X6_burns_88, s_X6_burns_91, s_X6_burns_92, s_X6_burns_93, s_X6_burns_96, s_X6_burns_97, s_X6_burns_98, s_X6_burns_99, s_X6_burns_102, s_X6_burns_103, s_X6_burns_106, hc.1.1, q9, hn, if_false, f1, am_k_some, am_push_i, am_len_56, am_len_57, ck, xk, h56, h57, e_X6_bitOf, am_hb_d, hY, hcmp, if_true, am_add1]
    · have hcmp := hcmp.trans (eq_false he)
      rw [e1, if_neg he]
      rcases hpp with rfl | rfl <;> simp only [s_X6_burns_48, s_X6_burns_49, s_X6_burns_52_at5, s_X6_burns_52_at25, s_X6_burns_55, s_X6_burns_58, s_X6_burns_59, s_X6_burns_62, s_X6_burns_63, s_X6_burns_64, s_X6_burns_65, s_X6_burns_68, s_X6_burns_70, s_X6_burns_72, s_X6_burns_73, s_X6_burns_76, s_X6_burns_79, s_X6_burns_80, s_X6_burns_81, s_X6_burns_84, s_X6_burns_85, s_X6_burns_88, s_X6_burns_91, s_X6_burns_92, s_X6_burns_93, s_X6_burns_96, s_X6_burns_97, s_X6_burns_98, s_X6_burns_99, s_X6_burns_102, s_X6_burns_103, s_X6_burns_106, hc.1.1, q9, hn, if_false, f1, am_k_some, am_push_i, am_len_56, am_len_57, ck, xk, h56, h57, e_X6_bitOf, am_hb_d, hY, hcmp, e_X6_withBit, wb, am_add1]
theorem X6_buO {p p' m : Nat} {P : sg_P} {s : sg_S} {z : Nat → Nat × Nat × Nat} {I : am_F} (hv : vp_p P) (hs : sv_s P s) (hz : sv_z P m z) : ∀ (r k : Nat) (g3 g4 : Value) (A : am_F) (G : am_G), k + r = m → ck P s p p' I A G → cr_n m z I A → ∃ (A' : am_F) (G' : am_G), am_e 53 14 [.ref 0, .int (pf_bo P s z k), .int (nI k), g3, g4] [] I A G = some (.int (pf_bo P s z m), I, A', G') ∧ fr_c A A' G G' := by
  obtain ⟨hm, hz⟩ := hz
  intro r
  induction r with
  | zero =>
    intro k g3 g4 A G hk hc hn
    have : k = m := by omega
    subst this
    refine ⟨A, G, ?_, fr_c.rf A G⟩
    refine (s_X6_burns_14).trans ?_
    simp only [s_X6_burns_15, s_X6_burns_16, s_X6_burns_19, s_X6_burns_22, s_X6_burns_115, s_X6_burns_116, hn.1, Int32.le_refl, if_true]
  | succ r ih =>
    intro k g3 g4 A G hk hc hn
    have hkm : k < m := by omega
    have hpp := hc.1.pp.1
    obtain ⟨a1, a2, a3⟩ := hn.2 k hkm
    obtain ⟨z1, z2, z3⟩ := hz k hkm
    obtain ⟨A1, G1, f1, f2, f3⟩ := e_X6_blowNow (w := pf_wy P (nI (z k).1)) hv hs (pf_way_w _ _) hc
    have hc1 := hc.fr f2
    obtain ⟨g', k1⟩ := X6_buI (k := k) (y := z k) (X := pf_bo P s z k) (I := I) hv hc1 f3 (by omega) (by rw [f2.1 56 (by omega)]; exact a2) (by rw [f2.1 57 (by omega)]; exact a3) z2 z3 (P 7 0) 0 g4 (by omega)
    obtain ⟨A', G', d1, d2⟩ := ih (k + 1) (.int (nI (P 7 0))) g' A1 G1 (by omega) hc1 ⟨hn.1, fun e he => by rw [f2.1 55 (by omega), f2.1 56 (by omega), f2.1 57 (by omega)]; exact hn.2 e he⟩
    refine ⟨A', G', ?_, f2.tr d2⟩
    rw [← d1]
    have hnl : (nI m ≤ nI k) = False := eq_false (by rw [nI_leI (by omega) (by omega)]; omega)
    have ck := nI_clamp (show k < 2 ^ 31 by omega)
    have xk := am_ixF (show k < 10 by omega) (show 10 < 2 ^ 31 by omega)
    have hw := @e_X2_wayIn p I A G P (nI (z k).1) hpp hc.2.1.1
    have e0 : am_e 53 14 [.ref 0, .int (pf_bo P s z k), .int (nI k), g3, g4] [] I A G = am_e 53 47 [.ref 0, .int (pf_bi P s (z k) (pf_bo P s z k) 0), .int (nI k), .int (nI 0), g4] [] I A1 G1 := by
      refine (s_X6_burns_14).trans ?_
      rcases hpp with rfl | rfl <;> (simp only [s_X6_burns_15, s_X6_burns_16, s_X6_burns_19, s_X6_burns_22, s_X6_burns_25, s_X6_burns_26, s_X6_burns_27, s_X6_burns_30, s_X6_burns_31, s_X6_burns_34, s_X6_burns_37, s_X6_burns_38, s_X6_burns_39_at5, s_X6_burns_39_at25, s_X6_burns_42, s_X6_burns_45, s_X6_burns_46, hn.1, hnl, if_false, hc.1.1, am_len_55, ck, xk, a1, hw, am_k_some, am_push_i, am_push_n, f1]; rfl)
    rw [e0, k1]
    simp only [s_X6_burns_109, s_X6_burns_112, am_add1]
    rfl
theorem e_X6_burns {p p' m : Nat} {P : sg_P} {s : sg_S} {z : Nat → Nat × Nat × Nat} {I A : am_F} {G : am_G} (hv : vp_p P) (hs : sv_s P s) (hz : sv_z P m z) (hc : ck P s p p' I A G) (hn : cr_n m z I A) : ∃ (A' : am_F) (G' : am_G), am_e 53 0 [.ref 0, .null, .null, .null, .null] [] I A G = some (.int (pf_bo P s z m), I, A', G') ∧ fr_c A A' G G' := by
  have hH := hv.1.2
  obtain ⟨A', G', f1, f2⟩ := X6_buO hv hs hz m 0 .null .null A G (by omega) hc hn
  refine ⟨A', G', ?_, f2⟩
  rw [← f1]
  have sh := am_shl1 (n := P 7 0) (by omega)
  have q9 := hc.2.1.1.1
  rcases hc.1.pp.1 with rfl | rfl <;> (simp only [s_X6_burns_0, s_X6_burns_1, s_X6_burns_2, s_X6_burns_5_at5, s_X6_burns_5_at25, s_X6_burns_8, s_X6_burns_9, s_X6_burns_10, s_X6_burns_11, s_X6_burns_12, s_X6_burns_13, hc.1.1, q9, sh]; rfl)
/-! the model -/
theorem X7_buI {k : Nat} {P : sg_P} {s : sg_S} {y : Nat × Nat × Nat} {X : Int32} {I A : am_F} {G : am_G} (hv : vp_p P) (hm : mk P s I A) (h24 : I 69 24 = nI (P 7 1)) (hmb : mb_ok P s.1 s.2.1 (pf_wy P (nI y.1)) A) (hk : k < 10) (h79 : A 79 (3 * k + 2) = nI y.2.2) (hy1 : y.2.1 < P 7 0) (hy2 : y.2.2 ≤ 1) : ∀ (r i : Nat) (g : Value), i + r = P 7 0 → ∃ g' : Value, am_e 123 45 [.ref 69, .int (pf_bi P s y X i), .int (nI k), .int (nI y.2.1), .int (nI i), g] [] I A G = am_e 123 123 [.ref 69, .int (pf_bi P s y X (P 7 0)), .int (nI k), .int (nI y.2.1), .int (nI (P 7 0)), g'] [] I A G := by
  have hH := hv.1.2
  intro r
  induction r with
  | zero =>
    intro i g hi
    have : i = P 7 0 := by omega
    subst this
    refine ⟨g, ?_⟩
    refine (s_X7_burns_45).trans ?_
    simp only [s_X7_burns_47, s_X7_burns_48, s_X7_burns_51, hm.1.1, Int32.le_refl, if_true]
  | succ r ih =>
    intro i g hi
    have hil : i < P 7 0 := by omega
    obtain ⟨g', k1⟩ := ih (i + 1) (.int (am_bi (pf_r P s.1 s.2.1 (pf_wy P (nI y.1)) (fun k => decide (k = i)) y.2.1))) (by omega)
    refine ⟨g', ?_⟩
    rw [← k1]
    have hn : (nI (P 7 0) ≤ nI i) = False := eq_false (by rw [nI_leI (by omega) (by omega)]; omega)
    have c3 := nI_clamp (show 3 * k + 2 < 2 ^ 31 by omega)
    have x3 := am_ixF (show 3 * k + 2 < 30 by omega) (show 30 < 2 ^ 31 by omega)
    have heq : (nI i = nI y.2.1) = (i = y.2.1) := propext (nI_eq (by omega) (by omega))
    have e1 : pf_bi P s y X (i + 1) = if pf_r P s.1 s.2.1 (pf_wy P (nI y.1)) (fun k => decide (k = i)) y.2.1 = decide (y.2.2 = 1) then pf_bi P s y X i else pf_bi P s y X i &&& (((1 : Int32) <<< (nI i &&& 31)) ^^^ (-1)) := rfl
    -- is it smelled there
    have e0 : am_e 123 45 [.ref 69, .int (pf_bi P s y X i), .int (nI k), .int (nI y.2.1), .int (nI i), g] [] I A G = am_e 123 80 [.ref 69, .int (pf_bi P s y X i), .int (nI k), .int (nI y.2.1), .int (nI i), .int (am_bi (pf_r P s.1 s.2.1 (pf_wy P (nI y.1)) (fun k => decide (k = i)) y.2.1))] [] I A G := by
      refine (s_X7_burns_45).trans ?_
      by_cases hi2 : i = y.2.1
      · have heq := heq.trans (eq_true hi2)
        have hr : pf_r P s.1 s.2.1 (pf_wy P (nI y.1)) (fun k => decide (k = i)) y.2.1 = true := fl_R_S _ _ _ _ _ _ _ (decide_eq_true hi2.symm)
        rw [hr]
        simp only [s_X7_burns_47, s_X7_burns_48, s_X7_burns_51, s_X7_burns_54, s_X7_burns_56, s_X7_burns_57, s_X7_burns_60, s_X7_burns_61, s_X7_burns_63, s_X7_burns_66, s_X7_burns_67, s_X7_burns_70, s_X7_burns_73, s_X7_burns_74, s_X7_burns_77, s_X7_burns_78, hm.1.1, hn, if_false, heq, if_true]
        rfl
      · have heq := heq.trans (eq_false hi2)
        obtain ⟨Y, f1, f2⟩ := e_X7_downwindOf (I := I) (G := G) hv h24 hmb hil
        have hY := f2 y.2.1 (by omega)
        unfold pf_db at hY
        rw [decide_eq_true hy1, decide_eq_true (show y.2.1 ≠ i from fun q => hi2 q.symm), Bool.true_and, Bool.true_and] at hY
        cases hr : pf_r P s.1 s.2.1 (pf_wy P (nI y.1)) (fun k => decide (k = i)) y.2.1 with
        | true =>
          rw [hr] at hY
          simp only [s_X7_burns_47, s_X7_burns_48, s_X7_burns_51, s_X7_burns_54, s_X7_burns_56, s_X7_burns_57, s_X7_burns_60, s_X7_burns_61, s_X7_burns_63, s_X7_burns_66, s_X7_burns_67, s_X7_burns_70, s_X7_burns_73, s_X7_burns_74, s_X7_burns_77, s_X7_burns_78, hm.1.1, hn, if_false, heq, f1, am_k_some, am_push_i, e_X7_has, am_hb_d, hY, am_bi_0, Bool.true_eq_false]
          rfl
        | false =>
          rw [hr] at hY
          simp only [s_X7_burns_47, s_X7_burns_48, s_X7_burns_51, s_X7_burns_54, s_X7_burns_56, s_X7_burns_57, s_X7_burns_60, s_X7_burns_61, s_X7_burns_63, s_X7_burns_66, s_X7_burns_67, s_X7_burns_70, s_X7_burns_73, s_X7_burns_74, s_X7_burns_77, s_X7_burns_78, hm.1.1, hn, if_false, heq, f1, am_k_some, am_push_i, e_X7_has, am_hb_d, hY, am_bi_0, if_true]
          rfl
    rw [e0, e1]
    have hd : y.2.2 = 0 ∨ y.2.2 = 1 := by omega
    rcases hd with hd | hd
    · have h79 : A 79 (3 * k + 2) = 0 := by rw [h79, hd]; rfl
      rw [hd, decide_eq_false (show ¬ (0 : Nat) = 1 by omega)]
      cases hr : pf_r P s.1 s.2.1 (pf_wy P (nI y.1)) (fun k => decide (k = i)) y.2.1 with
      | true =>
        rw [if_neg (by decide)]
        simp only [s_X7_burns_80, s_X7_burns_82, s_X7_burns_83, s_X7_burns_86, s_X7_burns_87, s_X7_burns_88, s_X7_burns_89, s_X7_burns_90, s_X7_burns_91, s_X7_burns_92, s_X7_burns_93, s_X7_burns_96, s_X7_burns_97, s_X7_burns_100, s_X7_burns_101, s_X7_burns_104, s_X7_burns_105, s_X7_burns_108, s_X7_burns_109, s_X7_burns_110, s_X7_burns_112, s_X7_burns_113, s_X7_burns_114, s_X7_burns_115, s_X7_burns_116, s_X7_burns_117, s_X7_burns_120, am_len_79, am_mul3, am_add2, c3, x3, if_false, h79, am_01f, am_bi_0, Bool.true_eq_false, am_add1]
      | false =>
        rw [if_pos rfl]
        simp only [s_X7_burns_80, s_X7_burns_82, s_X7_burns_83, s_X7_burns_86, s_X7_burns_87, s_X7_burns_88, s_X7_burns_89, s_X7_burns_90, s_X7_burns_91, s_X7_burns_92, s_X7_burns_93, s_X7_burns_96, s_X7_burns_97, s_X7_burns_100, s_X7_burns_101, s_X7_burns_104, s_X7_burns_105, s_X7_burns_108, s_X7_burns_109, s_X7_burns_110, s_X7_burns_112, s_X7_burns_113, s_X7_burns_114, s_X7_burns_115, s_X7_burns_116, s_X7_burns_117, s_X7_burns_120, am_len_79, am_mul3, am_add2, c3, x3, if_false, h79, am_01f, am_bi_0, if_true, am_add1]
    · have h79 : A 79 (3 * k + 2) = 1 := by rw [h79, hd]; rfl
      rw [hd, decide_eq_true rfl]
      cases hr : pf_r P s.1 s.2.1 (pf_wy P (nI y.1)) (fun k => decide (k = i)) y.2.1 with
      | true =>
        rw [if_pos rfl]
        simp only [s_X7_burns_80, s_X7_burns_82, s_X7_burns_83, s_X7_burns_86, s_X7_burns_87, s_X7_burns_88, s_X7_burns_89, s_X7_burns_90, s_X7_burns_91, s_X7_burns_92, s_X7_burns_93, s_X7_burns_96, s_X7_burns_97, s_X7_burns_100, s_X7_burns_101, s_X7_burns_104, s_X7_burns_105, s_X7_burns_108, s_X7_burns_109, s_X7_burns_110, s_X7_burns_112, s_X7_burns_113, s_X7_burns_114, s_X7_burns_115, s_X7_burns_116, s_X7_burns_117, s_X7_burns_120, am_len_79, am_mul3, am_add2, c3, x3, if_false, h79, if_true, am_bi_1, am_add1]
      | false =>
        rw [if_neg (by decide)]
        simp only [s_X7_burns_80, s_X7_burns_82, s_X7_burns_83, s_X7_burns_86, s_X7_burns_87, s_X7_burns_88, s_X7_burns_89, s_X7_burns_90, s_X7_burns_91, s_X7_burns_92, s_X7_burns_93, s_X7_burns_96, s_X7_burns_97, s_X7_burns_100, s_X7_burns_101, s_X7_burns_104, s_X7_burns_105, s_X7_burns_108, s_X7_burns_109, s_X7_burns_110, s_X7_burns_112, s_X7_burns_113, s_X7_burns_114, s_X7_burns_115, s_X7_burns_116, s_X7_burns_117, s_X7_burns_120, am_len_79, am_mul3, am_add2, c3, x3, if_false, h79, if_true, am_bi_1, Bool.false_eq_true, am_add1]
theorem X7_buO {m : Nat} {P : sg_P} {s : sg_S} {z : Nat → Nat × Nat × Nat} {G : am_G} (hv : vp_p P) (hz : sv_z P m z) : ∀ (r k : Nat) (g3 g4 g5 : Value) (I A : am_F), k + r = m → mk P s I A → mr_n m z I A → ∃ I' A' : am_F, am_e 123 11 [.ref 69, .int (pf_bo P s z k), .int (nI k), g3, g4, g5] [] I A G = some (.int (pf_bo P s z m), I', A', G) ∧ fr_a I A I' A' := by
  obtain ⟨hm10, hz⟩ := hz
  intro r
  induction r with
  | zero =>
    intro k g3 g4 g5 I A hk hm hn
    have : k = m := by omega
    subst this
    refine ⟨I, A, ?_, fr_a.rf I A⟩
    refine (s_X7_burns_11).trans ?_
    simp only [s_X7_burns_12, s_X7_burns_13, s_X7_burns_16, s_X7_burns_129, s_X7_burns_130, hn.1, Int32.le_refl, if_true]
  | succ r ih =>
    intro k g3 g4 g5 I A hk hm hn
    have hkm : k < m := by omega
    obtain ⟨a1, a2, a3⟩ := hn.2 k hkm
    obtain ⟨z1, z2, z3⟩ := hz k hkm
    obtain ⟨I1, A1, f1, f2, f3, f4⟩ := now_m (t := nI (z k).1) (G := G) hv hm
    have hm1 := hm.fr f2
    have a2' : A1 79 (3 * k + 1) = nI (z k).2.1 := by rw [f2.2 79 (by omega)]; exact a2
    have a3' : A1 79 (3 * k + 2) = nI (z k).2.2 := by rw [f2.2 79 (by omega)]; exact a3
    obtain ⟨g', k1⟩ := X7_buI (k := k) (y := z k) (X := pf_bo P s z k) (I := I1) (G := G) hv hm1 f3 f4 (by omega) a3' z2 z3 (P 7 0) 0 g5 (by omega)
    obtain ⟨I', A', d1, d2⟩ := ih (k + 1) (.int (nI (z k).2.1)) (.int (nI (P 7 0))) g' I1 A1 (by omega) hm1 ⟨by rw [f2.1 _ _ (by omega)]; exact hn.1, fun e he => by rw [f2.2 79 (by omega)]; exact hn.2 e he⟩
    refine ⟨I', A', ?_, f2.tr d2⟩
    rw [← d1]
    have hnl : (nI m ≤ nI k) = False := eq_false (by rw [nI_leI (by omega) (by omega)]; omega)
    have c0 := nI_clamp (show 3 * k < 2 ^ 31 by omega)
    have x0 := am_ixF (show 3 * k < 30 by omega) (show 30 < 2 ^ 31 by omega)
    have c1 := nI_clamp (show 3 * k + 1 < 2 ^ 31 by omega)
    have x1 := am_ixF (show 3 * k + 1 < 30 by omega) (show 30 < 2 ^ 31 by omega)
    have e0 : am_e 123 11 [.ref 69, .int (pf_bo P s z k), .int (nI k), g3, g4, g5] [] I A G = am_e 123 45 [.ref 69, .int (pf_bi P s (z k) (pf_bo P s z k) 0), .int (nI k), .int (nI (z k).2.1), .int (nI 0), g5] [] I1 A1 G := by
      refine (s_X7_burns_11).trans ?_
      simp only [s_X7_burns_12, s_X7_burns_13, s_X7_burns_16, s_X7_burns_19, s_X7_burns_20, s_X7_burns_21, s_X7_burns_24, s_X7_burns_25, s_X7_burns_26, s_X7_burns_27, s_X7_burns_28, s_X7_burns_31, s_X7_burns_32, s_X7_burns_35, s_X7_burns_36, s_X7_burns_37, s_X7_burns_38, s_X7_burns_39, s_X7_burns_40, s_X7_burns_41, s_X7_burns_42, s_X7_burns_43, hn.1, hnl, if_false, am_len_79, am_mul3, am_add1, c0, x0, c1, x1, a1, f1, am_k_some, am_push_n, a2']
      rfl
    rw [e0, k1]
    simp only [s_X7_burns_123, s_X7_burns_126, am_add1]
    rfl
theorem e_X7_burns {m : Nat} {P : sg_P} {s : sg_S} {z : Nat → Nat × Nat × Nat} {I A : am_F} {G : am_G} (hv : vp_p P) (hz : sv_z P m z) (hm : mk P s I A) (hn : mr_n m z I A) : ∃ I' A' : am_F, am_e 123 0 [.ref 69, .null, .null, .null, .null, .null] [] I A G = some (.int (pf_bo P s z m), I', A', G) ∧ fr_a I A I' A' := by
  have hH := hv.1.2
  obtain ⟨I', A', f1, f2⟩ := X7_buO (G := G) hv hz m 0 .null .null .null I A (by omega) hm hn
  refine ⟨I', A', ?_, f2⟩
  rw [← f1]
  have sh := am_shl1 (n := P 7 0) (by omega)
  simp only [s_X7_burns_0, s_X7_burns_1, s_X7_burns_2, s_X7_burns_5, s_X7_burns_6, s_X7_burns_7, s_X7_burns_8, s_X7_burns_9, s_X7_burns_10, hm.1.1, sh]
  rfl
