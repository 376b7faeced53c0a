/-! ===== weather, both ===== -/
def pf_wx (z d : Int32) : Int64 := 7919 * z.toInt64 + 6151 * d.toInt64 + 1
def pf_wq (z d : Int32) : Int64 := pf_wx z d * pf_wx z d - pf_wx z d * pf_wx z d / 65521 * 65521
/-- how much warmer it is on a day -/
def pf_wm (P : sg_P) (z d : Int32) : Int32 := (pf_wq z d - pf_wq z d / (nI (P 7 7 + 1)).toInt64 * (nI (P 7 7 + 1)).toInt64).toInt32
def pf_wg (P : sg_P) (s : sg_S) (z d : Int32) : Bool := !pf_sk P s.1 s.2.1 (pf_way P (nI (P 7 4) + pf_wm P z d)) && !pf_sk P s.1 s.2.1 (pf_way P (nI (P 7 5) + pf_wm P z d))
def pf_wn (P : sg_P) (s : sg_S) (z : Int32) (n : Nat) : Nat := fl_s (fun d => if pf_wg P s z (nI d) = true then 1 else 0) n
theorem pf_wn_s (P : sg_P) (s : sg_S) (z : Int32) (n : Nat) : pf_wn P s z (n + 1) = pf_wn P s z n + if pf_wg P s z (nI n) = true then 1 else 0 := rfl
theorem am_c0 {v : Nat} (h : v ≤ 30) : ((nI (v + 1)).toInt64 = 0) = False := eq_false (by
  rw [nI_l (by omega), show (0 : Int64) = lN 0 from rfl, lN_eq (by omega) (by omega)]; omega)
theorem am_65 : ((65521 : Int64) = 0) = False := by decide
theorem e_X6_warmerBy {p p' : Nat} {P : sg_P} {s : sg_S} {z d : Int32} {I A : am_F} {G : am_G} (hv : vp_p P) (hc : ck P s p p' I A G) : am_e 77 0 [.ref 0, .int z, .int d, .null, .null, .null] [] I A G = some (.int (pf_wm P z d), I, A, G) := by
  have h30 := hv.2.2.2.2.2.2.2.2.2
  have q17 := hc.2.1.1.2.2.2.2.2.2.2.2.2
  have hle : (nI (P 7 7 + 1) ≤ 0) = False := (am_nle0 (by omega)).trans (eq_false (by omega))
  rcases hc.1.pp.1 with rfl | rfl <;> (simp only [s_X6_warmerBy_0, s_X6_warmerBy_3, s_X6_warmerBy_4, s_X6_warmerBy_5, s_X6_warmerBy_6, s_X6_warmerBy_9, s_X6_warmerBy_10, s_X6_warmerBy_11, s_X6_warmerBy_12, s_X6_warmerBy_13, s_X6_warmerBy_14, s_X6_warmerBy_15, s_X6_warmerBy_16, s_X6_warmerBy_17, s_X6_warmerBy_20_at5, s_X6_warmerBy_20_at25, s_X6_warmerBy_23, s_X6_warmerBy_24, s_X6_warmerBy_25, s_X6_warmerBy_27, s_X6_warmerBy_29, s_X6_warmerBy_32, s_X6_warmerBy_33, s_X6_warmerBy_34, s_X6_warmerBy_35, s_X6_warmerBy_38, s_X6_warmerBy_39, s_X6_warmerBy_41, s_X6_warmerBy_42, s_X6_warmerBy_43, s_X6_warmerBy_44, s_X6_warmerBy_47, s_X6_warmerBy_48, am_clr_i, am_clr_n, hc.1.1, q17, am_add1, hle, if_false, am_65, am_c0 h30]; rfl)
theorem e_X6_isWardFoul {p p' : Nat} {P : sg_P} {s : sg_S} {w : Int32} {I A : am_F} {G : am_G} (hv : vp_p P) (hs : sv_s P s) (hw : w = 0 ∨ w = 1 ∨ w = 2) (hc : ck P s p p' I A G) : ∃ (A' : am_F) (G' : am_G), am_e 70 0 [.ref 0, .int w] [] I A G = some (.int (am_bi (pf_sk P s.1 s.2.1 w)), I, A', G') ∧ fr_c A A' G G' := by
  obtain ⟨A', G', f1, f2, f3⟩ := e_X6_blowNow hv hs hw hc
  have hk := e_X6_sick hv hw (hc.fr f2) f3
  refine ⟨A', G', ?_, f2⟩
  simp only [s_X6_isWardFoul_0, s_X6_isWardFoul_1, s_X6_isWardFoul_2, s_X6_isWardFoul_5, s_X6_isWardFoul_6, s_X6_isWardFoul_9, f1, am_k_some, am_push_n, hk, am_push_i, am_bi_01, if_true]
def pf_gd2 (a b : Int32) (fu fd : Bool) : Bool := !(decide (a = 1 ∨ b = 1) && fu) && !(decide (a = 2 ∨ b = 2) && fd)
theorem X6_weD {a b : Int32} {fu fd : Bool} {n : Nat} {l1 l2 l6 l7 l10 l11 : Value} {I A : am_F} {G : am_G} (ha : a = 0 ∨ a = 1 ∨ a = 2) (hb : b = 0 ∨ b = 1 ∨ b = 2) : ∃ g10 g11 : Value, am_e 56 96 [.ref 0, l1, l2, .int (am_bi fu), .int (am_bi fd), .int (nI n), l6, l7, .int a, .int b, l10, l11] [] I A G = am_e 56 156 [.ref 0, l1, l2, .int (am_bi fu), .int (am_bi fd), .int (nI (n + if pf_gd2 a b fu fd = true then 1 else 0)), l6, l7, .int a, .int b, g10, g11] [] I A G := by
  refine ⟨.int (am_bi (decide (a = 1 ∨ b = 1))), .int (am_bi (decide (a = 2 ∨ b = 2))), ?_⟩
  unfold pf_gd2
  rcases ha with rfl | rfl | rfl <;> rcases hb with rfl | rfl | rfl <;> cases fu <;> cases fd <;> (simp only [s_X6_weather_96, s_X6_weather_98, s_X6_weather_99, s_X6_weather_102, s_X6_weather_104, s_X6_weather_105, s_X6_weather_108, s_X6_weather_109, s_X6_weather_112, s_X6_weather_113, s_X6_weather_115, s_X6_weather_117, s_X6_weather_118, s_X6_weather_121, s_X6_weather_123, s_X6_weather_124, s_X6_weather_127, s_X6_weather_128, s_X6_weather_131, s_X6_weather_132, s_X6_weather_134, s_X6_weather_136, s_X6_weather_139, s_X6_weather_140, s_X6_weather_143, s_X6_weather_145, s_X6_weather_148, s_X6_weather_150, s_X6_weather_153, am_bi, am_10, am_01f, am_20, am_21, am_12, am_02, if_true, if_false, or_false, false_or, or_true, true_or, decide_true, decide_false, Bool.true_and, Bool.and_true, Bool.and_false, Bool.false_and, Bool.not_true, Bool.not_false, Bool.false_eq_true, am_add1, Nat.add_zero])
theorem pf_gd2_e {P : sg_P} (hv : vp_p P) {o f a b : Int32} (ha : a = 0 ∨ a = 1 ∨ a = 2) (hb : b = 0 ∨ b = 1 ∨ b = 2) : pf_gd2 a b (pf_sk P o f 1) (pf_sk P o f 2) = (!pf_sk P o f a && !pf_sk P o f b) := by
  unfold pf_gd2
  rcases ha with rfl | rfl | rfl <;> rcases hb with rfl | rfl | rfl <;> simp only [pf_sk_0 hv, am_10, am_01f, am_20, am_21, am_12, am_02, or_false, false_or, or_true, true_or, or_self, decide_true, decide_false, Bool.true_and, Bool.and_true, Bool.and_false, Bool.false_and, Bool.not_true, Bool.not_false] <;> first | rfl | (cases pf_sk P o f 1 <;> cases pf_sk P o f 2 <;> rfl)
theorem X6_weL {p p' N : Nat} {P : sg_P} {s : sg_S} {z : Int32} {I A : am_F} {G : am_G} (hv : vp_p P) (hN : N ≤ 30) (hc : ck P s p p' I A G) : ∀ (r d : Nat) (g7 g8 g9 g10 g11 : Value), d + r = N → am_e 56 43 [.ref 0, .int z, .int (nI N), .int (am_bi (pf_sk P s.1 s.2.1 1)), .int (am_bi (pf_sk P s.1 s.2.1 2)), .int (nI (pf_wn P s z d)), .int (nI d), g7, g8, g9, g10, g11] [] I A G = some (.int (nI (pf_wn P s z N)), I, A, G) := by
  have hpp := hc.1.pp.1
  intro r
  induction r with
  | zero =>
    intro d g7 g8 g9 g10 g11 hd
    have : d = N := by omega
    subst this
    refine (s_X6_weather_43).trans ?_
    simp only [s_X6_weather_45, s_X6_weather_46, s_X6_weather_162, s_X6_weather_164, Int32.le_refl, if_true]
  | succ r ih =>
    intro d g7 g8 g9 g10 g11 hd
    have hn : (nI N ≤ nI d) = False := eq_false (by rw [nI_leI (by omega) (by omega)]; omega)
    have hwm := @e_X6_warmerBy p p' P s z (nI d) I A G hv hc
    have w1 := @e_X2_wayAt p I A G P (nI (P 7 4) + pf_wm P z (nI d)) hpp hc.2.1.1
    have w2 := @e_X2_wayAt p I A G P (nI (P 7 5) + pf_wm P z (nI d)) hpp hc.2.1.1
    have q14 := hc.2.1.1.2.2.2.2.2.2.1
    have q15 := hc.2.1.1.2.2.2.2.2.2.2.1
    obtain ⟨h10, h11, k1⟩ := X6_weD (fu := pf_sk P s.1 s.2.1 1) (fd := pf_sk P s.1 s.2.1 2) (n := pf_wn P s z d) (l1 := .int z) (l2 := .int (nI N)) (l6 := .int (nI d)) (l7 := .int (pf_wm P z (nI d))) (l10 := g10) (l11 := g11) (I := I) (A := A) (G := G) (pf_way_w P (nI (P 7 4) + pf_wm P z (nI d))) (pf_way_w P (nI (P 7 5) + pf_wm P z (nI d)))
    rw [pf_gd2_e hv (pf_way_w _ _) (pf_way_w _ _)] at k1
    have e0 : am_e 56 43 [.ref 0, .int z, .int (nI N), .int (am_bi (pf_sk P s.1 s.2.1 1)), .int (am_bi (pf_sk P s.1 s.2.1 2)), .int (nI (pf_wn P s z d)), .int (nI d), g7, g8, g9, g10, g11] [] I A G = am_e 56 96 [.ref 0, .int z, .int (nI N), .int (am_bi (pf_sk P s.1 s.2.1 1)), .int (am_bi (pf_sk P s.1 s.2.1 2)), .int (nI (pf_wn P s z d)), .int (nI d), .int (pf_wm P z (nI d)), .int (pf_way P (nI (P 7 4) + pf_wm P z (nI d))), .int (pf_way P (nI (P 7 5) + pf_wm P z (nI d))), g10, g11] [] I A G := by
      refine (s_X6_weather_43).trans ?_
      rcases hpp with rfl | rfl <;> simp only [s_X6_weather_45, s_X6_weather_46, s_X6_weather_49, s_X6_weather_50, s_X6_weather_51, s_X6_weather_53, s_X6_weather_56, s_X6_weather_58, s_X6_weather_59, s_X6_weather_62, s_X6_weather_63, s_X6_weather_66_at5, s_X6_weather_66_at25, s_X6_weather_69, s_X6_weather_71, s_X6_weather_72_at5, s_X6_weather_72_at25, s_X6_weather_75, s_X6_weather_77, s_X6_weather_78, s_X6_weather_81, s_X6_weather_82, s_X6_weather_85_at5, s_X6_weather_85_at25, s_X6_weather_88, s_X6_weather_90, s_X6_weather_91_at5, s_X6_weather_91_at25, s_X6_weather_94, hn, if_false, hwm, am_k_some, am_push_i, hc.1.1, q14, q15, w1, w2]
    rw [e0, k1, ← ih (d + 1) (.int (pf_wm P z (nI d))) (.int (pf_way P (nI (P 7 4) + pf_wm P z (nI d)))) (.int (pf_way P (nI (P 7 5) + pf_wm P z (nI d)))) h10 h11 (by omega), pf_wn_s]
    simp only [s_X6_weather_156, s_X6_weather_159, am_add1]
    rfl
abbrev pf_wr (z n : Int32) : Prop := (0 ≤ z ∧ z ≤ 9999) ∧ (1 ≤ n ∧ n ≤ 30)
def pf_wv (P : sg_P) (s : sg_S) (z n : Int32) : Int32 := if pf_wr z n then nI (pf_wn P s z n.toNatClampNeg) else -1
theorem am_n30 {n : Int32} (h : 1 ≤ n ∧ n ≤ 30) : ∃ j : Nat, 1 ≤ j ∧ j ≤ 30 ∧ n = nI j := by
  obtain ⟨h1, h2⟩ := h
  have h0 : 0 ≤ n := Int32.le_trans (by decide) h1
  obtain ⟨j, hj, rfl⟩ := (am_rngK 30 rfl (by omega)).mp ⟨h0, h2⟩
  exact ⟨j, (nI_leI (a := 1) (by omega) (by omega)).mp h1, hj, rfl⟩
theorem e_X6_weather {p p' : Nat} {P : sg_P} {s : sg_S} {z n : Int32} {I A : am_F} {G : am_G} (hv : vp_p P) (hs : sv_s P s) (hc : ck P s p p' I A G) : ∃ (A' : am_F) (G' : am_G), am_e 56 0 [.ref 0, .int z, .int n, .null, .null, .null, .null, .null, .null, .null, .null, .null] [] I A G = some (.int (pf_wv P s z n), I, A', G') ∧ fr_c A A' G G' := by
  unfold pf_wv
  by_cases hr : pf_wr z n
  · rw [if_pos hr]
    obtain ⟨N, hN1, hN2, rfl⟩ := am_n30 hr.2
    obtain ⟨A1, G1, f1, f2⟩ := e_X6_isWardFoul (w := 1) hv hs (by decide) hc
    obtain ⟨A2, G2, k1, k2⟩ := e_X6_isWardFoul (w := 2) hv hs (by decide) (hc.fr f2)
    have hl := X6_weL (z := z) (I := I) hv hN2 ((hc.fr f2).fr k2) N 0 .null .null .null .null .null (by omega)
    refine ⟨A2, G2, ?_, f2.tr k2⟩
    have z0 : (z < 0) = False := eq_false (Int32.not_lt.mpr hr.1.1)
    have z1 : ((9999 : Int32) < z) = False := eq_false (Int32.not_lt.mpr hr.1.2)
    have n0 : (nI N < 1) = False := eq_false (Int32.not_lt.mpr hr.2.1)
    have n1 : (nI N ≤ 30) = True := eq_true hr.2.2
    rw [nI_clamp (show N < 2 ^ 31 by omega), ← hl]
    simp only [s_X6_weather_0, s_X6_weather_1, s_X6_weather_4, s_X6_weather_5, s_X6_weather_8, s_X6_weather_11, s_X6_weather_12, s_X6_weather_13, s_X6_weather_16, s_X6_weather_17, s_X6_weather_19, s_X6_weather_22, s_X6_weather_23, s_X6_weather_24, s_X6_weather_25, s_X6_weather_26, s_X6_weather_29, s_X6_weather_30, s_X6_weather_31, s_X6_weather_32, s_X6_weather_35, s_X6_weather_37, s_X6_weather_38, s_X6_weather_40, s_X6_weather_41, z0, z1, n0, n1, if_false, if_true, f1, k1, am_k_some, am_push_i]
    rfl
  · rw [if_neg hr]
    refine ⟨A, G, ?_, fr_c.rf A G⟩
    by_cases z0 : z < 0
    · simp only [s_X6_weather_0, s_X6_weather_1, s_X6_weather_4, s_X6_weather_5, s_X6_weather_8, s_X6_weather_11, s_X6_weather_12, s_X6_weather_13, s_X6_weather_16, s_X6_weather_17, s_X6_weather_19, s_X6_weather_22, s_X6_weather_23, z0, if_true]
    · by_cases z1 : 9999 < z
      · simp only [s_X6_weather_0, s_X6_weather_1, s_X6_weather_4, s_X6_weather_5, s_X6_weather_8, s_X6_weather_11, s_X6_weather_12, s_X6_weather_13, s_X6_weather_16, s_X6_weather_17, s_X6_weather_19, s_X6_weather_22, s_X6_weather_23, z0, z1, if_true, if_false]
      · by_cases n0 : n < 1
        · simp only [s_X6_weather_0, s_X6_weather_1, s_X6_weather_4, s_X6_weather_5, s_X6_weather_8, s_X6_weather_11, s_X6_weather_12, s_X6_weather_13, s_X6_weather_16, s_X6_weather_17, s_X6_weather_19, s_X6_weather_22, s_X6_weather_23, z0, z1, n0, if_true, if_false]
        · have n1 : ¬ n ≤ 30 := fun q => hr ⟨⟨Int32.not_lt.mp z0, Int32.not_lt.mp z1⟩, Int32.not_lt.mp n0, q⟩
          simp only [s_X6_weather_0, s_X6_weather_1, s_X6_weather_4, s_X6_weather_5, s_X6_weather_8, s_X6_weather_11, s_X6_weather_12, s_X6_weather_13, s_X6_weather_16, s_X6_weather_17, s_X6_weather_19, s_X6_weather_22, s_X6_weather_23, z0, z1, n0, n1, if_false]
/-! the model -/
theorem X7_weR {P : sg_P} {s : sg_S} {x t : Int32} {b : Bool} {l1 l2 l3 l4 l5 l6 : Value} {I A : am_F} {G : am_G} (hv : vp_p P) (hm : mk P s I A) (h24 : I 69 24 = nI (P 7 1)) (ht : ¬ 24 ≤ t) : ∃ I' A' : am_F, am_e 127 88 [.ref 69, l1, l2, l3, l4, l5, l6, .int x, .int (am_bi b), .int t] [] I A G = am_e 127 88 [.ref 69, l1, l2, l3, l4, l5, l6, .int x, .int (am_bi (b && !pf_sk P s.1 s.2.1 (pf_way P (pf_out P t + x)))), .int (t + 12)] [] I' A' G ∧ fr_l I A I' A' := by
  obtain ⟨I1, A1, A2, f1, f2, f3, f4, f5⟩ := lak_m (o := s.1) (f := s.2.1) (w := pf_way P (pf_out P t + x)) (G := G) hv hm h24
  have hm2 := hm.fr f3.a
  have h24' : I1 69 24 = nI (P 7 1) := by rw [f3.1 _ _ (by omega)]; exact h24
  have hsk := e_X7_isSick (I := I1) (G := G) hv hm2.1 h24' f4
  have g1 := @e_X7_goesBy I A G P t x hm.1
  refine ⟨I1, A2, ?_, f3⟩
  refine (s_X7_weather_88).trans ?_
  have ht' : ((24 : Int32) ≤ t) = False := eq_false ht
  cases b with
  | false =>
    simp only [s_X7_weather_90, s_X7_weather_92, s_X7_weather_95, s_X7_weather_96, s_X7_weather_97, s_X7_weather_99, s_X7_weather_101, s_X7_weather_104, s_X7_weather_105, s_X7_weather_108, s_X7_weather_109, s_X7_weather_112, s_X7_weather_115, s_X7_weather_116, s_X7_weather_117, s_X7_weather_120, s_X7_weather_122, s_X7_weather_125, s_X7_weather_126, s_X7_weather_129, s_X7_weather_132, s_X7_weather_133, s_X7_weather_136, s_X7_weather_137, s_X7_weather_139, s_X7_weather_142, ht', if_false, g1, am_k_some, am_push_i, am_push_n, hm.2.1, hm.2.2.1, f1, f2, am_bi_0, if_true, am_clr_i, Bool.false_and]
    rfl
  | true =>
    cases hk : pf_sk P s.1 s.2.1 (pf_way P (pf_out P t + x)) with
    | true =>
      rw [hk] at hsk
      simp only [s_X7_weather_90, s_X7_weather_92, s_X7_weather_95, s_X7_weather_96, s_X7_weather_97, s_X7_weather_99, s_X7_weather_101, s_X7_weather_104, s_X7_weather_105, s_X7_weather_108, s_X7_weather_109, s_X7_weather_112, s_X7_weather_115, s_X7_weather_116, s_X7_weather_117, s_X7_weather_120, s_X7_weather_122, s_X7_weather_125, s_X7_weather_126, s_X7_weather_129, s_X7_weather_132, s_X7_weather_133, s_X7_weather_136, s_X7_weather_137, s_X7_weather_139, s_X7_weather_142, ht', if_false, g1, am_k_some, am_push_i, am_push_n, hm.2.1, hm.2.2.1, f1, f2, am_bi_0, Bool.true_eq_false, hsk, am_clr_i, Bool.true_and, Bool.not_true]
      rfl
    | false =>
      rw [hk] at hsk
      simp only [s_X7_weather_90, s_X7_weather_92, s_X7_weather_95, s_X7_weather_96, s_X7_weather_97, s_X7_weather_99, s_X7_weather_101, s_X7_weather_104, s_X7_weather_105, s_X7_weather_108, s_X7_weather_109, s_X7_weather_112, s_X7_weather_115, s_X7_weather_116, s_X7_weather_117, s_X7_weather_120, s_X7_weather_122, s_X7_weather_125, s_X7_weather_126, s_X7_weather_129, s_X7_weather_132, s_X7_weather_133, s_X7_weather_136, s_X7_weather_137, s_X7_weather_139, s_X7_weather_142, ht', if_false, g1, am_k_some, am_push_i, am_push_n, hm.2.1, hm.2.2.1, f1, f2, am_bi_0, Bool.true_eq_false, hsk, if_true, am_clr_i, Bool.true_and, Bool.not_false]
      rfl
theorem X7_weL {N : Nat} {P : sg_P} {s : sg_S} {z : Int32} {G : am_G} (hv : vp_p P) (hN : N ≤ 30) : ∀ (r d : Nat) (g5 g6 g7 g8 g9 : Value) (I A : am_F), d + r = N → mk P s I A → I 69 24 = nI (P 7 1) → ∃ I' A' : am_F, am_e 127 36 [.ref 69, .int z, .int (nI N), .int (nI (pf_wn P s z d)), .int (nI d), g5, g6, g7, g8, g9] [] I A G = some (.int (nI (pf_wn P s z N)), I', A', G) ∧ fr_l I A I' A' := by
  intro r
  induction r with
  | zero =>
    intro d g5 g6 g7 g8 g9 I A hd hm h24
    have : d = N := by omega
    subst this
    refine ⟨I, A, ?_, fr_l.rf I A⟩
    refine (s_X7_weather_36).trans ?_
    simp only [s_X7_weather_38, s_X7_weather_39, s_X7_weather_164, s_X7_weather_165, Int32.le_refl, if_true]
  | succ r ih =>
    intro d g5 g6 g7 g8 g9 I A hd hm h24
    have hn : (nI N ≤ nI d) = False := eq_false (by rw [nI_leI (by omega) (by omega)]; omega)
    have h30 := hv.2.2.2.2.2.2.2.2.2
    have z5 : (5 : Int32).toNatClampNeg = 5 := by decide
    have y5 : ((5 : Int32) < 0 ∨ 6 ≤ 5) = False := by decide
    have vA : A 76 5 = nI (P 7 7) := hm.1.2.2.2.2.2.2.2.2.2
    obtain ⟨I1, A1, f1, f2⟩ := X7_weR (x := pf_wm P z (nI d)) (t := 0) (b := true) (l1 := .int z) (l2 := .int (nI N)) (l3 := .int (nI (pf_wn P s z d))) (l4 := .int (nI d)) (l5 := .long (pf_wx z (nI d))) (l6 := .null) (G := G) hv hm h24 (by decide)
    have hm1 := hm.fr f2.a
    have h241 : I1 69 24 = nI (P 7 1) := by rw [f2.1 _ _ (by omega)]; exact h24
    obtain ⟨I2, A2, k1, k2⟩ := X7_weR (x := pf_wm P z (nI d)) (t := 12) (b := true && !pf_sk P s.1 s.2.1 (pf_way P (pf_out P 0 + pf_wm P z (nI d)))) (l1 := .int z) (l2 := .int (nI N)) (l3 := .int (nI (pf_wn P s z d))) (l4 := .int (nI d)) (l5 := .long (pf_wx z (nI d))) (l6 := .null) (G := G) hv hm1 h241 (by decide)
    have hm2 := hm1.fr k2.a
    have h242 : I2 69 24 = nI (P 7 1) := by rw [k2.1 _ _ (by omega)]; exact h241
    rw [show (0 : Int32) + 12 = 12 by decide] at f1
    rw [show (12 : Int32) + 12 = 24 by decide] at k1
    rw [Bool.true_and, pf_out_0, pf_out_12] at k1
    rw [Bool.true_and, pf_out_0] at f1
    obtain ⟨I', A', d1, d2⟩ := ih (d + 1) (.long (pf_wx z (nI d))) .null (.int (pf_wm P z (nI d))) (.int (am_bi (pf_wg P s z (nI d)))) (.int 24) I2 A2 (by omega) hm2 h242
    refine ⟨I', A', ?_, (f2.tr k2).tr d2⟩
    have e0 : am_e 127 36 [.ref 69, .int z, .int (nI N), .int (nI (pf_wn P s z d)), .int (nI d), g5, g6, g7, g8, g9] [] I A G = am_e 127 88 [.ref 69, .int z, .int (nI N), .int (nI (pf_wn P s z d)), .int (nI d), .long (pf_wx z (nI d)), .null, .int (pf_wm P z (nI d)), .int (am_bi true), .int 0] [] I A G := by
      refine (s_X7_weather_36).trans ?_
      simp only [s_X7_weather_38, s_X7_weather_39, s_X7_weather_42, s_X7_weather_45, s_X7_weather_46, s_X7_weather_47, s_X7_weather_48, s_X7_weather_51, s_X7_weather_53, s_X7_weather_54, s_X7_weather_55, s_X7_weather_56, s_X7_weather_57, s_X7_weather_58, s_X7_weather_60, s_X7_weather_62, s_X7_weather_64, s_X7_weather_65, s_X7_weather_68, s_X7_weather_69, s_X7_weather_70, s_X7_weather_73, s_X7_weather_74, s_X7_weather_75, s_X7_weather_76, s_X7_weather_77, s_X7_weather_78, s_X7_weather_79, s_X7_weather_80, s_X7_weather_82, s_X7_weather_83, s_X7_weather_85, s_X7_weather_86, hn, if_false, am_clr_i, am_clr_n, am_65, am_len_76, z5, y5, vA, am_add1, am_c0 h30]
      rfl
    rw [e0, f1, k1, ← d1, pf_wn_s]
    refine (s_X7_weather_88).trans ?_
    have hwg : (!pf_sk P s.1 s.2.1 (pf_way P (nI (P 7 4) + pf_wm P z (nI d))) && !pf_sk P s.1 s.2.1 (pf_way P (nI (P 7 5) + pf_wm P z (nI d)))) = pf_wg P s z (nI d) := rfl
    rw [hwg]
    cases hb : pf_wg P s z (nI d) with
    | true =>
      rw [if_pos rfl]
      simp only [s_X7_weather_90, s_X7_weather_92, s_X7_weather_145, s_X7_weather_146, s_X7_weather_148, s_X7_weather_151, s_X7_weather_152, s_X7_weather_155, s_X7_weather_156, s_X7_weather_157, s_X7_weather_158, s_X7_weather_161, show ((24 : Int32) ≤ 24) = True by decide, if_true, am_bi_0, Bool.true_eq_false, if_false, am_clr_i, am_add1]
    | false =>
      rw [if_neg (by decide)]
      simp only [s_X7_weather_90, s_X7_weather_92, s_X7_weather_145, s_X7_weather_146, s_X7_weather_148, s_X7_weather_151, s_X7_weather_152, s_X7_weather_155, s_X7_weather_156, s_X7_weather_157, s_X7_weather_158, s_X7_weather_161, show ((24 : Int32) ≤ 24) = True by decide, if_true, am_bi_0, am_clr_i, am_add1, Int32.add_zero, Nat.add_zero]
theorem e_X7_weather {P : sg_P} {s : sg_S} {z n : Int32} {I A : am_F} {G : am_G} (hv : vp_p P) (hm : mk P s I A) : ∃ I' A' : am_F, am_e 127 0 [.ref 69, .int z, .int n, .null, .null, .null, .null, .null, .null, .null] [] I A G = some (.int (pf_wv P s z n), I', A', G) ∧ fr_a I A I' A' := by
  have i1 := @e_X7_in z 0 9999 I A G
  have i2 := @e_X7_in n 1 30 I A G
  unfold pf_wv
  by_cases hz : 0 ≤ z ∧ z ≤ 9999
  · rw [decide_eq_true hz] at i1
    by_cases hn : 1 ≤ n ∧ n ≤ 30
    · rw [decide_eq_true hn] at i2
      rw [if_pos ⟨hz, hn⟩]
      obtain ⟨N, hN1, hN2, rfl⟩ := am_n30 hn
      obtain ⟨m1, m2⟩ := mk_24 hm
      obtain ⟨I', A', k1, k2⟩ := X7_weL (z := z) (G := G) hv hN2 N 0 .null .null .null .null .null (am_u I 69 24 (nI (P 7 1))) A (by omega) m1 (am_u_eq _ _ _ _)
      refine ⟨I', A', ?_, (fr_a_24 I A _).tr k2.a⟩
      rw [nI_clamp (show N < 2 ^ 31 by omega), ← k1]
      simp only [s_X7_weather_0, s_X7_weather_1, s_X7_weather_2, s_X7_weather_5, s_X7_weather_8, s_X7_weather_11, s_X7_weather_12, s_X7_weather_13, s_X7_weather_15, s_X7_weather_18, s_X7_weather_21, s_X7_weather_22, s_X7_weather_23, s_X7_weather_24, s_X7_weather_25, s_X7_weather_28, s_X7_weather_31, s_X7_weather_32, s_X7_weather_33, s_X7_weather_34, i1, i2, am_k_some, am_push_i, am_bi_0, Bool.true_eq_false, if_false, hm.1.2.1, am_clr_i, am_clr_n]
      rfl
    · rw [decide_eq_false hn] at i2
      rw [if_neg (fun q => hn q.2)]
      refine ⟨I, A, ?_, fr_a.rf I A⟩
      simp only [s_X7_weather_0, s_X7_weather_1, s_X7_weather_2, s_X7_weather_5, s_X7_weather_8, s_X7_weather_11, s_X7_weather_12, s_X7_weather_13, s_X7_weather_15, s_X7_weather_18, s_X7_weather_21, s_X7_weather_22, i1, i2, am_k_some, am_push_i, am_bi_0, Bool.true_eq_false, if_false, if_true]
  · rw [decide_eq_false hz] at i1
    rw [if_neg (fun q => hz q.1)]
    refine ⟨I, A, ?_, fr_a.rf I A⟩
    simp only [s_X7_weather_0, s_X7_weather_1, s_X7_weather_2, s_X7_weather_5, s_X7_weather_8, s_X7_weather_11, s_X7_weather_12, s_X7_weather_13, s_X7_weather_15, s_X7_weather_18, s_X7_weather_21, s_X7_weather_22, i1, am_k_some, am_push_i, am_bi_0, if_true]
