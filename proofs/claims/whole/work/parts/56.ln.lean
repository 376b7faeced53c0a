/-! ===== the model: air, whole; where it carries ===== -/
theorem X7_lyOut {H D : Nat} {F T L r z hn : Nat → Nat} {o f w B : Int32} {I : am_F} {G : am_G} (hv : fl_v H D F T r) (hL : ∀ d, d < D → L d ≤ 50) (hI9 : I 69 9 = nI H) (hI : I 69 24 = nI D) (hI23 : I 69 23 = w) (hB : ∀ i, i < H → am_hb B i = fl_b D F T L i) (hord : ∀ d, d < D → F d < H → T d < H → hn (F d) < hn (T d)) (hz99 : ∀ i, i < H → z i ≤ 99) (hzn : ∀ i, i < H → hn i = if w = 1 then z i else 99 - z i) : ∀ (s n : Nat) (g6 g7 g8 : Value) (A : am_F), n + s = 100 → (∀ i, i < H → A 74 (3 * i) = nI (z i)) → mw_ok D F T L A → ly_iv H D F T L (fun j => hn j < n) A → ∃ A' : am_F, am_e 106 80 [.ref 69, .int w, .int o, .int f, .int B, .int (nI n), g6, g7, g8] [] I A G = some (.null, I, A', G) ∧ (∀ b, b ≠ 80 → b ≠ 81 → A' b = A b) ∧ ly_iv H D F T L (fun j => hn j < 100) A' := by
  intro s
  induction s with
  | zero =>
    intro n g6 g7 g8 A hs h74 hw hiv
    have : n = 100 := by omega
    subst this
    refine ⟨A, ?_, fun b _ _ => rfl, hiv⟩
    refine (s_X7_layAir_80).trans ?_
    simp only [s_X7_layAir_82, s_X7_layAir_84, s_X7_layAir_236, show ((100 : Int32) ≤ nI 100) = True from eq_true (by decide), if_true]
  | succ s ih =>
    intro n g6 g7 g8 A hs h74 hw hiv
    have hz : ∀ i, i < H → (nI (z i) = nI (if w = 1 then n else 99 - n)) = (hn i = n) := fun i hi => by
      have := hz99 i hi
      rw [hzn i hi]
      by_cases h1 : w = 1
      · rw [if_pos h1, if_pos h1]; exact propext (nI_eq (by omega) (by omega))
      · rw [if_neg h1, if_neg h1]; refine propext ((nI_eq (by omega) (by omega)).trans ?_); omega
    obtain ⟨A1, g', f1, f2, f3⟩ := X7_lyIn (o := o) (f := f) (w := w) (ht := nI (if w = 1 then n else 99 - n)) (n := n) (I := I) (G := G) hv hL hI9 hI hB hord hz H 0 g8 A (by omega) h74 hw (hiv.c hv (fun j hj => by omega))
    obtain ⟨A', k1, k2, k3⟩ := ih (n + 1) (.int (nI (if w = 1 then n else 99 - n))) (.int (nI H)) g' A1 (by omega) (fun i hi => by rw [f2 74 (by omega) (by omega)]; exact h74 i hi) (hw.fr (f2 82 (by omega) (by omega)) (f2 83 (by omega) (by omega)) (f2 84 (by omega) (by omega))) f3
    refine ⟨A', ?_, fun b h1 h2 => by rw [k2 b h1 h2, f2 b h1 h2], k3⟩
    have hn' : ((100 : Int32) ≤ nI n) = False := eq_false (by rw [show (100 : Int32) = nI 100 from rfl, nI_leI (by omega) (by omega)]; omega)
    have e1 : am_e 106 80 [.ref 69, .int w, .int o, .int f, .int B, .int (nI n), g6, g7, g8] [] I A G = am_e 106 110 [.ref 69, .int w, .int o, .int f, .int B, .int (nI n), .int (nI (if w = 1 then n else 99 - n)), .int (nI 0), g8] [] I A G := by
      refine (s_X7_layAir_80).trans ?_
      have h99 : (99 : Int32) - nI n = nI (99 - n) := pk_sub (a := 99) (b := n) (by omega)
      by_cases h1 : w = 1
      · simp only [s_X7_layAir_82, s_X7_layAir_84, s_X7_layAir_87, s_X7_layAir_88, s_X7_layAir_91, s_X7_layAir_92, s_X7_layAir_95, s_X7_layAir_97, s_X7_layAir_100, s_X7_layAir_102, s_X7_layAir_104, s_X7_layAir_105, s_X7_layAir_107, s_X7_layAir_108, hn', if_false, hI23, h1, if_true]; rfl
      · simp only [s_X7_layAir_82, s_X7_layAir_84, s_X7_layAir_87, s_X7_layAir_88, s_X7_layAir_91, s_X7_layAir_92, s_X7_layAir_95, s_X7_layAir_97, s_X7_layAir_100, s_X7_layAir_102, s_X7_layAir_104, s_X7_layAir_105, s_X7_layAir_107, s_X7_layAir_108, hn', if_false, hI23, h1, h99]; rfl
    rw [e1, f1, ← k1]
    simp only [s_X7_layAir_230, s_X7_layAir_233, am_add1]
/-- air as the model has laid it, without what comes in -/
def mb_0 (P : sg_P) (o f w : Int32) (A : am_F) : Prop := (∀ i, i < P 7 0 → A 80 i = nI (pf_a P o f w i)) ∧ (∀ d, d < P 7 1 → A 81 d = if pf_fr P (pf_u w) d = 8 then 0 else nI (pf_q P o f w d)) ∧ mw_ok (P 7 1) (pf_fr P (pf_u w)) (pf_to P (pf_u w)) (pf_L P o f w) A
def mb_ok (P : sg_P) (o f w : Int32) (A : am_F) : Prop := (∀ i, i < P 7 0 → A 80 i = nI (pf_a P o f w i)) ∧ (∀ d, d < P 7 1 → A 81 d = nI (pf_q P o f w d)) ∧ mw_ok (P 7 1) (pf_fr P (pf_u w)) (pf_to P (pf_u w)) (pf_L P o f w) A
def ml_I (I : am_F) (o f w : Int32) : am_F := am_u (am_u (am_u I 69 23 w) 69 25 o) 69 26 f
theorem ml_I_at {I : am_F} {o f w : Int32} {a j : Nat} (h : ¬ (a = 69 ∧ (j = 23 ∨ j = 25 ∨ j = 26))) : ml_I I o f w a j = I a j := by
  unfold ml_I
  rw [am_u_at, if_neg (by omega), am_u_at, if_neg (by omega), am_u_at, if_neg (by omega)]
theorem e_X7_layAir {P : sg_P} {o f w : Int32} {I A : am_F} {G : am_G} (hv : vp_p P) (hp : ml_p P I A) : ∃ A' : am_F, am_e 106 0 [.ref 69, .int w, .int o, .int f, .null, .null, .null, .null, .null] [] I A G = some (.null, ml_I I o f w, A', G) ∧ (∀ b, ¬ (80 ≤ b ∧ b ≤ 84) → A' b = A b) ∧ mb_0 P o f w A' := by
  have hD := hv.2.1
  have hH := hv.1.2
  have hfv := pf_flv (pf_u w) hv
  have hLb := fun (d : Nat) (h : d < P 7 1) => pf_L_le hv o f w h
  have e0 : am_e 106 0 [.ref 69, .int w, .int o, .int f, .null, .null, .null, .null, .null] [] I A G = am_e 106 18 [.ref 69, .int w, .int o, .int f, .int (nI 0), .null, .null, .null, .null] [] (ml_I I o f w) A G := by
    simp only [s_X7_layAir_0, s_X7_layAir_1, s_X7_layAir_2, s_X7_layAir_5, s_X7_layAir_6, s_X7_layAir_7, s_X7_layAir_10, s_X7_layAir_11, s_X7_layAir_12, s_X7_layAir_15, s_X7_layAir_16]; rfl
  have i23 : ml_I I o f w 69 23 = w := by simp [ml_I, am_u_at]
  have i25 : ml_I I o f w 69 25 = o := by simp [ml_I, am_u_at]
  have i26 : ml_I I o f w 69 26 = f := by simp [ml_I, am_u_at]
  have i9 : ml_I I o f w 69 9 = I 69 9 := ml_I_at (by omega)
  have i24 : ml_I I o f w 69 24 = I 69 24 := ml_I_at (by omega)
  generalize ml_I I o f w = I1 at *
  have hp1 : ml_p P I1 A := hp.fr ⟨i9, i24⟩ rfl rfl rfl
  obtain ⟨A1, a1, a2, a3, a4⟩ := X7_lyD (G := G) hv i23 i25 i26 (P 7 1) 0 A (by omega) hp1 (fun d hd => by omega) (fun e he => by omega)
  have hI24 : I1 69 24 = nI (P 7 1) := hp1.2.1
  obtain ⟨B, b1, b2⟩ := e_X7_breathers (I := I1) (A := A1) (G := G) hfv hLb hI24 a3
  obtain ⟨A2, c1, c2, c3⟩ := X7_lyZ (l1 := .int w) (l2 := .int o) (l3 := .int f) (l4 := .int B) (I := I1) (G := G) 8 0 A1 (by omega) (fun j hj => by omega)
  obtain ⟨A3, d1, d2, d3⟩ := X7_lyOut (o := o) (f := f) (w := w) (B := B) (z := P 0) (hn := fun i => if w = 1 then P 0 i else 99 - P 0 i) (I := I1) (G := G) hfv hLb hp1.1 hI24 i23 b2 (fun d hd h1 h2 => by
      have h3 := (pf_ends (u := pf_u w) hv hd).2.2.2 h1 h2
      have h4 := (hv.2.2.1 _ h1).1
      have h5 := (hv.2.2.1 _ h2).1
      show (if w = 1 then _ else _) < (if w = 1 then _ else _)
      by_cases hw1 : w = 1
      · rw [if_pos hw1, if_pos hw1]
        rw [show pf_u w = true from decide_eq_true hw1] at h3 ⊢
        exact of_decide_eq_true h3
      · rw [if_neg hw1, if_neg hw1]
        rw [show pf_u w = false from decide_eq_false hw1] at h3 h4 h5 ⊢
        have h3 := of_decide_eq_true h3
        omega) (fun i hi => (hv.2.2.1 i hi).1) (fun i _ => rfl) 100 0 .null .null .null A2 (by omega) (fun i hi => by rw [c2 74 (by omega), a2 74 (by omega)]; exact hp1.2.2.1 i hi) (a3.fr (c2 82 (by omega)) (c2 83 (by omega)) (c2 84 (by omega))) (by
      refine ⟨fun i hi => ⟨fun q => by omega, fun _ => c3 i (by omega)⟩, fun d hd => ⟨fun q => by have := q.2; omega, fun _ => ?_⟩⟩
      rw [c2 81 (by omega)]; exact a4 d hd)
  refine ⟨A3, ?_, fun b hb => by rw [d2 b (by omega) (by omega), c2 b (by omega), a2 b (by omega)], ?_, ?_, ?_⟩
  · rw [e0, a1]
    have e1 : am_e 106 47 [.ref 69, .int w, .int o, .int f, .int (nI (P 7 1)), .null, .null, .null, .null] [] I1 A1 G = am_e 106 56 [.ref 69, .int w, .int o, .int f, .int B, .int (nI 0), .null, .null, .null] [] I1 A1 G := by
      simp only [s_X7_layAir_47, s_X7_layAir_48, s_X7_layAir_51, s_X7_layAir_53, s_X7_layAir_54, b1, am_k_some, am_push_i]; rfl
    rw [e1, c1]
    exact d1
  · intro i hi
    refine (d3.1 i hi).1 ?_
    have := (hv.2.2.1 i hi).1
    show (if w = 1 then _ else _) < 100
    split <;> omega
  · intro d hd
    obtain ⟨q1, q2⟩ := d3.2 d hd
    by_cases hF : pf_fr P (pf_u w) d = 8
    · rw [if_pos hF]; exact q2 (fun q => q.1 hF)
    · rw [if_neg hF]
      refine q1 ⟨hF, ?_⟩
      have h1 := ((pf_ends (u := pf_u w) hv hd).1).resolve_right hF
      have := (hv.2.2.1 _ h1).1
      show (if w = 1 then _ else _) < 100
      split <;> omega
  · exact a3.fr (by rw [d2 82 (by omega) (by omega), c2 82 (by omega)]) (by rw [d2 83 (by omega) (by omega), c2 83 (by omega)]) (by rw [d2 84 (by omega) (by omega), c2 84 (by omega)])
theorem X7_keL {P : sg_P} {o f w B : Int32} {I : am_F} {G : am_G} (hv : vp_p P) (hI : I 69 24 = nI (P 7 1)) (hB : ∀ i, i < P 7 0 → am_hb B i = fl_b (P 7 1) (pf_fr P (pf_u w)) (pf_to P (pf_u w)) (pf_L P o f w) i) : ∀ (s d : Nat) (A : am_F), d + s = P 7 1 → mw_ok (P 7 1) (pf_fr P (pf_u w)) (pf_to P (pf_u w)) (pf_L P o f w) A → (∀ e, e < P 7 1 → A 81 e = if pf_fr P (pf_u w) e = 8 ∧ d ≤ e then 0 else nI (pf_q P o f w e)) → ∃ A' : am_F, am_e 108 7 [.ref 69, .int 0, .int B, .int (nI d)] [] I A G = some (.null, I, A', G) ∧ (∀ b, b ≠ 81 → A' b = A b) ∧ ∀ e, e < P 7 1 → A' 81 e = nI (pf_q P o f w e) := by
  have hD := hv.2.1
  have hH := hv.1.2
  have hfv := pf_flv (pf_u w) hv
  intro s
  induction s with
  | zero =>
    intro d A hd hw h81
    have : d = P 7 1 := by omega
    subst this
    refine ⟨A, ?_, fun b _ => rfl, fun e he => by rw [h81 e he, if_neg (by omega)]⟩
    refine (s_X7_keepIns_7).trans ?_
    simp only [s_X7_keepIns_8, s_X7_keepIns_9, s_X7_keepIns_12, s_X7_keepIns_68, hI, Int32.le_refl, if_true]
  | succ s ih =>
    intro d A hd hw h81
    have hdl : d < P 7 1 := by omega
    obtain ⟨b1, b2, b3, b4⟩ := hfv.2.2.2 d hdl
    obtain ⟨lA, fA, tA⟩ := hw d hdl
    have cd := nI_clamp (show d < 2 ^ 31 by omega)
    have xd := am_ixF (show d < 11 by omega) (show 11 < 2 ^ 31 by omega)
    have hn : (nI (P 7 1) ≤ nI d) = False := eq_false (by rw [nI_leI (by omega) (by omega)]; omega)
    have f4 := mN_m4 (k := pf_fr P (pf_u w) d) (by omega)
    have t4 := mN_m4 (k := pf_to P (pf_u w) d) (by omega)
    by_cases hF : pf_fr P (pf_u w) d = 8
    · have f4 := f4.trans (eq_true hF)
      have hT : pf_to P (pf_u w) d ≠ 8 := fun q => b3 ⟨hF, q⟩
      have t4 := t4.trans (eq_false hT)
      have hTH := b2.resolve_right hT
      rw [mN_n hT] at tA t4
      have hb := hB _ hTH
      have hq : pf_q P o f w d = fl_l (P 7 1) (pf_fr P (pf_u w)) (pf_to P (pf_u w)) (pf_L P o f w) d := by
        unfold pf_q; rw [fl_q_eq hfv hdl, if_pos hF]
      cases hbb : fl_b (P 7 1) (pf_fr P (pf_u w)) (pf_to P (pf_u w)) (pf_L P o f w) (pf_to P (pf_u w) d) with
      | true =>
        rw [hbb] at hb
        have hq2 : pf_L P o f w d = pf_q P o f w d := by
          rw [hq]
          by_cases hl : pf_L P o f w d = 0
          · rw [fl_l_off (fl_on_z hl), hl]
          · rw [(fl_l_on (fl_on_iff.mpr ⟨by omega, Or.inr hbb⟩)).1]
        obtain ⟨A', k1, k2, k3⟩ := ih (d + 1) (am_u A 81 d (nI (pf_L P o f w d))) (by omega) (hw.fr (am_u_ne (by omega)) (am_u_ne (by omega)) (am_u_ne (by omega))) (fun e he => by
          rw [am_u_at]
          by_cases hed : e = d
          · rw [if_pos ⟨rfl, hed⟩, hed, if_neg (by omega), hq2]
          · rw [if_neg (fun q => hed q.2), h81 e he]
            by_cases q : pf_fr P (pf_u w) e = 8 ∧ d ≤ e
            · rw [if_pos q, if_pos ⟨q.1, by omega⟩]
            · rw [if_neg q, if_neg (fun w => q ⟨w.1, by omega⟩)])
        refine ⟨A', ?_, fun b hb => by rw [k2 b hb, am_u_ne hb], k3⟩
        rw [← k1]
        refine (s_X7_keepIns_7).trans ?_
        simp only [s_X7_keepIns_8, s_X7_keepIns_9, s_X7_keepIns_12, s_X7_keepIns_15, s_X7_keepIns_16, s_X7_keepIns_19, s_X7_keepIns_20, s_X7_keepIns_21, s_X7_keepIns_23, s_X7_keepIns_26, s_X7_keepIns_27, s_X7_keepIns_30, s_X7_keepIns_31, s_X7_keepIns_32, s_X7_keepIns_34, s_X7_keepIns_37, s_X7_keepIns_38, s_X7_keepIns_39, s_X7_keepIns_42, s_X7_keepIns_43, s_X7_keepIns_44, s_X7_keepIns_47, s_X7_keepIns_50, s_X7_keepIns_51, s_X7_keepIns_54, s_X7_keepIns_55, s_X7_keepIns_56, s_X7_keepIns_59, s_X7_keepIns_60, s_X7_keepIns_61, s_X7_keepIns_62, s_X7_keepIns_65, hI, hn, if_false, am_len_81, am_len_82, am_len_83, am_len_84, cd, xd, fA, f4, if_true, tA, t4, e_X7_has, am_hb_d, hb, am_k_some, am_push_i, am_bi_0, Bool.true_eq_false, lA, am_add1]
      | false =>
        rw [hbb] at hb
        obtain ⟨A', k1, k2, k3⟩ := ih (d + 1) A (by omega) hw (fun e he => by
          rw [h81 e he]
          by_cases hed : e = d
          · subst hed
            rw [if_pos ⟨hF, Nat.le_refl _⟩, if_neg (by omega), hq, fl_l_off (fun q => (fl_on_iff.mp q).2.elim hT (fun q => by rw [hbb] at q; cases q))]; rfl
          · by_cases q : pf_fr P (pf_u w) e = 8 ∧ d ≤ e
            · rw [if_pos q, if_pos ⟨q.1, by omega⟩]
            · rw [if_neg q, if_neg (fun w => q ⟨w.1, by omega⟩)])
        refine ⟨A', ?_, k2, k3⟩
        rw [← k1]
        refine (s_X7_keepIns_7).trans ?_
        simp only [s_X7_keepIns_8, s_X7_keepIns_9, s_X7_keepIns_12, s_X7_keepIns_15, s_X7_keepIns_16, s_X7_keepIns_19, s_X7_keepIns_20, s_X7_keepIns_21, s_X7_keepIns_23, s_X7_keepIns_26, s_X7_keepIns_27, s_X7_keepIns_30, s_X7_keepIns_31, s_X7_keepIns_32, s_X7_keepIns_34, s_X7_keepIns_37, s_X7_keepIns_38, s_X7_keepIns_39, s_X7_keepIns_42, s_X7_keepIns_43, s_X7_keepIns_44, s_X7_keepIns_47, s_X7_keepIns_50, s_X7_keepIns_51, s_X7_keepIns_54, s_X7_keepIns_55, s_X7_keepIns_56, s_X7_keepIns_59, s_X7_keepIns_60, s_X7_keepIns_61, s_X7_keepIns_62, s_X7_keepIns_65, hI, hn, if_false, am_len_81, am_len_82, am_len_83, am_len_84, cd, xd, fA, f4, if_true, tA, t4, e_X7_has, am_hb_d, hb, am_k_some, am_push_i, am_bi_0, am_add1]
    · have f4 := f4.trans (eq_false hF)
      obtain ⟨A', k1, k2, k3⟩ := ih (d + 1) A (by omega) hw (fun e he => by
        rw [h81 e he]
        by_cases q : pf_fr P (pf_u w) e = 8 ∧ d ≤ e
        · have : e ≠ d := fun r => by rw [r] at q; exact hF q.1
          rw [if_pos q, if_pos ⟨q.1, by omega⟩]
        · rw [if_neg q, if_neg (fun w => q ⟨w.1, by omega⟩)])
      refine ⟨A', ?_, k2, k3⟩
      rw [← k1]
      refine (s_X7_keepIns_7).trans ?_
      simp only [s_X7_keepIns_8, s_X7_keepIns_9, s_X7_keepIns_12, s_X7_keepIns_15, s_X7_keepIns_16, s_X7_keepIns_19, s_X7_keepIns_20, s_X7_keepIns_21, s_X7_keepIns_23, s_X7_keepIns_26, s_X7_keepIns_27, s_X7_keepIns_30, s_X7_keepIns_31, s_X7_keepIns_32, s_X7_keepIns_34, s_X7_keepIns_37, s_X7_keepIns_38, s_X7_keepIns_39, s_X7_keepIns_42, s_X7_keepIns_43, s_X7_keepIns_44, s_X7_keepIns_47, s_X7_keepIns_50, s_X7_keepIns_51, s_X7_keepIns_54, s_X7_keepIns_55, s_X7_keepIns_56, s_X7_keepIns_59, s_X7_keepIns_60, s_X7_keepIns_61, s_X7_keepIns_62, s_X7_keepIns_65, hI, hn, if_false, am_len_81, am_len_82, am_len_83, am_len_84, cd, xd, fA, f4, am_add1]
theorem e_X7_keepIns {P : sg_P} {o f w : Int32} {I A : am_F} {G : am_G} (hv : vp_p P) (hI : I 69 24 = nI (P 7 1)) (hb : mb_0 P o f w A) : ∃ A' : am_F, am_e 108 0 [.ref 69, .int 0, .null, .null] [] I A G = some (.null, I, A', G) ∧ (∀ b, b ≠ 81 → A' b = A b) ∧ mb_ok P o f w A' := by
  obtain ⟨h1, h2, h3⟩ := hb
  obtain ⟨B, b1, b2⟩ := e_X7_breathers (I := I) (A := A) (G := G) (pf_flv (pf_u w) hv) (fun d h => pf_L_le hv o f w h) hI h3
  obtain ⟨A', k1, k2, k3⟩ := X7_keL (I := I) (G := G) hv hI b2 (P 7 1) 0 A (by omega) h3 (fun e he => by
    rw [h2 e he]
    by_cases q : pf_fr P (pf_u w) e = 8
    · rw [if_pos q, if_pos ⟨q, by omega⟩]
    · rw [if_neg q, if_neg (fun w => q w.1)])
  refine ⟨A', ?_, k2, fun i hi => by rw [k2 80 (by omega)]; exact h1 i hi, k3, h3.fr (k2 82 (by omega)) (k2 83 (by omega)) (k2 84 (by omega))⟩
  rw [← k1]
  simp only [s_X7_keepIns_0, s_X7_keepIns_1, s_X7_keepIns_4, s_X7_keepIns_5, s_X7_keepIns_6, b1, am_k_some, am_push_i]
  rfl
theorem mr_p.ml {P : sg_P} {I A : am_F} (h : mr_p P I A) (h24 : I 69 24 = nI (P 7 1)) : ml_p P I A := ⟨h.1, h24, fun i hi => (h.2.2.1 i hi).1, fun d hd => h.2.2.2.1 d hd, h.2.2.2.2.1⟩
theorem mr_p.fr {P : sg_P} {I A I' A' : am_F} (h : mr_p P I A) (h9 : I' 69 9 = I 69 9) (h10 : I' 69 10 = I 69 10) (h4 : A' 74 = A 74) (h5 : A' 75 = A 75) (h6 : A' 76 = A 76) : mr_p P I' A' := by
  unfold mr_p
  rw [h9, h10, h4, h5, h6]
  exact h
def ml_N (P : sg_P) (I : am_F) (o f w : Int32) : am_F := ml_I (am_u I 69 24 (nI (P 7 1))) o f w
theorem ml_N_at {P : sg_P} {I : am_F} {o f w : Int32} {a j : Nat} (h : ¬ (a = 69 ∧ (j = 23 ∨ j = 24 ∨ j = 25 ∨ j = 26))) : ml_N P I o f w a j = I a j := by
  unfold ml_N
  rw [ml_I_at (by omega), am_u_at, if_neg (by omega)]
theorem e_X7_layNow {P : sg_P} {s : sg_S} {t : Int32} {I A : am_F} {G : am_G} (hv : vp_p P) (hp : mr_p P I A) (hs : mr_s s I A) : ∃ A' : am_F, am_e 107 0 [.ref 69, .int t] [] I A G = some (.null, ml_N P I s.1 s.2.1 (pf_way P (pf_out P t)), A', G) ∧ (∀ b, ¬ (80 ≤ b ∧ b ≤ 84) → A' b = A b) ∧ mb_ok P s.1 s.2.1 (pf_way P (pf_out P t)) A' := by
  have hp1 : mr_p P (am_u I 69 24 (nI (P 7 1))) A := hp.fr (by rw [am_u_at, if_neg (by omega)]) (by rw [am_u_at, if_neg (by omega)]) rfl rfl rfl
  have hgo := @e_X7_goesBy (am_u I 69 24 (nI (P 7 1))) A G P t 0 hp1
  rw [Int32.add_zero] at hgo
  obtain ⟨A1, a1, a2, a3⟩ := e_X7_layAir (o := s.1) (f := s.2.1) (w := pf_way P (pf_out P t)) (I := am_u I 69 24 (nI (P 7 1))) (A := A) (G := G) hv (hp1.ml (am_u_eq _ _ _ _))
  obtain ⟨A2, b1, b2, b3⟩ := e_X7_keepIns (I := ml_I (am_u I 69 24 (nI (P 7 1))) s.1 s.2.1 (pf_way P (pf_out P t))) (G := G) hv (by rw [ml_I_at (by omega), am_u_eq]) a3
  refine ⟨A2, ?_, fun b hb => by rw [b2 b (by omega), a2 b hb], b3⟩
  have h14 : am_u I 69 24 (nI (P 7 1)) 69 14 = s.1 := by rw [am_u_at, if_neg (by omega)]; exact hs.1
  have h15 : am_u I 69 24 (nI (P 7 1)) 69 15 = s.2.1 := by rw [am_u_at, if_neg (by omega)]; exact hs.2.1
  simp only [s_X7_layNow_0, s_X7_layNow_1, s_X7_layNow_2, s_X7_layNow_5, s_X7_layNow_8, s_X7_layNow_9, s_X7_layNow_10, s_X7_layNow_11, s_X7_layNow_12, s_X7_layNow_15, s_X7_layNow_16, s_X7_layNow_19, s_X7_layNow_20, s_X7_layNow_23, s_X7_layNow_26, s_X7_layNow_27, s_X7_layNow_28, s_X7_layNow_31, hp.2.1, hgo, am_k_some, am_push_i, am_push_n, h14, h15, a1, b1]
  rfl
