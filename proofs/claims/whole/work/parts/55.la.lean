/-! ===== the model: air is laid, by heights ===== -/
theorem X7_lyD {P : sg_P} {o f w : Int32} {I : am_F} {G : am_G} (hv : vp_p P) (hw : I 69 23 = w) (ho : I 69 25 = o) (hf : I 69 26 = f) : ∀ (s d : Nat) (A : am_F), d + s = P 7 1 → ml_p P I A → mw_ok d (pf_fr P (pf_u w)) (pf_to P (pf_u w)) (pf_L P o f w) A → (∀ e, e < d → A 81 e = 0) → ∃ A' : am_F, am_e 106 18 [.ref 69, .int w, .int o, .int f, .int (nI d), .null, .null, .null, .null] [] I A G = am_e 106 47 [.ref 69, .int w, .int o, .int f, .int (nI (P 7 1)), .null, .null, .null, .null] [] I A' G ∧ (∀ b, ¬ (81 ≤ b ∧ b ≤ 84) → A' b = A b) ∧ mw_ok (P 7 1) (pf_fr P (pf_u w)) (pf_to P (pf_u w)) (pf_L P o f w) A' ∧ ∀ e, e < P 7 1 → A' 81 e = 0 := by
  have hD := hv.2.1
  intro s
  induction s with
  | zero =>
    intro d A hd hp hm h81
    have : d = P 7 1 := by omega
    subst this
    refine ⟨A, ?_, fun b _ => rfl, hm, h81⟩
    refine (s_X7_layAir_18).trans ?_
    simp only [s_X7_layAir_20, s_X7_layAir_21, s_X7_layAir_24, hp.2.1, Int32.le_refl, if_true]
  | succ s ih =>
    intro d A hd hp hm h81
    have hdl : d < P 7 1 := by omega
    have hl := @e_X7_layDoor d P o f w I A G hv hp hdl hw ho hf
    have cd := nI_clamp (show d < 2 ^ 31 by omega)
    have xd := am_ixF (show d < 11 by omega) (show 11 < 2 ^ 31 by omega)
    have hn : (nI (P 7 1) ≤ nI d) = False := eq_false (by rw [nI_leI (by omega) (by omega)]; omega)
    generalize hA1 : am_u (am_u (am_u (am_u A 83 d (mN (pf_fr P (pf_u w) d))) 84 d (mN (pf_to P (pf_u w) d))) 82 d (nI (pf_L P o f w d))) 81 d 0 = A1
    have fr : ∀ b, ¬ (81 ≤ b ∧ b ≤ 84) → A1 b = A b := fun b hb => by rw [← hA1, am_u_ne (by omega), am_u_ne (by omega), am_u_ne (by omega), am_u_ne (by omega)]
    obtain ⟨A', f1, f2, f3, f4⟩ := ih (d + 1) A1 (by omega) (hp.fr ⟨rfl, rfl⟩ (fr 74 (by omega)) (fr 75 (by omega)) (fr 76 (by omega))) (fun e he => by
      rw [← hA1]
      by_cases hed : e = d
      · subst hed
        refine ⟨?_, ?_, ?_⟩ <;> simp [am_u_at]
      · have := hm e (by omega)
        simp only [am_u_at, hed, and_false, if_false]
        exact this) (fun e he => by
      rw [← hA1, am_u_at]
      by_cases hed : e = d
      · rw [if_pos ⟨rfl, hed⟩]
      · rw [if_neg (fun q => hed q.2), am_u_at, if_neg (by omega), am_u_at, if_neg (by omega), am_u_at, if_neg (by omega)]
        exact h81 e (by omega))
    refine ⟨A', ?_, fun b hb => by rw [f2 b hb, fr b hb], f3, f4⟩
    rw [← f1]
    refine (s_X7_layAir_18).trans ?_
    simp only [s_X7_layAir_20, s_X7_layAir_21, s_X7_layAir_24, s_X7_layAir_27, s_X7_layAir_28, s_X7_layAir_30, s_X7_layAir_33, s_X7_layAir_34, s_X7_layAir_37, s_X7_layAir_39, s_X7_layAir_40, s_X7_layAir_41, s_X7_layAir_44, hp.2.1, hn, if_false, hl, am_k_some, am_push_n, am_len_81, cd, xd, hA1, am_add1]
theorem X7_lyZ {l1 l2 l3 l4 : Value} {I : am_F} {G : am_G} : ∀ (s i : Nat) (A : am_F), i + s = 8 → (∀ j, j < i → A 80 j = 0) → ∃ A' : am_F, am_e 106 56 [.ref 69, l1, l2, l3, l4, .int (nI i), .null, .null, .null] [] I A G = am_e 106 80 [.ref 69, l1, l2, l3, l4, .int (nI 0), .null, .null, .null] [] I A' G ∧ (∀ b, b ≠ 80 → A' b = A b) ∧ ∀ j, j < 8 → A' 80 j = 0
  | 0, i, A, h, h80 => by
    have : i = 8 := by omega
    subst this
    refine ⟨A, ?_, fun b _ => rfl, h80⟩
    refine (s_X7_layAir_56).trans ?_
    simp only [s_X7_layAir_58, s_X7_layAir_60, s_X7_layAir_77, s_X7_layAir_78, show ((8 : Int32) ≤ nI 8) = True from eq_true (by decide), if_true]
    rfl
  | s + 1, i, A, h, h80 => by
    obtain ⟨A', f1, f2, f3⟩ := X7_lyZ (l1 := l1) (l2 := l2) (l3 := l3) (l4 := l4) (I := I) (G := G) s (i + 1) (am_u A 80 i 0) (by omega) (fun j hj => by
      rw [am_u_at]
      by_cases q : j = i
      · rw [if_pos ⟨rfl, q⟩]
      · rw [if_neg (fun w => q w.2)]; exact h80 j (by omega))
    refine ⟨A', ?_, fun b hb => by rw [f2 b hb, am_u_ne hb], f3⟩
    rw [← f1]
    refine (s_X7_layAir_56).trans ?_
    have hn : ((8 : Int32) ≤ nI i) = False := eq_false (by rw [show (8 : Int32) = nI 8 from rfl, nI_leI (by omega) (by omega)]; omega)
    simp only [s_X7_layAir_58, s_X7_layAir_60, s_X7_layAir_63, s_X7_layAir_64, s_X7_layAir_67, s_X7_layAir_69, s_X7_layAir_70, s_X7_layAir_71, s_X7_layAir_74, hn, if_false, am_len_80, nI_clamp (show i < 2 ^ 31 by omega), am_ixF (show i < 8 by omega) (show 8 < 2 ^ 31 by omega), am_add1]
/-- what comes into a hall -/
theorem X7_lyA {H D i : Nat} {F T L r : Nat → Nat} {l1 l2 l3 l4 l5 l6 : Value} {I : am_F} {G : am_G} (hv : fl_v H D F T r) (hI : I 69 24 = nI D) (hi : i < H) : ∀ (s d : Nat) (A : am_F), d + s = D → mw_ok D F T L A → (∀ e, e < D → T e = i → (F e = 8 → L e = fl_q D F T L e) ∧ (F e ≠ 8 → A 81 e = nI (fl_q D F T L e))) → A 80 i = nI (fl_s (fun e => if T e = i then fl_q D F T L e else 0) d) → ∃ A' : am_F, am_e 106 146 [.ref 69, l1, l2, l3, l4, l5, l6, .int (nI i), .int (nI d)] [] I A G = am_e 106 216 [.ref 69, l1, l2, l3, l4, l5, l6, .int (nI i), .int (nI D)] [] I A' G ∧ (∀ b, b ≠ 80 → A' b = A b) ∧ (∀ j, j ≠ i → A' 80 j = A 80 j) ∧ A' 80 i = nI (fl_a D F T L i) := by
  have hD := hv.2.1
  have hH := hv.1
  intro s
  induction s with
  | zero =>
    intro d A hd hw h1 h80
    have : d = D := by omega
    subst this
    refine ⟨A, ?_, fun b _ => rfl, fun j _ => rfl, h80⟩
    refine (s_X7_layAir_146).trans ?_
    simp only [s_X7_layAir_148, s_X7_layAir_149, s_X7_layAir_152, hI, Int32.le_refl, if_true]
  | succ s ih =>
    intro d A hd hw h1 h80
    have hdl : d < D := by omega
    obtain ⟨b1, b2, b3, b4⟩ := hv.2.2.2 d hdl
    obtain ⟨lA, fA, tA⟩ := hw d hdl
    have cd := nI_clamp (show d < 2 ^ 31 by omega)
    have xd := am_ixF (show d < 11 by omega) (show 11 < 2 ^ 31 by omega)
    have ci := nI_clamp (show i < 2 ^ 31 by omega)
    have xi := am_ixF (show i < 8 by omega) (show 8 < 2 ^ 31 by omega)
    have hn : (nI D ≤ nI d) = False := eq_false (by rw [nI_leI (by omega) (by omega)]; omega)
    have ti := mN_eq (k := T d) (i := i) (by omega) (by omega)
    have f4 := mN_m4 (k := F d) (by omega)
    have e1 : fl_s (fun e => if T e = i then fl_q D F T L e else 0) (d + 1) = fl_s (fun e => if T e = i then fl_q D F T L e else 0) d + if T d = i then fl_q D F T L d else 0 := rfl
    obtain ⟨A', k1, k2, k3, k4⟩ := ih (d + 1) (am_u A 80 i (nI (fl_s (fun e => if T e = i then fl_q D F T L e else 0) (d + 1)))) (by omega) (hw.fr (am_u_ne (by omega)) (am_u_ne (by omega)) (am_u_ne (by omega))) (fun e he hT => by rw [am_u_ne (by omega)]; exact h1 e he hT) (am_u_eq _ _ _ _)
    refine ⟨A', ?_, fun b hb => by rw [k2 b hb, am_u_ne hb], fun j hj => by rw [k3 j hj, am_u_at, if_neg (fun q => hj q.2)], k4⟩
    rw [← k1]
    refine (s_X7_layAir_146).trans ?_
    by_cases hT : T d = i
    · have ti := ti.trans (eq_true hT)
      obtain ⟨q1, q2⟩ := h1 d hdl hT
      have eN : nI (fl_s (fun e => if T e = i then fl_q D F T L e else 0) (d + 1)) = A 80 i + nI (fl_q D F T L d) := by rw [h80, nI_add, e1, if_pos hT]
      rw [eN]
      by_cases hF : F d = 8
      · have f4 := f4.trans (eq_true hF)
        rw [← q1 hF]
        simp only [s_X7_layAir_148, s_X7_layAir_149, s_X7_layAir_152, s_X7_layAir_155, s_X7_layAir_156, s_X7_layAir_159, s_X7_layAir_161, s_X7_layAir_162, s_X7_layAir_163, s_X7_layAir_164, s_X7_layAir_167, s_X7_layAir_169, s_X7_layAir_170, s_X7_layAir_172, s_X7_layAir_175, s_X7_layAir_176, s_X7_layAir_179, s_X7_layAir_180, s_X7_layAir_183, s_X7_layAir_185, s_X7_layAir_186, s_X7_layAir_188, s_X7_layAir_191, s_X7_layAir_192, s_X7_layAir_195, s_X7_layAir_197, s_X7_layAir_198, s_X7_layAir_201, s_X7_layAir_202, s_X7_layAir_205, s_X7_layAir_207, s_X7_layAir_208, s_X7_layAir_209, s_X7_layAir_210, s_X7_layAir_213, hI, hn, if_false, am_len_80, am_len_81, am_len_82, am_len_83, am_len_84, cd, xd, ci, xi, tA, ti, if_true, fA, f4, lA, am_add1]
      · have f4 := f4.trans (eq_false hF)
        have qA := q2 hF
        simp only [s_X7_layAir_148, s_X7_layAir_149, s_X7_layAir_152, s_X7_layAir_155, s_X7_layAir_156, s_X7_layAir_159, s_X7_layAir_161, s_X7_layAir_162, s_X7_layAir_163, s_X7_layAir_164, s_X7_layAir_167, s_X7_layAir_169, s_X7_layAir_170, s_X7_layAir_172, s_X7_layAir_175, s_X7_layAir_176, s_X7_layAir_179, s_X7_layAir_180, s_X7_layAir_183, s_X7_layAir_185, s_X7_layAir_186, s_X7_layAir_188, s_X7_layAir_191, s_X7_layAir_192, s_X7_layAir_195, s_X7_layAir_197, s_X7_layAir_198, s_X7_layAir_201, s_X7_layAir_202, s_X7_layAir_205, s_X7_layAir_207, s_X7_layAir_208, s_X7_layAir_209, s_X7_layAir_210, s_X7_layAir_213, hI, hn, if_false, am_len_80, am_len_81, am_len_82, am_len_83, am_len_84, cd, xd, ci, xi, tA, ti, if_true, fA, f4, qA, am_add1]
    · have ti := ti.trans (eq_false hT)
      have eN : nI (fl_s (fun e => if T e = i then fl_q D F T L e else 0) (d + 1)) = A 80 i := by rw [h80, e1, if_neg hT]; rfl
      rw [eN]
      simp only [s_X7_layAir_148, s_X7_layAir_149, s_X7_layAir_152, s_X7_layAir_155, s_X7_layAir_156, s_X7_layAir_159, s_X7_layAir_161, s_X7_layAir_162, s_X7_layAir_163, s_X7_layAir_164, s_X7_layAir_167, s_X7_layAir_169, s_X7_layAir_170, s_X7_layAir_172, s_X7_layAir_175, s_X7_layAir_176, s_X7_layAir_179, s_X7_layAir_180, s_X7_layAir_183, s_X7_layAir_185, s_X7_layAir_186, s_X7_layAir_188, s_X7_layAir_191, s_X7_layAir_192, s_X7_layAir_195, s_X7_layAir_197, s_X7_layAir_198, s_X7_layAir_201, s_X7_layAir_202, s_X7_layAir_205, s_X7_layAir_207, s_X7_layAir_208, s_X7_layAir_209, s_X7_layAir_210, s_X7_layAir_213, hI, hn, if_false, am_len_80, am_len_81, am_len_82, am_len_83, am_len_84, cd, xd, ci, xi, tA, ti, am_add1, Int32.add_zero]
def ly_iv (H D : Nat) (F T L : Nat → Nat) (dn : Nat → Prop) (A : am_F) : Prop := (∀ i, i < H → (dn i → A 80 i = nI (fl_a D F T L i)) ∧ (¬ dn i → A 80 i = 0)) ∧ ∀ d, d < D → ((F d ≠ 8 ∧ dn (F d)) → A 81 d = nI (fl_q D F T L d)) ∧ (¬ (F d ≠ 8 ∧ dn (F d)) → A 81 d = 0)
theorem ly_iv.c {H D : Nat} {F T L r : Nat → Nat} {dn dn' : Nat → Prop} {A : am_F} (hv : fl_v H D F T r) (h : ly_iv H D F T L dn A) (he : ∀ i, i < H → (dn i ↔ dn' i)) : ly_iv H D F T L dn' A := by
  refine ⟨fun i hi => ⟨fun q => (h.1 i hi).1 ((he i hi).mpr q), fun q => (h.1 i hi).2 (fun w => q ((he i hi).mp w))⟩, fun d hd => ?_⟩
  obtain ⟨b1, -⟩ := hv.2.2.2 d hd
  exact ⟨fun q => (h.2 d hd).1 ⟨q.1, (he _ (b1.resolve_right q.1)).mpr q.2⟩, fun q => (h.2 d hd).2 (fun w => q ⟨w.1, (he _ (b1.resolve_right w.1)).mp w.2⟩)⟩
theorem X7_lyIn {H D n : Nat} {F T L r z hn : Nat → Nat} {o f w B ht : Int32} {I : am_F} {G : am_G} (hv : fl_v H D F T r) (hL : ∀ d, d < D → L d ≤ 50) (hI9 : I 69 9 = nI H) (hI : I 69 24 = nI D) (hB : ∀ i, i < H → am_hb B i = fl_b D F T L i) (hord : ∀ d, d < D → F d < H → T d < H → hn (F d) < hn (T d)) (hz : ∀ i, i < H → (nI (z i) = ht) = (hn i = n)) : ∀ (s i : Nat) (g : Value) (A : am_F), i + s = H → (∀ i, i < H → A 74 (3 * i) = nI (z i)) → mw_ok D F T L A → ly_iv H D F T L (fun j => hn j < n ∨ (hn j = n ∧ j < i)) A → ∃ (A' : am_F) (g' : Value), am_e 106 110 [.ref 69, .int w, .int o, .int f, .int B, .int (nI n), .int ht, .int (nI i), g] [] I A G = am_e 106 230 [.ref 69, .int w, .int o, .int f, .int B, .int (nI n), .int ht, .int (nI H), g'] [] I A' G ∧ (∀ b, b ≠ 80 → b ≠ 81 → A' b = A b) ∧ ly_iv H D F T L (fun j => hn j < n + 1) A' := by
  have hD := hv.2.1
  have hH := hv.1
  intro s
  induction s with
  | zero =>
    intro i g A hi h74 hw hiv
    have : i = H := by omega
    subst this
    refine ⟨A, g, ?_, fun b _ _ => rfl, hiv.c hv (fun j hj => by omega)⟩
    refine (s_X7_layAir_110).trans ?_
    simp only [s_X7_layAir_112, s_X7_layAir_113, s_X7_layAir_116, hI9, Int32.le_refl, if_true]
  | succ s ih =>
    intro i g A hi h74 hw hiv
    have hil : i < H := by omega
    have c3 := nI_clamp (show 3 * i < 2 ^ 31 by omega)
    have x3 := am_ixF (show 3 * i < 24 by omega) (show 24 < 2 ^ 31 by omega)
    have hn' : (nI H ≤ nI i) = False := eq_false (by rw [nI_leI (by omega) (by omega)]; omega)
    have zA := h74 i hil
    have hzi := hz i hil
    have hBi := hB i hil
    by_cases hh : hn i = n
    · have hzi := hzi.trans (eq_true hh)
      have hdni : ¬ (hn i < n ∨ (hn i = n ∧ i < i)) := by omega
      have into : ∀ e, e < D → T e = i → F e ≠ 8 → A 81 e = nI (fl_q D F T L e) := fun e he hT hF => by
        obtain ⟨b1, -⟩ := hv.2.2.2 e he
        have := hord e he (b1.resolve_right hF) (by omega)
        rw [hT] at this
        exact (hiv.2 e he).1 ⟨hF, Or.inl (by omega)⟩
      cases hb : fl_b D F T L i with
      | true =>
        rw [hb] at hBi
        obtain ⟨A1, a1, a2, a3, a4⟩ := X7_lyA (l1 := .int w) (l2 := .int o) (l3 := .int f) (l4 := .int B) (l5 := .int (nI n)) (l6 := .int ht) (I := I) (G := G) hv hI hil D 0 A (by omega) hw (fun e he hT => ⟨fun hF => by
          rw [fl_q_eq hv he, if_pos hF]
          by_cases hl : L e = 0
          · rw [fl_l_off (fl_on_z hl), hl]
          · rw [(fl_l_on (fl_on_iff.mpr ⟨by omega, Or.inr (by rw [hT]; exact hb)⟩)).1], into e he hT⟩) ((hiv.1 i hil).2 hdni)
        obtain ⟨A2, b1, b2, b3, b4⟩ := e_X7_giveOut (i := i) (I := I) (A := A1) (G := G) hv hL hI hB hil (fl_a_le hv hL hil) (hw.fr (a2 82 (by omega)) (a2 83 (by omega)) (a2 84 (by omega))) a4 (fun e he hF => by
          rw [a2 81 (by omega)]
          exact (hiv.2 e he).2 (fun q => hdni (by rw [hF] at q; exact q.2)))
        obtain ⟨A', g', k1, k2, k3⟩ := ih (i + 1) (.int (nI D)) A2 (by omega) (fun j hj => by rw [b2 74 (by omega), a2 74 (by omega)]; exact h74 j hj) (hw.fr (by rw [b2 82 (by omega), a2 82 (by omega)]) (by rw [b2 83 (by omega), a2 83 (by omega)]) (by rw [b2 84 (by omega), a2 84 (by omega)])) (by
          refine ⟨fun j hj => ?_, fun d hd => ?_⟩
          · rw [b2 80 (by omega)]
            by_cases hji : j = i
            · subst hji
              exact ⟨fun _ => a4, fun q => absurd (Or.inr ⟨hh, by omega⟩) q⟩
            · rw [a3 j hji]
              exact ⟨fun q => (hiv.1 j hj).1 (by omega), fun q => (hiv.1 j hj).2 (by omega)⟩
          · by_cases hF : F d = i
            · rw [b4 d hd hF]
              refine ⟨fun _ => by rw [fl_q_eq hv hd, if_neg (by omega), hF], fun q => absurd ⟨by omega, Or.inr ⟨by rw [hF]; exact hh, by omega⟩⟩ q⟩
            · rw [b3 d (fun q => hF q.2), a2 81 (by omega)]
              exact ⟨fun q => (hiv.2 d hd).1 ⟨q.1, by have := q.2; omega⟩, fun q => (hiv.2 d hd).2 (fun w => q ⟨w.1, by have := w.2; omega⟩)⟩)
        refine ⟨A', g', ?_, fun b w1 w2 => by rw [k2 b w1 w2, b2 b w2, a2 b w1], k3⟩
        rw [← k1]
        have e1 : am_e 106 110 [.ref 69, .int w, .int o, .int f, .int B, .int (nI n), .int ht, .int (nI i), g] [] I A G = am_e 106 146 [.ref 69, .int w, .int o, .int f, .int B, .int (nI n), .int ht, .int (nI i), .int (nI 0)] [] I A G := by
          refine (s_X7_layAir_110).trans ?_
          simp only [s_X7_layAir_112, s_X7_layAir_113, s_X7_layAir_116, s_X7_layAir_119, s_X7_layAir_120, s_X7_layAir_123, s_X7_layAir_124, s_X7_layAir_126, s_X7_layAir_127, s_X7_layAir_128, s_X7_layAir_130, s_X7_layAir_133, s_X7_layAir_135, s_X7_layAir_137, s_X7_layAir_140, s_X7_layAir_143, s_X7_layAir_144, hI9, hn', if_false, am_len_74, am_mul3, c3, x3, zA, hzi, if_true, e_X7_has, am_hb_d, hBi, am_k_some, am_push_i, am_bi_0, Bool.true_eq_false]
          rfl
        rw [e1, a1]
        simp only [s_X7_layAir_216, s_X7_layAir_217, s_X7_layAir_219, s_X7_layAir_221, s_X7_layAir_224, s_X7_layAir_227, b1, am_k_some, am_push_n, am_add1]
      | false =>
        rw [hb] at hBi
        have hbn : ¬ fl_b D F T L i = true := by rw [hb]; decide
        obtain ⟨A', g', k1, k2, k3⟩ := ih (i + 1) g A (by omega) h74 hw (by
          refine ⟨fun j hj => ?_, fun d hd => ?_⟩
          · by_cases hji : j = i
            · subst hji
              refine ⟨fun _ => ?_, fun q => absurd (Or.inr ⟨hh, by omega⟩) q⟩
              rw [(hiv.1 j hj).2 hdni, fl_a_off hv hj hbn]; rfl
            · exact ⟨fun q => (hiv.1 j hj).1 (by omega), fun q => (hiv.1 j hj).2 (by omega)⟩
          · by_cases hF : F d = i
            · have h0 := (hiv.2 d hd).2 (fun q => hdni (by rw [hF] at q; exact q.2))
              refine ⟨fun _ => ?_, fun _ => h0⟩
              rw [h0, fl_q_off hv hd (fun q => hbn ((fl_b_eq hv hil).mpr ⟨d, hd, (fl_on_iff.mp q).1, hF, (fl_on_iff.mp q).2⟩))]; rfl
            · exact ⟨fun q => (hiv.2 d hd).1 ⟨q.1, by have := q.2; omega⟩, fun q => (hiv.2 d hd).2 (fun w => q ⟨w.1, by have := w.2; omega⟩)⟩)
        refine ⟨A', g', ?_, k2, k3⟩
        rw [← k1]
        refine (s_X7_layAir_110).trans ?_
        simp only [s_X7_layAir_112, s_X7_layAir_113, s_X7_layAir_116, s_X7_layAir_119, s_X7_layAir_120, s_X7_layAir_123, s_X7_layAir_124, s_X7_layAir_126, s_X7_layAir_127, s_X7_layAir_128, s_X7_layAir_130, s_X7_layAir_133, s_X7_layAir_135, s_X7_layAir_137, s_X7_layAir_140, s_X7_layAir_224, s_X7_layAir_227, hI9, hn', if_false, am_len_74, am_mul3, c3, x3, zA, hzi, if_true, e_X7_has, am_hb_d, hBi, am_k_some, am_push_i, am_bi_0, am_add1]
    · have hzi := hzi.trans (eq_false hh)
      obtain ⟨A', g', k1, k2, k3⟩ := ih (i + 1) g A (by omega) h74 hw (hiv.c hv (fun j hj => by
        constructor
        · rintro (q | q)
          · exact Or.inl q
          · exact Or.inr ⟨q.1, by omega⟩
        · rintro (q | q)
          · exact Or.inl q
          · refine Or.inr ⟨q.1, ?_⟩
            rcases Nat.lt_or_ge j i with h | h
            · exact h
            · have : j = i := by omega
              subst this
              exact absurd q.1 hh))
      refine ⟨A', g', ?_, k2, k3⟩
      rw [← k1]
      refine (s_X7_layAir_110).trans ?_
      simp only [s_X7_layAir_112, s_X7_layAir_113, s_X7_layAir_116, s_X7_layAir_119, s_X7_layAir_120, s_X7_layAir_123, s_X7_layAir_124, s_X7_layAir_126, s_X7_layAir_127, s_X7_layAir_128, s_X7_layAir_130, s_X7_layAir_224, s_X7_layAir_227, hI9, hn', if_false, am_len_74, am_mul3, c3, x3, zA, hzi, am_add1]
