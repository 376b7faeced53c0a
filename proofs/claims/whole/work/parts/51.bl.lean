/-! ===== the class: an hour's air ===== -/
theorem e_X0_handOn {x p a bs av H D : Nat} {F T L r : Nat → Nat} {al : Nat → Nat} {I A : am_F} {G : am_G} (hx : x = 13 ∨ x = 19 ∨ x = 33 ∨ x = 39) (hG : G 58 4 = x) (hv : fl_v H D F T r) (hL : ∀ d, d < D → L d ≤ 50) (hp : p < 9) (ha : a < 9) (hbs : bs + (pf_sg F D a).length ≤ 10) (hav : av ≤ 500) (h3 : A (x + 3) p = nI a) (hb0 : p = 0 → bs = 0) (hb1 : p ≠ 0 → A (x + 5) (p - 1) = nI bs) (h5 : A (x + 5) p = nI (bs + (pf_sg F D a).length)) (h4 : ∀ e, e < D → F e = a → A (x + 4) (bs + (pf_sg F e a).length) = nI e) (h2 : ∀ e, e < D → A (x + 2) e = nI (T e)) (h61 : ∀ e, e < D → A 61 e = nI (fl_l D F T L e)) (h62 : A 62 a = nI (fl_tot D F T L a)) (h59 : ∀ i, i < 9 → A 59 i = nI (al i)) (hala : al a = av) : ∃ A' : am_F, am_e 2 0 [.ref 58, .int (nI p), .null, .null, .null, .null, .null] [] I A G = some (.null, I, A', G) ∧ (∀ b, b ≠ 59 → b ≠ 60 → A' b = A b) ∧ (∀ e, ¬ (e < D ∧ F e = a) → A' 60 e = A 60 e) ∧ (∀ e, e < D → F e = a → A' 60 e = nI (fl_sh D F T L av a e)) ∧ ∀ i, i < 9 → A' 59 i = nI (al i + fl_s (fun e => if F e = a ∧ T e = i then fl_sh D F T L av a e else 0) D) := by
  have h59a : A 59 a = nI av := by rw [h59 a ha, hala]
  obtain ⟨A1, g1, f1, f2, f3, f4⟩ := X0_hand1 (I := I) hx hG hv hL hp ha hbs hav D 0 .null A (by omega) h5 h4 h59a h62 h61 (fun e he => by omega)
  obtain ⟨A2, k1, k2, k3, k4, k5⟩ := X0_hand2 (I := I) (al := al) hx hG hv hL hp hbs hav D 0 g1 A1 (by omega) (by rw [f2 _ (by omega)]; exact h5) (fun e he hFe => by rw [f2 _ (by omega)]; exact h4 e he hFe) (fun e he => by rw [f2 _ (by omega)]; exact h2 e he) (fun e he => by rw [f2 _ (by omega)]; exact h61 e he) (fun e he hFe => by rw [f4 e he hFe, if_neg (by omega)]) (fun i hi => by rw [f2 _ (by omega)]; exact h59 i hi)
  refine ⟨A2, ?_, fun b q1 q2 => by rw [k2 b q1 q2, f2 b q2], fun e he => by rw [k3 e he, f3 e (fun q => he q.2)], k4, k5⟩
  have e1 : am_e 2 0 [.ref 58, .int (nI p), .null, .null, .null, .null, .null] [] I A G = am_e 2 41 [.ref 58, .int (nI p), .int (nI a), .int (nI bs), .int (nI (av - fl_s (fun e => if F e = a then fl_ba D F T L av a e else 0) 0)), .int (nI (bs + (pf_sg F 0 a).length)), .null] [] I A G := by
    show _ = am_e 2 41 [.ref 58, .int (nI p), .int (nI a), .int (nI bs), .int (nI av), .int (nI bs), .null] [] I A G
    have cp := nI_clamp (show p < 2 ^ 31 by omega)
    have xp := am_ixF (show p < 9 by omega) (show 9 < 2 ^ 31 by omega)
    have ca := nI_clamp (show a < 2 ^ 31 by omega)
    have xa := am_ixF (show a < 9 by omega) (show 9 < 2 ^ 31 by omega)
    by_cases hp0 : p = 0
    · have hb := hb0 hp0
      have hz : (nI p = 0) = True := eq_true (by rw [hp0]; rfl)
      have hbz : nI bs = 0 := by rw [hb]; rfl
      rcases hx with rfl | rfl | rfl | rfl <;>
      (simp only [Nat.reduceAdd] at h3
       simp only [s_X0_handOn_0, s_X0_handOn_1, s_X0_handOn_4_at13, s_X0_handOn_4_at19, s_X0_handOn_4_at33, s_X0_handOn_4_at39, s_X0_handOn_7, s_X0_handOn_8, s_X0_handOn_9, s_X0_handOn_10, s_X0_handOn_11, s_X0_handOn_14, s_X0_handOn_15, s_X0_handOn_18, s_X0_handOn_19, s_X0_handOn_22_at13, s_X0_handOn_22_at19, s_X0_handOn_22_at33, s_X0_handOn_22_at39, s_X0_handOn_25, s_X0_handOn_26, s_X0_handOn_27, s_X0_handOn_28, s_X0_handOn_29, s_X0_handOn_30, s_X0_handOn_31, s_X0_handOn_34, s_X0_handOn_35, s_X0_handOn_36, s_X0_handOn_38, s_X0_handOn_39, hG, am_len_16, am_len_22, am_len_36, am_len_42, am_len_59, cp, xp, if_false, h3, hz, if_true, ca, xa, h59a, hbz])
    · have hb := hb1 hp0
      have hz : (nI p = 0) = False := eq_false (nI_ne0 (by omega) (by omega))
      have hm : nI p - 1 = nI (p - 1) := by rw [show p = (p - 1) + 1 by omega, nI_pred]; rfl
      have cm := nI_clamp (show p - 1 < 2 ^ 31 by omega)
      have xm := am_ixF (show p - 1 < 9 by omega) (show 9 < 2 ^ 31 by omega)
      rcases hx with rfl | rfl | rfl | rfl <;>
      (simp only [Nat.reduceAdd] at h3 hb
       simp only [s_X0_handOn_0, s_X0_handOn_1, s_X0_handOn_4_at13, s_X0_handOn_4_at19, s_X0_handOn_4_at33, s_X0_handOn_4_at39, s_X0_handOn_7, s_X0_handOn_8, s_X0_handOn_9, s_X0_handOn_10, s_X0_handOn_11, s_X0_handOn_14, s_X0_handOn_15, s_X0_handOn_18, s_X0_handOn_19, s_X0_handOn_22_at13, s_X0_handOn_22_at19, s_X0_handOn_22_at33, s_X0_handOn_22_at39, s_X0_handOn_25, s_X0_handOn_26, s_X0_handOn_27, s_X0_handOn_28, s_X0_handOn_29, s_X0_handOn_30, s_X0_handOn_31, s_X0_handOn_34, s_X0_handOn_35, s_X0_handOn_36, s_X0_handOn_38, s_X0_handOn_39, hG, am_len_16, am_len_22, am_len_36, am_len_42, am_len_18, am_len_24, am_len_38, am_len_44, am_len_59, cp, xp, if_false, h3, hz, hm, cm, xm, hb, ca, xa, h59a])
  have e2 : am_e 2 126 [.ref 58, .int (nI p), .int (nI a), .int (nI bs), .int (nI (fl_lf D F T L av a)), .int (nI (bs + (pf_sg F D a).length)), g1] [] I A1 G = am_e 2 129 [.ref 58, .int (nI p), .int (nI a), .int (nI bs), .int (nI (fl_lf D F T L av a - fl_ct D F T L a 0)), .int (nI (bs + (pf_sg F 0 a).length)), g1] [] I A1 G := by
    show _ = am_e 2 129 [.ref 58, .int (nI p), .int (nI a), .int (nI bs), .int (nI (fl_lf D F T L av a)), .int (nI bs), g1] [] I A1 G
    simp only [s_X0_handOn_126, s_X0_handOn_127]
  rw [e1, f1, e2, k1]
/-- places in the order of air -/
def ps_ok (D : Nat) (F T : Nat → Nat) (ps : List Nat) : Prop := ps.Nodup ∧ (∀ d, d < D → F d ∈ ps) ∧ (∀ a, a ∈ ps → a ≤ 8) ∧ ps.Pairwise (fun a b => a ≠ 8 → ∀ d, d < D → F d = b → T d ≠ a)
theorem wd_ps {P : sg_P} {u : Bool} {pl : List Nat} (hv : vp_p P) (h1 : pl.Perm (List.range (P 7 0))) (h2 : pf_so P u pl) : ps_ok (P 7 1) (pf_fr P u) (pf_to P u) (8 :: pl) := by
  have hH := hv.1.2
  have hmem : ∀ a, a ∈ pl ↔ a < P 7 0 := fun a => by rw [h1.mem_iff, List.mem_range]
  refine ⟨List.nodup_cons.mpr ⟨fun q => by have := (hmem 8).mp q; omega, h1.nodup_iff.mpr List.nodup_range⟩, fun d hd => ?_, fun a ha => ?_, ?_⟩
  · rcases (pf_ends (u := u) hv hd).1 with h | h
    · exact List.mem_cons_of_mem _ ((hmem _).mpr h)
    · rw [h]; exact List.mem_cons_self
  · rcases List.mem_cons.mp ha with h | h
    · omega
    · have := (hmem a).mp h; omega
  · refine List.pairwise_cons.mpr ⟨fun b _ h => absurd rfl h, List.Pairwise.imp_of_mem (fun {a b} ha hb hab _ d hd hF hT => ?_) h2⟩
    have h3 := (hmem a).mp ha
    have h4 := (hmem b).mp hb
    have := (pf_ends (u := u) hv hd).2.2.2 (by omega) (by omega)
    rw [hF, hT, hab] at this
    cases this
theorem fl_T_F {H D : Nat} {F T r : Nat → Nat} (hv : fl_v H D F T r) {d : Nat} (hd : d < D) : T d ≠ F d := by
  intro h
  obtain ⟨b1, b2, b3, b4⟩ := hv.2.2.2 d hd
  rcases b1 with b1 | b1
  · have := b4 b1 (by omega)
    rw [h] at this
    omega
  · exact b3 ⟨b1, by omega⟩
def bl_iv (D : Nat) (F T L : Nat → Nat) (done : List Nat) (A : am_F) : Prop := (∀ d, d < D → F d ∈ done → A 60 d = nI (fl_q D F T L d)) ∧ ∀ i, i < 9 → A 59 i = nI ((if i = 8 then fl_tot D F T L 8 else 0) + fl_s (fun d => if F d ∈ done ∧ T d = i then fl_q D F T L d else 0) D)
theorem X0_blowLoop {x p H D : Nat} {F T L r : Nat → Nat} {ps : List Nat} {o f w : Value} {I : am_F} {G : am_G} (hx : x = 13 ∨ x = 19 ∨ x = 33 ∨ x = 39) (hG : G 58 4 = x) (hv : fl_v H D F T r) (hL : ∀ d, d < D → L d ≤ 50) (hps : ps_ok D F T ps) (hdl : (ps.flatMap (pf_sg F D)).length = D) (hl : ps.length = H + 1) (hI3 : I x 3 = nI (H + 1)) (hh : ∃ pl, ps = 8 :: pl ∧ ∀ a, a ∈ pl → a < H) : ∀ (s m : Nat) (g : Value) (A : am_F), m + s = H + 1 → (∀ d, d < D → A (x + 2) d = nI (T d)) → (∀ k, k < H + 1 → A (x + 3) k = nI (ps.getD k 0)) → (∀ k, k < D → A (x + 4) k = nI ((ps.flatMap (pf_sg F D)).getD k 0)) → (∀ k, k < H + 1 → A (x + 5) k = nI ((ps.take (k + 1)).flatMap (pf_sg F D)).length) → (∀ d, d < D → A 61 d = nI (fl_l D F T L d)) → (∀ i, i < 9 → A 62 i = nI (fl_tot D F T L i)) → bl_iv D F T L (ps.take m) A → ∃ A' : am_F, am_e 0 141 [.ref 58, .ref p, o, f, w, .int (nI m), g] [] I A G = some (.null, I, A', G) ∧ (∀ b, b ≠ 59 → b ≠ 60 → A' b = A b) ∧ bl_iv D F T L ps A' := by
  have hD := hv.2.1
  have hH := hv.1
  intro s
  induction s with
  | zero =>
    intro m g A hm h2 h3 h4 h5 h61 h62 hiv
    have : m = ps.length := by omega
    subst this
    rw [List.take_length] at hiv
    refine ⟨A, ?_, fun b _ _ => rfl, hiv⟩
    refine (s_X0_blow_141).trans ?_
    rcases hx with rfl | rfl | rfl | rfl <;> simp only [s_X0_blow_143, s_X0_blow_144, s_X0_blow_147_at13, s_X0_blow_147_at19, s_X0_blow_147_at33, s_X0_blow_147_at39, s_X0_blow_150, s_X0_blow_165, hG, hI3, hl, Int32.le_refl, if_true]
  | succ s ih =>
    intro m g A hm h2 h3 h4 h5 h61 h62 hiv
    obtain ⟨i1, i2⟩ := hiv
    obtain ⟨p1, p2, p3, p4⟩ := hps
    have hml : m < ps.length := by omega
    have hcut : ps.drop m = ps[m] :: ps.drop (m + 1) := List.drop_eq_getElem_cons hml
    have hsp : ps.take m ++ ps[m] :: ps.drop (m + 1) = ps := by rw [← hcut]; exact List.take_append_drop m ps
    have htk : ps.take (m + 1) = ps.take m ++ [ps[m]] := (List.take_append_getElem hml).symm
    have hgd : ps.getD m 0 = ps[m] := by rw [List.getD_eq_getElem?_getD, List.getElem?_eq_getElem hml]; rfl
    have ha8 : ps[m] ≤ 8 := p3 _ (List.getElem_mem hml)
    have q1 := p1
    have q4 := p4
    rw [← hsp, List.nodup_append] at q1
    rw [← hsp, List.pairwise_append] at q4
    have hnin : ps[m] ∉ ps.take m := fun q => q1.2.2 _ q _ List.mem_cons_self rfl
    have hinto : ∀ d, d < D → T d = ps[m] → ps[m] ≠ 8 → F d ∈ ps.take m := by
      intro d hd hT h8
      have hFm := p2 d hd
      rw [← hsp, List.mem_append, List.mem_cons] at hFm
      rcases hFm with q | q | q
      · exact q
      · exact absurd (hT.trans q.symm) (fl_T_F hv hd)
      · exact absurd hT ((List.pairwise_cons.mp q4.2.1).1 _ q h8 d hd rfl)
    have hz8 : m = 0 → ps[m] = 8 := by
      rintro rfl
      obtain ⟨pl, hpl, -⟩ := hh
      subst hpl
      rfl
    have hhm : m ≠ 0 → ps[m] < H := by
      intro hm0
      obtain ⟨pl, hpl, hlt⟩ := hh
      subst hpl
      have : (8 :: pl)[m] = pl[m - 1]'(by simp only [List.length_cons] at hl; omega) := by
        cases m with
        | zero => exact absurd rfl hm0
        | succ m => rfl
      rw [this]
      exact hlt _ (List.getElem_mem _)
    generalize ps[m] = a at *
    -- the air of the place
    obtain ⟨av, hav, hala, hsh⟩ : ∃ av, av ≤ 500 ∧ ((if a = 8 then fl_tot D F T L 8 else 0) + fl_s (fun d => if F d ∈ ps.take m ∧ T d = a then fl_q D F T L d else 0) D = av) ∧ ∀ d, d < D → F d = a → fl_q D F T L d = fl_sh D F T L av a d := by
      by_cases hm0 : m = 0
      · have ha := hz8 hm0
        refine ⟨fl_tot D F T L 8, fl_tot_le hD hL 8, ?_, fun d hd hF => ?_⟩
        · rw [if_pos ha, hm0, List.take_zero, fl_s_0 D (fun d _ => if_neg (fun q => by cases q.1))]
          omega
        · rw [ha] at hF ⊢
          rw [fl_sh_8 D F T L hd hF, fl_q_eq hv hd, if_pos hF]
      · have ha := hhm hm0
        refine ⟨fl_a D F T L a, fl_a_le hv hL ha, ?_, fun d hd hF => ?_⟩
        · rw [if_neg (by omega), Nat.zero_add]
          refine fl_s_c D (fun d hd => ?_)
          by_cases hT : T d = a
          · rw [if_pos hT, if_pos ⟨hinto d hd hT (by omega), hT⟩]
          · rw [if_neg hT, if_neg (fun q => hT q.2)]
        · rw [fl_q_eq hv hd, if_neg (by omega), hF]
    have hfm : ps.flatMap (pf_sg F D) = (ps.take m).flatMap (pf_sg F D) ++ (pf_sg F D a ++ (ps.drop (m + 1)).flatMap (pf_sg F D)) := by
      conv => lhs; rw [← hsp]
      rw [List.flatMap_append, List.flatMap_cons]
    have hfl : ((ps.take (m + 1)).flatMap (pf_sg F D)).length = ((ps.take m).flatMap (pf_sg F D)).length + (pf_sg F D a).length := by
      rw [htk, List.flatMap_append, List.length_append]
      simp
    have hlen : ((ps.take m).flatMap (pf_sg F D)).length + (pf_sg F D a).length ≤ D := by
      rw [hfm, List.length_append, List.length_append] at hdl
      omega
    obtain ⟨A1, f1, f2, f3, f4, f5⟩ := e_X0_handOn (x := x) (p := m) (a := a) (bs := ((ps.take m).flatMap (pf_sg F D)).length) (av := av) (I := I) (A := A) (G := G) (al := fun i => (if i = 8 then fl_tot D F T L 8 else 0) + fl_s (fun d => if F d ∈ ps.take m ∧ T d = i then fl_q D F T L d else 0) D) hx hG hv hL (by omega) (by omega) (by omega) hav (by rw [h3 m (by omega), hgd]) (fun h => by rw [h, List.take_zero]; rfl) (fun h => by rw [h5 (m - 1) (by omega), show m - 1 + 1 = m by omega]) (by rw [h5 m (by omega), hfl]) (fun e he hFe => by
      obtain ⟨g1, g2⟩ := pf_sg_at he hFe
      rw [h4 _ (by omega), hfm, List.getD_eq_getElem?_getD, List.getElem?_append_right (by omega), Nat.add_sub_cancel_left, List.getElem?_append_left g2, ← List.getD_eq_getElem?_getD, g1]) h2 h61 (h62 a (by omega)) i2 hala
    obtain ⟨A', k1, k2, k3⟩ := ih (m + 1) g A1 (by omega) (fun d hd => by rw [f2 _ (by omega) (by omega)]; exact h2 d hd) (fun k hk => by rw [f2 _ (by omega) (by omega)]; exact h3 k hk) (fun k hk => by rw [f2 _ (by omega) (by omega)]; exact h4 k hk) (fun k hk => by rw [f2 _ (by omega) (by omega)]; exact h5 k hk) (fun d hd => by rw [f2 _ (by omega) (by omega)]; exact h61 d hd) (fun i hi => by rw [f2 _ (by omega) (by omega)]; exact h62 i hi) (by
      refine ⟨fun d hd hFd => ?_, fun i hi => ?_⟩
      · by_cases hF : F d = a
        · rw [f4 d hd hF, hsh d hd hF]
        · rw [f3 d (fun q => hF q.2)]
          rw [htk, List.mem_append, List.mem_singleton] at hFd
          exact i1 d hd (hFd.resolve_right hF)
      · rw [f5 i hi, Nat.add_assoc, ← fl_s_add]
        congr 2
        refine fl_s_c D (fun d hd => ?_)
        rw [htk]
        by_cases hT : T d = i
        · by_cases hF : F d = a
          · rw [if_neg (fun q => hnin (by rw [← hF]; exact q.1)), if_pos ⟨hF, hT⟩, if_pos ⟨by rw [hF]; simp, hT⟩, hsh d hd hF]; omega
          · rw [if_neg (show ¬ (F d = a ∧ T d = i) from fun q => hF q.1)]
            by_cases hFm : F d ∈ ps.take m
            · rw [if_pos ⟨hFm, hT⟩, if_pos ⟨List.mem_append.mpr (Or.inl hFm), hT⟩]; rfl
            · rw [if_neg (fun q => hFm q.1), if_neg (fun q => (List.mem_append.mp q.1).elim hFm (fun w => hF (List.mem_singleton.mp w)))]
        · rw [if_neg (fun q => hT q.2), if_neg (fun q => hT q.2), if_neg (fun q => hT q.2)])
    refine ⟨A', ?_, fun b w1 w2 => by rw [k2 b w1 w2, f2 b w1 w2], k3⟩
    rw [← k1]
    refine (s_X0_blow_141).trans ?_
    have hn : (nI (H + 1) ≤ nI m) = False := eq_false (by rw [nI_leI (by omega) (by omega)]; omega)
    rcases hx with rfl | rfl | rfl | rfl <;> simp only [s_X0_blow_143, s_X0_blow_144, s_X0_blow_147_at13, s_X0_blow_147_at19, s_X0_blow_147_at33, s_X0_blow_147_at39, s_X0_blow_150, s_X0_blow_153, s_X0_blow_154, s_X0_blow_156, s_X0_blow_159, s_X0_blow_162, hG, hI3, hn, if_false, f1, am_k_some, am_push_n, am_add1]
