/-! ===== the class: blow, whole; where air carries ===== -/
def pf_u (w : Int32) : Bool := decide (w = 1)
def pf_a (P : sg_P) (o f w : Int32) (i : Nat) : Nat := fl_a (P 7 1) (pf_fr P (pf_u w)) (pf_to P (pf_u w)) (pf_L P o f w) i
def pf_q (P : sg_P) (o f w : Int32) (d : Nat) : Nat := fl_q (P 7 1) (pf_fr P (pf_u w)) (pf_to P (pf_u w)) (pf_L P o f w) d
def pf_r (P : sg_P) (o f w : Int32) (S : Nat → Bool) (j : Nat) : Bool := fl_r (P 7 1) (pf_fr P (pf_u w)) (pf_to P (pf_u w)) (pf_q P o f w) S j
theorem fl_on_z {D : Nat} {F T L : Nat → Nat} {d : Nat} (h : L d = 0) : ¬ fl_on D F T L d = true := fun q => by
  have := (fl_on_iff.mp q).1; omega
theorem fl_q_z {H D : Nat} {F T r L : Nat → Nat} (hv : fl_v H D F T r) (h : ∀ d, d < D → L d = 0) {d : Nat} (hd : d < D) : fl_q D F T L d = 0 := fl_q_off hv hd (fl_on_z (h d hd))
theorem fl_a_z {H D : Nat} {F T r L : Nat → Nat} (hv : fl_v H D F T r) (h : ∀ d, d < D → L d = 0) (i : Nat) : fl_a D F T L i = 0 := fl_s_0 D (fun d hd => by
  rw [fl_q_z hv h hd]; split <;> rfl)
theorem fl_r_z {D : Nat} {F T q : Nat → Nat} {S : Nat → Bool} (h : ∀ d, d < D → q d = 0) (j : Nat) : fl_r D F T q S j = S j := by
  have key : (fl_r D F T q S j = true ↔ S j = true) := by
    show fl_R D F T q S (7 + 1) j = true ↔ _
    rw [fl_R_s]
    constructor
    · rintro (h1 | ⟨d, a1, a2, -⟩)
      · exact h1
      · have := h d a1; omega
    · exact Or.inl
  exact Bool.eq_iff_iff.mpr key
theorem pf_q_le {P : sg_P} (hv : vp_p P) (o f w : Int32) {d : Nat} (hd : d < P 7 1) : pf_q P o f w d ≤ 500 := fl_q_le (pf_flv _ hv) (fun _ h => pf_L_le hv o f w h) hd
theorem pf_a_le {P : sg_P} (hv : vp_p P) (o f w : Int32) {i : Nat} (hi : i < P 7 0) : pf_a P o f w i ≤ 500 := fl_a_le (pf_flv _ hv) (fun _ h => pf_L_le hv o f w h) hi
theorem pf_q_0 {P : sg_P} (hv : vp_p P) (o f : Int32) {d : Nat} (hd : d < P 7 1) : pf_q P o f 0 d = 0 := fl_q_z (pf_flv _ hv) (fun d _ => pf_L_0 P o f d) hd
theorem pf_a_0 {P : sg_P} (hv : vp_p P) (o f : Int32) (i : Nat) : pf_a P o f 0 i = 0 := fl_a_z (pf_flv _ hv) (fun d _ => pf_L_0 P o f d) i
theorem pf_r_0 {P : sg_P} (hv : vp_p P) (o f : Int32) (S : Nat → Bool) (j : Nat) : pf_r P o f 0 S j = S j := fl_r_z (fun _ hd => pf_q_0 hv o f hd) j
/-- any way of the winds does, if no air goes -/
theorem pf_a_u {P : sg_P} (hv : vp_p P) {o f w : Int32} {u : Bool} (h : w = 0 ∨ u = pf_u w) (i : Nat) : fl_a (P 7 1) (pf_fr P u) (pf_to P u) (pf_L P o f w) i = pf_a P o f w i := by
  rcases h with rfl | rfl
  · rw [pf_a_0 hv, fl_a_z (pf_flv u hv) (fun d _ => pf_L_0 P o f d)]
  · rfl
theorem pf_q_u {P : sg_P} (hv : vp_p P) {o f w : Int32} {u : Bool} (h : w = 0 ∨ u = pf_u w) {d : Nat} (hd : d < P 7 1) : fl_q (P 7 1) (pf_fr P u) (pf_to P u) (pf_L P o f w) d = pf_q P o f w d := by
  rcases h with rfl | rfl
  · rw [pf_q_0 hv _ _ hd, fl_q_z (pf_flv u hv) (fun d _ => pf_L_0 P o f d) hd]
  · rfl
theorem pf_r_u {P : sg_P} (hv : vp_p P) {o f w : Int32} {u : Bool} (h : w = 0 ∨ u = pf_u w) (S : Nat → Bool) (j : Nat) : fl_r (P 7 1) (pf_fr P u) (pf_to P u) (pf_q P o f w) S j = pf_r P o f w S j := by
  rcases h with rfl | rfl
  · rw [pf_r_0 hv, fl_r_z (fun _ hd => pf_q_0 hv o f hd)]
  · rfl
theorem pf_uc {w : Int32} (hw : w = 0 ∨ w = 1 ∨ w = 2) : w = 0 ∨ decide (w ≠ 2) = pf_u w := by
  rcases hw with rfl | rfl | rfl
  · exact Or.inl rfl
  · exact Or.inr (by decide)
  · exact Or.inr (by decide)
def cb_x (p : Nat) (w : Int32) : Nat := if w = 2 then p + 14 else p + 8
/-- an hour's air as the class has it -/
def cb_ok (P : sg_P) (o f w : Int32) (p : Nat) (A : am_F) (G : am_G) : Prop := G 58 4 = cb_x p w ∧ (∀ i, i < P 7 0 → A 59 i = nI (pf_a P o f w i)) ∧ ∀ d, d < P 7 1 → A 60 d = nI (pf_q P o f w d)
theorem cb_wd {P : sg_P} {p : Nat} {w : Int32} {I A : am_F} (h : wd_both P p I A) : ∃ pl, wd_ok P (decide (w ≠ 2)) (cb_x p w) pl I A := by
  unfold cb_x
  by_cases h2 : w = 2
  · rw [if_pos h2, decide_eq_false (fun q => q h2)]; exact h.2
  · rw [if_neg h2, decide_eq_true h2]; exact h.1
theorem cb_xc {p : Nat} {w : Int32} (hpp : p = 5 ∨ p = 25) : cb_x p w = 13 ∨ cb_x p w = 19 ∨ cb_x p w = 33 ∨ cb_x p w = 39 := by
  unfold cb_x; split <;> omega
theorem e_X0_blow {p : Nat} {P : sg_P} {o f w : Int32} {I A : am_F} {G : am_G} (hpp : p = 5 ∨ p = 25) (hv : vp_p P) (h8 : am_hb f 8 = false) (hw : w = 0 ∨ w = 1 ∨ w = 2) (hp : cr_p p P I A) (hwd : wd_both P p I A) : ∃ A' : am_F, am_e 0 0 [.ref 58, .ref p, .int o, .int f, .int w, .null, .null] [] I A G = some (.null, I, A', am_u G 58 4 (cb_x p w)) ∧ (∀ b, ¬ (59 ≤ b ∧ b ≤ 62) → A' b = A b) ∧ cb_ok P o f w p A' (am_u G 58 4 (cb_x p w)) := by
  have hD := hv.2.1
  have hH := hv.1.2
  obtain ⟨pl, hwk⟩ := cb_wd (w := w) hwd
  have hfv := pf_flv (decide (w ≠ 2)) hv
  have hLb := fun (d : Nat) (h : d < P 7 1) => pf_L_le hv o f w h
  have hxc := cb_xc (w := w) hpp
  have hG1 : am_u G 58 4 (cb_x p w) 58 4 = cb_x p w := am_u_eq _ _ _ _
  have e0 : am_e 0 0 [.ref 58, .ref p, .int o, .int f, .int w, .null, .null] [] I A G = am_e 0 24 [.ref 58, .ref p, .int o, .int f, .int w, .int (nI 0), .null] [] I A (am_u G 58 4 (cb_x p w)) := by
    unfold cb_x
    by_cases h2 : w = 2
    · rcases hpp with rfl | rfl <;> (simp only [s_X0_blow_0, s_X0_blow_1, s_X0_blow_3, s_X0_blow_4, s_X0_blow_7, s_X0_blow_8_at5, s_X0_blow_8_at25, s_X0_blow_11, s_X0_blow_14, s_X0_blow_15_at5, s_X0_blow_15_at25, s_X0_blow_18, s_X0_blow_21, s_X0_blow_22, h2, if_true, Nat.reduceAdd]; rfl)
    · rcases hpp with rfl | rfl <;> (simp only [s_X0_blow_0, s_X0_blow_1, s_X0_blow_3, s_X0_blow_4, s_X0_blow_7, s_X0_blow_8_at5, s_X0_blow_8_at25, s_X0_blow_11, s_X0_blow_14, s_X0_blow_15_at5, s_X0_blow_15_at25, s_X0_blow_18, s_X0_blow_21, s_X0_blow_22, h2, if_false, Nat.reduceAdd]; rfl)
  generalize am_u G 58 4 (cb_x p w) = G1 at *
  generalize hx : cb_x p w = x at *
  obtain ⟨w1, w2, w3, w4, w5, w6, w7, w8⟩ := id hwk
  have hdl := wd_dl hv w4 w5
  have hps := wd_ps hv w4 w5
  have hmem : ∀ a, a ∈ pl → a < P 7 0 := fun a ha => List.mem_range.mp (w4.mem_iff.mp ha)
  have hlen : pl.length = P 7 0 := by rw [w4.length_eq, List.length_range]
  obtain ⟨A1, g1, a1, a2, a3⟩ := X0_lets (o := o) (w := w) (I := I) (G := G1) hpp hv h8 (P 7 1) 0 .null A (by omega) hp (fun e he => by omega)
  obtain ⟨A2, b1, b2, b3⟩ := e_J7_fill9 (a := 59) (v := 0) (I := I) (A := A1) (G := G1) (by omega)
  obtain ⟨A3, c1, c2, c3⟩ := e_J7_fill9 (a := 62) (v := 0) (I := I) (A := A2) (G := G1) (by omega)
  have hA3 : ∀ b, b ≠ 59 → b ≠ 61 → b ≠ 62 → A3 b = A b := fun b q1 q2 q3 => by rw [c2 b q3, b2 b q1, a2 b q2]
  obtain ⟨A4, d1, d2, d3, d4⟩ := X0_shut (I := I) (L := pf_L P o f w) hxc hG1 hfv hLb hdl (P 7 1) 256 .null A3 (Nat.le_refl _) (fun d hd => by rw [hA3 _ (by omega) (by omega) (by omega), hA3 _ (by omega) (by omega) (by omega)]; exact w3 d hd) (fun k hk => by rw [hA3 _ (by omega) (by omega) (by omega)]; exact w7 k (by rw [hdl.2.2.1]; exact hk)) (by
    have hdr : List.drop (P 7 1) ((8 :: pl).flatMap (pf_sg (pf_fr P (decide (w ≠ 2))) (P 7 1))) = [] := List.drop_eq_nil_of_le (by rw [hdl.2.2.1]; exact Nat.le_refl _)
    rw [hdr]
    refine ⟨by decide, fun i hi => ?_, fun d hd => ?_, fun i hi => ?_⟩
    · rw [am_hb_256 (by omega)]
      constructor
      · intro q
        have := of_decide_eq_true q
        omega
      · rintro ⟨d, q, -⟩
        cases q
    · rw [if_neg (fun q => by cases q), c2 61 (by omega), b2 61 (by omega)]
      exact a3 d hd
    · rw [c3 i hi, fl_s_0 _ (fun d _ => if_neg (fun q => by cases q.2))]; rfl)
  generalize hA5 : am_u A4 59 8 (nI (fl_tot (P 7 1) (pf_fr P (decide (w ≠ 2))) (pf_to P (decide (w ≠ 2))) (pf_L P o f w) 8)) = A5
  have hA5' : ∀ b, b ≠ 59 → A5 b = A4 b := fun b hb => by rw [← hA5, am_u_ne hb]
  have hA5n : ∀ b, b ≠ 59 → b ≠ 61 → b ≠ 62 → A5 b = A b := fun b q1 q2 q3 => by rw [hA5' b q1, d2 b q2 q3, hA3 b q1 q2 q3]
  obtain ⟨A6, k1, k2, k3, k4⟩ := X0_blowLoop (p := p) (o := .int o) (f := .int f) (w := .int w) (I := I) (ps := 8 :: pl) (L := pf_L P o f w) hxc hG1 hfv hLb hps hdl.2.2.1 (by rw [List.length_cons, hlen]) w1 ⟨pl, rfl, hmem⟩ (P 7 0 + 1) 0 g1 A5 (by omega) (fun d hd => by rw [hA5n _ (by omega) (by omega) (by omega)]; exact (w3 d hd).2) (fun k hk => by rw [hA5n _ (by omega) (by omega) (by omega)]; exact w6 k hk) (fun k hk => by rw [hA5n _ (by omega) (by omega) (by omega)]; exact w7 k (by rw [hdl.2.2.1]; exact hk)) (fun k hk => by rw [hA5n _ (by omega) (by omega) (by omega)]; exact w8 k hk) (fun d hd => by rw [hA5' _ (by omega)]; exact d3 d hd) (fun i hi => by rw [hA5' _ (by omega)]; exact d4 i hi) (by
    rw [List.take_zero]
    refine ⟨fun d _ q => (by cases q), fun i hi => ?_⟩
    rw [fl_s_0 _ (fun d _ => if_neg (fun q => by cases q.1)), Nat.add_zero, ← hA5, am_u_at]
    by_cases hi8 : i = 8
    · rw [if_pos ⟨rfl, hi8⟩, if_pos hi8]
    · rw [if_neg (fun q => hi8 q.2), if_neg hi8, d2 59 (by omega) (by omega), c2 59 (by omega), b3 i hi]; rfl)
  refine ⟨A6, ?_, fun b hb => by rw [k2 b (by omega) (by omega), hA5n b (by omega) (by omega) (by omega)], hG1.trans hx.symm, fun i hi => ?_, fun d hd => ?_⟩
  · rw [e0, a1]
    have s1 : am_e 1 0 [.ref 58, .null, .null, .null] [] I A3 G1 = some (.null, I, A4, G1) := by
      rw [← d1]
      rcases hxc with rfl | rfl | rfl | rfl <;> simp only [s_X0_shutDeadEnds_0, s_X0_shutDeadEnds_3, s_X0_shutDeadEnds_4, s_X0_shutDeadEnds_5, s_X0_shutDeadEnds_8_at13, s_X0_shutDeadEnds_8_at19, s_X0_shutDeadEnds_8_at33, s_X0_shutDeadEnds_8_at39, s_X0_shutDeadEnds_11, s_X0_shutDeadEnds_12, s_X0_shutDeadEnds_13, hG1, w2]
    have d48 := d4 8 (by omega)
    have c8 : (8 : Int32).toNatClampNeg = 8 := by decide
    have x8 : ((8 : Int32) < 0 ∨ 9 ≤ 8) = False := by decide
    simp only [s_X0_blow_104, s_X0_blow_105, s_X0_blow_108, s_X0_blow_109, s_X0_blow_112, s_X0_blow_113, s_X0_blow_116, s_X0_blow_117, s_X0_blow_120, s_X0_blow_121, s_X0_blow_124, s_X0_blow_125, s_X0_blow_128, s_X0_blow_130, s_X0_blow_131, s_X0_blow_134, s_X0_blow_136, s_X0_blow_137, s_X0_blow_138, s_X0_blow_139, b1, c1, s1, am_k_some, am_push_n, am_len_59, am_len_62, c8, x8, if_false, d48, hA5]
    exact k1
  · rw [k4 i (by omega), if_neg (by omega), Nat.zero_add, ← pf_a_u hv (pf_uc hw)]
    congr 1
    refine fl_s_c _ (fun d hd => ?_)
    by_cases hT : pf_to P (decide (w ≠ 2)) d = i
    · rw [if_pos hT, if_pos ⟨hps.2.1 d hd, hT⟩]
    · rw [if_neg hT, if_neg (fun q => hT q.2)]
  · rw [k3 d hd (hps.2.1 d hd), ← pf_q_u hv (pf_uc hw) hd]
theorem X0_carry {x H D : Nat} {F T q r : Nat → Nat} {dl : List Nat} {X : Int32} {I A : am_F} {G : am_G} (hx : x = 13 ∨ x = 19 ∨ x = 33 ∨ x = 39) (hG : G 58 4 = x) (hv : fl_v H D F T r) (hq : ∀ d, d < D → q d ≤ 500) (hdl : dl_ok D F T dl) (hX : am_hb X 8 = false) (hI : I x 6 = nI D) (hW : ∀ d, d < D → A (x + 1) d = nI (F d) ∧ A (x + 2) d = nI (T d)) (hK : ∀ k, k < D → A (x + 4) k = nI (dl.getD k 0)) (h60 : ∀ d, d < D → A 60 d = nI (q d)) : ∀ (s n : Nat) (Y : Int32) (g : Value), n + s = D → (∀ j, j < H → (am_hb Y j = true ↔ am_hb X j = true ∨ ∃ d, d ∈ dl.take n ∧ 0 < q d ∧ F d ≠ 8 ∧ T d = j ∧ fl_r D F T q (am_hb X) (F d) = true)) → (∀ j, H ≤ j → j < 32 → am_hb Y j = am_hb X j) → ∃ Y' : Int32, am_e 3 4 [.ref 58, .int X, .int Y, .int (nI n), g] [] I A G = some (.int Y', I, A, G) ∧ (∀ j, j < H → am_hb Y' j = fl_r D F T q (am_hb X) j) ∧ ∀ j, H ≤ j → j < 32 → am_hb Y' j = am_hb X j := by
  have hH := hv.1
  have hD := hv.2.1
  intro s
  induction s with
  | zero =>
    intro n Y g hn h1 h2
    have : n = D := by omega
    subst this
    refine ⟨Y, ?_, fun j hj => ?_, h2⟩
    · refine (s_X0_carriedFrom_4).trans ?_
      rcases hx with rfl | rfl | rfl | rfl <;> simp only [s_X0_carriedFrom_5, s_X0_carriedFrom_6, s_X0_carriedFrom_9_at13, s_X0_carriedFrom_9_at19, s_X0_carriedFrom_9_at33, s_X0_carriedFrom_9_at39, s_X0_carriedFrom_12, s_X0_carriedFrom_90, s_X0_carriedFrom_91, hG, hI, Int32.le_refl, if_true]
    · apply Bool.eq_iff_iff.mpr
      rw [h1 j hj, fl_r_eq hv hj, List.take_of_length_le (by rw [hdl.2.2.1]; exact Nat.le_refl _)]
      constructor
      · rintro (h | ⟨d, a1, a2⟩)
        · exact Or.inl h
        · exact Or.inr ⟨d, (hdl.1 d).mp a1, a2⟩
      · rintro (h | ⟨d, a1, a2⟩)
        · exact Or.inl h
        · exact Or.inr ⟨d, (hdl.1 d).mpr a1, a2⟩
  | succ s ih =>
    intro n Y g hn h1 h2
    obtain ⟨d, k1, k2, k3, k4, k5, k6, k7, k8, k9, k10, k11⟩ := dl_cut hdl (show n < D by omega)
    obtain ⟨b1, b2, b3, b4⟩ := hv.2.2.2 d k2
    have dA := hK n (by omega)
    rw [k1] at dA
    obtain ⟨fA, tA⟩ := hW d k2
    have qA := h60 d k2
    have hq5 := hq d k2
    have hbit : am_hb Y (F d) = true ↔ F d ≠ 8 ∧ fl_r D F T q (am_hb X) (F d) = true := by
      rcases b1 with b1 | b1
      · rw [h1 _ b1, fl_r_eq hv b1]
        constructor
        · rintro (h | ⟨e, a1, a2⟩)
          · exact ⟨by omega, Or.inl h⟩
          · exact ⟨by omega, Or.inr ⟨e, k10 e a1, a2⟩⟩
        · rintro ⟨-, h | ⟨e, a1, a2, a3, a4, a5⟩⟩
          · exact Or.inl h
          · refine Or.inr ⟨e, ?_, a2, a3, a4, a5⟩
            rcases k7 e a1 with w | w | w
            · exact w
            · subst w
              exact absurd a4 (fl_T_F hv k2)
            · exact absurd a4 (k9 e w (by omega))
      · rw [b1, h2 8 hH (by omega), hX]
        exact ⟨fun w => (by cases w), fun w => absurd rfl w.1⟩
    have hn' : (nI D ≤ nI n) = False := eq_false (by rw [nI_leI (by omega) (by omega)]; omega)
    have cN := nI_clamp (show n < 2 ^ 31 by omega)
    have xN := am_ixF (show n < 10 by omega) (show 10 < 2 ^ 31 by omega)
    have cd := nI_clamp (show d < 2 ^ 31 by omega)
    have xd := am_ixF (show d < 10 by omega) (show 10 < 2 ^ 31 by omega)
    have hq0 := am_nle0 (n := q d) (by omega)
    have ht8 : (nI (T d) = 8) = (T d = 8) := propext (nI_eq (a := T d) (b := 8) (by omega) (by omega))
    have hmem : ∀ e, e ∈ dl.take (n + 1) ↔ e ∈ dl.take n ∨ e = d := fun e => by rw [k4, List.mem_append, List.mem_singleton]
    by_cases hc : 0 < q d ∧ T d ≠ 8 ∧ am_hb Y (F d) = true
    · obtain ⟨hc1, hc2, hc3⟩ := hc
      have hr := hbit.mp hc3
      have hTH := b2.resolve_right hc2
      obtain ⟨Y', f1, f2, f3⟩ := ih (n + 1) (Y ||| ((1 : Int32) <<< (nI (T d) &&& 31))) (.int (nI d)) (by omega) (fun j hj => by
        rw [am_hb_or (by omega) (by omega), Bool.or_eq_true, h1 j hj, decide_eq_true_iff]
        constructor
        · rintro ((h | ⟨e, a1, a2⟩) | h)
          · exact Or.inl h
          · exact Or.inr ⟨e, (hmem e).mpr (Or.inl a1), a2⟩
          · exact Or.inr ⟨d, (hmem d).mpr (Or.inr rfl), hc1, hr.1, h.symm, hr.2⟩
        · rintro (h | ⟨e, a1, a2, a3, a4, a5⟩)
          · exact Or.inl (Or.inl h)
          · rcases (hmem e).mp a1 with w | w
            · exact Or.inl (Or.inr ⟨e, w, a2, a3, a4, a5⟩)
            · subst w; exact Or.inr a4.symm) (fun j h3 h4 => by
        rw [am_hb_or (by omega) (by omega), decide_eq_false (by omega), Bool.or_false]
        exact h2 j h3 h4)
      refine ⟨Y', ?_, f2, f3⟩
      rw [← f1]
      refine (s_X0_carriedFrom_4).trans ?_
      have hq0 := hq0.trans (eq_false (by omega))
      have ht8 := ht8.trans (eq_false hc2)
      rcases hx with rfl | rfl | rfl | rfl <;>
      (simp only [Nat.reduceAdd] at dA tA fA
       simp only [s_X0_carriedFrom_5, s_X0_carriedFrom_6, s_X0_carriedFrom_9_at13, s_X0_carriedFrom_9_at19, s_X0_carriedFrom_9_at33, s_X0_carriedFrom_9_at39, s_X0_carriedFrom_12, s_X0_carriedFrom_15, s_X0_carriedFrom_16, s_X0_carriedFrom_19_at13, s_X0_carriedFrom_19_at19, s_X0_carriedFrom_19_at33, s_X0_carriedFrom_19_at39, s_X0_carriedFrom_22, s_X0_carriedFrom_23, s_X0_carriedFrom_24, s_X0_carriedFrom_26, s_X0_carriedFrom_27, s_X0_carriedFrom_30, s_X0_carriedFrom_32, s_X0_carriedFrom_33, s_X0_carriedFrom_36, s_X0_carriedFrom_37, s_X0_carriedFrom_40_at13, s_X0_carriedFrom_40_at19, s_X0_carriedFrom_40_at33, s_X0_carriedFrom_40_at39, s_X0_carriedFrom_43, s_X0_carriedFrom_45, s_X0_carriedFrom_46, s_X0_carriedFrom_48, s_X0_carriedFrom_51, s_X0_carriedFrom_52, s_X0_carriedFrom_53, s_X0_carriedFrom_56_at13, s_X0_carriedFrom_56_at19, s_X0_carriedFrom_56_at33, s_X0_carriedFrom_56_at39, s_X0_carriedFrom_59, s_X0_carriedFrom_61, s_X0_carriedFrom_62, s_X0_carriedFrom_65, s_X0_carriedFrom_66, s_X0_carriedFrom_69, s_X0_carriedFrom_70, s_X0_carriedFrom_71, s_X0_carriedFrom_72, s_X0_carriedFrom_75_at13, s_X0_carriedFrom_75_at19, s_X0_carriedFrom_75_at33, s_X0_carriedFrom_75_at39, s_X0_carriedFrom_78, s_X0_carriedFrom_80, s_X0_carriedFrom_81, s_X0_carriedFrom_82, s_X0_carriedFrom_83, s_X0_carriedFrom_84, s_X0_carriedFrom_87, hG, hI, hn', am_len_17, am_len_23, am_len_37, am_len_43, am_len_15, am_len_21, am_len_35, am_len_41, am_len_14, am_len_20, am_len_34, am_len_40, am_len_60, if_false, cN, xN, dA, cd, xd, qA, hq0, tA, ht8, fA, e_X6_bitOf, am_hb_d, hc3, am_k_some, am_push_i, am_bi_1, if_true, am_add1])
    · have same : ∀ e, e ∈ dl.take (n + 1) → 0 < q e → F e ≠ 8 → T e < H → fl_r D F T q (am_hb X) (F e) = true → e ∈ dl.take n := by
        intro e a1 a2 a3 a4 a5
        rcases (hmem e).mp a1 with w | w
        · exact w
        · subst w
          exact absurd ⟨a2, by omega, hbit.mpr ⟨a3, a5⟩⟩ hc
      obtain ⟨Y', f1, f2, f3⟩ := ih (n + 1) Y (.int (nI d)) (by omega) (fun j hj => by
        rw [h1 j hj]
        constructor
        · rintro (h | ⟨e, a1, a2⟩)
          · exact Or.inl h
          · exact Or.inr ⟨e, (hmem e).mpr (Or.inl a1), a2⟩
        · rintro (h | ⟨e, a1, a2, a3, a4, a5⟩)
          · exact Or.inl h
          · exact Or.inr ⟨e, same e a1 a2 a3 (by omega) a5, a2, a3, a4, a5⟩) h2
      refine ⟨Y', ?_, f2, f3⟩
      rw [← f1]
      refine (s_X0_carriedFrom_4).trans ?_
      by_cases hz : q d = 0
      · have hq0 := hq0.trans (eq_true hz)
        rcases hx with rfl | rfl | rfl | rfl <;>
        (simp only [Nat.reduceAdd] at dA tA fA
         simp only [s_X0_carriedFrom_5, s_X0_carriedFrom_6, s_X0_carriedFrom_9_at13, s_X0_carriedFrom_9_at19, s_X0_carriedFrom_9_at33, s_X0_carriedFrom_9_at39, s_X0_carriedFrom_12, s_X0_carriedFrom_15, s_X0_carriedFrom_16, s_X0_carriedFrom_19_at13, s_X0_carriedFrom_19_at19, s_X0_carriedFrom_19_at33, s_X0_carriedFrom_19_at39, s_X0_carriedFrom_22, s_X0_carriedFrom_23, s_X0_carriedFrom_24, s_X0_carriedFrom_26, s_X0_carriedFrom_27, s_X0_carriedFrom_30, s_X0_carriedFrom_32, s_X0_carriedFrom_33, s_X0_carriedFrom_36, s_X0_carriedFrom_37, s_X0_carriedFrom_40_at13, s_X0_carriedFrom_40_at19, s_X0_carriedFrom_40_at33, s_X0_carriedFrom_40_at39, s_X0_carriedFrom_43, s_X0_carriedFrom_45, s_X0_carriedFrom_46, s_X0_carriedFrom_48, s_X0_carriedFrom_51, s_X0_carriedFrom_52, s_X0_carriedFrom_53, s_X0_carriedFrom_56_at13, s_X0_carriedFrom_56_at19, s_X0_carriedFrom_56_at33, s_X0_carriedFrom_56_at39, s_X0_carriedFrom_59, s_X0_carriedFrom_61, s_X0_carriedFrom_62, s_X0_carriedFrom_65, s_X0_carriedFrom_66, s_X0_carriedFrom_69, s_X0_carriedFrom_70, s_X0_carriedFrom_71, s_X0_carriedFrom_72, s_X0_carriedFrom_75_at13, s_X0_carriedFrom_75_at19, s_X0_carriedFrom_75_at33, s_X0_carriedFrom_75_at39, s_X0_carriedFrom_78, s_X0_carriedFrom_80, s_X0_carriedFrom_81, s_X0_carriedFrom_82, s_X0_carriedFrom_83, s_X0_carriedFrom_84, s_X0_carriedFrom_87, hG, hI, hn', am_len_17, am_len_23, am_len_37, am_len_43, am_len_60, if_false, cN, xN, dA, cd, xd, qA, hq0, if_true, am_add1])
      · have hq0 := hq0.trans (eq_false hz)
        by_cases ht : T d = 8
        · have ht8 := ht8.trans (eq_true ht)
          rcases hx with rfl | rfl | rfl | rfl <;>
          (simp only [Nat.reduceAdd] at dA tA fA
           simp only [s_X0_carriedFrom_5, s_X0_carriedFrom_6, s_X0_carriedFrom_9_at13, s_X0_carriedFrom_9_at19, s_X0_carriedFrom_9_at33, s_X0_carriedFrom_9_at39, s_X0_carriedFrom_12, s_X0_carriedFrom_15, s_X0_carriedFrom_16, s_X0_carriedFrom_19_at13, s_X0_carriedFrom_19_at19, s_X0_carriedFrom_19_at33, s_X0_carriedFrom_19_at39, s_X0_carriedFrom_22, s_X0_carriedFrom_23, s_X0_carriedFrom_24, s_X0_carriedFrom_26, s_X0_carriedFrom_27, s_X0_carriedFrom_30, s_X0_carriedFrom_32, s_X0_carriedFrom_33, s_X0_carriedFrom_36, s_X0_carriedFrom_37, s_X0_carriedFrom_40_at13, s_X0_carriedFrom_40_at19, s_X0_carriedFrom_40_at33, s_X0_carriedFrom_40_at39, s_X0_carriedFrom_43, s_X0_carriedFrom_45, s_X0_carriedFrom_46, s_X0_carriedFrom_48, s_X0_carriedFrom_51, s_X0_carriedFrom_52, s_X0_carriedFrom_53, s_X0_carriedFrom_56_at13, s_X0_carriedFrom_56_at19, s_X0_carriedFrom_56_at33, s_X0_carriedFrom_56_at39, s_X0_carriedFrom_59, s_X0_carriedFrom_61, s_X0_carriedFrom_62, s_X0_carriedFrom_65, s_X0_carriedFrom_66, s_X0_carriedFrom_69, s_X0_carriedFrom_70, s_X0_carriedFrom_71, s_X0_carriedFrom_72, s_X0_carriedFrom_75_at13, s_X0_carriedFrom_75_at19, s_X0_carriedFrom_75_at33, s_X0_carriedFrom_75_at39, s_X0_carriedFrom_78, s_X0_carriedFrom_80, s_X0_carriedFrom_81, s_X0_carriedFrom_82, s_X0_carriedFrom_83, s_X0_carriedFrom_84, s_X0_carriedFrom_87, hG, hI, hn', am_len_17, am_len_23, am_len_37, am_len_43, am_len_15, am_len_21, am_len_35, am_len_41, am_len_60, if_false, cN, xN, dA, cd, xd, qA, hq0, tA, ht8, if_true, am_add1])
        · have ht8 := ht8.trans (eq_false ht)
          have hb : am_hb Y (F d) = false := Bool.eq_false_iff.mpr (fun w => hc ⟨by omega, ht, w⟩)
          rcases hx with rfl | rfl | rfl | rfl <;>
          (simp only [Nat.reduceAdd] at dA tA fA
           simp only [s_X0_carriedFrom_5, s_X0_carriedFrom_6, s_X0_carriedFrom_9_at13, s_X0_carriedFrom_9_at19, s_X0_carriedFrom_9_at33, s_X0_carriedFrom_9_at39, s_X0_carriedFrom_12, s_X0_carriedFrom_15, s_X0_carriedFrom_16, s_X0_carriedFrom_19_at13, s_X0_carriedFrom_19_at19, s_X0_carriedFrom_19_at33, s_X0_carriedFrom_19_at39, s_X0_carriedFrom_22, s_X0_carriedFrom_23, s_X0_carriedFrom_24, s_X0_carriedFrom_26, s_X0_carriedFrom_27, s_X0_carriedFrom_30, s_X0_carriedFrom_32, s_X0_carriedFrom_33, s_X0_carriedFrom_36, s_X0_carriedFrom_37, s_X0_carriedFrom_40_at13, s_X0_carriedFrom_40_at19, s_X0_carriedFrom_40_at33, s_X0_carriedFrom_40_at39, s_X0_carriedFrom_43, s_X0_carriedFrom_45, s_X0_carriedFrom_46, s_X0_carriedFrom_48, s_X0_carriedFrom_51, s_X0_carriedFrom_52, s_X0_carriedFrom_53, s_X0_carriedFrom_56_at13, s_X0_carriedFrom_56_at19, s_X0_carriedFrom_56_at33, s_X0_carriedFrom_56_at39, s_X0_carriedFrom_59, s_X0_carriedFrom_61, s_X0_carriedFrom_62, s_X0_carriedFrom_65, s_X0_carriedFrom_66, s_X0_carriedFrom_69, s_X0_carriedFrom_70, s_X0_carriedFrom_71, s_X0_carriedFrom_72, s_X0_carriedFrom_75_at13, s_X0_carriedFrom_75_at19, s_X0_carriedFrom_75_at33, s_X0_carriedFrom_75_at39, s_X0_carriedFrom_78, s_X0_carriedFrom_80, s_X0_carriedFrom_81, s_X0_carriedFrom_82, s_X0_carriedFrom_83, s_X0_carriedFrom_84, s_X0_carriedFrom_87, hG, hI, hn', am_len_17, am_len_23, am_len_37, am_len_43, am_len_15, am_len_21, am_len_35, am_len_41, am_len_14, am_len_20, am_len_34, am_len_40, am_len_60, if_false, cN, xN, dA, cd, xd, qA, hq0, tA, ht8, fA, e_X6_bitOf, am_hb_d, hb, am_k_some, am_push_i, am_bi_1, Bool.false_eq_true, am_add1])
/-- the class's halls reached from halls X, by the air that was laid last -/
theorem e_X0_carriedFrom {p : Nat} {P : sg_P} {o f w X : Int32} {I A : am_F} {G : am_G} (hpp : p = 5 ∨ p = 25) (hv : vp_p P) (hw : w = 0 ∨ w = 1 ∨ w = 2) (hwd : wd_both P p I A) (hcb : cb_ok P o f w p A G) (hX : am_hb X 8 = false) : ∃ Y : Int32, am_e 3 0 [.ref 58, .int X, .null, .null, .null] [] I A G = some (.int Y, I, A, G) ∧ (∀ j, j < P 7 0 → am_hb Y j = pf_r P o f w (am_hb X) j) ∧ ∀ j, P 7 0 ≤ j → j < 32 → am_hb Y j = am_hb X j := by
  obtain ⟨h1, h2, h3⟩ := hcb
  obtain ⟨pl, w1, w2, w3, w4, w5, w6, w7, w8⟩ := cb_wd (w := w) hwd
  have hdl := wd_dl hv w4 w5
  obtain ⟨Y, f1, f2, f3⟩ := X0_carry (q := pf_q P o f w) (I := I) (A := A) (cb_xc (w := w) hpp) h1 (pf_flv _ hv) (fun d hd => pf_q_le hv o f w hd) hdl hX w2 w3 (fun k hk => w7 k (by rw [hdl.2.2.1]; exact hk)) h3 (P 7 1) 0 X .null (by omega) (fun j hj => by
    rw [List.take_zero]
    exact ⟨Or.inl, fun q => q.elim id (fun ⟨_, q, _⟩ => by cases q)⟩) (fun j _ _ => rfl)
  refine ⟨Y, ?_, fun j hj => by rw [f2 j hj, pf_r_u hv (pf_uc hw)], f3⟩
  rw [← f1]
  simp only [s_X0_carriedFrom_0, s_X0_carriedFrom_1, s_X0_carriedFrom_2, s_X0_carriedFrom_3]
  rfl
