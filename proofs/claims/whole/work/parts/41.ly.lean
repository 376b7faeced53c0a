/-! ===== the class: a plan settles; lay ===== -/
/-- both winds of the plan p -/
def wd_both (P : sg_P) (p : Nat) (I A : am_F) : Prop := (∃ pl, wd_ok P true (p + 8) pl I A) ∧ ∃ pl, wd_ok P false (p + 14) pl I A
theorem wd_ok.fr {P : sg_P} {u : Bool} {x : Nat} {pl : List Nat} {I A I' A' : am_F} (h : wd_ok P u x pl I A) (hI : ∀ j, I' x j = I x j) (hA : ∀ b, x < b → b ≤ x + 5 → A' b = A b) : wd_ok P u x pl I' A' := by
  obtain ⟨h1, h2, h3, h4, h5, h6, h7, h8⟩ := h
  refine ⟨by rw [hI]; exact h1, by rw [hI]; exact h2, fun d hd => ?_, h4, h5, fun k hk => ?_, fun k hk => ?_, fun k hk => ?_⟩
  · rw [hA (x + 1) (by omega) (by omega), hA (x + 2) (by omega) (by omega)]; exact h3 d hd
  · rw [hA (x + 3) (by omega) (by omega)]; exact h6 k hk
  · rw [hA (x + 4) (by omega) (by omega)]; exact h7 k hk
  · rw [hA (x + 5) (by omega) (by omega)]; exact h8 k hk
theorem wd_both.fr {P : sg_P} {p : Nat} {I A I' A' : am_F} (h : wd_both P p I A) (hI : ∀ a j, p + 8 ≤ a → a ≤ p + 19 → I' a j = I a j) (hA : ∀ b, p + 8 ≤ b → b ≤ p + 19 → A' b = A b) : wd_both P p I' A' := by
  obtain ⟨⟨pl, h1⟩, ⟨pl2, h2⟩⟩ := h
  exact ⟨⟨pl, h1.fr (fun j => hI _ j (by omega) (by omega)) (fun b h3 h4 => hA b (by omega) (by omega))⟩, ⟨pl2, h2.fr (fun j => hI _ j (by omega) (by omega)) (fun b h3 h4 => hA b (by omega) (by omega))⟩⟩
theorem e_X2_settle {p : Nat} {P : sg_P} {I A : am_F} {G : am_G} (hpp : p = 5 ∨ p = 25) (hv : vp_p P) (hp : cr_p p P I A) : ∃ I' A' : am_F, am_e 14 0 [.ref p] [] I A G = some (.null, I', A', G) ∧ (∀ a j, a ≠ p + 8 → a ≠ p + 14 → I' a j = I a j) ∧ (∀ b, ¬ (p + 8 < b ∧ b ≤ p + 19) → A' b = A b) ∧ wd_both P p I' A' := by
  have hx1 : wd_px p (p + 8) := by unfold wd_px; omega
  have hx2 : wd_px p (p + 14) := by unfold wd_px; omega
  obtain ⟨I1, A1, pl1, e1, e2, e3, e4⟩ := e_X5_follow (u := true) (G := G) hx1 hv hp
  have hp1 : cr_p p P I1 A1 := hp.fr (fun j => e2 p j (by omega)) (fun a h1 h2 => e3 a (by omega))
  obtain ⟨I2, A2, pl2, f1, f2, f3, f4⟩ := e_X5_follow (u := false) (G := G) hx2 hv hp1
  refine ⟨I2, A2, ?_, fun a j h1 h2 => by rw [f2 a j h2, e2 a j h1], fun b hb => by rw [f3 b (by omega), e3 b (by omega)], ⟨pl1, e4.fr (fun j => f2 _ j (by omega)) (fun b h1 h2 => f3 b (by omega))⟩, ⟨pl2, f4⟩⟩
  rcases hpp with rfl | rfl <;>
  (simp only [Nat.reduceAdd, am_bi] at e1 f1
   simp only [s_X2_settle_0, s_X2_settle_1_at5, s_X2_settle_1_at25, s_X2_settle_4, s_X2_settle_5, s_X2_settle_6_at13, s_X2_settle_6_at19, s_X2_settle_6_at33, s_X2_settle_6_at39, s_X2_settle_9, s_X2_settle_10_at5, s_X2_settle_10_at25, s_X2_settle_13, s_X2_settle_14, s_X2_settle_15_at13, s_X2_settle_15_at19, s_X2_settle_15_at33, s_X2_settle_15_at39, s_X2_settle_18, e1, f1, am_k_some, am_push_n])
theorem pf_ft_m4 {n : Nat} {t : Nat → Nat} (hn : n ≤ 400) : (pf_ft n t = -4) = ((pf_rd n t).1 = none) := by
  have key : ∀ (f : Nat) (P : sg_P) (k x : Nat), (pf_read n t f P k).1 = some x → x < n := by
    intro f
    induction f with
    | zero => intro P k x h; cases h
    | succ f ih =>
      intro P k x h
      unfold pf_read at h
      split at h
      · rename_i hk
        cases hi : pf_item n t P k with
        | none => rw [hi] at h; cases h; exact hk
        | some y => obtain ⟨P', k'⟩ := y; rw [hi] at h; exact ih P' k' x h
      · cases h
  unfold pf_ft
  cases hq : (pf_rd n t).1 with
  | none => exact propext ⟨fun _ => rfl, fun _ => rfl⟩
  | some q =>
    have h1 := key n pf_P0 0 q hq
    refine propext ⟨fun he => ?_, fun he => by cases he⟩
    have he : nI q = -4 := he
    have h2 : 0 ≤ nI q := nI_pos' (by omega)
    rw [he] at h2
    exact absurd h2 (by decide)
/-- lay: NO -/
theorem e_X6_layN {p p' n : Nat} {t : Nat → Nat} {I A : am_F} {G : am_G} (hG : cr_g p p' G) (hn : n ≤ 400) (ht : cr_t n t I A) (htb : ∀ j, j < n → t j < 256) (hno : ¬ ((pf_rd n t).1 = none ∧ (pf_rd n t).2 7 0 ≠ 0)) : ∃ I' A', am_e 38 0 [.ref 0, .null] [] I A G = some (.int (-2), I', A', am_u G 2 1 1) ∧ fr_r p' I A I' A' := by
  obtain ⟨h3, h4, h5⟩ := hG
  have hpp : p' = 5 ∨ p' = 25 := by omega
  obtain ⟨I', A', f1, f2, f3⟩ := e_X3_firstFault (p := p') (G := G) hpp hn ht htb
  have h4' : am_u G 2 1 1 0 4 = p' := by rw [am_u_at, if_neg (by omega)]; exact h4
  refine ⟨I', A', ?_, f2⟩
  by_cases hft : (pf_rd n t).1 = none
  · have hH0 : (pf_rd n t).2 7 0 = 0 := Classical.byContradiction fun q => hno ⟨hft, q⟩
    have hz : I' p' 9 = 0 := by rw [(f3 hft).1.1, hH0]; rfl
    have hm4 : pf_ft n t = -4 := by unfold pf_ft; rw [hft]
    rw [hm4] at f1
    rcases hpp with rfl | rfl <;> simp only [s_X6_lay_0, s_X6_lay_1, s_X6_lay_4, s_X6_lay_5, s_X6_lay_8, s_X6_lay_9, s_X6_lay_12, s_X6_lay_13, s_X6_lay_16, s_X6_lay_19, s_X6_lay_21, s_X6_lay_24, s_X6_lay_25, s_X6_lay_28_at5, s_X6_lay_28_at25, s_X6_lay_31, s_X6_lay_34, s_X6_lay_36, h4, h4', ht.1, f1, am_k_some, am_push_i, hz, if_true]
  · have hne := (pf_ft_m4 (t := t) hn).trans (eq_false hft)
    rcases hpp with rfl | rfl <;> simp only [s_X6_lay_0, s_X6_lay_1, s_X6_lay_4, s_X6_lay_5, s_X6_lay_8, s_X6_lay_9, s_X6_lay_12, s_X6_lay_13, s_X6_lay_16, s_X6_lay_19, s_X6_lay_21, s_X6_lay_24, s_X6_lay_25, s_X6_lay_28_at5, s_X6_lay_28_at25, s_X6_lay_31, s_X6_lay_34, s_X6_lay_36, h4, h4', ht.1, f1, am_k_some, am_push_i, hne, if_false]
/-- lay: the plan and the draft change places -/
theorem e_X6_layY {p p' n : Nat} {t : Nat → Nat} {I A : am_F} {G : am_G} (hG : cr_g p p' G) (hn : n ≤ 400) (ht : cr_t n t I A) (htb : ∀ j, j < n → t j < 256) (hft : (pf_rd n t).1 = none) (hH0 : (pf_rd n t).2 7 0 ≠ 0) : ∃ I' A' : am_F, am_e 38 0 [.ref 0, .null] [] I A G = some (.int (nI ((pf_rd n t).2 7 0)), I', A', am_u (am_u (am_u G 2 1 1) 0 4 p) 0 3 p') ∧ cr_q p' (pf_rd n t).2 I' A' ∧ wd_both (pf_rd n t).2 p' I' A' ∧ cr_s 45 (nI (2 ^ ((pf_rd n t).2 7 1)) - 1, 0, 0, fun _ => 0) I' A' ∧ I' 54 3 = 0 ∧ I' 0 8 = 0 ∧ (∀ a j, 69 ≤ a → I' a j = I a j) ∧ (∀ b, 69 ≤ b → A' b = A b) ∧ I' 0 1 = I 0 1 ∧ A' 1 = A 1 := by
  obtain ⟨h3, h4, h5⟩ := hG
  have hpp : p' = 5 ∨ p' = 25 := by omega
  obtain ⟨I1, A1, f1, f2, f3⟩ := e_X3_firstFault (p := p') (G := G) hpp hn ht htb
  have hq := f3 hft
  have hv : vp_p (pf_rd n t).2 := (pf_read_i n pf_P0 0 vq_P0).vp hH0
  have hm4 : pf_ft n t = -4 := by rw [pf_ft_m4 hn]; exact hft
  rw [hm4] at f1
  obtain ⟨I2, A2, g1, g2, g3, g4⟩ := e_X2_settle (G := am_u (am_u (am_u G 2 1 1) 0 4 p) 0 3 p') hpp hv hq.1
  have hq2 : cr_q p' (pf_rd n t).2 I2 A2 := hq.fr (fun j => g2 p' j (by omega) (by omega)) (fun a h6 h7 => g3 a (by omega))
  obtain ⟨I3, A3, k1, k2, k3, k4⟩ := e_X4_begin (I := I2) (A := A2) (G := am_u (am_u (am_u G 2 1 1) 0 4 p) 0 3 p') hv.2.1
  have hq3 : cr_q p' (pf_rd n t).2 I3 A3 := hq2.fr (fun j => k2 p' j (by omega)) (fun a h6 h7 => k3 a (by omega))
  have hz : (I1 p' 9 = 0) = False := eq_false (by rw [hq.1.1, show (0 : Int32) = nI 0 from rfl, nI_eq (by have := hv.1.2; omega) (by omega)]; exact hH0)
  refine ⟨am_u (am_u I3 54 3 0) 0 8 0, A3, ?_, hq3.fr (fun j => by rw [am_u_ne (by omega), am_u_ne (by omega)]) (fun _ _ _ => rfl), (g4.fr (fun a j h6 h7 => k2 a j (by omega)) (fun b h6 h7 => k3 b (by omega))).fr (fun a j h6 h7 => by rw [am_u_ne (by omega), am_u_ne (by omega)]) (fun _ _ _ => rfl), ?_, by simp [am_u_at], by simp [am_u_at], fun a j ha => ?_, fun b hb => ?_, ?_, ?_⟩
  · have d1 : am_u G 2 1 1 0 4 = p' := by rw [am_u_at, if_neg (by omega)]; exact h4
    have d2 : am_u G 2 1 1 0 3 = p := by rw [am_u_at, if_neg (by omega)]; exact h3
    have d3 : am_u (am_u (am_u G 2 1 1) 0 4 p) 0 3 p' 0 3 = p' := am_u_eq _ _ _ _
    have d4 : I2 p' 10 = nI ((pf_rd n t).2 7 1) := hq2.1.2.1
    have d5 : am_u (am_u I3 54 3 0) 0 8 0 p' 9 = nI ((pf_rd n t).2 7 0) := by rw [am_u_ne (by omega), am_u_ne (by omega)]; exact hq3.1.1
    rcases hpp with rfl | rfl <;> simp only [s_X6_lay_0, s_X6_lay_1, s_X6_lay_4, s_X6_lay_5, s_X6_lay_8, s_X6_lay_9, s_X6_lay_12, s_X6_lay_13, s_X6_lay_16, s_X6_lay_19, s_X6_lay_21, s_X6_lay_24, s_X6_lay_25, s_X6_lay_28_at5, s_X6_lay_28_at25, s_X6_lay_31, s_X6_lay_34, s_X6_lay_36, s_X6_lay_37, s_X6_lay_38, s_X6_lay_41, s_X6_lay_42, s_X6_lay_43, s_X6_lay_44, s_X6_lay_47, s_X6_lay_50, s_X6_lay_51, s_X6_lay_52, s_X6_lay_55, s_X6_lay_56, s_X6_lay_59_at5, s_X6_lay_59_at25, s_X6_lay_62, s_X6_lay_63, s_X6_lay_66, s_X6_lay_67, s_X6_lay_70_at5, s_X6_lay_70_at25, s_X6_lay_73_at45, s_X6_lay_73_at48, s_X6_lay_73_at51, s_X6_lay_76, s_X6_lay_77, s_X6_lay_80, s_X6_lay_81, s_X6_lay_84, s_X6_lay_85, s_X6_lay_86, s_X6_lay_89, s_X6_lay_90, s_X6_lay_93_at5, s_X6_lay_93_at25, s_X6_lay_96, h4, ht.1, f1, am_k_some, am_push_i, am_push_n, d1, d2, d3, if_true, hz, if_false, g1, d4, k1, d5]
  · obtain ⟨q1, q2, q3, q4⟩ := k4
    exact ⟨by simpa [am_u_at] using q1, by simpa [am_u_at] using q2, by simpa [am_u_at] using q3, q4⟩
  · rw [am_u_ne (by omega), am_u_ne (by omega), k2 a j (by omega), g2 a j (by omega) (by omega)]
    exact f2.1 a j (by omega) (by omega)
  · rw [k3 b (by omega), g3 b (by omega)]
    exact f2.2 b (by omega) (by omega)
  · rw [am_u_at, if_neg (by omega), am_u_at, if_neg (by omega), k2 0 1 (by omega), g2 0 1 (by omega) (by omega)]
    exact f2.1 0 1 (by omega) (by omega)
  · rw [k3 1 (by omega), g3 1 (by omega)]
    exact f2.2 1 (by omega) (by omega)
