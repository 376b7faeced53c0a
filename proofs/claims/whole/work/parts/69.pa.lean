/-! ===== the other pairs ===== -/
theorem am_ofb {x : Int32} {n : Nat} (hn : n ≤ 31) (h : ∀ j, n ≤ j → j < 32 → am_hb x j = false) : ∃ m, m < 2 ^ n ∧ x = nI m := by
  refine ⟨x.toBitVec.toNat, Nat.lt_pow_two_of_testBit _ (fun i hi => ?_), ?_⟩
  · rw [BitVec.testBit_toNat]
    by_cases h32 : i < 32
    · rw [← am_hb_g h32]; exact h i hi h32
    · exact BitVec.getLsbD_of_ge _ _ (by omega)
  · apply Int32.toBitVec_inj.mp
    unfold nI
    rw [Int32.toBitVec_ofNat']
    exact (by simp)
theorem sv_s.set {P : sg_P} {s : sg_S} {j : Nat} {b : Int32} (hv : vp_p P) (h : sv_s P s) (hj : j < P 7 1) : sv_s P (pf_wb s.1 (nI j) b, s.2) := by
  have hD := hv.2.1
  obtain ⟨⟨m, h1, h2⟩, h3⟩ := h
  refine ⟨am_ofb (by omega) (fun i hi h32 => ?_), h3⟩
  show am_hb (pf_wb s.1 (nI j) b) i = false
  rw [am_hb_wb (by omega) h32, if_neg (by omega), h2]
  exact am_hb_hi h1 hi h32
theorem sv_s.fld {P : sg_P} {s : sg_S} {j : Nat} {b : Int32} (hv : vp_p P) (h : sv_s P s) (hj : j < P 7 0) : sv_s P (s.1, pf_wb s.2.1 (nI j) b, s.2.2) := by
  have hH := hv.1.2
  refine ⟨h.1, fun i hi h32 => ?_⟩
  show am_hb (pf_wb s.2.1 (nI j) b) i = false
  rw [am_hb_wb (by omega) h32, if_neg (by omega)]
  exact h.2 i hi h32
section PAIR2
variable {c : Nat} {I A : am_F} {G : am_G}
theorem pr_set {x b : Int32} (h : li c I A G) : pr c I A G (fun I A G => am_e 41 0 [.ref 0, .int x, .int b, .null] [] I A G) (fun I A G => am_e 97 0 [.ref 69, .int x, .int b, .null] [] I A G) := by
  obtain ⟨P, s, k, K, m, z, n, t, p, p', hv, ⟨hc, hx⟩, hm, hy⟩ := h
  have hpp := hc.1.pp
  have hD := hv.1.2.1
  have e6 := @e_X6_set p p' I A G P s x b hv.1 hc.1 hc.2.1.1 hc.2.2.2
  by_cases hd : pf_dr P x
  · rw [if_pos hd] at e6
    have hm1 : mk P s (am_u I 45 0 (pf_wb s.1 x b)) A := hm.up (fun a j h => by rw [am_u_ne (by omega)]) (fun _ _ => rfl)
    have e7 := @e_X7_set (am_u I 45 0 (pf_wb s.1 x b)) A G P s x b hv.1 hm1.1 hm1.2
    rw [if_pos hd] at e7
    obtain ⟨j, hj, rfl⟩ := (am_rngM (by omega)).mp hd
    refine ⟨_, _, A, G, _, A, e6, e7, P, (pf_wb s.1 (nI j) b, s.2), k, K, m, z, n, t, p, p', ⟨hv.1, ⟨hv.2.1.1.set hv.1 hj, by have := hv.2.1.2; show s.2.2.1 ≤ _; omega⟩, hv.s.2.2⟩, ⟨?_, ?_⟩, ?_, ?_⟩
    · obtain ⟨h1, h2, h3, h4⟩ := hc
      have hi : ∀ a j', a ≠ 45 → a ≠ 69 → am_u (am_u I 45 0 (pf_wb s.1 (nI j) b)) 69 14 (pf_wb s.1 (nI j) b) a j' = I a j' := fun a j' q1 q2 => by rw [am_u_ne q2, am_u_ne q1]
      refine ⟨h1, h2.fr (fun j' => hi p j' (by omega) (by omega)) (fun _ _ _ => rfl), h3.fr (fun a j' q1 q2 => hi a j' (by omega) (by omega)) (fun _ _ _ => rfl), ?_, ?_, ?_, h4.2.2.2⟩
      · rw [am_u_ne (by omega), am_u_eq]
      · rw [am_u_ne (by omega), am_u_at, if_neg (by omega)]; exact h4.2.1
      · rw [am_u_ne (by omega), am_u_at, if_neg (by omega)]; exact h4.2.2.1
    · exact hx.fr (fun a j' h => by rw [am_u_ne (by omega), am_u_ne (by omega)]) (fun _ _ => rfl)
    · have hi : ∀ j', j' ≠ 14 → am_u (am_u I 45 0 (pf_wb s.1 (nI j) b)) 69 14 (pf_wb s.1 (nI j) b) 69 j' = I 69 j' := fun j' q => by rw [am_u_at, if_neg (by omega), am_u_ne (by omega)]
      exact ⟨hm.1.fr (hi 9 (by omega)) (hi 10 (by omega)) rfl rfl rfl, am_u_eq _ _ _ _, by rw [hi 15 (by omega)]; exact hm.2.2.1, by rw [hi 18 (by omega)]; exact hm.2.2.2.1, by rw [hi 17 (by omega)]; exact hm.2.2.2.2.1, hm.2.2.2.2.2⟩
    · exact hy.fr (fun j' h => by rw [am_u_at, if_neg (by omega), am_u_ne (by omega)]) (fun _ _ => rfl)
  · rw [if_neg hd] at e6
    have e7 := @e_X7_set I A G P s x b hv.1 hm.1 hm.2
    rw [if_neg hd] at e7
    exact pr_same hv hc hx hm hy _ e6 (fr_c.rf A G) e7 (fr_d.rf _ I A)
theorem pr_flood {x b : Int32} (h : li c I A G) : pr c I A G (fun I A G => am_e 42 0 [.ref 0, .int x, .int b, .null] [] I A G) (fun I A G => am_e 98 0 [.ref 69, .int x, .int b, .null] [] I A G) := by
  obtain ⟨P, s, k, K, m, z, n, t, p, p', hv, ⟨hc, hx⟩, hm, hy⟩ := h
  have hpp := hc.1.pp
  have hH := hv.1.1.2
  have e6 := @e_X6_flood p p' I A G P s x b hv.1 hc.1 hc.2.1.1 hc.2.2.2
  by_cases hd : pf_hl P x
  · rw [if_pos hd] at e6
    have hm1 : mk P s (am_u I 45 1 (pf_wb s.2.1 x b)) A := hm.up (fun a j h => by rw [am_u_ne (by omega)]) (fun _ _ => rfl)
    have e7 := @e_X7_flood (am_u I 45 1 (pf_wb s.2.1 x b)) A G P s x b hv.1 hm1.1 hm1.2
    rw [if_pos hd] at e7
    obtain ⟨j, hj, rfl⟩ := (am_rngM (by omega)).mp hd
    refine ⟨_, _, A, G, _, A, e6, e7, P, (s.1, pf_wb s.2.1 (nI j) b, s.2.2), k, K, m, z, n, t, p, p', ⟨hv.1, ⟨hv.2.1.1.fld hv.1 hj, by have := hv.2.1.2; show s.2.2.1 ≤ _; omega⟩, hv.s.2.2⟩, ⟨?_, ?_⟩, ?_, ?_⟩
    · obtain ⟨h1, h2, h3, h4⟩ := hc
      have hi : ∀ a j', a ≠ 45 → a ≠ 69 → am_u (am_u I 45 1 (pf_wb s.2.1 (nI j) b)) 69 15 (pf_wb s.2.1 (nI j) b) a j' = I a j' := fun a j' q1 q2 => by rw [am_u_ne q2, am_u_ne q1]
      refine ⟨h1, h2.fr (fun j' => hi p j' (by omega) (by omega)) (fun _ _ _ => rfl), h3.fr (fun a j' q1 q2 => hi a j' (by omega) (by omega)) (fun _ _ _ => rfl), ?_, ?_, ?_, h4.2.2.2⟩
      · rw [am_u_ne (by omega), am_u_at, if_neg (by omega)]; exact h4.1
      · rw [am_u_ne (by omega), am_u_eq]
      · rw [am_u_ne (by omega), am_u_at, if_neg (by omega)]; exact h4.2.2.1
    · exact hx.fr (fun a j' h => by rw [am_u_ne (by omega), am_u_ne (by omega)]) (fun _ _ => rfl)
    · have hi : ∀ j', j' ≠ 15 → am_u (am_u I 45 1 (pf_wb s.2.1 (nI j) b)) 69 15 (pf_wb s.2.1 (nI j) b) 69 j' = I 69 j' := fun j' q => by rw [am_u_at, if_neg (by omega), am_u_ne (by omega)]
      exact ⟨hm.1.fr (hi 9 (by omega)) (hi 10 (by omega)) rfl rfl rfl, by rw [hi 14 (by omega)]; exact hm.2.1, am_u_eq _ _ _ _, by rw [hi 18 (by omega)]; exact hm.2.2.2.1, by rw [hi 17 (by omega)]; exact hm.2.2.2.2.1, hm.2.2.2.2.2⟩
    · exact hy.fr (fun j' h => by rw [am_u_at, if_neg (by omega), am_u_ne (by omega)]) (fun _ _ => rfl)
  · rw [if_neg hd] at e6
    have e7 := @e_X7_flood I A G P s x b hv.1 hm.1 hm.2
    rw [if_neg hd] at e7
    exact pr_same hv hc hx hm hy _ e6 (fr_c.rf A G) e7 (fr_d.rf _ I A)
theorem am_n8 {n : Int32} (h : 1 ≤ n ∧ n ≤ 8) : ∃ j : Nat, 1 ≤ j ∧ j ≤ 8 ∧ n = nI j := by
  obtain ⟨h1, h2⟩ := h
  have h0 : 0 ≤ n := Int32.le_trans (by decide) h1
  obtain ⟨j, hj, rfl⟩ := (am_rngK 8 rfl (by omega)).mp ⟨h0, h2⟩
  exact ⟨j, (nI_leI (a := 1) (by omega) (by omega)).mp h1, hj, rfl⟩
theorem pr_write {x : Int32} {w : Int64} (h : li c I A G) : pr c I A G (fun I A G => am_e 35 0 [.ref 0, .int x, .long w, .null, .null] [] I A G) (fun I A G => am_e 81 0 [.ref 69, .int x, .long w, .null, .null] [] I A G) := by
  obtain ⟨P, s, k, K, m, z, n, t, p, p', hv, ⟨hc, hx⟩, hm, hy⟩ := h
  have hpp := hc.1.pp
  obtain ⟨hn4, ht⟩ := hv.2.2.2.2.2
  obtain ⟨a1, a2, a3⟩ := @e_X6_write I A G n t x w hn4 hx.2.2
  by_cases hr : 1 ≤ x ∧ x ≤ 8
  · obtain ⟨j, j1, j2, j3⟩ := am_n8 hr
    by_cases hfull : n + j ≤ 400
    · obtain ⟨I1, A1, f1, f2, f3, f4⟩ := a3 j j1 j2 j3 hfull
      have hy1 : mr_t n t I1 A1 := hy.2.2.fr (f2 69 0 (by omega)) (f3 70 (by omega))
      obtain ⟨I2, A2, g1, g2, g3, g4⟩ := (@e_X7_write I1 A1 G n t x w hn4 hy1).2.2 j j1 j2 j3 hfull
      refine ⟨_, I1, A1, G, I2, A2, f1, g1, P, s, k, K, m, z, n + j, pf_wt t n j w, p, p', ⟨hv.1, hv.s.2.1, hv.2.2.1, hv.s.2.2.2.1, hv.2.2.2.2.1, hfull, fun i hi => ?_⟩, ⟨?_, ?_⟩, ?_, ?_⟩
      · unfold pf_wt
        by_cases q : n ≤ i ∧ i < n + j
        · rw [if_pos q]; exact pf_bt_lt _ _
        · rw [if_neg q]; exact ht i (by omega)
      · obtain ⟨h1, h2, h3, h4⟩ := hc
        have hi : ∀ a j', a ≠ 0 → a ≠ 69 → I2 a j' = I a j' := fun a j' q1 q2 => by rw [g2 a j' (by omega), f2 a j' (by omega)]
        have ha : ∀ b, b ≠ 1 → b ≠ 70 → A2 b = A b := fun b q1 q2 => by rw [g3 b q2, f3 b q1]
        exact ⟨h1, h2.fr (fun j' => hi p j' (by omega) (by omega)) (fun b q1 q2 => ha b (by omega) (by omega)), h3.fr (fun a j' q1 q2 => hi a j' (by omega) (by omega)) (fun b q1 q2 => ha b (by omega) (by omega)), h4.fr (fun j' => hi 45 j' (by omega) (by omega)) (ha 46 (by omega) (by omega))⟩
      · have ha : ∀ b, b ≠ 1 → b ≠ 70 → A2 b = A b := fun b q1 q2 => by rw [g3 b q2, f3 b q1]
        have hi : ∀ a j', ¬ (a = 0 ∧ j' = 1) → a ≠ 69 → I2 a j' = I a j' := fun a j' q1 q2 => by rw [g2 a j' (by omega), f2 a j' q1]
        exact ⟨hx.1.fr (hi 0 8 (by omega) (by omega)) (fun j' => ⟨hi 48 j' (by omega) (by omega), hi 51 j' (by omega) (by omega)⟩) ⟨ha 49 (by omega) (by omega), ha 52 (by omega) (by omega)⟩, hx.2.1.fr (hi 54 3 (by omega) (by omega)) (ha 55 (by omega) (by omega)) (ha 56 (by omega) (by omega)) (ha 57 (by omega) (by omega)), f4.fr (g2 0 1 (by omega)) (g3 1 (by omega))⟩
      · have hi : ∀ j', j' ≠ 0 → I2 69 j' = I 69 j' := fun j' q => by rw [g2 69 j' (by omega), f2 69 j' (by omega)]
        have ha : ∀ b, b ≠ 1 → b ≠ 70 → A2 b = A b := fun b q1 q2 => by rw [g3 b q2, f3 b q1]
        exact ⟨hm.1.fr (hi 9 (by omega)) (hi 10 (by omega)) (ha _ (by omega) (by omega)) (ha _ (by omega) (by omega)) (ha _ (by omega) (by omega)), hm.2.fr (fun j' hj => hi j' (by omega)) (ha _ (by omega) (by omega))⟩
      · have hi : ∀ j', j' ≠ 0 → I2 69 j' = I 69 j' := fun j' q => by rw [g2 69 j' (by omega), f2 69 j' (by omega)]
        have ha : ∀ b, b ≠ 1 → b ≠ 70 → A2 b = A b := fun b q1 q2 => by rw [g3 b q2, f3 b q1]
        exact ⟨hy.1.fr (hi 19 (by omega)) (ha _ (by omega) (by omega)), hy.2.1.fr (hi 21 (by omega)) (ha _ (by omega) (by omega)), g4⟩
    · exact pr_same hv hc hx hm hy _ (a2 j j1 j2 j3 hfull) (fr_c.rf A G) ((@e_X7_write I A G n t x w hn4 hy.2.2).2.1 j j1 j2 j3 hfull) (fr_d.rf _ I A)
  · exact pr_same hv hc hx hm hy _ (a1 hr) (fr_c.rf A G) ((@e_X7_write I A G n t x w hn4 hy.2.2).1 hr) (fr_d.rf _ I A)
/-- reading changes what is of no account -/
theorem pr_read {P : sg_P} {s : sg_S} {k : Nat} {K : Nat → sg_S} {m : Nat} {z : Nat → Nat × Nat × Nat} {n : Nat} {t : Nat → Nat} {p p' : Nat} {o6 o7 : am_F → am_F → am_G → Option am_V} (hv : sv c P s k K m z n t) (hc : ck P s p p' I A G) (hx : cx k K m z n t I A) (hm : mk P s I A) (hy : mx k K m z n t I A) (v : Int32) {I1 A1 I2 A2 : am_F} (h6 : o6 I A G = some (.int v, I1, A1, am_u G 2 1 1)) (f6 : fr_r p' I A I1 A1) (h7 : o7 I1 A1 (am_u G 2 1 1) = some (.int v, I2, A2, am_u G 2 1 1)) (f7 : fr_m I1 A1 I2 A2) : pr c I A G o6 o7 := by
  obtain ⟨h1, h2, h3, h4⟩ := hc
  have hr := h1.2.2
  have hi : ∀ a j, a ≠ p' → a ≠ 2 → a ≠ 69 → I2 a j = I a j := fun a j q1 q2 q3 => by rw [f7.1 a j (by omega), f6.1 a j q1 (by omega)]
  have ha : ∀ b, b ≠ 3 → ¬ (p' < b ∧ b ≤ p' + 7) → b ≠ 71 → b ≠ 72 → b ≠ 73 → A2 b = A b := fun b q1 q2 q3 q4 q5 => by rw [f7.2 b q3 q4 q5, f6.2 b q1 q2]
  have hj : ∀ j, ¬ (j = 2 ∨ j = 3 ∨ j = 4 ∨ j = 5) → I2 69 j = I 69 j := fun j q => by rw [f7.1 69 j (by omega), f6.1 69 j (by omega) (by omega)]
  refine ⟨v, I1, A1, _, I2, A2, h6, h7, P, s, k, K, m, z, n, t, p, p', hv.s, ⟨⟨⟨by rw [am_u_at, if_neg (by omega)]; exact h1.1, by rw [am_u_at, if_neg (by omega)]; exact h1.2.1, h1.2.2⟩, h2.fr (fun j => hi p j (by omega) (by omega) (by omega)) (fun a q1 q2 => ha a (by omega) (by omega) (by omega) (by omega) (by omega)), h3.fr (fun a j q1 q2 => hi a j (by omega) (by omega) (by omega)) (fun b q1 q2 => ha b (by omega) (by omega) (by omega) (by omega) (by omega)), h4.fr (fun j => hi 45 j (by omega) (by omega) (by omega)) (ha 46 (by omega) (by omega) (by omega) (by omega) (by omega))⟩, ?_⟩, ?_, ?_⟩
  · exact hx.fr (fun a j h => hi a j (by omega) (by omega) (by omega)) (fun b h => ha b (by omega) (by omega) (by omega) (by omega) (by omega))
  · exact ⟨hm.1.fr (hj 9 (by omega)) (hj 10 (by omega)) (ha _ (by omega) (by omega) (by omega) (by omega) (by omega)) (ha _ (by omega) (by omega) (by omega) (by omega) (by omega)) (ha _ (by omega) (by omega) (by omega) (by omega) (by omega)), hm.2.fr (fun j q => hj j (by omega)) (ha _ (by omega) (by omega) (by omega) (by omega) (by omega))⟩
  · exact hy.fr (fun j q => hj j (by omega)) (fun b h => ha b (by omega) (by omega) (by omega) (by omega) (by omega))
theorem pr_fault (h : li c I A G) : pr c I A G (fun I A G => am_e 37 0 [.ref 0] [] I A G) (fun I A G => am_e 91 0 [.ref 69] [] I A G) := by
  obtain ⟨P, s, k, K, m, z, n, t, p, p', hv, ⟨hc, hx⟩, hm, hy⟩ := h
  obtain ⟨hn4, ht⟩ := hv.2.2.2.2.2
  have hpp := hc.1.pp
  obtain ⟨I1, A1, h6, f6⟩ := e_X6_fault hc.1 hn4 hx.2.2 ht
  obtain ⟨I2, A2, h7, f7⟩ := e_X7_fault (G := am_u G 2 1 1) hn4 (hy.2.2.fr (f6.1 69 0 (by omega) (by omega)) (f6.2 70 (by omega) (by omega))) ht
  exact pr_read hv hc hx hm hy _ h6 f6 h7 f7
theorem pr_lay (h : li c I A G) : pr c I A G (fun I A G => am_e 38 0 [.ref 0, .null] [] I A G) (fun I A G => am_e 92 0 [.ref 69, .null] [] I A G) := by
  obtain ⟨P, s, k, K, m, z, n, t, p, p', hv, ⟨hc, hx⟩, hm, hy⟩ := h
  obtain ⟨hn4, ht⟩ := hv.2.2.2.2.2
  have hpp := hc.1.pp
  by_cases hyes : (pf_rd n t).1 = none ∧ (pf_rd n t).2 7 0 ≠ 0
  · obtain ⟨I1, A1, h6, q1, q2, q3, q4, q5, q6, q7, q8, q9⟩ := e_X6_layY hc.1 hn4 hx.2.2 ht hyes.1 hyes.2
    obtain ⟨I2, A2, h7, r1, r2, r3, r4, r5, r6, r7⟩ := e_X7_layY (G := am_u (am_u (am_u G 2 1 1) 0 4 p) 0 3 p') hn4 (hy.2.2.fr (q6 69 0 (by omega)) (q7 70 (by omega))) ht hyes.1 hyes.2
    have hv' : vp_p (pf_rd n t).2 := (pf_read_i n pf_P0 0 vq_P0).vp hyes.2
    have hD' := hv'.2.1
    have hck : ck (pf_rd n t).2 (nI (2 ^ ((pf_rd n t).2 7 1)) - 1, 0, 0, fun _ => 0) p' p I1 A1 (am_u (am_u (am_u G 2 1 1) 0 4 p) 0 3 p') := ⟨⟨am_u_eq _ _ _ _, by rw [am_u_at, if_neg (by omega), am_u_eq], hc.1.2.2.symm.imp (fun q => ⟨q.2, q.1⟩) (fun q => ⟨q.2, q.1⟩)⟩, q1, q2, q3⟩
    refine ⟨_, I1, A1, _, I2, A2, h6, h7, (pf_rd n t).2, (nI (2 ^ ((pf_rd n t).2 7 1)) - 1, 0, 0, fun _ => 0), 0, K, 0, z, n, t, p', p, ⟨hv', ⟨⟨⟨2 ^ ((pf_rd n t).2 7 1) - 1, ?_, ?_⟩, fun j _ hj => am_hb_0 hj⟩, by show 0 ≤ _; omega⟩, by omega, fun e he => by omega, ⟨by omega, fun e he => by omega⟩, hn4, ht⟩, ⟨hck.up (fun a j h => r6 a j (by omega)) (fun b h => r7 b (by omega)), ?_⟩, ⟨r1, r2⟩, ?_⟩
    · have := Nat.one_le_two_pow (n := (pf_rd n t).2 7 1)
      omega
    · have := Nat.one_le_two_pow (n := (pf_rd n t).2 7 1)
      show nI (2 ^ ((pf_rd n t).2 7 1)) - 1 = _
      rw [show 2 ^ ((pf_rd n t).2 7 1) = (2 ^ ((pf_rd n t).2 7 1) - 1) + 1 by omega, nI_pred, Nat.add_sub_cancel]
    · refine ⟨⟨by rw [r6 0 8 (by omega), q5]; rfl, fun q => by omega, fun q => by omega⟩, ⟨by rw [r6 54 3 (by omega), q4]; rfl, fun e he => by omega⟩, ?_⟩
      exact hx.2.2.fr (by rw [r6 0 1 (by omega), q8]) (by rw [r7 1 (by omega), q9])
    · exact ⟨⟨by rw [r3]; rfl, fun e he => by omega⟩, ⟨by rw [r4]; rfl, fun e he => by omega⟩, r5⟩
  · obtain ⟨I1, A1, h6, f6⟩ := e_X6_layN hc.1 hn4 hx.2.2 ht hyes
    obtain ⟨I2, A2, h7, f7⟩ := e_X7_layN (G := am_u G 2 1 1) hn4 (hy.2.2.fr (f6.1 69 0 (by omega) (by omega)) (f6.2 70 (by omega) (by omega))) ht hyes
    exact pr_read hv hc hx hm hy _ h6 f6 h7 f7
theorem pr_smelled {x y b : Int32} (h : li c I A G) : pr c I A G (fun I A G => am_e 51 0 [.ref 0, .int x, .int y, .int b] [] I A G) (fun I A G => am_e 121 0 [.ref 69, .int x, .int y, .int b] [] I A G) := by
  obtain ⟨P, s, k, K, m, z, n, t, p, p', hv, ⟨hc, hx⟩, hm, hy⟩ := h
  have hpp := hc.1.pp
  have hH := hv.1.1.2
  obtain ⟨hm10, hz⟩ := hv.2.2.2.2.1
  obtain ⟨a1, a2, a3⟩ := @e_X6_smelled p p' I A G P m z x y b hm10 hv.1 hc.1 hc.2.1.1 hx.2.1
  by_cases hr : pf_sm P x y
  · by_cases h10 : m = 10
    · exact pr_same hv hc hx hm hy _ (a2 hr h10) (fr_c.rf A G) ((@e_X7_smelled I A G P m z x y b hm10 hv.1 hm.1 hy.2.1).2.1 hr h10) (fr_d.rf _ I A)
    · obtain ⟨A1, f1, f2, f3⟩ := a3 hr (by omega)
      have hm1 : mk P s (am_u I 54 3 (nI (m + 1))) A1 := hm.up (fun a j h => by rw [am_u_ne (by omega)]) (fun b h => f2 b (by omega) (by omega) (by omega))
      obtain ⟨A2, g1, g2, g3⟩ := (@e_X7_smelled (am_u I 54 3 (nI (m + 1))) A1 G P m z x y b hm10 hv.1 hm1.1 (hy.2.1.fr (by rw [am_u_ne (by omega)]) (f2 79 (by omega) (by omega) (by omega)))).2.2 hr (by omega)
      have hi : ∀ a j, a ≠ 54 → a ≠ 69 → am_u (am_u I 54 3 (nI (m + 1))) 69 21 (nI (m + 1)) a j = I a j := fun a j q1 q2 => by rw [am_u_ne q2, am_u_ne q1]
      have ha : ∀ b, ¬ (55 ≤ b ∧ b ≤ 57) → b ≠ 79 → A2 b = A b := fun b q1 q2 => by rw [g2 b q2, f2 b (by omega) (by omega) (by omega)]
      refine ⟨_, _, A1, G, _, A2, f1, g1, P, s, k, K, m + 1, _, n, t, p, p', ⟨hv.1, hv.s.2.1, hv.2.2.1, hv.s.2.2.2.1, ⟨by omega, fun e he => ?_⟩, hv.2.2.2.2.2⟩, ⟨?_, hx.1.fr (hi 0 8 (by omega) (by omega)) (fun j => ⟨hi 48 j (by omega) (by omega), hi 51 j (by omega) (by omega)⟩) ⟨ha 49 (by omega) (by omega), ha 52 (by omega) (by omega)⟩, f3.fr (by rw [am_u_ne (by omega)]) (g2 55 (by omega)) (g2 56 (by omega)) (g2 57 (by omega)), hx.2.2.fr (hi 0 1 (by omega) (by omega)) (ha 1 (by omega) (by omega))⟩, ?_, ?_, g3, ?_⟩
      · by_cases q : e = m
        · rw [if_pos q]
          obtain ⟨j1, w1, rfl⟩ := (am_rngK 23 rfl (by omega)).mp hr.1
          obtain ⟨j2, w2, rfl⟩ := (am_rngM (by omega)).mp hr.2
          rw [nI_clamp (by omega), nI_clamp (by omega)]
          refine ⟨by show j1 < 24; omega, w2, ?_⟩
          show (if b = 0 then 0 else 1) ≤ 1
          split <;> omega
        · rw [if_neg q]
          exact hz e (by omega)
      · obtain ⟨h1, h2, h3, h4⟩ := hc
        exact ⟨h1, h2.fr (fun j => hi p j (by omega) (by omega)) (fun b q1 q2 => ha b (by omega) (by omega)), h3.fr (fun a j q1 q2 => hi a j (by omega) (by omega)) (fun b q1 q2 => ha b (by omega) (by omega)), h4.fr (fun j => hi 45 j (by omega) (by omega)) (ha 46 (by omega) (by omega))⟩
      · have hj : ∀ j, j ≠ 21 → am_u (am_u I 54 3 (nI (m + 1))) 69 21 (nI (m + 1)) 69 j = I 69 j := fun j q => by rw [am_u_at, if_neg (by omega), am_u_ne (by omega)]
        exact ⟨hm.1.fr (hj 9 (by omega)) (hj 10 (by omega)) (ha _ (by omega) (by omega)) (ha _ (by omega) (by omega)) (ha _ (by omega) (by omega)), hm.2.fr (fun j q => hj j (by omega)) (ha _ (by omega) (by omega))⟩
      · exact hy.1.fr (by rw [am_u_at, if_neg (by omega), am_u_ne (by omega)]) (ha _ (by omega) (by omega))
      · exact hy.2.2.fr (by rw [am_u_at, if_neg (by omega), am_u_ne (by omega)]) (ha _ (by omega) (by omega))
  · exact pr_same hv hc hx hm hy _ (a1 hr) (fr_c.rf A G) ((@e_X7_smelled I A G P m z x y b hm10 hv.1 hm.1 hy.2.1).1 hr) (fr_d.rf _ I A)
theorem pr_keep (h : li c I A G) : pr c I A G (fun I A G => am_e 57 0 [.ref 0] [] I A G) (fun I A G => am_e 128 0 [.ref 69, .null, .null] [] I A G) := by
  obtain ⟨P, s, k, K, m, z, n, t, p, p', hv, ⟨hc, hx⟩, hm, hy⟩ := h
  have hpp := hc.1.pp
  have hk2 := hv.2.2.1
  obtain ⟨I1, A1, h6, q1, q2, q3, q4⟩ := e_X6_keep (G := G) hk2 hc.2.2.2 hx.1
  by_cases hk : k = 2
  · obtain ⟨rfl, rfl⟩ := q3 hk
    obtain ⟨A2, h7, r1, r2, r3⟩ := e_X7_keep (G := G) hk2 hm.2 hy.1
    have r2 := r2 hk
    subst r2
    rw [if_pos hk, if_pos hk] at h7
    rw [if_pos hk] at h6
    exact pr_same hv hc hx hm hy _ h6 (fr_c.rf _ G) h7 (fr_d.rf _ _ _)
  · have hm1 : mk P s I1 A1 := hm.up (fun a j h => q2 a j (by omega) (by omega) (by omega)) (fun b h => q1 b (by omega) (by omega))
    obtain ⟨A2, h7, r1, r2, r3⟩ := e_X7_keep (G := G) hk2 hm1.2 (hy.1.fr (q2 69 19 (by omega) (by omega) (by omega)) (q1 78 (by omega) (by omega)))
    rw [if_neg hk, if_neg hk] at h7
    rw [if_neg hk] at h6
    have hi : ∀ a j, a ≠ 48 → a ≠ 51 → ¬ (a = 0 ∧ j = 8) → a ≠ 69 → am_u I1 69 19 (nI (k + 1)) a j = I a j := fun a j w1 w2 w3 w4 => by rw [am_u_ne w4, q2 a j w1 w2 w3]
    have ha : ∀ b, b ≠ 49 → b ≠ 52 → b ≠ 78 → A2 b = A b := fun b w1 w2 w3 => by rw [r1 b w3, q1 b w1 w2]
    have hj : ∀ j, j ≠ 19 → am_u I1 69 19 (nI (k + 1)) 69 j = I 69 j := fun j w => by rw [am_u_at, if_neg (by omega), q2 69 j (by omega) (by omega) (by omega)]
    have h4 := q4 (by omega)
    refine ⟨_, I1, A1, G, _, A2, h6, h7, P, s, k + 1, _, m, z, n, t, p, p', ⟨hv.1, hv.s.2.1, by omega, fun e he => ?_, hv.2.2.2.2⟩, ⟨?_, ?_, hx.2.1.fr (hi 54 3 (by omega) (by omega) (by omega) (by omega)) (ha 55 (by omega) (by omega) (by omega)) (ha 56 (by omega) (by omega) (by omega)) (ha 57 (by omega) (by omega) (by omega)), hx.2.2.fr (hi 0 1 (by omega) (by omega) (by omega) (by omega)) (ha 1 (by omega) (by omega) (by omega))⟩, ?_, r3 (by omega), hy.2.1.fr (hj 21 (by omega)) (ha _ (by omega) (by omega) (by omega)), hy.2.2.fr (hj 0 (by omega)) (ha _ (by omega) (by omega) (by omega))⟩
    · by_cases q : e = k
      · rw [if_pos q]; exact hv.s.2.1
      · rw [if_neg q]; exact hv.s.2.2.2.1 e (by omega)
    · obtain ⟨g1, g2, g3, g4⟩ := hc
      exact ⟨g1, g2.fr (fun j => hi p j (by omega) (by omega) (by omega) (by omega)) (fun b w1 w2 => ha b (by omega) (by omega) (by omega)), g3.fr (fun a j w1 w2 => hi a j (by omega) (by omega) (by omega) (by omega)) (fun b w1 w2 => ha b (by omega) (by omega) (by omega)), g4.fr (fun j => hi 45 j (by omega) (by omega) (by omega) (by omega)) (ha 46 (by omega) (by omega) (by omega))⟩
    · exact h4.fr (by rw [am_u_ne (by omega)]) (fun j => ⟨by rw [am_u_ne (by omega)], by rw [am_u_ne (by omega)]⟩) ⟨r1 49 (by omega), r1 52 (by omega)⟩
    · exact ⟨hm.1.fr (hj 9 (by omega)) (hj 10 (by omega)) (ha _ (by omega) (by omega) (by omega)) (ha _ (by omega) (by omega) (by omega)) (ha _ (by omega) (by omega) (by omega)), hm.2.fr (fun j q => hj j (by omega)) (ha _ (by omega) (by omega) (by omega))⟩
theorem pr_back (h : li c I A G) : pr c I A G (fun I A G => am_e 58 0 [.ref 0] [] I A G) (fun I A G => am_e 129 0 [.ref 69, .null, .null] [] I A G) := by
  obtain ⟨P, s, k, K, m, z, n, t, p, p', hv, ⟨hc, hx⟩, hm, hy⟩ := h
  have hpp := hc.1.pp
  have hk2 := hv.2.2.1
  obtain ⟨I1, A1, h6, q1, q2, q3, q4⟩ := e_X6_back (G := G) hk2 hx.1
  obtain ⟨I2, A2, h7, r1, r2, r3, r4⟩ := e_X7_back (I := I1) (A := A1) (G := G) hk2 (hy.1.fr (q2 69 19 (by omega) (by omega)) (q1 78 (by omega)))
  by_cases hk : k = 0
  · obtain ⟨rfl, rfl⟩ := q3 hk
    obtain ⟨rfl, rfl⟩ := r3 hk
    exact pr_same hv hc hx hm hy _ h6 (fr_c.rf _ G) h7 (fr_d.rf _ _ _)
  · obtain ⟨q41, q42⟩ := q4 (by omega)
    obtain ⟨r41, r42⟩ := r4 (by omega)
    have hi : ∀ a j, a ≠ 45 → ¬ (a = 0 ∧ j = 8) → a ≠ 69 → I2 a j = I a j := fun a j w1 w2 w3 => by rw [r2 a j (by omega), q2 a j w1 w2]
    have ha : ∀ b, b ≠ 46 → b ≠ 77 → A2 b = A b := fun b w1 w2 => by rw [r1 b w2, q1 b w1]
    have hj : ∀ j, ¬ (j = 14 ∨ j = 15 ∨ j = 17 ∨ j = 18 ∨ j = 19) → I2 69 j = I 69 j := fun j w => by rw [r2 69 j (by omega), q2 69 j (by omega) (by omega)]
    refine ⟨_, I1, A1, G, I2, A2, h6, h7, P, K (k - 1), k - 1, K, m, z, n, t, p, p', ⟨hv.1, hv.s.2.2.2.1 (k - 1) (by omega), by omega, fun e he => hv.s.2.2.2.1 e (by omega), hv.2.2.2.2⟩, ⟨?_, ⟨by rw [r2 0 8 (by omega)]; exact q41, fun w => (hx.1.2.1 (by omega)).fr (fun j => hi 48 j (by omega) (by omega) (by omega)) (ha 49 (by omega) (by omega)), fun w => by omega⟩, hx.2.1.fr (hi 54 3 (by omega) (by omega) (by omega)) (ha 55 (by omega) (by omega)) (ha 56 (by omega) (by omega)) (ha 57 (by omega) (by omega)), hx.2.2.fr (hi 0 1 (by omega) (by omega) (by omega)) (ha 1 (by omega) (by omega))⟩, ⟨?_, r42⟩, ⟨r41, fun e he => ?_⟩, hy.2.1.fr (hj 21 (by omega)) (ha _ (by omega) (by omega)), hy.2.2.fr (hj 0 (by omega)) (ha _ (by omega) (by omega))⟩
    · obtain ⟨g1, g2, g3, g4⟩ := hc
      exact ⟨g1, g2.fr (fun j => hi p j (by omega) (by omega) (by omega)) (fun b w1 w2 => ha b (by omega) (by omega)), g3.fr (fun a j w1 w2 => hi a j (by omega) (by omega) (by omega)) (fun b w1 w2 => ha b (by omega) (by omega)), q42.fr (fun j => r2 45 j (by omega)) (r1 46 (by omega))⟩
    · exact hm.1.fr (hj 9 (by omega)) (hj 10 (by omega)) (ha _ (by omega) (by omega)) (ha _ (by omega) (by omega)) (ha _ (by omega) (by omega))
    · rw [ha 78 (by omega) (by omega)]; exact hy.1.2 e (by omega)
end PAIR2
