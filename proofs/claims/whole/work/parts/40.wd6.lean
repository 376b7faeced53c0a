theorem pf_sg_c {F F' : Nat → Nat} {D a : Nat} (h : ∀ d, d < D → F d = F' d) : pf_sg F D a = pf_sg F' D a := by
  unfold pf_sg
  exact List.filter_congr (fun d hd => by rw [h d (List.mem_range.mp hd)])
theorem cr_p.fr {p : Nat} {P : sg_P} {I A I' A' : am_F} (h : cr_p p P I A) (hI : ∀ j, I' p j = I p j) (hA : ∀ a, p < a → a ≤ p + 7 → A' a = A a) : cr_p p P I' A' := by
  obtain ⟨c1, c2, c3, c4, c5, c6, c7, c8, c9, c10⟩ := h
  refine ⟨by rw [hI]; exact c1, by rw [hI]; exact c2, fun i hi => ?_, fun d hd => ?_, by rw [hI]; exact c5, by rw [hI]; exact c6, by rw [hI]; exact c7, by rw [hI]; exact c8, by rw [hI]; exact c9, by rw [hI]; exact c10⟩
  · rw [hA (p + 1) (by omega) (by omega), hA (p + 2) (by omega) (by omega), hA (p + 3) (by omega) (by omega)]; exact c3 i hi
  · rw [hA (p + 4) (by omega) (by omega), hA (p + 5) (by omega) (by omega), hA (p + 6) (by omega) (by omega), hA (p + 7) (by omega) (by omega)]; exact c4 d hd
theorem wd_px.ne {p x : Nat} (h : wd_px p x) : ∀ y k, p < y → y ≤ p + 7 → 1 ≤ k → k ≤ 5 → y ≠ x + k := by
  intro y k h1 h2 h3 h4
  rcases h with ⟨rfl, rfl | rfl⟩ | ⟨rfl, rfl | rfl⟩ <;> omega
theorem X5_followLoop {p x : Nat} {P : sg_P} {u : Bool} {I : am_F} {G : am_G} (hx : wd_px p x) (hv : vp_p P) (hI : I x 6 = nI (P 7 1)) : ∀ (r d : Nat) (A : am_F), d + r = P 7 1 → cr_p p P I A → (∀ e, e < d → A (x + 1) e = nI (pf_fr P u e) ∧ A (x + 2) e = nI (pf_to P u e)) → ∃ A' : am_F, am_e 29 20 [.ref x, .ref p, .int (am_bi u), .int (nI d)] [] I A G = am_e 29 62 [.ref x, .ref p, .int (am_bi u), .int (nI (P 7 1))] [] I A' G ∧ (∀ b, b ≠ x + 1 → b ≠ x + 2 → A' b = A b) ∧ ∀ e, e < P 7 1 → A' (x + 1) e = nI (pf_fr P u e) ∧ A' (x + 2) e = nI (pf_to P u e) := by
  obtain ⟨hpp, -⟩ := am_cP hx
  have hD := hv.2.1
  have hH := hv.1.2
  intro r
  induction r with
  | zero =>
    intro d A hd hp hA
    have : d = P 7 1 := by omega
    subst this
    refine ⟨A, ?_, fun b _ _ => rfl, hA⟩
    refine (s_X5_follow_20).trans ?_
    rcases hx with ⟨rfl, rfl | rfl⟩ | ⟨rfl, rfl | rfl⟩ <;> simp only [s_X5_follow_21, s_X5_follow_22_at13, s_X5_follow_22_at19, s_X5_follow_22_at33, s_X5_follow_22_at39, s_X5_follow_25, hI, Int32.le_refl, if_true]
  | succ r ih =>
    intro d A hd hp hA
    have hdl : d < P 7 1 := by omega
    have a2 := (hp.2.2.2.1 d hdl).2.1
    have c0 := nI_clamp (show d < 2 ^ 31 by omega)
    have x0 := am_ixF (show d < 10 by omega) (show 10 < 2 ^ 31 by omega)
    have hn : (nI (P 7 1) ≤ nI d) = False := eq_false (by rw [nI_leI (by omega) (by omega)]; omega)
    have h8 : (nI (P 4 d) = 8) = (P 4 d = 8) := propext (nI_eq (by have := (hv.2.2.2.1 d hdl).2.1; omega) (by omega) : nI (P 4 d) = nI 8 ↔ _)
    have e0 : am_e 29 20 [.ref x, .ref p, .int (am_bi u), .int (nI d)] [] I A G = am_e 29 20 [.ref x, .ref p, .int (am_bi u), .int (nI (d + 1))] [] I (am_u (am_u A (x + 1) d (nI (pf_fr P u d))) (x + 2) d (nI (pf_to P u d))) G := by
      refine (s_X5_follow_20).trans ?_
      by_cases ho : P 4 d = 8
      · have hl := @e_X5_leadOutside p x d P u I A G hx hv hp hdl ho
        have h8' := h8.trans (eq_true ho)
        rcases hx with ⟨rfl, rfl | rfl⟩ | ⟨rfl, rfl | rfl⟩ <;>
        (simp only [Nat.reduceAdd] at a2 hl ⊢
         simp only [s_X5_follow_21, s_X5_follow_22_at13, s_X5_follow_22_at19, s_X5_follow_22_at33, s_X5_follow_22_at39, s_X5_follow_25, s_X5_follow_28, s_X5_follow_29_at5, s_X5_follow_29_at25, s_X5_follow_32, s_X5_follow_33, s_X5_follow_34, s_X5_follow_36, s_X5_follow_39, s_X5_follow_40, s_X5_follow_41, s_X5_follow_42, s_X5_follow_43_at13, s_X5_follow_43_at19, s_X5_follow_43_at33, s_X5_follow_43_at39, s_X5_follow_46, s_X5_follow_49, s_X5_follow_50, s_X5_follow_51, s_X5_follow_52, s_X5_follow_53_at13, s_X5_follow_53_at19, s_X5_follow_53_at33, s_X5_follow_53_at39, s_X5_follow_56, s_X5_follow_59, hI, hn, if_false, am_len_10, am_len_30, c0, x0, a2, h8', if_true, hl, am_k_some, am_push_n, am_add1])
      · have hl := @e_X5_leadInside p x d P u I A G hx hv hp hdl ho
        have h8' := h8.trans (eq_false ho)
        rcases hx with ⟨rfl, rfl | rfl⟩ | ⟨rfl, rfl | rfl⟩ <;>
        (simp only [Nat.reduceAdd] at a2 hl ⊢
         simp only [s_X5_follow_21, s_X5_follow_22_at13, s_X5_follow_22_at19, s_X5_follow_22_at33, s_X5_follow_22_at39, s_X5_follow_25, s_X5_follow_28, s_X5_follow_29_at5, s_X5_follow_29_at25, s_X5_follow_32, s_X5_follow_33, s_X5_follow_34, s_X5_follow_36, s_X5_follow_39, s_X5_follow_40, s_X5_follow_41, s_X5_follow_42, s_X5_follow_43_at13, s_X5_follow_43_at19, s_X5_follow_43_at33, s_X5_follow_43_at39, s_X5_follow_46, s_X5_follow_49, s_X5_follow_50, s_X5_follow_51, s_X5_follow_52, s_X5_follow_53_at13, s_X5_follow_53_at19, s_X5_follow_53_at33, s_X5_follow_53_at39, s_X5_follow_56, s_X5_follow_59, hI, hn, if_false, am_len_10, am_len_30, c0, x0, a2, h8', hl, am_k_some, am_push_n, am_add1])
    obtain ⟨A', f1, f2, f3⟩ := ih (d + 1) (am_u (am_u A (x + 1) d (nI (pf_fr P u d))) (x + 2) d (nI (pf_to P u d))) (by omega) (hp.fr (fun j => rfl) (fun a h1 h2 => by rw [am_u_ne (hx.ne a 2 h1 h2 (by omega) (by omega)), am_u_ne (hx.ne a 1 h1 h2 (by omega) (by omega))])) (fun e he => by
      rw [am_u_at, if_neg (by omega), am_u_at, am_u_at, am_u_at]
      by_cases hed : e = d
      · rw [if_pos ⟨rfl, hed⟩, if_pos ⟨rfl, hed⟩, hed]
        exact ⟨rfl, rfl⟩
      · rw [if_neg (fun q => hed q.2), if_neg (fun q => hed q.2), if_neg (by omega)]
        exact hA e (by omega))
    exact ⟨A', by rw [e0, f1], fun b h1 h2 => by rw [f2 b h1 h2, am_u_ne h2, am_u_ne h1], f3⟩
theorem e_X5_follow {p x : Nat} {P : sg_P} {u : Bool} {I A : am_F} {G : am_G} (hx : wd_px p x) (hv : vp_p P) (hp : cr_p p P I A) : ∃ (I' A' : am_F) (pl : List Nat), am_e 29 0 [.ref x, .ref p, .int (am_bi u), .null] [] I A G = some (.null, I', A', G) ∧ (∀ a j, a ≠ x → I' a j = I a j) ∧ (∀ b, ¬ (x < b ∧ b ≤ x + 5) → A' b = A b) ∧ wd_ok P u x pl I' A' := by
  obtain ⟨hpp, -⟩ := am_cP hx
  have hD := hv.2.1
  have hH := hv.1.2
  have hxc : x = 13 ∨ x = 19 ∨ x = 33 ∨ x = 39 := by unfold wd_px at hx; omega
  have hpx : p ≠ x := by unfold wd_px at hx; omega
  generalize hI1 : am_u (am_u I x 6 (nI (P 7 1))) x 3 (nI (P 7 0 + 1)) = I1
  have i6 : I1 x 6 = nI (P 7 1) := by rw [← hI1]; simp [am_u_at]
  have i3 : I1 x 3 = nI (P 7 0 + 1) := by rw [← hI1]; simp [am_u_at]
  have ifr : ∀ a j, a ≠ x → I1 a j = I a j := fun a j ha => by rw [← hI1, am_u_ne ha, am_u_ne ha]
  have hp1 : cr_p p P I1 A := hp.fr (fun j => ifr p j hpx) (fun _ _ _ => rfl)
  have e0 : am_e 29 0 [.ref x, .ref p, .int (am_bi u), .null] [] I A G = am_e 29 20 [.ref x, .ref p, .int (am_bi u), .int (nI 0)] [] I1 A G := by
    rw [← hI1]
    have q1 : I p 10 = nI (P 7 1) := hp.2.1
    have q2 : am_u I x 6 (nI (P 7 1)) p 9 = nI (P 7 0) := by rw [am_u_ne hpx]; exact hp.1
    rcases hx with ⟨rfl, rfl | rfl⟩ | ⟨rfl, rfl | rfl⟩ <;> (simp only [s_X5_follow_0, s_X5_follow_1, s_X5_follow_2_at5, s_X5_follow_2_at25, s_X5_follow_5_at13, s_X5_follow_5_at19, s_X5_follow_5_at33, s_X5_follow_5_at39, s_X5_follow_8, s_X5_follow_9, s_X5_follow_10_at5, s_X5_follow_10_at25, s_X5_follow_13, s_X5_follow_14, s_X5_follow_15_at13, s_X5_follow_15_at19, s_X5_follow_15_at33, s_X5_follow_15_at39, s_X5_follow_18, s_X5_follow_19, q1, q2, am_add1]; rfl)
  obtain ⟨A1, f1, f2, f3⟩ := X5_followLoop (u := u) (G := G) hx hv i6 (P 7 1) 0 A (by omega) hp1 (fun e he => by omega)
  have hp2 : cr_p p P I1 A1 := hp1.fr (fun _ => rfl) (fun a h1 h2 => f2 a (hx.ne a 1 h1 h2 (by omega) (by omega)) (hx.ne a 2 h1 h2 (by omega) (by omega)))
  obtain ⟨A2, pl, g1, g2, g3, g4, g5, g6⟩ := e_X5_orderPlaces (u := u) (I := I1) (A := A1) (G := G) hx hv hp2
  have hpl : pl.length = P 7 0 := by rw [g2.length_eq, List.length_range]
  have hmem : ∀ a ∈ pl, a < P 7 0 := fun a ha => List.mem_range.mp (g2.mem_iff.mp ha)
  have hA3 : ∀ k, k < (8 :: pl).length → A2 (x + 3) k = nI ((8 :: pl).getD k 0) := by
    intro k hk
    cases k with
    | zero => rw [g4]; rfl
    | succ k =>
      rw [g5 k (by simp only [List.length_cons] at hk; omega)]
      rfl
  have hFF : ∀ d, d < P 7 1 → (fun d => if d < P 7 1 then pf_fr P u d else 0) d = pf_fr P u d := fun d hd => if_pos hd
  have hfr9 : ∀ d, d < P 7 1 → pf_fr P u d < 100 := by
    intro d hd
    have := (hv.2.2.2.1 d hd)
    unfold pf_fr
    split
    · split <;> omega
    · split <;> omega
  obtain ⟨A3, h1, h2, h3, h4⟩ := X5_doorsOut (x := x) (D := P 7 1) (F := fun d => if d < P 7 1 then pf_fr P u d else 0) (pls := 8 :: pl) (I := I1) (G := G) hxc hD i6 (by rw [i3, List.length_cons, hpl]) (fun d => by
      show (if d < P 7 1 then pf_fr P u d else 0) < 100
      split
      · exact hfr9 d ‹_›
      · omega) (fun a ha => by
      rcases List.mem_cons.mp ha with rfl | ha
      · omega
      · have := hmem a ha; omega) (List.nodup_cons.mpr ⟨fun q => by have := hmem 8 q; omega, g2.nodup_iff.mpr List.nodup_range⟩) (by rw [List.length_cons]; omega) (8 :: pl).length 0 .null A2 (by omega) (fun e he => by rw [g6 _ (by omega), (f3 e he).1]; congr 1; exact (hFF e he).symm) hA3 (fun k hk => by simp at hk) (fun k hk => by omega)
  have hsg : pf_sg (fun d => if d < P 7 1 then pf_fr P u d else 0) (P 7 1) = pf_sg (pf_fr P u) (P 7 1) := funext fun a => pf_sg_c hFF
  rw [hsg] at h3 h4
  refine ⟨I1, A3, pl, ?_, ifr, fun b hb => by rw [h2 b (by omega) (by omega), g6 b (by omega), f2 b (by omega) (by omega)], i3, i6, fun d hd => by rw [h2 _ (by omega) (by omega), h2 _ (by omega) (by omega), g6 _ (by omega), g6 _ (by omega)]; exact f3 d hd, g2, g3, fun k hk => by rw [h2 _ (by omega) (by omega)]; exact hA3 k (by rw [List.length_cons]; omega), h3, fun k hk => h4 k (by rw [List.length_cons]; omega)⟩
  rw [e0, f1]
  have h1' : am_e 34 0 [.ref x, .null, .null, .null] [] I1 A2 G = some (.null, I1, A3, G) := by
    rw [← h1]
    rcases hxc with rfl | rfl | rfl | rfl <;> (simp only [s_X5_orderDoors_0, s_X5_orderDoors_1, s_X5_orderDoors_2, s_X5_orderDoors_3]; rfl)
  rcases hx with ⟨rfl, rfl | rfl⟩ | ⟨rfl, rfl | rfl⟩ <;> simp only [s_X5_follow_62, s_X5_follow_63, s_X5_follow_64, s_X5_follow_65_at13, s_X5_follow_65_at19, s_X5_follow_65_at33, s_X5_follow_65_at39, s_X5_follow_68, s_X5_follow_69_at13, s_X5_follow_69_at19, s_X5_follow_69_at33, s_X5_follow_69_at39, s_X5_follow_72, g1, h1', am_k_some, am_push_n]
