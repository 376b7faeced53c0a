/-! ===== the model: items ===== -/
def mr_q (P : sg_P) (I A : am_F) : Prop := I 69 4 = nI (P 7 0) ∧ I 69 5 = nI (P 7 1) ∧ (∀ i, i < P 7 0 → A 71 (3 * i) = nI (P 0 i) ∧ A 71 (3 * i + 1) = nI (P 1 i) ∧ A 71 (3 * i + 2) = nI (P 2 i)) ∧ (∀ d, d < P 7 1 → A 72 (4 * d) = nI (P 3 d) ∧ A 72 (4 * d + 1) = (if P 4 d = 8 then -4 else nI (P 4 d)) ∧ A 72 (4 * d + 2) = nI (P 5 d) ∧ A 72 (4 * d + 3) = nI (P 6 d)) ∧ A 73 0 = nI (P 7 2) ∧ A 73 1 = nI (P 7 3) ∧ A 73 2 = nI (P 7 4) ∧ A 73 3 = nI (P 7 5) ∧ A 73 4 = nI (P 7 6) ∧ A 73 5 = nI (P 7 7)
/-- what reading may change in the model -/
def fr_m (I A I' A' : am_F) : Prop := (∀ a j, ¬ (a = 69 ∧ (j = 2 ∨ j = 3 ∨ j = 4 ∨ j = 5)) → I' a j = I a j) ∧ ∀ a, a ≠ 71 → a ≠ 72 → a ≠ 73 → A' a = A a
theorem fr_m.tr {I A I' A' I2 A2 : am_F} (h : fr_m I A I' A') (h2 : fr_m I' A' I2 A2) : fr_m I A I2 A2 := ⟨fun a j h1 => (h2.1 a j h1).trans (h.1 a j h1), fun a h1 h3 h4 => (h2.2 a h1 h3 h4).trans (h.2 a h1 h3 h4)⟩
theorem fr_m.n {I A I' : am_F} (h : ∀ a j, ¬ (a = 69 ∧ (j = 2 ∨ j = 3)) → I' a j = I a j) : fr_m I A I' A := ⟨fun a j hj => h a j (by omega), fun a _ _ _ => rfl⟩
/-- a number within: by Nats -/
theorem X7_nmS {n q s lo hi v q' : Nat} {t : Nat → Nat} {I A : am_F} {G : am_G} (h : mr_r n t q I A) (hs : s = 44 ∨ s = 59) (hl : lo < 2 ^ 31) (hh : hi < 2 ^ 31) (h1 : pf_num n t q s = some (v, q')) (h2 : lo ≤ v) (h3 : v ≤ hi) : ∃ I', am_e 84 0 [.ref 69, .int (nI lo), .int (nI hi), .int (nI s), .null, .null] [] I A G = some (.int 1, I', A, G) ∧ mr_r n t q' I' A ∧ I' 69 3 = nI v ∧ ∀ a j, ¬ (a = 69 ∧ (j = 2 ∨ j = 3)) → I' a j = I a j := by
  obtain ⟨b1, b2, b3, b4⟩ := pf_num_i h1
  obtain ⟨I', e1, e2, e3, e4⟩ := (e_X7_isNumber (lo := nI lo) (hi := nI hi) (G := G) h hs).1 v q' h1 (by rw [nI_leI hl (by omega)]; exact h2) (by rw [nI_leI (by omega) hh]; exact h3)
  exact ⟨I', e1, h.mv (b4 (by omega)) e2 (e4 69 0 (by omega)) rfl, e3, e4⟩
theorem X7_nmF {n q s lo hi : Nat} {t : Nat → Nat} {I A : am_F} {G : am_G} (h : mr_r n t q I A) (hs : s = 44 ∨ s = 59) (hl : lo < 2 ^ 31) (hh : hi < 2 ^ 31) (h1 : ∀ v q', pf_num n t q s = some (v, q') → ¬ (lo ≤ v ∧ v ≤ hi)) : ∃ I', am_e 84 0 [.ref 69, .int (nI lo), .int (nI hi), .int (nI s), .null, .null] [] I A G = some (.int 0, I', A, G) ∧ ∀ a j, ¬ (a = 69 ∧ (j = 2 ∨ j = 3)) → I' a j = I a j := by
  refine (e_X7_isNumber (lo := nI lo) (hi := nI hi) (G := G) h hs).2 (fun v q' hq hc => h1 v q' hq ?_)
  have := (pf_num_i hq).1
  rw [nI_leI hl (by omega), nI_leI (by omega) hh] at hc
  exact hc
theorem pf_ns_1 {n q : Nat} {t : Nat → Nat} : pf_ns n t 1 q = match pf_num n t q 59 with | none => none | some (v, q') => some ([v], q') := by
  unfold pf_ns
  rw [if_pos rfl]
  cases pf_num n t q 59 <;> rfl
theorem pf_ns_s {n q r : Nat} {t : Nat → Nat} : pf_ns n t (r + 2) q = match pf_num n t q 44 with | none => none | some (v, q') => (match pf_ns n t (r + 1) q' with | none => none | some (l, q'') => some (v :: l, q'')) := by
  conv => lhs; unfold pf_ns
  rw [if_neg (by omega)]
  cases pf_num n t q 44 with
  | none => rfl
  | some x =>
    obtain ⟨v, q'⟩ := x
    show (match pf_ns n t (r + 1) q' with | none => none | some (l, q'') => some (v :: l, q'')) = (match pf_ns n t (r + 1) q' with | none => none | some (l, q'') => some (v :: l, q''))
    rfl
/-- the four settings of one number -/
theorem e_X7_isSet {n q w hi : Nat} {t : Nat → Nat} {I A : am_F} {G : am_G} (h : mr_r n t q I A) (hw : w < 6) (hh : hi < 2 ^ 31) : (∀ v q', pf_num n t q 59 = some (v, q') → v ≤ hi → ∃ I', am_e 87 0 [.ref 69, .int (nI w), .int (nI hi), .null] [] I A G = some (.int 1, I', am_u A 73 w (nI v), G) ∧ mr_r n t q' I' (am_u A 73 w (nI v)) ∧ ∀ a j, ¬ (a = 69 ∧ (j = 2 ∨ j = 3)) → I' a j = I a j) ∧ ((∀ v q', pf_num n t q 59 = some (v, q') → ¬ v ≤ hi) → ∃ I' A', am_e 87 0 [.ref 69, .int (nI w), .int (nI hi), .null] [] I A G = some (.int 0, I', A', G) ∧ fr_m I A I' A') := by
  refine ⟨fun v q' h1 h2 => ?_, fun h1 => ?_⟩
  · obtain ⟨I', e1, e2, e3, e4⟩ := X7_nmS (lo := 0) (G := G) h (Or.inr rfl) (by omega) hh h1 (by omega) h2
    refine ⟨I', ?_, e2.mv e2.2.1 e2.2.2.1 rfl (am_u_ne (by decide)), e4⟩
    have e1' : am_e 84 0 [.ref 69, .int 0, .int (nI hi), .int 59, .null, .null] [] I A G = some (.int 1, I', A, G) := e1
    simp only [s_X7_isSet_0, s_X7_isSet_1, s_X7_isSet_2, s_X7_isSet_3, s_X7_isSet_5, s_X7_isSet_8, s_X7_isSet_9, s_X7_isSet_10, s_X7_isSet_13, s_X7_isSet_14, s_X7_isSet_15, s_X7_isSet_18, s_X7_isSet_19, s_X7_isSet_20, e1', am_k_some, am_push_i, am_len_73, nI_clamp (show w < 2 ^ 31 by omega), am_ixF hw (by omega), if_false, e3, am_01_1, or_true, if_true]
  · obtain ⟨I', e1, e4⟩ := X7_nmF (lo := 0) (G := G) h (Or.inr rfl) (by omega) hh (fun v q' hq hc => h1 v q' hq hc.2)
    have e1' : am_e 84 0 [.ref 69, .int 0, .int (nI hi), .int 59, .null, .null] [] I A G = some (.int 0, I', A, G) := e1
    refine ⟨I', am_u A 73 w (I' 69 3), ?_, ⟨fun a j hj => e4 a j (by omega), fun a h1 h2 h3 => am_u_ne h3⟩⟩
    simp only [s_X7_isSet_0, s_X7_isSet_1, s_X7_isSet_2, s_X7_isSet_3, s_X7_isSet_5, s_X7_isSet_8, s_X7_isSet_9, s_X7_isSet_10, s_X7_isSet_13, s_X7_isSet_14, s_X7_isSet_15, s_X7_isSet_18, s_X7_isSet_19, s_X7_isSet_20, e1', am_k_some, am_push_i, am_len_73, nI_clamp (show w < 2 ^ 31 by omega), am_ixF hw (by omega), if_false, am_01_0, true_or, if_true]
theorem e_X7_isWarm {n q : Nat} {t : Nat → Nat} {I A : am_F} {G : am_G} (h : mr_r n t q I A) : (∀ l q', pf_ns n t 2 q = some (l, q') → ∃ I', am_e 88 0 [.ref 69, .null] [] I A G = some (.int 1, I', am_u (am_u A 73 2 (nI (l.getD 0 0))) 73 3 (nI (l.getD 1 0)), G) ∧ mr_r n t q' I' (am_u (am_u A 73 2 (nI (l.getD 0 0))) 73 3 (nI (l.getD 1 0))) ∧ ∀ a j, ¬ (a = 69 ∧ (j = 2 ∨ j = 3)) → I' a j = I a j) ∧ (pf_ns n t 2 q = none → ∃ I' A', am_e 88 0 [.ref 69, .null] [] I A G = some (.int 0, I', A', G) ∧ fr_m I A I' A') := by
  rw [show (2 : Nat) = 0 + 2 from rfl, pf_ns_s]
  cases h1 : pf_num n t q 44 with
  | none =>
    refine ⟨fun l q' hq => (by cases hq), fun _ => ?_⟩
    obtain ⟨I', e1, e4⟩ := X7_nmF (lo := 0) (hi := 99) (G := G) h (Or.inl rfl) (by omega) (by omega) (fun v q' hq => by rw [h1] at hq; cases hq)
    have e1' : am_e 84 0 [.ref 69, .int 0, .int 99, .int 44, .null, .null] [] I A G = some (.int 0, I', A, G) := e1
    refine ⟨I', am_u A 73 2 (I' 69 3), ?_, ⟨fun a j hj => e4 a j (by omega), fun a h1 h2 h3 => am_u_ne h3⟩⟩
    simp [s_X7_isWarm_0, s_X7_isWarm_1, s_X7_isWarm_2, s_X7_isWarm_4, s_X7_isWarm_6, s_X7_isWarm_9, s_X7_isWarm_10, s_X7_isWarm_11, s_X7_isWarm_14, s_X7_isWarm_15, s_X7_isWarm_16, s_X7_isWarm_19, s_X7_isWarm_20, s_X7_isWarm_21, s_X7_isWarm_24, s_X7_isWarm_25, s_X7_isWarm_26, s_X7_isWarm_28, s_X7_isWarm_31, s_X7_isWarm_34, s_X7_isWarm_35, s_X7_isWarm_38, s_X7_isWarm_39, e1', am_k_some, am_push_i, am_len_73]
  | some x =>
    obtain ⟨v, q1⟩ := x
    dsimp only
    obtain ⟨I1, e1, e2, e3, e4⟩ := X7_nmS (lo := 0) (hi := 99) (G := G) h (Or.inl rfl) (by omega) (by omega) h1 (by omega) (pf_num_i h1).1
    have e1' : am_e 84 0 [.ref 69, .int 0, .int 99, .int 44, .null, .null] [] I A G = some (.int 1, I1, A, G) := e1
    have hr1 : mr_r n t q1 I1 (am_u A 73 2 (nI v)) := e2.mv e2.2.1 e2.2.2.1 rfl (am_u_ne (by decide))
    obtain ⟨w1, w2⟩ := e_X7_isSet (w := 3) (hi := 99) (G := G) hr1 (by omega) (by omega)
    rw [show (0 + 1 : Nat) = 1 from rfl, pf_ns_1]
    cases h2 : pf_num n t q1 59 with
    | none =>
      refine ⟨fun l q' hq => (by cases hq), fun _ => ?_⟩
      obtain ⟨I2, A2, f1, f2⟩ := w2 (fun v q' hq => by rw [h2] at hq; cases hq)
      have f1' : am_e 87 0 [.ref 69, .int 3, .int 99, .null] [] I1 (am_u A 73 2 (nI v)) G = some (.int 0, I2, A2, G) := f1
      refine ⟨I2, A2, ?_, fr_m.tr (I' := I1) (A' := am_u A 73 2 (nI v)) ⟨fun a j hj => e4 a j (by omega), fun a h1 h2 h3 => am_u_ne h3⟩ f2⟩
      simp [s_X7_isWarm_0, s_X7_isWarm_1, s_X7_isWarm_2, s_X7_isWarm_4, s_X7_isWarm_6, s_X7_isWarm_9, s_X7_isWarm_10, s_X7_isWarm_11, s_X7_isWarm_14, s_X7_isWarm_15, s_X7_isWarm_16, s_X7_isWarm_19, s_X7_isWarm_20, s_X7_isWarm_21, s_X7_isWarm_24, s_X7_isWarm_25, s_X7_isWarm_26, s_X7_isWarm_28, s_X7_isWarm_31, s_X7_isWarm_34, s_X7_isWarm_35, s_X7_isWarm_38, s_X7_isWarm_39, e1', f1', e3, am_k_some, am_push_i, am_len_73]
    | some y =>
      obtain ⟨u, q2⟩ := y
      refine ⟨fun l q' hq => ?_, fun hq => (by cases hq)⟩
      cases hq
      obtain ⟨I2, f1, f2, f3⟩ := w1 u q2 h2 (pf_num_i h2).1
      have f1' : am_e 87 0 [.ref 69, .int 3, .int 99, .null] [] I1 (am_u A 73 2 (nI v)) G = some (.int 1, I2, am_u (am_u A 73 2 (nI v)) 73 3 (nI u), G) := f1
      refine ⟨I2, ?_, f2, fun a j hj => by rw [f3 a j hj, e4 a j hj]⟩
      simp [s_X7_isWarm_0, s_X7_isWarm_1, s_X7_isWarm_2, s_X7_isWarm_4, s_X7_isWarm_6, s_X7_isWarm_9, s_X7_isWarm_10, s_X7_isWarm_11, s_X7_isWarm_14, s_X7_isWarm_15, s_X7_isWarm_16, s_X7_isWarm_19, s_X7_isWarm_20, s_X7_isWarm_21, s_X7_isWarm_24, s_X7_isWarm_25, s_X7_isWarm_26, s_X7_isWarm_28, s_X7_isWarm_31, s_X7_isWarm_34, s_X7_isWarm_35, s_X7_isWarm_38, s_X7_isWarm_39, e1', f1', e3, am_k_some, am_push_i, am_len_73]
theorem e_X7_isHallItem {n q : Nat} {t : Nat → Nat} {P : sg_P} {I A : am_F} {G : am_G} (hv : vq_p P) (hp : mr_q P I A) (h : mr_r n t q I A) : (∀ l q' P', pf_ns n t 3 q = some (l, q') → pf_take P 104 l = some P' → ∃ I' A', am_e 85 0 [.ref 69, .null] [] I A G = some (.int 1, I', A', G) ∧ mr_q P' I' A' ∧ mr_r n t q' I' A' ∧ fr_m I A I' A') ∧ ((∀ l q' P', pf_ns n t 3 q = some (l, q') → pf_take P 104 l ≠ some P') → ∃ I' A', am_e 85 0 [.ref 69, .null] [] I A G = some (.int 0, I', A', G) ∧ fr_m I A I' A') := by
  have hH := hv.1
  obtain ⟨p1, p2, p3, p4, p5, p6, p7, p8, p9, p10⟩ := hp
  have ht : ∀ a b c : Nat, pf_take P 104 [a, b, c] = if P 7 0 < 8 ∧ b ≤ 50 then some (pf_hallP P a b c) else none := fun a b c => rfl
  have c0 := nI_clamp (show 3 * P 7 0 < 2 ^ 31 by omega)
  have c1 := nI_clamp (show 3 * P 7 0 + 1 < 2 ^ 31 by omega)
  have c2 := nI_clamp (show 3 * P 7 0 + 2 < 2 ^ 31 by omega)
  have g8 : (nI (P 7 0) = 8) = (P 7 0 = 8) := propext (nI_eq (by omega) (by omega) : nI (P 7 0) = nI 8 ↔ _)
  by_cases h8 : P 7 0 = 8
  · refine ⟨fun l q' P' _ hq => ?_, fun _ => ⟨I, A, ?_, ⟨fun a j _ => rfl, fun a _ _ _ => rfl⟩⟩⟩
    · unfold pf_take at hq
      rw [if_pos rfl, if_neg (by omega)] at hq
      cases hq
    · have g8' := g8.trans (eq_true h8)
      simp only [s_X7_isHallItem_0, s_X7_isHallItem_1, s_X7_isHallItem_2, s_X7_isHallItem_5, s_X7_isHallItem_6, s_X7_isHallItem_7, s_X7_isHallItem_8, s_X7_isHallItem_11, s_X7_isHallItem_13, s_X7_isHallItem_16, s_X7_isHallItem_17, s_X7_isHallItem_18, s_X7_isHallItem_20, s_X7_isHallItem_22, s_X7_isHallItem_25, s_X7_isHallItem_28, s_X7_isHallItem_29, p1, g8', if_true, am_01_0, true_or]
  · have x0 := am_ixF (show 3 * P 7 0 < 24 by omega) (by omega)
    have x1 := am_ixF (show 3 * P 7 0 + 1 < 24 by omega) (by omega)
    have x2 := am_ixF (show 3 * P 7 0 + 2 < 24 by omega) (by omega)
    have g8' := g8.trans (eq_false h8)
    rw [show (3 : Nat) = 1 + 2 from rfl, pf_ns_s]
    cases h1 : pf_num n t q 44 with
    | none =>
      refine ⟨fun l q' P' hq => (by cases hq), fun _ => ?_⟩
      obtain ⟨I1, e1, e4⟩ := X7_nmF (lo := 0) (hi := 99) (G := G) h (Or.inl rfl) (by omega) (by omega) (fun v q' hq => by rw [h1] at hq; cases hq)
      have e1' : am_e 84 0 [.ref 69, .int 0, .int 99, .int 44, .null, .null] [] I A G = some (.int 0, I1, A, G) := e1
      refine ⟨I1, A, ?_, fr_m.n e4⟩
      simp only [s_X7_isHallItem_0, s_X7_isHallItem_1, s_X7_isHallItem_2, s_X7_isHallItem_5, s_X7_isHallItem_6, s_X7_isHallItem_7, s_X7_isHallItem_8, s_X7_isHallItem_11, s_X7_isHallItem_13, s_X7_isHallItem_16, s_X7_isHallItem_17, s_X7_isHallItem_18, s_X7_isHallItem_20, s_X7_isHallItem_22, s_X7_isHallItem_25, s_X7_isHallItem_28, s_X7_isHallItem_29, p1, g8', if_false, e1', am_k_some, am_push_i, if_true, am_01_0, true_or]
    | some x =>
      obtain ⟨v0, q0⟩ := x
      dsimp only
      obtain ⟨I1, e1, e2, e3, e4⟩ := X7_nmS (lo := 0) (hi := 99) (G := G) h (Or.inl rfl) (by omega) (by omega) h1 (by omega) (pf_num_i h1).1
      have e1' : am_e 84 0 [.ref 69, .int 0, .int 99, .int 44, .null, .null] [] I A G = some (.int 1, I1, A, G) := e1
      have hr1 : mr_r n t q0 I1 (am_u A 71 (3 * P 7 0) (nI v0)) := e2.mv e2.2.1 e2.2.2.1 rfl (am_u_ne (by decide))
      have b1 : am_e 85 0 [.ref 69, .null] [] I A G = am_e 85 40 [.ref 69, .int (nI (3 * P 7 0))] [] I1 (am_u A 71 (3 * P 7 0) (nI v0)) G := by
        simp only [s_X7_isHallItem_0, s_X7_isHallItem_1, s_X7_isHallItem_2, s_X7_isHallItem_5, s_X7_isHallItem_6, s_X7_isHallItem_7, s_X7_isHallItem_8, s_X7_isHallItem_11, s_X7_isHallItem_13, s_X7_isHallItem_16, s_X7_isHallItem_17, s_X7_isHallItem_18, s_X7_isHallItem_20, s_X7_isHallItem_22, s_X7_isHallItem_25, s_X7_isHallItem_28, s_X7_isHallItem_29, s_X7_isHallItem_30, s_X7_isHallItem_31, s_X7_isHallItem_34, s_X7_isHallItem_35, s_X7_isHallItem_36, s_X7_isHallItem_39, p1, g8', if_false, e1', am_k_some, am_push_i, show ((1 : Int32) = 0) = False by decide, am_mul3, am_len_71, c0, x0, e3]
      rw [show (1 + 1 : Nat) = 0 + 2 from rfl, pf_ns_s]
      have fail2 : (∀ v q', pf_num n t q0 44 = some (v, q') → ¬ (0 ≤ v ∧ v ≤ 50)) → ∃ I' A', am_e 85 0 [.ref 69, .null] [] I A G = some (.int 0, I', A', G) ∧ fr_m I A I' A' := by
        intro hf
        obtain ⟨I2, f1, f4⟩ := X7_nmF (lo := 0) (hi := 50) (G := G) hr1 (Or.inl rfl) (by omega) (by omega) hf
        have f1' : am_e 84 0 [.ref 69, .int 0, .int 50, .int 44, .null, .null] [] I1 (am_u A 71 (3 * P 7 0) (nI v0)) G = some (.int 0, I2, am_u A 71 (3 * P 7 0) (nI v0), G) := f1
        refine ⟨I2, am_u A 71 (3 * P 7 0) (nI v0), ?_, ⟨fun a j hj => by rw [f4 a j (by omega), e4 a j (by omega)], fun a h1 h2 h3 => am_u_ne h1⟩⟩
        rw [b1]
        simp only [s_X7_isHallItem_40, s_X7_isHallItem_41, s_X7_isHallItem_42, s_X7_isHallItem_44, s_X7_isHallItem_46, s_X7_isHallItem_49, s_X7_isHallItem_52, s_X7_isHallItem_53, f1', am_k_some, am_push_i, if_true, am_01_0, true_or]
      cases h2 : pf_num n t q0 44 with
      | none =>
        refine ⟨fun l q' P' hq => (by cases hq), fun _ => fail2 (fun v q' hq => by rw [h2] at hq; cases hq)⟩
      | some y =>
        obtain ⟨v1, q1⟩ := y
        dsimp only
        rw [show (0 + 1 : Nat) = 1 from rfl, pf_ns_1]
        by_cases hv1 : v1 ≤ 50
        · obtain ⟨I2, f1, f2, f3, f4⟩ := X7_nmS (lo := 0) (hi := 50) (G := G) hr1 (Or.inl rfl) (by omega) (by omega) h2 (by omega) hv1
          have f1' : am_e 84 0 [.ref 69, .int 0, .int 50, .int 44, .null, .null] [] I1 (am_u A 71 (3 * P 7 0) (nI v0)) G = some (.int 1, I2, am_u A 71 (3 * P 7 0) (nI v0), G) := f1
          have hr2 : mr_r n t q1 I2 (am_u (am_u A 71 (3 * P 7 0) (nI v0)) 71 (3 * P 7 0 + 1) (nI v1)) := f2.mv f2.2.1 f2.2.2.1 rfl (am_u_ne (by decide))
          have b2 : am_e 85 40 [.ref 69, .int (nI (3 * P 7 0))] [] I1 (am_u A 71 (3 * P 7 0) (nI v0)) G = am_e 85 66 [.ref 69, .int (nI (3 * P 7 0))] [] I2 (am_u (am_u A 71 (3 * P 7 0) (nI v0)) 71 (3 * P 7 0 + 1) (nI v1)) G := by
            simp only [s_X7_isHallItem_40, s_X7_isHallItem_41, s_X7_isHallItem_42, s_X7_isHallItem_44, s_X7_isHallItem_46, s_X7_isHallItem_49, s_X7_isHallItem_52, s_X7_isHallItem_53, s_X7_isHallItem_54, s_X7_isHallItem_55, s_X7_isHallItem_58, s_X7_isHallItem_59, s_X7_isHallItem_60, s_X7_isHallItem_61, s_X7_isHallItem_62, s_X7_isHallItem_65, if_false, f1', am_k_some, am_push_i, show ((1 : Int32) = 0) = False by decide, am_add1, am_len_71, c1, x1, f3]
          have frI : ∀ a j, ¬ (a = 69 ∧ (j = 2 ∨ j = 3)) → I2 a j = I a j := fun a j hj => by rw [f4 a j hj, e4 a j hj]
          cases h3 : pf_num n t q1 59 with
          | none =>
            refine ⟨fun l q' P' hq => (by cases hq), fun _ => ?_⟩
            obtain ⟨I3, g1, g4⟩ := X7_nmF (lo := 0) (hi := 99) (G := G) hr2 (Or.inr rfl) (by omega) (by omega) (fun v q' hq => by rw [h3] at hq; cases hq)
            have g1' : am_e 84 0 [.ref 69, .int 0, .int 99, .int 59, .null, .null] [] I2 (am_u (am_u A 71 (3 * P 7 0) (nI v0)) 71 (3 * P 7 0 + 1) (nI v1)) G = some (.int 0, I3, am_u (am_u A 71 (3 * P 7 0) (nI v0)) 71 (3 * P 7 0 + 1) (nI v1), G) := g1
            refine ⟨I3, _, ?_, ⟨fun a j hj => by rw [g4 a j (by omega), frI a j (by omega)], fun a h1 h2 h3 => (by rw [am_u_ne h1, am_u_ne h1] : am_u (am_u A 71 (3 * P 7 0) (nI v0)) 71 (3 * P 7 0 + 1) (nI v1) a = A a)⟩⟩
            rw [b1, b2]
            simp only [s_X7_isHallItem_66, s_X7_isHallItem_67, s_X7_isHallItem_68, s_X7_isHallItem_70, s_X7_isHallItem_72, s_X7_isHallItem_75, s_X7_isHallItem_78, s_X7_isHallItem_79, g1', am_k_some, am_push_i, if_true, am_01_0, true_or]
          | some z =>
            obtain ⟨v2, q2⟩ := z
            obtain ⟨I3, g1, g2, g3, g4⟩ := X7_nmS (lo := 0) (hi := 99) (G := G) hr2 (Or.inr rfl) (by omega) (by omega) h3 (by omega) (pf_num_i h3).1
            have g1' : am_e 84 0 [.ref 69, .int 0, .int 99, .int 59, .null, .null] [] I2 (am_u (am_u A 71 (3 * P 7 0) (nI v0)) 71 (3 * P 7 0 + 1) (nI v1)) G = some (.int 1, I3, am_u (am_u A 71 (3 * P 7 0) (nI v0)) 71 (3 * P 7 0 + 1) (nI v1), G) := g1
            have frJ : ∀ a j, ¬ (a = 69 ∧ (j = 2 ∨ j = 3)) → I3 a j = I a j := fun a j hj => by rw [g4 a j hj, frI a j hj]
            have k4 : I3 69 4 = nI (P 7 0) := by rw [frJ 69 4 (by omega)]; exact p1
            refine ⟨fun l q' P' hq hP => ?_, fun hq => ?_⟩
            · cases hq
              rw [ht, if_pos ⟨by omega, hv1⟩] at hP
              cases hP
              refine ⟨am_u I3 69 4 (nI (P 7 0 + 1)), am_u (am_u (am_u A 71 (3 * P 7 0) (nI v0)) 71 (3 * P 7 0 + 1) (nI v1)) 71 (3 * P 7 0 + 2) (nI v2), ?_, ⟨?_, ?_, fun i hi => ?_, fun d hd => ?_, ?_, ?_, ?_, ?_, ?_, ?_⟩, ?_, ⟨fun a j hj => ?_, fun a h1 h2 h3 => ?_⟩⟩
              · rw [b1, b2]
                simp only [s_X7_isHallItem_66, s_X7_isHallItem_67, s_X7_isHallItem_68, s_X7_isHallItem_70, s_X7_isHallItem_72, s_X7_isHallItem_75, s_X7_isHallItem_78, s_X7_isHallItem_79, s_X7_isHallItem_80, s_X7_isHallItem_81, s_X7_isHallItem_84, s_X7_isHallItem_85, s_X7_isHallItem_86, s_X7_isHallItem_87, s_X7_isHallItem_88, s_X7_isHallItem_91, s_X7_isHallItem_92, s_X7_isHallItem_93, s_X7_isHallItem_94, s_X7_isHallItem_97, s_X7_isHallItem_98, s_X7_isHallItem_99, s_X7_isHallItem_102, s_X7_isHallItem_103, g1', am_k_some, am_push_i, show ((1 : Int32) = 0) = False by decide, if_false, am_add2, am_len_71, c2, x2, g3, k4, am_add1, am_01_1, or_true, if_true]
              · simp [am_u_at, pf_hallP]
              · simp [am_u_at, pf_hallP]; rw [frJ 69 5 (by omega)]; exact p2
              · simp [pf_hallP, am_uN] at hi
                simp only [am_u_at, true_and]
                by_cases hi2 : i = P 7 0
                · subst hi2
                  simp [pf_hallP, am_uN]
                · rw [if_neg (by omega), if_neg (by omega), if_neg (by omega), if_neg (by omega), if_neg (by omega), if_neg (by omega), if_neg (by omega), if_neg (by omega), if_neg (by omega)]
                  simp [pf_hallP, am_uN, hi2]
                  exact p3 i (by omega)
              · simp [pf_hallP, am_uN] at hd
                simp [am_u_at, pf_hallP]
                exact p4 d hd
              · simp [am_u_at, pf_hallP]; exact p5
              · simp [am_u_at, pf_hallP]; exact p6
              · simp [am_u_at, pf_hallP]; exact p7
              · simp [am_u_at, pf_hallP]; exact p8
              · simp [am_u_at, pf_hallP]; exact p9
              · simp [am_u_at, pf_hallP]; exact p10
              · exact g2.mv g2.2.1 (by simpa [am_u_at] using g2.2.2.1) (by simp [am_u_at]) (am_u_ne (by decide))
              · rw [am_u_at, if_neg (by omega)]; exact frJ a j (by omega)
              · rw [am_u_ne h1, am_u_ne h1, am_u_ne h1]
            · exact absurd (ht v0 v1 v2) (by rw [if_pos ⟨by omega, hv1⟩]; exact hq _ _ _ rfl)
        · refine ⟨fun l q' P' hq hP => ?_, fun _ => fail2 (fun v q' hq => by rw [h2] at hq; cases hq; omega)⟩
          cases h3 : pf_num n t q1 59 with
          | none => rw [h3] at hq; cases hq
          | some z =>
            obtain ⟨v2, q2⟩ := z
            rw [h3] at hq
            cases hq
            rw [ht, if_neg (by omega)] at hP
            cases hP
