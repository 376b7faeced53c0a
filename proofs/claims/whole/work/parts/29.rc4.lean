/-! ===== the class: the first fault ===== -/
theorem cr_r.fr {n q : Nat} {t : Nat → Nat} {I A I' A' : am_F} {G : am_G} (h : cr_r n t q I A G) (h1 : I' 2 3 = I 2 3) (h2 : I' 2 2 = I 2 2) (hA : A' 1 = A 1) : cr_r n t q I' A' G := by
  obtain ⟨a1, a2, a3, a4, a5, a6, a7⟩ := h
  exact ⟨a1, a2, by rw [h1]; exact a3, by rw [h2]; exact a4, a5, fun j hj => by rw [hA]; exact a6 j hj, a7⟩
theorem cr_q.fr {p : Nat} {P : sg_P} {I A I' A' : am_F} (h : cr_q p P I A) (hI : ∀ j, I' p j = I p j) (hA : ∀ a, p < a → a ≤ p + 7 → A' a = A a) : cr_q p P I' A' := by
  obtain ⟨⟨c1, c2, c3, c4, c5, c6, c7, c8, c9, c10⟩, cs⟩ := h
  refine ⟨⟨by rw [hI]; exact c1, by rw [hI]; exact c2, fun i hi => ?_, fun d hd => ?_, by rw [hI]; exact c5, by rw [hI]; exact c6, by rw [hI]; exact c7, by rw [hI]; exact c8, by rw [hI]; exact c9, by rw [hI]; exact c10⟩, by rw [hI]; exact cs⟩
  · rw [hA (p + 1) (by omega) (by omega), hA (p + 2) (by omega) (by omega), hA (p + 3) (by omega) (by omega)]; exact c3 i hi
  · rw [hA (p + 4) (by omega) (by omega), hA (p + 5) (by omega) (by omega), hA (p + 6) (by omega) (by omega), hA (p + 7) (by omega) (by omega)]; exact c4 d hd
/-- which cells reading into the plan p may change -/
def fr_r (p : Nat) (I A I' A' : am_F) : Prop := (∀ a j, a ≠ p → ¬ (a = 2 ∧ (j = 2 ∨ j = 3)) → I' a j = I a j) ∧ ∀ a, a ≠ 3 → ¬ (p < a ∧ a ≤ p + 7) → A' a = A a
theorem fr_r.tr {p : Nat} {I A I' A' I2 A2 : am_F} (h : fr_r p I A I' A') (h2 : fr_r p I' A' I2 A2) : fr_r p I A I2 A2 := ⟨fun a j h1 h3 => (h2.1 a j h1 h3).trans (h.1 a j h1 h3), fun a h1 h3 => (h2.2 a h1 h3).trans (h.2 a h1 h3)⟩
theorem pf_item_i {n : Nat} {t : Nat → Nat} {P P' : sg_P} {q q' : Nat} (hv : vq_p P) (hq : q < n) (h : pf_item n t P q = some (P', q')) : vq_p P' ∧ q < q' ∧ q' ≤ n := by
  unfold pf_item at h
  split at h
  · cases h
  · cases h1 : pf_ns n t (pf_many (pf_by n t q)) (q + 1) with
    | none => rw [h1] at h; cases h
    | some x =>
      obtain ⟨l, q1⟩ := x
      rw [h1] at h
      dsimp only at h
      obtain ⟨a1, a2, a3, a4⟩ := pf_ns_i _ _ _ _ h1 (by omega)
      cases h2 : pf_take P (pf_by n t q) l with
      | none => rw [h2] at h; cases h
      | some P1 =>
        rw [h2] at h
        cases h
        exact ⟨pf_take_i hv a4 h2, by omega, a3⟩
theorem pf_read_i {n : Nat} {t : Nat → Nat} : ∀ (f : Nat) (P : sg_P) (q : Nat), vq_p P → vq_p (pf_read n t f P q).2
  | 0, P, q, h => h
  | f + 1, P, q, h => by
    unfold pf_read
    split
    · rename_i hq
      cases h1 : pf_item n t P q with
      | none => exact h
      | some x =>
        obtain ⟨P', q'⟩ := x
        exact pf_read_i f P' q' (pf_item_i h hq h1).1
    · exact h
/-- one item -/
theorem X3_item {p n q : Nat} {t : Nat → Nat} {P : sg_P} {b5 b6 : Value} {I A : am_F} {G : am_G} {m : Nat} (hm : m < 400) (hpp : p = 5 ∨ p = 25) (hv : vq_p P) (hp : cr_q p P I A) (hr : cr_r n t q I A G) (hq : q < n) : (∀ P' q', pf_item n t P q = some (P', q') → ∃ I' A', am_e 18 27 [.ref 2, .ref 1, .int (nI n), .ref p, .int (nI m), b5, b6] [] I A G = am_e 18 27 [.ref 2, .ref 1, .int (nI n), .ref p, .int (nI (m + 1)), .int (nI q), .int (nI (t q))] [] I' A' G ∧ cr_q p P' I' A' ∧ cr_r n t q' I' A' G ∧ fr_r p I A I' A') ∧ (pf_item n t P q = none → ∃ I' A', am_e 18 27 [.ref 2, .ref 1, .int (nI n), .ref p, .int (nI m), b5, b6] [] I A G = some (.int (nI q), I', A', G) ∧ fr_r p I A I' A') := by
  have hby : pf_by n t q = t q := if_pos hq
  have hn4 := hr.1
  have hc := hr.2.2.2.2.2.2 q hq
  have e0 : am_e 18 27 [.ref 2, .ref 1, .int (nI n), .ref p, .int (nI m), b5, b6] [] I A G = am_e 18 64 [.ref 2, .ref 1, .int (nI n), .ref p, .int (nI m), .int (nI q), .int (nI (t q))] [.int (nI (pf_many (t q))), .ref 2] (am_u I 2 3 (nI (q + 1))) A G := by
    refine (s_X3_firstFault_27).trans ?_
    simp only [s_X3_firstFault_29, s_X3_firstFault_32, s_X3_firstFault_35, s_X3_firstFault_36, s_X3_firstFault_39, s_X3_firstFault_40, s_X3_firstFault_43, s_X3_firstFault_46, s_X3_firstFault_47, s_X3_firstFault_50, s_X3_firstFault_52, s_X3_firstFault_53, s_X3_firstFault_56, s_X3_firstFault_58, s_X3_firstFault_59, s_X3_firstFault_61, hr.2.2.1, hr.2.2.2.1, e_X3_nextByte1 hr hq, e_X3_numbersBehind hc, am_k_some, am_push_i]
    rw [if_neg (by rw [show (400 : Int32) = nI 400 from rfl, nI_leI (by omega) (by omega)]; omega), if_neg (by rw [nI_leI (by omega) (by omega)]; omega)]
  have hr1 := hr.mv (show q + 1 ≤ n by omega) (A' := A) rfl
  have hp1 : cr_q p P (am_u I 2 3 (nI (q + 1))) A := hp.fr (fun j => by rw [am_u_ne (by omega)]) (fun a _ _ => rfl)
  have hmany : pf_many (t q) ≤ 4 := by unfold pf_many; split; omega; split; omega; split; omega; split <;> omega
  have e1 : am_e 18 64 [.ref 2, .ref 1, .int (nI n), .ref p, .int (nI m), .int (nI q), .int (nI (t q))] [.int (nI (pf_many (t q))), .ref 2] (am_u I 2 3 (nI (q + 1))) A G = am_k (am_e 21 2 [.ref 2, .int (nI (pf_many (t q))), .int (nI 0)] [] (am_u I 2 3 (nI (q + 1))) A G) (fun v I A G => am_e 18 67 [.ref 2, .ref 1, .int (nI n), .ref p, .int (nI m), .int (nI q), .int (nI (t q))] (am_push v []) I A G) := by
    simp only [s_X3_firstFault_64, s_X3_readNumbers_0, s_X3_readNumbers_1]
    rfl
  obtain ⟨w1, w2⟩ := X3_readNumbers_loop (G := G) (pf_many (t q)) 0 (q + 1) (am_u I 2 3 (nI (q + 1))) A (by omega) hr1
  rw [Nat.zero_add] at w1 w2
  unfold pf_item
  rw [hby]
  by_cases hm0 : pf_many (t q) = 0
  · rw [if_pos hm0]
    refine ⟨fun P' q' h => (by cases h), fun _ => ?_⟩
    rw [hm0] at w1
    obtain ⟨A', f1, f2, -, -⟩ := w1 [] (q + 1) rfl
    refine ⟨am_u (am_u I 2 3 (nI (q + 1))) 2 3 (nI (q + 1)), A', ?_, ⟨fun a j h1 h2 => ?_, fun a h1 h2 => f2 a h1⟩⟩
    · rw [e0, e1, hm0, f1]
      simp only [am_k_some, am_push_i, s_X3_firstFault_67, s_X3_firstFault_70, s_X3_firstFault_71, s_X3_firstFault_73, s_X3_firstFault_74, s_X3_firstFault_77_at5, s_X3_firstFault_77_at25, s_X3_firstFault_80, s_X3_firstFault_83, s_X3_firstFault_85]
      rfl
    · rw [am_uu, am_u_at, if_neg (by omega)]
  · rw [if_neg hm0]
    cases h1 : pf_ns n t (pf_many (t q)) (q + 1) with
    | none =>
      refine ⟨fun P' q' h => (by cases h), fun _ => ?_⟩
      obtain ⟨I', A', f1, f2, f3⟩ := w2 h1
      refine ⟨I', A', ?_, ⟨fun a j h1 h2 => ?_, fun a h1 h2 => f3 a h1⟩⟩
      · rw [e0, e1, f1]
        simp only [am_k_some, am_push_i, s_X3_firstFault_67, s_X3_firstFault_70, s_X3_firstFault_71, s_X3_firstFault_73, s_X3_firstFault_74, s_X3_firstFault_77_at5, s_X3_firstFault_77_at25, s_X3_firstFault_80, s_X3_firstFault_83, s_X3_firstFault_85, if_true]
      · rw [f2 a j (by omega), am_u_at, if_neg (by omega)]
    | some x =>
      obtain ⟨l, q1⟩ := x
      obtain ⟨b1, b2, b3, b4⟩ := pf_ns_i _ _ _ _ h1 (by omega)
      obtain ⟨A1, f1, f2, f3, -⟩ := w1 l q1 h1
      rw [am_uu] at f1
      have hp2 : cr_q p P (am_u I 2 3 (nI q1)) A1 := hp.fr (fun j => by rw [am_u_ne (by omega)]) (fun a ha _ => f2 a (by omega))
      have hr2 : cr_r n t q1 (am_u I 2 3 (nI q1)) A1 G := hr.mv b3 (f2 1 (by omega))
      obtain ⟨t1, t2⟩ := e_X2_take (G := G) (l := l) hpp hv hp2 hc (by omega) (fun i hi => by have := f3 i hi; rwa [Nat.zero_add] at this) b4
      have e2 : am_e 18 27 [.ref 2, .ref 1, .int (nI n), .ref p, .int (nI m), b5, b6] [] I A G = am_k (am_e 7 0 [.ref p, .int (nI (t q)), .ref 3] [] (am_u I 2 3 (nI q1)) A1 G) (fun v I A G => am_e 18 80 [.ref 2, .ref 1, .int (nI n), .ref p, .int (nI m), .int (nI q), .int (nI (t q))] (am_push v []) I A G) := by
        rw [e0, e1, f1, decide_eq_true (by omega)]
        rcases hpp with rfl | rfl <;> simp only [am_k_some, am_push_i, s_X3_firstFault_67, s_X3_firstFault_70, s_X3_firstFault_71, s_X3_firstFault_73, s_X3_firstFault_74, s_X3_firstFault_77_at5, s_X3_firstFault_77_at25, am_bi_0, Bool.true_eq_false, if_false]
      dsimp only
      cases h2 : pf_take P (t q) l with
      | none =>
        refine ⟨fun P' q' h => (by cases h), fun _ => ⟨am_u I 2 3 (nI q1), A1, ?_, ⟨fun a j h1 h2 => ?_, fun a h1 h2 => f2 a h1⟩⟩⟩
        · rw [e2, t2 h2]
          simp only [am_k_some, am_push_i, s_X3_firstFault_80, s_X3_firstFault_83, s_X3_firstFault_85, if_true]
        · rw [am_u_at, if_neg (by omega)]
      | some P1 =>
        refine ⟨fun P' q' h => ?_, fun h => (by cases h)⟩
        cases h
        obtain ⟨I2, A2, g1, g2, g3⟩ := t1 P1 h2
        refine ⟨I2, A2, ?_, g2, hr2.fr (g3.1 2 3 (by omega)) (g3.1 2 2 (by omega)) (g3.2 1 (by omega)), ⟨fun a j h1 h2 => ?_, fun a h1 h2 => ?_⟩⟩
        · rw [e2, g1]
          simp only [am_k_some, am_push_i, s_X3_firstFault_80, s_X3_firstFault_86, s_X3_firstFault_89, show ((1 : Int32) = 0) = False by decide, if_false, am_add1]
        · rw [g3.1 a j h1, am_u_at, if_neg (by omega)]
        · rw [g3.2 a h2, f2 a h1]
theorem X3_loop {p n : Nat} {t : Nat → Nat} {G : am_G} (hpp : p = 5 ∨ p = 25) : ∀ (f m q : Nat) (P : sg_P) (b5 b6 : Value) (I A : am_F), n - q ≤ f → m + (n - q) ≤ 400 → vq_p P → cr_q p P I A → cr_r n t q I A G → ∃ I' A', am_e 18 27 [.ref 2, .ref 1, .int (nI n), .ref p, .int (nI m), b5, b6] [] I A G = some (.int (match (pf_read n t f P q).1 with | some x => nI x | none => -4), I', A', G) ∧ fr_r p I A I' A' ∧ ((pf_read n t f P q).1 = none → cr_q p (pf_read n t f P q).2 I' A') := by
  intro f
  induction f with
  | zero =>
    intro m q P b5 b6 I A hf hm hv hp hr
    have hq := hr.2.1
    have : q = n := by omega
    subst this
    have hn4 := hr.1
    refine ⟨I, A, ?_, ⟨fun a j _ _ => rfl, fun a _ _ => rfl⟩, fun _ => hp⟩
    refine (s_X3_firstFault_27).trans ?_
    simp only [s_X3_firstFault_29, s_X3_firstFault_32, s_X3_firstFault_35, s_X3_firstFault_36, s_X3_firstFault_39, s_X3_firstFault_40, s_X3_firstFault_43, s_X3_firstFault_92, s_X3_firstFault_94, hr.2.2.1, hr.2.2.2.1, Int32.le_refl, if_true, ite_self]
    rfl
  | succ f ih =>
    intro m q P b5 b6 I A hf hm hv hp hr
    have hn4 := hr.1
    have hq2 := hr.2.1
    unfold pf_read
    by_cases hq : q < n
    · rw [if_pos hq]
      obtain ⟨w1, w2⟩ := X3_item (b5 := b5) (b6 := b6) (m := m) (by omega) hpp hv hp hr hq
      cases h1 : pf_item n t P q with
      | none =>
        obtain ⟨I', A', e1, e2⟩ := w2 h1
        exact ⟨I', A', e1, e2, fun h => by cases h⟩
      | some x =>
        obtain ⟨P', q'⟩ := x
        obtain ⟨hv', hlt, hle⟩ := pf_item_i hv hq h1
        obtain ⟨I1, A1, e1, e2, e3, e4⟩ := w1 P' q' h1
        obtain ⟨I', A', f1, f2, f3⟩ := ih (m + 1) q' P' (.int (nI q)) (.int (nI (t q))) I1 A1 (by omega) (by omega) hv' e2 e3
        exact ⟨I', A', by rw [e1, f1], e4.tr f2, f3⟩
    · rw [if_neg hq]
      have : q = n := by omega
      subst this
      refine ⟨I, A, ?_, ⟨fun a j _ _ => rfl, fun a _ _ => rfl⟩, fun _ => hp⟩
      refine (s_X3_firstFault_27).trans ?_
      simp only [s_X3_firstFault_29, s_X3_firstFault_32, s_X3_firstFault_35, s_X3_firstFault_36, s_X3_firstFault_39, s_X3_firstFault_40, s_X3_firstFault_43, s_X3_firstFault_92, s_X3_firstFault_94, hr.2.2.1, hr.2.2.2.1, Int32.le_refl, if_true, ite_self]
