/-! ===== reading a text: in our own words ===== -/
def pf_by (n : Nat) (t : Nat → Nat) (q : Nat) : Nat := if q < n then t q else 256
def pf_fg (c : Nat) : Bool := Nat.ble 48 c && Nat.ble c 57
def pf_num (n : Nat) (t : Nat → Nat) (q s : Nat) : Option (Nat × Nat) :=
  if pf_fg (pf_by n t q) = true then (if pf_fg (pf_by n t (q + 1)) = true then (if pf_by n t (q + 2) = s then some (10 * (pf_by n t q - 48) + (pf_by n t (q + 1) - 48), q + 3) else none) else if pf_by n t (q + 1) = s then some (pf_by n t q - 48, q + 2) else none) else none
/-- r numbers, parted by , and ; behind the last -/
def pf_ns (n : Nat) (t : Nat → Nat) : Nat → Nat → Option (List Nat × Nat)
  | 0, q => some ([], q)
  | r + 1, q => match pf_num n t q (if r = 0 then 59 else 44) with
    | none => none
    | some (v, q') => (match pf_ns n t r q' with
      | none => none
      | some (l, q'') => some (v :: l, q''))
def pf_hallP (P : sg_P) (z s m : Nat) : sg_P := am_u (am_u (am_u (am_u P 0 (P 7 0) z) 1 (P 7 0) s) 2 (P 7 0) m) 7 0 (P 7 0 + 1)
def pf_doorP (P : sg_P) (i j w k : Nat) : sg_P := am_u (am_u (am_u (am_u (am_u P 3 (P 7 1) i) 4 (P 7 1) j) 5 (P 7 1) w) 6 (P 7 1) k) 7 1 (P 7 1 + 1)
def pf_take (P : sg_P) (c : Nat) (l : List Nat) : Option sg_P :=
  if c = 104 then (if P 7 0 < 8 ∧ l.getD 1 0 ≤ 50 then some (pf_hallP P (l.getD 0 0) (l.getD 1 0) (l.getD 2 0)) else none)
  else if c = 100 then (if P 7 1 < 10 ∧ l.getD 0 0 < P 7 0 ∧ l.getD 1 0 < P 7 0 ∧ P 0 (l.getD 0 0) ≠ P 0 (l.getD 1 0) ∧ 1 ≤ l.getD 2 0 ∧ l.getD 2 0 ≤ 50 ∧ l.getD 3 0 ≤ 3 then some (pf_doorP P (l.getD 0 0) (l.getD 1 0) (l.getD 2 0) (l.getD 3 0)) else none)
  else if c = 111 then (if P 7 1 < 10 ∧ l.getD 0 0 < P 7 0 ∧ 1 ≤ l.getD 1 0 ∧ l.getD 1 0 ≤ 50 ∧ l.getD 2 0 ≤ 3 then some (pf_doorP P (l.getD 0 0) 8 (l.getD 1 0) (l.getD 2 0)) else none)
  else if c = 109 then some (am_u P 7 2 (l.getD 0 0))
  else if c = 99 then some (am_u P 7 3 (l.getD 0 0))
  else if c = 119 then some (am_u (am_u P 7 4 (l.getD 0 0)) 7 5 (l.getD 1 0))
  else if c = 115 then (if l.getD 0 0 < P 7 0 then some (am_u P 7 6 (l.getD 0 0)) else none)
  else if c = 118 then (if l.getD 0 0 ≤ 30 then some (am_u P 7 7 (l.getD 0 0)) else none)
  else none
def pf_many (c : Nat) : Nat := if c = 104 ∨ c = 111 then 3 else if c = 100 then 4 else if c = 119 then 2 else if c = 109 ∨ c = 99 ∨ c = 115 ∨ c = 118 then 1 else 0
def pf_item (n : Nat) (t : Nat → Nat) (P : sg_P) (q : Nat) : Option (sg_P × Nat) := if pf_many (pf_by n t q) = 0 then none else match pf_ns n t (pf_many (pf_by n t q)) (q + 1) with
  | none => none
  | some (l, q') => (match pf_take P (pf_by n t q) l with
    | none => none
    | some P' => some (P', q'))
/-- the fault, if there is one, and the plan -/
def pf_read (n : Nat) (t : Nat → Nat) : Nat → sg_P → Nat → Option Nat × sg_P
  | 0, P, _ => (none, P)
  | f + 1, P, q => if q < n then (match pf_item n t P q with
      | none => (some q, P)
      | some (P', q') => pf_read n t f P' q') else (none, P)
/-- the empty plan -/
def pf_P0 : sg_P := fun a b => if a = 7 then (if b = 2 then 50 else if b = 3 then 12 else if b = 4 then 5 else if b = 5 then 20 else 0) else 0
/-- what holds of a plan that is being read -/
def vq_p (P : sg_P) : Prop := P 7 0 ≤ 8 ∧ P 7 1 ≤ 10 ∧ (∀ i, i < P 7 0 → P 0 i ≤ 99 ∧ P 1 i ≤ 50 ∧ P 2 i ≤ 99) ∧ (∀ d, d < P 7 1 → P 3 d < P 7 0 ∧ (P 4 d = 8 ∨ (P 4 d < P 7 0 ∧ P 0 (P 3 d) ≠ P 0 (P 4 d))) ∧ (1 ≤ P 5 d ∧ P 5 d ≤ 50) ∧ P 6 d ≤ 3) ∧ P 7 2 ≤ 99 ∧ P 7 3 ≤ 99 ∧ P 7 4 ≤ 99 ∧ P 7 5 ≤ 99 ∧ (P 7 6 = 0 ∨ P 7 6 < P 7 0) ∧ P 7 7 ≤ 30
theorem vq_p.vp {P : sg_P} (h : vq_p P) (h1 : P 7 0 ≠ 0) : vp_p P := by
  obtain ⟨a1, a2, a3, a4, a5, a6, a7, a8, a9, a10⟩ := h
  exact ⟨⟨by omega, a1⟩, a2, a3, a4, a5, a6, a7, a8, by omega, a10⟩
theorem pf_num_i {n : Nat} {t : Nat → Nat} {q s v q' : Nat} (h : pf_num n t q s = some (v, q')) : v ≤ 99 ∧ q < q' ∧ q' ≤ q + 3 ∧ (s ≠ 256 → q' ≤ n) := by
  have hf : ∀ c, pf_fg c = true → 48 ≤ c ∧ c ≤ 57 := fun c h => by
    unfold pf_fg at h
    rw [Bool.and_eq_true] at h
    exact ⟨Nat.le_of_ble_eq_true h.1, Nat.le_of_ble_eq_true h.2⟩
  have hb : ∀ x, pf_by n t x = s → s ≠ 256 → x < n := fun x h1 h2 => by
    unfold pf_by at h1
    split at h1
    · assumption
    · exact absurd h1.symm h2
  unfold pf_num at h
  split at h
  · rename_i h1
    have := hf _ h1
    split at h
    · rename_i h2
      have := hf _ h2
      split at h
      · rename_i h3
        cases h
        exact ⟨by omega, by omega, by omega, fun hs => hb _ h3 hs⟩
      · cases h
    · split at h
      · rename_i h3
        cases h
        exact ⟨by omega, by omega, by omega, fun hs => hb _ h3 hs⟩
      · cases h
  · cases h
theorem pf_ns_i {n : Nat} {t : Nat → Nat} : ∀ (r q : Nat) (l : List Nat) (q' : Nat), pf_ns n t r q = some (l, q') → q ≤ n → l.length = r ∧ q + r ≤ q' ∧ q' ≤ n ∧ ∀ i, l.getD i 0 ≤ 99
  | 0, q, l, q', h, hq => by cases h; exact ⟨rfl, by omega, hq, fun i => by simp⟩
  | r + 1, q, l, q', h, hq => by
    unfold pf_ns at h
    cases h1 : pf_num n t q (if r = 0 then 59 else 44) with
    | none => rw [h1] at h; cases h
    | some x =>
      obtain ⟨v, q1⟩ := x
      rw [h1] at h
      dsimp only at h
      obtain ⟨a1, a2, a3, a4⟩ := pf_num_i h1
      have a4 := a4 (by split <;> omega)
      cases h2 : pf_ns n t r q1 with
      | none => rw [h2] at h; cases h
      | some y =>
        obtain ⟨l1, q2⟩ := y
        rw [h2] at h
        cases h
        obtain ⟨b1, b2, b3, b4⟩ := pf_ns_i r q1 l1 _ h2 a4
        refine ⟨by simp [b1], by omega, b3, fun i => ?_⟩
        cases i with
        | zero => simpa using a1
        | succ i => simpa using b4 i
theorem am_uN {f : sg_P} {a k v b j : Nat} : am_u f a k v b j = if b = a ∧ j = k then v else f b j := rfl
theorem pf_take_i {P P' : sg_P} {c : Nat} {l : List Nat} (hv : vq_p P) (hl : ∀ i, l.getD i 0 ≤ 99) (h : pf_take P c l = some P') : vq_p P' := by
  obtain ⟨a1, a2, a3, a4, a5, a6, a7, a8, a9, a10⟩ := hv
  have g0 := hl 0; have g1 := hl 1; have g2 := hl 2; have g3 := hl 3
  unfold pf_take at h
  generalize l.getD 0 0 = x0 at *; generalize l.getD 1 0 = x1 at *; generalize l.getD 2 0 = x2 at *; generalize l.getD 3 0 = x3 at *
  split at h
  · split at h
    · rename_i hc
      cases h
      unfold pf_hallP vq_p
      simp only [am_uN, Nat.reduceEqDiff, false_and, and_true, true_and, if_false, if_true, and_false, Nat.zero_ne_one, Nat.one_ne_zero]
      refine ⟨by omega, a2, fun i hi => ?_, fun d hd => ?_, by simpa using a5, by simpa using a6, by simpa using a7, by simpa using a8, by simpa using (by omega : P 7 6 = 0 ∨ P 7 6 < P 7 0 + 1), by simpa using a10⟩
      · by_cases hi2 : i = P 7 0
        · simp [hi2]; omega
        · have := a3 i (by omega)
          simp [hi2]; exact this
      · have := a4 d (by simpa using hd)
        have e1 : ¬ P 3 d = P 7 0 := by omega
        refine ⟨by omega, ?_, by simpa using this.2.2.1, by simpa using this.2.2.2⟩
        rcases this.2.1 with h1 | ⟨h1, h2⟩
        · exact Or.inl (by simpa using h1)
        · have e2 : ¬ P 4 d = P 7 0 := by omega
          refine Or.inr ⟨by omega, ?_⟩
          simp [e1, e2]
          exact h2
    · cases h
  · have door : ∀ i j w k, P 7 1 < 10 → i < P 7 0 → (j = 8 ∨ (j < P 7 0 ∧ P 0 i ≠ P 0 j)) → 1 ≤ w → w ≤ 50 → k ≤ 3 → vq_p (pf_doorP P i j w k) := by
      intro i j w k b1 b2 b3 b4 b5 b6
      unfold pf_doorP vq_p
      simp only [am_uN, Nat.reduceEqDiff, false_and, and_true, true_and, if_false, if_true, and_false, Nat.zero_ne_one, Nat.one_ne_zero]
      refine ⟨by simpa using a1, by omega, fun i hi => by simpa using a3 i (by simpa using hi), fun d hd => ?_, by simpa using a5, by simpa using a6, by simpa using a7, by simpa using a8, by simpa using a9, by simpa using a10⟩
      by_cases hd2 : d = P 7 1
      · simp [hd2]
        exact ⟨b2, b3, ⟨b4, b5⟩, b6⟩
      · have := a4 d (by omega)
        simp [hd2]
        exact this
    split at h
    · split at h
      · rename_i hc
        cases h
        exact door _ _ _ _ hc.1 hc.2.1 (Or.inr ⟨hc.2.2.1, hc.2.2.2.1⟩) hc.2.2.2.2.1 hc.2.2.2.2.2.1 hc.2.2.2.2.2.2
      · cases h
    · split at h
      · split at h
        · rename_i hc
          cases h
          exact door _ _ _ _ hc.1 hc.2.1 (Or.inl rfl) hc.2.2.1 hc.2.2.2.1 hc.2.2.2.2
        · cases h
      · repeat' split at h
        all_goals first | (cases h; done) | skip
        all_goals
          cases h
          unfold vq_p
          simp only [am_uN, Nat.reduceEqDiff, false_and, and_true, true_and, if_false, if_true, and_false]
          simp
          first
            | exact ⟨a1, a2, a3, a4, g0, a6, a7, a8, a9, a10⟩
            | exact ⟨a1, a2, a3, a4, a5, g0, a7, a8, a9, a10⟩
            | exact ⟨a1, a2, a3, a4, a5, a6, g0, g1, a9, a10⟩
            | exact ⟨a1, a2, a3, a4, a5, a6, a7, a8, Or.inr ‹_›, a10⟩
            | exact ⟨a1, a2, a3, a4, a5, a6, a7, a8, a9, ‹_›⟩
