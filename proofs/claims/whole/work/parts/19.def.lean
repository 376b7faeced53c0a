/-! ===== the state in our own words: plan P, text n t, state now and kept, who smelled; what the model's and the class's cells say of it ===== -/
/-- open, flooded (bits), the hour, smoke (8: the open) -/
abbrev sg_S : Type := Int32 × Int32 × Nat × (Nat → Int32)
/-- a plan: rows 0 height, 1 makes, 2 needs, 3 one hall, 4 other (8: the open), 5 wide, 6 kind; row 7: halls, doors, middle, warm, early, late, ward, swing -/
abbrev sg_P : Type := Nat → Nat → Nat
def vp_p (P : sg_P) : Prop := (1 ≤ P 7 0 ∧ P 7 0 ≤ 8) ∧ P 7 1 ≤ 10 ∧ (∀ i, i < P 7 0 → P 0 i ≤ 99 ∧ P 1 i ≤ 50 ∧ P 2 i ≤ 99) ∧ (∀ d, d < P 7 1 → P 3 d < P 7 0 ∧ (P 4 d = 8 ∨ (P 4 d < P 7 0 ∧ P 0 (P 3 d) ≠ P 0 (P 4 d))) ∧ (1 ≤ P 5 d ∧ P 5 d ≤ 50) ∧ P 6 d ≤ 3) ∧ P 7 2 ≤ 99 ∧ P 7 3 ≤ 99 ∧ P 7 4 ≤ 99 ∧ P 7 5 ≤ 99 ∧ P 7 6 < P 7 0 ∧ P 7 7 ≤ 30
def mr_p (P : sg_P) (I A : am_F) : Prop := I 69 9 = nI (P 7 0) ∧ I 69 10 = nI (P 7 1) ∧ (∀ i, i < P 7 0 → A 74 (3 * i) = nI (P 0 i) ∧ A 74 (3 * i + 1) = nI (P 1 i) ∧ A 74 (3 * i + 2) = nI (P 2 i)) ∧ (∀ d, d < P 7 1 → A 75 (4 * d) = nI (P 3 d) ∧ A 75 (4 * d + 1) = (if P 4 d = 8 then -4 else nI (P 4 d)) ∧ A 75 (4 * d + 2) = nI (P 5 d) ∧ A 75 (4 * d + 3) = nI (P 6 d)) ∧ A 76 0 = nI (P 7 2) ∧ A 76 1 = nI (P 7 3) ∧ A 76 2 = nI (P 7 4) ∧ A 76 3 = nI (P 7 5) ∧ A 76 4 = nI (P 7 6) ∧ A 76 5 = nI (P 7 7)
def mr_t (n : Nat) (t : Nat → Nat) (I A : am_F) : Prop := I 69 0 = nI n ∧ ∀ j, j < n → A 70 j = nI (t j)
def mr_s (s : sg_S) (I A : am_F) : Prop := I 69 14 = s.1 ∧ I 69 15 = s.2.1 ∧ I 69 18 = nI s.2.2.1 ∧ I 69 17 = s.2.2.2 8 ∧ ∀ i, i < 8 → A 77 i = s.2.2.2 i
def mr_k (k : Nat) (K : Nat → sg_S) (I A : am_F) : Prop := I 69 19 = nI k ∧ ∀ e, e < k → A 78 (12 * e) = (K e).1 ∧ A 78 (12 * e + 1) = (K e).2.1 ∧ A 78 (12 * e + 2) = (K e).2.2.2 8 ∧ A 78 (12 * e + 3) = nI (K e).2.2.1 ∧ ∀ i, i < 8 → A 78 (12 * e + 4 + i) = (K e).2.2.2 i
def mr_n (m : Nat) (z : Nat → Nat × Nat × Nat) (I A : am_F) : Prop := I 69 21 = nI m ∧ ∀ e, e < m → A 79 (3 * e) = nI (z e).1 ∧ A 79 (3 * e + 1) = nI (z e).2.1 ∧ A 79 (3 * e + 2) = nI (z e).2.2
/-- the class: plan at the cell p (its rows behind it) -/
def cr_p (p : Nat) (P : sg_P) (I A : am_F) : Prop := I p 9 = nI (P 7 0) ∧ I p 10 = nI (P 7 1) ∧ (∀ i, i < P 7 0 → A (p + 1) i = nI (P 0 i) ∧ A (p + 2) i = nI (P 1 i) ∧ A (p + 3) i = nI (P 2 i)) ∧ (∀ d, d < P 7 1 → A (p + 4) d = nI (P 3 d) ∧ A (p + 5) d = nI (P 4 d) ∧ A (p + 6) d = nI (P 5 d) ∧ A (p + 7) d = nI (P 6 d)) ∧ I p 12 = nI (P 7 2) ∧ I p 13 = nI (P 7 3) ∧ I p 14 = nI (P 7 4) ∧ I p 15 = nI (P 7 5) ∧ I p 16 = nI (P 7 6) ∧ I p 17 = nI (P 7 7)
def cr_t (n : Nat) (t : Nat → Nat) (I A : am_F) : Prop := I 0 1 = nI n ∧ ∀ j, j < n → A 1 j &&& 255 = nI (t j)
def cr_s (c : Nat) (s : sg_S) (I A : am_F) : Prop := I c 0 = s.1 ∧ I c 1 = s.2.1 ∧ I c 2 = nI s.2.2.1 ∧ ∀ i, i < 9 → A (c + 1) i = s.2.2.2 i
def cr_k (k : Nat) (K : Nat → sg_S) (I A : am_F) : Prop := I 0 8 = nI k ∧ (0 < k → cr_s 48 (K 0) I A) ∧ (1 < k → cr_s 51 (K 1) I A)
def cr_n (m : Nat) (z : Nat → Nat × Nat × Nat) (I A : am_F) : Prop := I 54 3 = nI m ∧ ∀ e, e < m → A 55 e = nI (z e).1 ∧ A 56 e = nI (z e).2.1 ∧ A 57 e = nI (z e).2.2
def cr_g (p p' : Nat) (G : am_G) : Prop := G 0 3 = p ∧ G 0 4 = p' ∧ ((p = 5 ∧ p' = 25) ∨ (p = 25 ∧ p' = 5))
/-! ===== numbers ===== -/
theorem am_rngC {i : Int32} {n : Nat} (hn : n < 2 ^ 31) : (¬ i < 0 ∧ ¬ nI n ≤ i) ↔ ∃ j, j < n ∧ i = nI j := by
  constructor
  · rintro ⟨h1, h2⟩
    obtain ⟨j, hj, rfl⟩ := nI_of h1
    refine ⟨j, ?_, rfl⟩
    rw [nI_leI hn hj] at h2
    omega
  · rintro ⟨j, hj, rfl⟩
    exact ⟨nI_pos (by omega), by rw [nI_leI hn (by omega)]; omega⟩
theorem am_rngM {i : Int32} {n : Nat} (hn : n < 2 ^ 31) : (0 ≤ i ∧ i ≤ nI n - 1) ↔ ∃ j, j < n ∧ i = nI j := by
  cases n with
  | zero =>
    constructor
    · rintro ⟨h1, h2⟩
      have h3 : i ≤ -1 := h2
      rw [Int32.le_iff_toInt_le] at h1 h3
      exact absurd h3 (by have e0 : (0 : Int32).toInt = 0 := by decide
                          have e1 : (-1 : Int32).toInt = -1 := by decide
                          omega)
    · rintro ⟨j, hj, -⟩
      omega
  | succ n =>
    rw [nI_pred]
    constructor
    · rintro ⟨h1, h2⟩
      obtain ⟨j, hj, rfl⟩ := nI_of (Int32.not_lt.mpr h1)
      refine ⟨j, ?_, rfl⟩
      rw [nI_leI hj (by omega)] at h2
      omega
    · rintro ⟨j, hj, rfl⟩
      exact ⟨nI_pos' (by omega), by rw [nI_leI (by omega) (by omega)]; omega⟩
theorem am_rngK {i : Int32} (n : Nat) {c : Int32} (hc : c = nI n) (hn : n < 2 ^ 31) : (0 ≤ i ∧ i ≤ c) ↔ ∃ j, j ≤ n ∧ i = nI j := by
  subst hc
  constructor
  · rintro ⟨h1, h2⟩
    obtain ⟨j, hj, rfl⟩ := nI_of (Int32.not_lt.mpr h1)
    exact ⟨j, by rw [nI_leI hj hn] at h2; exact h2, rfl⟩
  · rintro ⟨j, hj, rfl⟩
    exact ⟨nI_pos' (by omega), by rw [nI_leI (by omega) (by omega)]; omega⟩
/-- the bit of a number -/
def am_hb (x : Int32) (k : Nat) : Bool := decide ((x >>> (nI k &&& 31)) &&& 1 = 1)
theorem am_and1 (x : Int32) : x &&& 1 = 0 ∨ x &&& 1 = 1 := by
  have h : ∀ b : BitVec 32, b &&& 1#32 = 0#32 ∨ b &&& 1#32 = 1#32 := by
    intro b
    cases h0 : b.getLsbD 0 with
    | false =>
      left
      apply BitVec.eq_of_getLsbD_eq
      intro i hi
      rw [BitVec.getLsbD_and]
      cases i with
      | zero => rw [h0]; simp
      | succ i => simp
    | true =>
      right
      apply BitVec.eq_of_getLsbD_eq
      intro i hi
      rw [BitVec.getLsbD_and]
      cases i with
      | zero => rw [h0]; simp
      | succ i => simp
  rcases h x.toBitVec with h | h
  · left
    exact Int32.toBitVec_inj.mp h
  · right
    exact Int32.toBitVec_inj.mp h
theorem am_bit (x y : Int32) : (x >>> (y &&& 31)) &&& 1 = am_bi (decide ((x >>> (y &&& 31)) &&& 1 = 1)) := by
  rcases am_and1 (x >>> (y &&& 31)) with h | h
  · rw [h]; decide
  · rw [h]; decide
theorem nI_31 {n : Nat} (h : n < 32) : nI n &&& 31 = nI n := by
  have : ∀ m : Fin 32, nI m.val &&& 31 = nI m.val := by decide
  exact this ⟨n, h⟩
theorem am_shl1 {n : Nat} (h : n < 31) : (1 : Int32) <<< (nI n &&& 31) = nI (2 ^ n) := by
  have : ∀ m : Fin 31, (1 : Int32) <<< (nI m.val &&& 31) = nI (2 ^ m.val) := by decide
  exact this ⟨n, h⟩
