/-! ===== truth values and small facts ===== -/
def am_bi (b : Bool) : Int32 := match b with
  | true => 1
  | false => 0
theorem am_bi_0 (b : Bool) : (am_bi b = 0) = (b = false) := by cases b <;> decide
theorem am_bi_1 (b : Bool) : (am_bi b = 1) = (b = true) := by cases b <;> decide
theorem am_bi_01 (b : Bool) : (am_bi b = 0 ∨ am_bi b = 1) = True := by cases b <;> decide
theorem am_01_0 : ((0 : Int32) = 0 ∨ (0 : Int32) = 1) = True := by decide
theorem am_01_1 : ((1 : Int32) = 0 ∨ (1 : Int32) = 1) = True := by decide
theorem am_u_eq {α : Type} (f : Nat → Nat → α) (a k : Nat) (v : α) : am_u f a k v a k = v := if_pos ⟨rfl, rfl⟩
theorem am_u_at {α : Type} (f : Nat → Nat → α) (a k : Nat) (v : α) (b j : Nat) : am_u f a k v b j = if b = a ∧ j = k then v else f b j := rfl
theorem am_lt_n {a b : Nat} (h : a < b) (hb : b < 2 ^ 31) : ¬ (nI a < 0 ∨ b ≤ (nI a).toNatClampNeg) := nI_in h hb
/-! ===== leaves of the model ===== -/
theorem e_X7_in {v a b : Int32} {I A : am_F} {G : am_G} : am_e 78 0 [.int v, .int a, .int b] [] I A G = some (.int (am_bi (decide (a ≤ v ∧ v ≤ b))), I, A, G) := by
  simp only [s_X7_in_0, s_X7_in_1, s_X7_in_2, s_X7_in_5, s_X7_in_6, s_X7_in_7, s_X7_in_10, s_X7_in_11, s_X7_in_14, s_X7_in_15, am_01_0, am_01_1, if_true]
  by_cases h1 : v < a
  · rw [if_pos h1, decide_eq_false (fun h => absurd h.1 (Int32.not_le.mpr h1))]; rfl
  · rw [if_neg h1]
    by_cases h2 : b < v
    · rw [if_pos h2, decide_eq_false (fun h => absurd h.2 (Int32.not_le.mpr h2))]; rfl
    · rw [if_neg h2, decide_eq_true ⟨Int32.not_lt.mp h1, Int32.not_lt.mp h2⟩]; rfl
theorem e_X7_has {x k : Int32} {I A : am_F} {G : am_G} : am_e 79 0 [.int x, .int k] [] I A G = some (.int (am_bi (decide ((x >>> (k &&& 31)) &&& 1 = 1))), I, A, G) := by
  simp only [s_X7_has_0, s_X7_has_1, s_X7_has_2, s_X7_has_3, s_X7_has_4, s_X7_has_5, s_X7_has_6, s_X7_has_9, s_X7_has_10, s_X7_has_13, s_X7_has_14, am_01_0, am_01_1, if_true]
  by_cases h1 : (x >>> (k &&& 31)) &&& 1 = 1
  · rw [if_pos h1, decide_eq_true h1]; rfl
  · rw [if_neg h1, decide_eq_false h1]; rfl
theorem e_X7_isHall {i : Int32} {I A : am_F} {G : am_G} : am_e 93 0 [.ref 69, .int i] [] I A G = some (.int (am_bi (decide (0 ≤ i ∧ i ≤ I 69 9 - 1))), I, A, G) := by
  simp only [s_X7_isHall_0, s_X7_isHall_1, s_X7_isHall_2, s_X7_isHall_3, s_X7_isHall_6, s_X7_isHall_7, s_X7_isHall_8, s_X7_isHall_11, e_X7_in, am_k_some, am_push_i, am_bi_01, if_true]
theorem e_X7_isDoor {i : Int32} {I A : am_F} {G : am_G} : am_e 94 0 [.ref 69, .int i] [] I A G = some (.int (am_bi (decide (0 ≤ i ∧ i ≤ I 69 10 - 1))), I, A, G) := by
  simp only [s_X7_isDoor_0, s_X7_isDoor_1, s_X7_isDoor_2, s_X7_isDoor_3, s_X7_isDoor_6, s_X7_isDoor_7, s_X7_isDoor_8, s_X7_isDoor_11, e_X7_in, am_k_some, am_push_i, am_bi_01, if_true]
theorem e_X7_isHour {i : Int32} {I A : am_F} {G : am_G} : am_e 100 0 [.int i] [] I A G = some (.int (am_bi (decide (0 ≤ i ∧ i ≤ 999999))), I, A, G) := by
  simp only [s_X7_isHour_0, s_X7_isHour_1, s_X7_isHour_2, s_X7_isHour_4, s_X7_isHour_7, e_X7_in, am_k_some, am_push_i, am_bi_01, if_true]
