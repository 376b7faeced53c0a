/-! ===== bits ===== -/
theorem am_s31 {k : Nat} (hk : k < 32) : ((nI k &&& 31).toBitVec.smod 32).toNat = k := by
  have : ∀ m : Fin 32, ((nI m.val &&& 31).toBitVec.smod 32).toNat = m.val := by decide +kernel
  exact this ⟨k, hk⟩
theorem am_hb_g {x : Int32} {k : Nat} (hk : k < 32) : am_hb x k = x.toBitVec.getLsbD k := by
  have e : ((x >>> (nI k &&& 31)) &&& 1).toBitVec.getLsbD 0 = x.toBitVec.getLsbD k := by
    rw [Int32.toBitVec_and, BitVec.getLsbD_and, Int32.toBitVec_shiftRight, BitVec.sshiftRight', am_s31 hk, BitVec.getLsbD_sshiftRight]
    simp [hk]
  unfold am_hb
  rcases am_and1 (x >>> (nI k &&& 31)) with h | h
  · rw [h] at e ⊢; rw [← e]; decide
  · rw [h] at e ⊢; rw [← e]; decide
theorem am_1s {k j : Nat} (hk : k < 32) (hj : j < 32) : ((1 : Int32) <<< (nI k &&& 31)).toBitVec.getLsbD j = decide (j = k) := by
  have : ∀ m n : Fin 32, ((1 : Int32) <<< (nI m.val &&& 31)).toBitVec.getLsbD n.val = decide (n.val = m.val) := by decide +kernel
  exact this ⟨k, hk⟩ ⟨j, hj⟩
theorem am_m1s {j : Nat} (hj : j < 32) : (-1 : Int32).toBitVec.getLsbD j = true := by
  have : ∀ n : Fin 32, (-1 : Int32).toBitVec.getLsbD n.val = true := by decide +kernel
  exact this ⟨j, hj⟩
theorem am_hb_1 {k j : Nat} (hk : k < 32) (hj : j < 32) : am_hb ((1 : Int32) <<< (nI k &&& 31)) j = decide (j = k) := by
  rw [am_hb_g hj, am_1s hk hj]
theorem am_hb_or {x : Int32} {k j : Nat} (hk : k < 32) (hj : j < 32) : am_hb (x ||| ((1 : Int32) <<< (nI k &&& 31))) j = (am_hb x j || decide (j = k)) := by
  rw [am_hb_g hj, am_hb_g hj, Int32.toBitVec_or, BitVec.getLsbD_or, am_1s hk hj]
theorem am_hb_xo {x : Int32} {k j : Nat} (hk : k < 32) (hj : j < 32) : am_hb (x ^^^ ((1 : Int32) <<< (nI k &&& 31))) j = (am_hb x j ^^ decide (j = k)) := by
  rw [am_hb_g hj, am_hb_g hj, Int32.toBitVec_xor, BitVec.getLsbD_xor, am_1s hk hj]
theorem am_hb_an {x : Int32} {k j : Nat} (hk : k < 32) (hj : j < 32) : am_hb (x &&& (((1 : Int32) <<< (nI k &&& 31)) ^^^ (-1))) j = (am_hb x j && !decide (j = k)) := by
  rw [am_hb_g hj, am_hb_g hj, Int32.toBitVec_and, BitVec.getLsbD_and, Int32.toBitVec_xor, BitVec.getLsbD_xor, am_1s hk hj, am_m1s hj, Bool.xor_true]
theorem am_hb_wb {x b : Int32} {k j : Nat} (hk : k < 32) (hj : j < 32) : am_hb (pf_wb x (nI k) b) j = if j = k then decide (b ≠ 0) else am_hb x j := by
  unfold pf_wb
  by_cases hb : b = 0
  · rw [if_pos hb, am_hb_an hk hj]
    by_cases h : j = k <;> simp [h, hb]
  · rw [if_neg hb, am_hb_or hk hj]
    by_cases h : j = k <;> simp [h, hb]
theorem am_hb_0 {j : Nat} (hj : j < 32) : am_hb 0 j = false := by
  have : ∀ n : Fin 32, am_hb 0 n.val = false := by decide +kernel
  exact this ⟨j, hj⟩
theorem am_hb_256 {j : Nat} (hj : j < 32) : am_hb 256 j = decide (j = 8) := by
  have : ∀ n : Fin 32, am_hb 256 n.val = decide (n.val = 8) := by decide +kernel
  exact this ⟨j, hj⟩
theorem am_hb_x {x y : Int32} (h : ∀ j, j < 32 → am_hb x j = am_hb y j) : x = y := by
  apply Int32.toBitVec_inj.mp
  apply BitVec.eq_of_getLsbD_eq
  intro i hi
  have := h i hi
  rwa [am_hb_g hi, am_hb_g hi] at this
theorem am_hb_n {n j : Nat} (hn : n < 2 ^ 32) (hj : j < 32) : am_hb (nI n) j = n.testBit j := by
  rw [am_hb_g hj, ← BitVec.testBit_toNat, pk_tn hn]
theorem am_hb_hi {n m j : Nat} (hn : n < 2 ^ m) (hm : m ≤ j) (hj : j < 32) : am_hb (nI n) j = false := by
  have h2 : (2 : Nat) ^ m ≤ 2 ^ j := Nat.pow_le_pow_right (by omega) hm
  have h3 : (2 : Nat) ^ j ≤ 2 ^ 31 := Nat.pow_le_pow_right (by omega) (by omega)
  rw [am_hb_n (by omega) hj]
  exact Nat.testBit_lt_two_pow (by omega)
/-- the bit, as the programs ask for it -/
theorem am_hb_d {x : Int32} {k : Nat} : decide ((x >>> (nI k &&& 31)) &&& 1 = 1) = am_hb x k := rfl
theorem am_hb_b {x : Int32} {k : Nat} : (x >>> (nI k &&& 31)) &&& 1 = am_bi (am_hb x k) := am_bit x (nI k)
theorem am_nle0 {n : Nat} (h : n < 2 ^ 31) : (nI n ≤ 0) = (n = 0) := propext (by rw [show (0 : Int32) = nI 0 from rfl, nI_leI h (by omega)]; omega)
