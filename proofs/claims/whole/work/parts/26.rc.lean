/-! ===== reading a text: the class ===== -/
theorem am_uu {α : Type} {f : Nat → Nat → α} {a k : Nat} {v w : α} : am_u (am_u f a k v) a k w = am_u f a k w := by
  funext b j
  unfold am_u
  split <;> rfl
theorem pf_fg_c {c : Nat} (hc : c < 2 ^ 31) : decide (48 ≤ nI c ∧ nI c ≤ 57) = pf_fg c := by
  have e : (48 ≤ nI c ∧ nI c ≤ 57) ↔ (48 ≤ c ∧ c ≤ 57) := by
    rw [show (48 : Int32) = nI 48 from rfl, show (57 : Int32) = nI 57 from rfl, nI_leI (by omega) hc, nI_leI hc (by omega)]
  unfold pf_fg
  by_cases h : 48 ≤ c ∧ c ≤ 57
  · rw [decide_eq_true (e.mpr h), Nat.ble_eq_true_of_le h.1, Nat.ble_eq_true_of_le h.2]; rfl
  · rw [decide_eq_false (fun q => h (e.mp q))]
    cases h1 : Nat.ble 48 c with
    | false => rfl
    | true =>
      cases h2 : Nat.ble c 57 with
      | false => rfl
      | true => exact absurd ⟨Nat.le_of_ble_eq_true h1, Nat.le_of_ble_eq_true h2⟩ h
theorem e_X3_isFigure {x : Int32} {I A : am_F} {G : am_G} : am_e 23 0 [.int x] [] I A G = some (.int (am_bi (decide (48 ≤ x ∧ x ≤ 57))), I, A, G) := by
  simp only [s_X3_isFigure_0, s_X3_isFigure_1, s_X3_isFigure_3, s_X3_isFigure_6, s_X3_isFigure_7, s_X3_isFigure_9, s_X3_isFigure_12, s_X3_isFigure_13, s_X3_isFigure_16, s_X3_isFigure_17, am_01_0, true_or, am_01_1, if_true]
  by_cases h1 : x < 48
  · rw [if_pos h1, decide_eq_false (fun h => absurd h.1 (Int32.not_le.mpr h1))]; rfl
  · rw [if_neg h1]
    by_cases h2 : 57 < x
    · rw [if_pos h2, decide_eq_false (fun h => absurd h.2 (Int32.not_le.mpr h2))]; rfl
    · rw [if_neg h2, decide_eq_true ⟨Int32.not_lt.mp h1, Int32.not_lt.mp h2⟩]; rfl
theorem am_fg_m1 : decide ((48 : Int32) ≤ -1 ∧ (-1 : Int32) ≤ 57) = false := by decide
/-- the reader at the place q of a text -/
def cr_r (n : Nat) (t : Nat → Nat) (q : Nat) (I A : am_F) (G : am_G) : Prop := n ≤ 400 ∧ q ≤ n ∧ I 2 3 = nI q ∧ I 2 2 = nI n ∧ G 2 1 = 1 ∧ (∀ j, j < n → A 1 j &&& 255 = nI (t j)) ∧ ∀ j, j < n → t j < 256
theorem cr_r.mv {n q q' : Nat} {t : Nat → Nat} {I A A' : am_F} {G : am_G} (h : cr_r n t q I A G) (hq : q' ≤ n) (hA : A' 1 = A 1) : cr_r n t q' (am_u I 2 3 (nI q')) A' G := by
  obtain ⟨h1, h2, h3, h4, h5, h6, h7⟩ := h
  exact ⟨h1, hq, am_u_eq _ _ _ _, by rw [am_u_at, if_neg (by decide)]; exact h4, h5, fun j hj => by rw [hA]; exact h6 j hj, h7⟩
theorem e_X3_nextByte1 {n q : Nat} {t : Nat → Nat} {I A : am_F} {G : am_G} (h : cr_r n t q I A G) (hq : q < n) : am_e 20 0 [.ref 2, .null] [] I A G = some (.int (nI (t q)), am_u I 2 3 (nI (q + 1)), A, G) := by
  obtain ⟨h1, h2, h3, h4, h5, h6, h7⟩ := h
  simp only [s_X3_nextByte_0, s_X3_nextByte_1, s_X3_nextByte_4, s_X3_nextByte_5, s_X3_nextByte_8, s_X3_nextByte_11, s_X3_nextByte_12, s_X3_nextByte_13, s_X3_nextByte_14, s_X3_nextByte_17, s_X3_nextByte_18, s_X3_nextByte_21, s_X3_nextByte_22, s_X3_nextByte_25, s_X3_nextByte_26, s_X3_nextByte_27, s_X3_nextByte_28, s_X3_nextByte_29, s_X3_nextByte_32, s_X3_nextByte_33, s_X3_nextByte_34, s_X3_nextByte_37, s_X3_nextByte_38, h3, h4, h5, nI_ltI (show q < 2 ^ 31 by omega) (show n < 2 ^ 31 by omega), hq, if_true, am_len_1, nI_clamp (show q < 2 ^ 31 by omega), am_ixF (show q < 400 by omega) (by omega), if_false, h6 q hq, am_add1]
theorem e_X3_nextByte0 {n q : Nat} {t : Nat → Nat} {I A : am_F} {G : am_G} (h : cr_r n t q I A G) (hq : ¬ q < n) : am_e 20 0 [.ref 2, .null] [] I A G = some (.int (-1), I, A, G) := by
  obtain ⟨h1, h2, h3, h4, h5, h6, h7⟩ := h
  simp only [s_X3_nextByte_0, s_X3_nextByte_1, s_X3_nextByte_4, s_X3_nextByte_5, s_X3_nextByte_8, s_X3_nextByte_11, s_X3_nextByte_12, s_X3_nextByte_13, s_X3_nextByte_14, s_X3_nextByte_17, s_X3_nextByte_18, s_X3_nextByte_21, s_X3_nextByte_22, s_X3_nextByte_25, s_X3_nextByte_26, s_X3_nextByte_27, s_X3_nextByte_28, s_X3_nextByte_29, s_X3_nextByte_32, s_X3_nextByte_33, s_X3_nextByte_34, s_X3_nextByte_37, s_X3_nextByte_38, h3, h4, h5, nI_ltI (show q < 2 ^ 31 by omega) (show n < 2 ^ 31 by omega), hq, if_false]
theorem am_nsub {c d : Nat} (h : d ≤ c) : nI c - nI d = nI (c - d) := by
  have h1 : c = (c - d) + d := by omega
  conv => lhs; rw [h1, ← nI_add]
  rw [Int32.add_sub_cancel]
theorem e_X3_readNumber {n q k s : Nat} {t : Nat → Nat} {I A : am_F} {G : am_G} (h : cr_r n t q I A G) (hk : k < 4) (hs : s = 44 ∨ s = 59) : (∀ v q', pf_num n t q s = some (v, q') → am_e 22 0 [.ref 2, .int (nI k), .int (nI s), .null, .null, .null] [] I A G = some (.int 1, am_u I 2 3 (nI q'), am_u A 3 k (nI v), G)) ∧ (pf_num n t q s = none → ∃ I' A', am_e 22 0 [.ref 2, .int (nI k), .int (nI s), .null, .null, .null] [] I A G = some (.int 0, I', A', G) ∧ (∀ a j, ¬ (a = 2 ∧ j = 3) → I' a j = I a j) ∧ ∀ a, a ≠ 3 → A' a = A a) := by
  have hh := h
  obtain ⟨h1, h2, h3, h4, h5, h6, h7⟩ := h
  have hIu : ∀ x : Int32, ∀ a j, ¬ (a = 2 ∧ j = 3) → am_u I 2 3 x a j = I a j := fun x a j h => by rw [am_u_at, if_neg h]
  have hAu : ∀ x : Int32, ∀ a, a ≠ 3 → am_u A 3 k x a = A a := fun x a h => am_u_ne h
  have hsm : ∀ c, c < 256 → (nI c = nI s) = (c = s) := fun c hc => propext (nI_eq (by omega) (by omega))
  have hs1 : ((-1 : Int32) = nI s) = False := by rcases hs with rfl | rfl <;> decide
  have hx : am_len 86 false 3 = 4 := am_len_3
  unfold pf_num
  by_cases q0 : q < n
  · have b0 : pf_by n t q = t q := if_pos q0
    have n0 := e_X3_nextByte1 hh q0
    rw [b0]
    cases f0 : pf_fg (t q) with
    | false =>
      refine ⟨fun v q' h => (by simp at h), fun _ => ⟨am_u I 2 3 (nI (q + 1)), A, ?_, hIu _, fun a _ => rfl⟩⟩
      simp only [s_X3_readNumber_0, s_X3_readNumber_1, s_X3_readNumber_4, s_X3_readNumber_5, s_X3_readNumber_6, s_X3_readNumber_9, s_X3_readNumber_12, s_X3_readNumber_13, n0, am_k_some, am_push_i, e_X3_isFigure, pf_fg_c (show t q < 2 ^ 31 by have := h7 q q0; omega), f0, am_bi, am_01_0, true_or, if_true]
    | true =>
      have g0 : 48 ≤ t q ∧ t q ≤ 57 := by
        unfold pf_fg at f0; rw [Bool.and_eq_true] at f0
        exact ⟨Nat.le_of_ble_eq_true f0.1, Nat.le_of_ble_eq_true f0.2⟩
      have d0 : nI (t q) - 48 = nI (t q - 48) := am_nsub g0.1
      have hh1 := hh.mv (show q + 1 ≤ n by omega) (A' := A) rfl
      rw [if_pos rfl]
      have p0 : am_e 22 0 [.ref 2, .int (nI k), .int (nI s), .null, .null, .null] [] I A G = am_e 22 20 [.ref 2, .int (nI k), .int (nI s), .int (nI (t q)), .int (nI (t q - 48)), .null] [] (am_u I 2 3 (nI (q + 1))) A G := by
        simp only [s_X3_readNumber_0, s_X3_readNumber_1, s_X3_readNumber_4, s_X3_readNumber_5, s_X3_readNumber_6, s_X3_readNumber_9, s_X3_readNumber_12, s_X3_readNumber_13, s_X3_readNumber_14, s_X3_readNumber_15, s_X3_readNumber_17, s_X3_readNumber_18, n0, am_k_some, am_push_i, e_X3_isFigure, pf_fg_c (show t q < 2 ^ 31 by omega), f0, am_bi, d0, show ((1 : Int32) = 0) = False by decide, if_false]
      rw [p0]
      by_cases q1 : q + 1 < n
      · have b1 : pf_by n t (q + 1) = t (q + 1) := if_pos q1
        have n1 := e_X3_nextByte1 hh1 q1
        rw [b1]
        cases f1 : pf_fg (t (q + 1)) with
        | false =>
          have e1 : am_e 22 20 [.ref 2, .int (nI k), .int (nI s), .int (nI (t q)), .int (nI (t q - 48)), .null] [] (am_u I 2 3 (nI (q + 1))) A G = some (.int (if t (q + 1) = s then 1 else 0), am_u I 2 3 (nI (q + 2)), am_u A 3 k (nI (t q - 48)), G) := by
            simp only [s_X3_readNumber_20, s_X3_readNumber_21, s_X3_readNumber_24, s_X3_readNumber_26, s_X3_readNumber_28, s_X3_readNumber_31, s_X3_readNumber_34, s_X3_readNumber_36, s_X3_readNumber_38, s_X3_readNumber_39, s_X3_readNumber_41, s_X3_readNumber_42, s_X3_readNumber_44, s_X3_readNumber_45, s_X3_readNumber_47, s_X3_readNumber_48, s_X3_readNumber_51, s_X3_readNumber_53, s_X3_readNumber_54, s_X3_readNumber_57, s_X3_readNumber_58, s_X3_readNumber_60, s_X3_readNumber_61, s_X3_readNumber_63, s_X3_readNumber_64, s_X3_readNumber_67, s_X3_readNumber_68, s_X3_readNumber_71, s_X3_readNumber_72, n1, am_k_some, am_push_i, e_X3_isFigure, pf_fg_c (show t (q + 1) < 2 ^ 31 by have := h7 _ q1; omega), f1, am_bi, if_true, hx, nI_clamp (show k < 2 ^ 31 by omega), am_ixF hk (by omega), if_false, hsm _ (h7 _ q1), am_uu, am_01_0, true_or, am_01_1]
            split <;> rfl
          rw [e1, if_neg (by simp)]
          by_cases hq2 : t (q + 1) = s
          · rw [if_pos hq2, if_pos hq2]
            exact ⟨fun v q' h => (by cases h; rfl), fun h => (by cases h)⟩
          · rw [if_neg hq2, if_neg hq2]
            exact ⟨fun v q' h => (by cases h), fun _ => ⟨_, _, rfl, hIu _, hAu _⟩⟩
        | true =>
          have g1 : 48 ≤ t (q + 1) ∧ t (q + 1) ≤ 57 := by
            unfold pf_fg at f1; rw [Bool.and_eq_true] at f1
            exact ⟨Nat.le_of_ble_eq_true f1.1, Nat.le_of_ble_eq_true f1.2⟩
          have d1 : nI (t q - 48) * 10 + nI (t (q + 1)) - 48 = nI (10 * (t q - 48) + (t (q + 1) - 48)) := by
            have e : nI (t q - 48) * 10 = nI ((t q - 48) * 10) := by
              show nI _ * nI 10 = _
              unfold nI; rw [← Int32.ofNat_mul]
            rw [e, nI_add, show (48 : Int32) = nI 48 from rfl, am_nsub (by omega)]
            congr 1
            omega
          have hh2 := hh.mv (show q + 2 ≤ n by omega) (A' := A) rfl
          rw [if_pos rfl]
          by_cases q2 : q + 2 < n
          · have b2 : pf_by n t (q + 2) = t (q + 2) := if_pos q2
            have n2 := e_X3_nextByte1 hh2 q2
            have e1 : am_e 22 20 [.ref 2, .int (nI k), .int (nI s), .int (nI (t q)), .int (nI (t q - 48)), .null] [] (am_u I 2 3 (nI (q + 1))) A G = some (.int (if t (q + 2) = s then 1 else 0), am_u I 2 3 (nI (q + 3)), am_u A 3 k (nI (10 * (t q - 48) + (t (q + 1) - 48))), G) := by
              simp only [s_X3_readNumber_20, s_X3_readNumber_21, s_X3_readNumber_24, s_X3_readNumber_26, s_X3_readNumber_28, s_X3_readNumber_31, s_X3_readNumber_34, s_X3_readNumber_36, s_X3_readNumber_38, s_X3_readNumber_39, s_X3_readNumber_41, s_X3_readNumber_42, s_X3_readNumber_44, s_X3_readNumber_45, s_X3_readNumber_47, s_X3_readNumber_48, s_X3_readNumber_51, s_X3_readNumber_53, s_X3_readNumber_54, s_X3_readNumber_57, s_X3_readNumber_58, s_X3_readNumber_60, s_X3_readNumber_61, s_X3_readNumber_63, s_X3_readNumber_64, s_X3_readNumber_67, s_X3_readNumber_68, s_X3_readNumber_71, s_X3_readNumber_72, n1, n2, am_k_some, am_push_i, e_X3_isFigure, pf_fg_c (show t (q + 1) < 2 ^ 31 by have := h7 _ q1; omega), f1, am_bi, d1, show ((1 : Int32) = 0) = False by decide, hx, nI_clamp (show k < 2 ^ 31 by omega), am_ixF hk (by omega), if_false, hsm _ (h7 _ q2), am_uu, am_01_0, true_or, am_01_1, if_true]
              split <;> rfl
            rw [e1, b2]
            by_cases hq2 : t (q + 2) = s
            · rw [if_pos hq2, if_pos hq2]
              exact ⟨fun v q' h => (by cases h; rfl), fun h => (by cases h)⟩
            · rw [if_neg hq2, if_neg hq2]
              exact ⟨fun v q' h => (by cases h), fun _ => ⟨_, _, rfl, hIu _, hAu _⟩⟩
          · have b2 : pf_by n t (q + 2) = 256 := if_neg q2
            have n2 := e_X3_nextByte0 hh2 q2
            rw [b2, if_neg (by omega)]
            refine ⟨fun v q' h => (by cases h), fun _ => ⟨am_u I 2 3 (nI (q + 2)), am_u A 3 k (nI (10 * (t q - 48) + (t (q + 1) - 48))), ?_, hIu _, hAu _⟩⟩
            simp only [s_X3_readNumber_20, s_X3_readNumber_21, s_X3_readNumber_24, s_X3_readNumber_26, s_X3_readNumber_28, s_X3_readNumber_31, s_X3_readNumber_34, s_X3_readNumber_36, s_X3_readNumber_38, s_X3_readNumber_39, s_X3_readNumber_41, s_X3_readNumber_42, s_X3_readNumber_44, s_X3_readNumber_45, s_X3_readNumber_47, s_X3_readNumber_48, s_X3_readNumber_51, s_X3_readNumber_53, s_X3_readNumber_54, s_X3_readNumber_57, s_X3_readNumber_58, s_X3_readNumber_60, s_X3_readNumber_61, s_X3_readNumber_63, s_X3_readNumber_64, s_X3_readNumber_67, s_X3_readNumber_68, s_X3_readNumber_71, s_X3_readNumber_72, n1, n2, am_k_some, am_push_i, e_X3_isFigure, pf_fg_c (show t (q + 1) < 2 ^ 31 by have := h7 _ q1; omega), f1, am_bi, d1, show ((1 : Int32) = 0) = False by decide, hx, nI_clamp (show k < 2 ^ 31 by omega), am_ixF hk (by omega), if_false, hs1, am_uu, am_01_0, true_or, if_true]
      · have b1 : pf_by n t (q + 1) = 256 := if_neg q1
        have n1 := e_X3_nextByte0 hh1 q1
        rw [b1, if_neg (by decide), if_neg (by omega)]
        refine ⟨fun v q' h => (by cases h), fun _ => ⟨am_u I 2 3 (nI (q + 1)), am_u A 3 k (nI (t q - 48)), ?_, hIu _, hAu _⟩⟩
        simp only [s_X3_readNumber_20, s_X3_readNumber_21, s_X3_readNumber_24, s_X3_readNumber_26, s_X3_readNumber_28, s_X3_readNumber_31, s_X3_readNumber_34, s_X3_readNumber_36, s_X3_readNumber_38, s_X3_readNumber_39, s_X3_readNumber_41, s_X3_readNumber_42, s_X3_readNumber_44, s_X3_readNumber_45, s_X3_readNumber_47, s_X3_readNumber_48, s_X3_readNumber_51, s_X3_readNumber_53, s_X3_readNumber_54, s_X3_readNumber_57, s_X3_readNumber_58, s_X3_readNumber_60, s_X3_readNumber_61, s_X3_readNumber_63, s_X3_readNumber_64, s_X3_readNumber_67, s_X3_readNumber_68, s_X3_readNumber_71, s_X3_readNumber_72, n1, am_k_some, am_push_i, e_X3_isFigure, am_fg_m1, am_bi, if_true, hx, nI_clamp (show k < 2 ^ 31 by omega), am_ixF hk (by omega), if_false, hs1, am_01_0, true_or]
  · have b0 : pf_by n t q = 256 := if_neg q0
    have n0 := e_X3_nextByte0 hh q0
    rw [b0, if_neg (by decide)]
    refine ⟨fun v q' h => (by cases h), fun _ => ⟨I, A, ?_, fun a j _ => rfl, fun a _ => rfl⟩⟩
    simp only [s_X3_readNumber_0, s_X3_readNumber_1, s_X3_readNumber_4, s_X3_readNumber_5, s_X3_readNumber_6, s_X3_readNumber_9, s_X3_readNumber_12, s_X3_readNumber_13, n0, am_k_some, am_push_i, e_X3_isFigure, am_fg_m1, am_bi, am_01_0, true_or, if_true]
