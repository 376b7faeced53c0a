/-! ===== the class: a plan takes an item ===== -/
theorem am_and_dec {a b : Prop} [Decidable a] [Decidable b] : (decide (a ∧ b)) = (decide a && decide b) := by by_cases ha : a <;> by_cases hb : b <;> simp [ha, hb]
theorem e_X2_addHall {p : Nat} {P : sg_P} {z s m : Nat} {I A : am_F} {G : am_G} (hpp : p = 5 ∨ p = 25) (hv : vq_p P) (hp : cr_q p P I A) (hs : s ≤ 99) : (P 7 0 < 8 ∧ s ≤ 50 → ∃ I' A', am_e 9 0 [.ref p, .int (nI z), .int (nI s), .int (nI m)] [] I A G = some (.int 1, I', A', G) ∧ cr_q p (pf_hallP P z s m) I' A' ∧ fr_p p I A I' A') ∧ (¬ (P 7 0 < 8 ∧ s ≤ 50) → am_e 9 0 [.ref p, .int (nI z), .int (nI s), .int (nI m)] [] I A G = some (.int 0, I, A, G)) := by
  have hH := hv.1
  obtain ⟨⟨c1, c2, c3, c4, c5, c6, c7, c8, c9, c10⟩, cs⟩ := hp
  have g8 : ((8 : Int32) ≤ nI (P 7 0)) = (8 ≤ P 7 0) := propext (by rw [show (8 : Int32) = nI 8 from rfl, nI_leI (by omega) (by omega)])
  have g50 : (nI s ≤ 50) = (s ≤ 50) := propext (by rw [show (50 : Int32) = nI 50 from rfl, nI_leI (by omega) (by omega)])
  have g0 : (nI s ≤ 0) = (s ≤ 0) := propext (by rw [show (0 : Int32) = nI 0 from rfl, nI_leI (by omega) (by omega)])
  have e0 : am_e 9 0 [.ref p, .int (nI z), .int (nI s), .int (nI m)] [] I A G = if 8 ≤ P 7 0 then some (.int 0, I, A, G) else if s ≤ 50 then am_e 9 17 [.ref p, .int (nI z), .int (nI s), .int (nI m)] [] I A G else some (.int 0, I, A, G) := by
    rcases hpp with rfl | rfl <;> simp only [s_X2_addHall_0, s_X2_addHall_1_at5, s_X2_addHall_1_at25, s_X2_addHall_4, s_X2_addHall_6, s_X2_addHall_9, s_X2_addHall_10, s_X2_addHall_12, s_X2_addHall_15, s_X2_addHall_16, c1, g8, g50, am_01_0, true_or, if_true]
  refine ⟨fun hc => ?_, fun hc => ?_⟩
  · have hx := am_ixF hc.1 (show 8 < 2 ^ 31 by omega)
    have hcl := nI_clamp (show P 7 0 < 2 ^ 31 by omega)
    refine ⟨am_u (am_u I p 11 (pf_wb (I p 11) (nI (P 7 0)) (if 0 < s then 1 else 0))) p 9 (nI (P 7 0 + 1)), am_u (am_u (am_u A (p + 1) (P 7 0) (nI z)) (p + 2) (P 7 0) (nI s)) (p + 3) (P 7 0) (nI m), ?_, ⟨⟨?_, ?_, fun i hi => ?_, fun d hd => ?_, ?_, ?_, ?_, ?_, ?_, ?_⟩, ?_⟩, fun a j ha => ?_, fun a ha => ?_⟩
    · rw [e0, if_neg (by omega), if_pos hc.2]
      by_cases h0 : s ≤ 0
      · rw [if_neg (by omega)]
        rcases hpp with rfl | rfl <;> simp only [s_X2_addHall_17, s_X2_addHall_18_at5, s_X2_addHall_18_at25, s_X2_addHall_21, s_X2_addHall_22_at5, s_X2_addHall_22_at25, s_X2_addHall_25, s_X2_addHall_26, s_X2_addHall_27, s_X2_addHall_28_at5, s_X2_addHall_28_at25, s_X2_addHall_31, s_X2_addHall_32_at5, s_X2_addHall_32_at25, s_X2_addHall_35, s_X2_addHall_36, s_X2_addHall_37, s_X2_addHall_38_at5, s_X2_addHall_38_at25, s_X2_addHall_41, s_X2_addHall_42_at5, s_X2_addHall_42_at25, s_X2_addHall_45, s_X2_addHall_46, s_X2_addHall_47, s_X2_addHall_48, s_X2_addHall_49_at5, s_X2_addHall_49_at25, s_X2_addHall_52, s_X2_addHall_53_at5, s_X2_addHall_53_at25, s_X2_addHall_56, s_X2_addHall_57, s_X2_addHall_60, s_X2_addHall_61, s_X2_addHall_64, s_X2_addHall_65, s_X2_addHall_68_at5, s_X2_addHall_68_at25, s_X2_addHall_71, s_X2_addHall_72, s_X2_addHall_73_at5, s_X2_addHall_73_at25, s_X2_addHall_76, s_X2_addHall_77, s_X2_addHall_78_at5, s_X2_addHall_78_at25, s_X2_addHall_81, s_X2_addHall_82, c1, am_len_6, am_len_7, am_len_8, am_len_26, am_len_27, am_len_28, hcl, hx, if_false, g0, h0, if_true, e_X6_withBit, am_k_some, am_push_i, am_u_at, am_add1, am_01_1, or_true, Nat.reduceEqDiff, and_false, Nat.reduceAdd]
      · rw [if_pos (by omega)]
        rcases hpp with rfl | rfl <;> simp only [s_X2_addHall_17, s_X2_addHall_18_at5, s_X2_addHall_18_at25, s_X2_addHall_21, s_X2_addHall_22_at5, s_X2_addHall_22_at25, s_X2_addHall_25, s_X2_addHall_26, s_X2_addHall_27, s_X2_addHall_28_at5, s_X2_addHall_28_at25, s_X2_addHall_31, s_X2_addHall_32_at5, s_X2_addHall_32_at25, s_X2_addHall_35, s_X2_addHall_36, s_X2_addHall_37, s_X2_addHall_38_at5, s_X2_addHall_38_at25, s_X2_addHall_41, s_X2_addHall_42_at5, s_X2_addHall_42_at25, s_X2_addHall_45, s_X2_addHall_46, s_X2_addHall_47, s_X2_addHall_48, s_X2_addHall_49_at5, s_X2_addHall_49_at25, s_X2_addHall_52, s_X2_addHall_53_at5, s_X2_addHall_53_at25, s_X2_addHall_56, s_X2_addHall_57, s_X2_addHall_60, s_X2_addHall_61, s_X2_addHall_64, s_X2_addHall_65, s_X2_addHall_68_at5, s_X2_addHall_68_at25, s_X2_addHall_71, s_X2_addHall_72, s_X2_addHall_73_at5, s_X2_addHall_73_at25, s_X2_addHall_76, s_X2_addHall_77, s_X2_addHall_78_at5, s_X2_addHall_78_at25, s_X2_addHall_81, s_X2_addHall_82, c1, am_len_6, am_len_7, am_len_8, am_len_26, am_len_27, am_len_28, hcl, hx, if_false, g0, h0, if_true, e_X6_withBit, am_k_some, am_push_i, am_u_at, am_add1, am_01_1, or_true, Nat.reduceEqDiff, and_false, Nat.reduceAdd]
    · simp [am_u_at, pf_hallP]
    · simp [am_u_at, pf_hallP]; exact c2
    · simp [pf_hallP, am_uN] at hi
      simp [am_u_at, pf_hallP]
      by_cases hi2 : i = P 7 0
      · simp [hi2]
      · simp [hi2]
        exact c3 i (by omega)
    · simp [pf_hallP, am_uN] at hd
      simp [am_u_at, pf_hallP]
      exact c4 d hd
    · simp [am_u_at, pf_hallP]; exact c5
    · simp [am_u_at, pf_hallP]; exact c6
    · simp [am_u_at, pf_hallP]; exact c7
    · simp [am_u_at, pf_hallP]; exact c8
    · simp [am_u_at, pf_hallP]; exact c9
    · simp [am_u_at, pf_hallP]; exact c10
    · rw [show pf_hallP P z s m 7 0 = P 7 0 + 1 by simp [pf_hallP, am_uN]]
      unfold pf_smk
      rw [pf_smk_c (P := P) (P 7 0) (fun i hi => by simp [pf_hallP, am_uN]; omega), show pf_hallP P z s m 1 (P 7 0) = s by simp [pf_hallP, am_uN], ← cs]
      simp [am_u_at]
    · simp [am_u_at, ha]
    · rw [am_u_ne (by omega), am_u_ne (by omega), am_u_ne (by omega)]
  · rw [e0]
    by_cases h8 : 8 ≤ P 7 0
    · rw [if_pos h8]
    · rw [if_neg h8, if_neg (by omega)]
theorem e_X2_isBetween {p : Nat} {P : sg_P} {i j : Nat} {I A : am_F} {G : am_G} (hpp : p = 5 ∨ p = 25) (hv : vq_p P) (hp : cr_p p P I A) (hi : i ≤ 99) (hj : j ≤ 99) : am_e 11 0 [.ref p, .int (nI i), .int (nI j)] [] I A G = some (.int (am_bi (decide (i < P 7 0 ∧ j < P 7 0 ∧ P 0 i ≠ P 0 j))), I, A, G) := by
  have hH := hv.1
  have t1 := @e_X2_isTold p (nI i) I A G hpp
  have t2 := @e_X2_isTold p (nI j) I A G hpp
  rw [am_told hv hp (by omega)] at t1 t2
  by_cases h1 : i < P 7 0
  · by_cases h2 : j < P 7 0
    · have he : (nI (P 0 i) = nI (P 0 j)) = (P 0 i = P 0 j) := propext (nI_eq (by have := hv.2.2.1 i h1; omega) (by have := hv.2.2.1 j h2; omega))
      have a1 := (hp.2.2.1 i h1).1
      have a2 := (hp.2.2.1 j h2).1
      rw [decide_eq_true h1] at t1
      rw [decide_eq_true h2] at t2
      have hr : am_e 11 0 [.ref p, .int (nI i), .int (nI j)] [] I A G = if P 0 i = P 0 j then some (.int 0, I, A, G) else some (.int 1, I, A, G) := by
        rcases hpp with rfl | rfl <;> simp only [s_X2_isBetween_0, s_X2_isBetween_1, s_X2_isBetween_2_at5, s_X2_isBetween_2_at25, s_X2_isBetween_5, s_X2_isBetween_8, s_X2_isBetween_9, s_X2_isBetween_10_at5, s_X2_isBetween_10_at25, s_X2_isBetween_13, s_X2_isBetween_16, s_X2_isBetween_17_at5, s_X2_isBetween_17_at25, s_X2_isBetween_20, s_X2_isBetween_21, s_X2_isBetween_22, s_X2_isBetween_23_at5, s_X2_isBetween_23_at25, s_X2_isBetween_26, s_X2_isBetween_27, s_X2_isBetween_28, s_X2_isBetween_31, s_X2_isBetween_32, s_X2_isBetween_35, s_X2_isBetween_36, t1, t2, am_k_some, am_push_i, am_bi_0, Bool.true_eq_false, if_false, am_len_6, am_len_26, nI_clamp (show i < 2 ^ 31 by omega), nI_clamp (show j < 2 ^ 31 by omega), am_ixF (show i < 8 by omega) (show 8 < 2 ^ 31 by omega), am_ixF (show j < 8 by omega) (show 8 < 2 ^ 31 by omega), show A 6 i = A (5 + 1) i from rfl, show A 6 j = A (5 + 1) j from rfl, show A 26 i = A (25 + 1) i from rfl, show A 26 j = A (25 + 1) j from rfl, a1, a2, he, am_01_0, am_01_1, true_or, or_true, if_true]
      rw [hr]
      by_cases h3 : P 0 i = P 0 j
      · rw [if_pos h3, decide_eq_false (fun q => q.2.2 h3)]; rfl
      · rw [if_neg h3, decide_eq_true ⟨h1, h2, h3⟩]; rfl
    · rw [decide_eq_true h1] at t1
      rw [decide_eq_false h2] at t2
      rw [decide_eq_false (fun q => h2 q.2.1)]
      rcases hpp with rfl | rfl <;> simp only [s_X2_isBetween_0, s_X2_isBetween_1, s_X2_isBetween_2_at5, s_X2_isBetween_2_at25, s_X2_isBetween_5, s_X2_isBetween_8, s_X2_isBetween_9, s_X2_isBetween_10_at5, s_X2_isBetween_10_at25, s_X2_isBetween_13, s_X2_isBetween_16, s_X2_isBetween_17_at5, s_X2_isBetween_17_at25, s_X2_isBetween_20, s_X2_isBetween_21, s_X2_isBetween_22, s_X2_isBetween_23_at5, s_X2_isBetween_23_at25, s_X2_isBetween_26, s_X2_isBetween_27, s_X2_isBetween_28, s_X2_isBetween_31, s_X2_isBetween_32, s_X2_isBetween_35, s_X2_isBetween_36, t1, t2, am_k_some, am_push_i, am_bi_0, Bool.true_eq_false, if_false, if_true, am_01_0, true_or] <;> rfl
  · rw [decide_eq_false h1] at t1
    rw [decide_eq_false (fun q => h1 q.1)]
    rcases hpp with rfl | rfl <;> simp only [s_X2_isBetween_0, s_X2_isBetween_1, s_X2_isBetween_2_at5, s_X2_isBetween_2_at25, s_X2_isBetween_5, s_X2_isBetween_8, s_X2_isBetween_9, s_X2_isBetween_10_at5, s_X2_isBetween_10_at25, s_X2_isBetween_13, s_X2_isBetween_16, s_X2_isBetween_17_at5, s_X2_isBetween_17_at25, s_X2_isBetween_20, s_X2_isBetween_21, s_X2_isBetween_22, s_X2_isBetween_23_at5, s_X2_isBetween_23_at25, s_X2_isBetween_26, s_X2_isBetween_27, s_X2_isBetween_28, s_X2_isBetween_31, s_X2_isBetween_32, s_X2_isBetween_35, s_X2_isBetween_36, t1, am_k_some, am_push_i, am_bi_0, if_true, am_01_0, true_or] <;> rfl
theorem e_X2_addDoor {p : Nat} {P : sg_P} {i j w k : Nat} {I A : am_F} {G : am_G} (hpp : p = 5 ∨ p = 25) (hv : vq_p P) (hp : cr_q p P I A) (hi : i ≤ 99) (hj : j ≤ 99) (hw : w ≤ 99) (hk : k ≤ 99) : ((P 7 1 < 10 ∧ i < P 7 0 ∧ (j = 8 ∨ (j < P 7 0 ∧ P 0 i ≠ P 0 j)) ∧ 1 ≤ w ∧ w ≤ 50 ∧ k ≤ 3) → ∃ I' A', am_e 10 0 [.ref p, .int (nI i), .int (nI j), .int (nI w), .int (nI k)] [] I A G = some (.int 1, I', A', G) ∧ cr_q p (pf_doorP P i j w k) I' A' ∧ fr_p p I A I' A') ∧ (¬ (P 7 1 < 10 ∧ i < P 7 0 ∧ (j = 8 ∨ (j < P 7 0 ∧ P 0 i ≠ P 0 j)) ∧ 1 ≤ w ∧ w ≤ 50 ∧ k ≤ 3) → am_e 10 0 [.ref p, .int (nI i), .int (nI j), .int (nI w), .int (nI k)] [] I A G = some (.int 0, I, A, G)) := by
  have hH := hv.1
  have hD := hv.2.1
  have t1 := @e_X2_isTold p (nI i) I A G hpp
  rw [am_told hv hp.1 (by omega)] at t1
  have t2 := e_X2_isBetween (G := G) hpp hv hp.1 hi hj
  obtain ⟨⟨c1, c2, c3, c4, c5, c6, c7, c8, c9, c10⟩, cs⟩ := hp
  have g10 : ((10 : Int32) ≤ nI (P 7 1)) = (10 ≤ P 7 1) := propext (by rw [show (10 : Int32) = nI 10 from rfl, nI_leI (by omega) (by omega)])
  have g8 : (nI j = 8) = (j = 8) := propext (nI_eq (by omega) (by omega) : nI j = nI 8 ↔ _)
  have gw1 : (nI w < 1) = (w < 1) := propext (by rw [show (1 : Int32) = nI 1 from rfl, nI_ltI (by omega) (by omega)])
  have gw2 : ((50 : Int32) < nI w) = (50 < w) := propext (by rw [show (50 : Int32) = nI 50 from rfl, nI_ltI (by omega) (by omega)])
  have gk1 : (nI k < 0) = False := eq_false (nI_pos (by omega))
  have gk2 : (nI k ≤ 3) = (k ≤ 3) := propext (by rw [show (3 : Int32) = nI 3 from rfl, nI_leI (by omega) (by omega)])
  have e0 : am_e 10 0 [.ref p, .int (nI i), .int (nI j), .int (nI w), .int (nI k)] [] I A G = if (P 7 1 < 10 ∧ i < P 7 0 ∧ (j = 8 ∨ (j < P 7 0 ∧ P 0 i ≠ P 0 j)) ∧ 1 ≤ w ∧ w ≤ 50 ∧ k ≤ 3) then am_e 10 58 [.ref p, .int (nI i), .int (nI j), .int (nI w), .int (nI k)] [] I A G else some (.int 0, I, A, G) := by
    by_cases h1 : 10 ≤ P 7 1
    · rw [if_neg (by omega)]
      rcases hpp with rfl | rfl <;> simp only [s_X2_addDoor_0, s_X2_addDoor_1_at5, s_X2_addDoor_1_at25, s_X2_addDoor_4, s_X2_addDoor_6, s_X2_addDoor_9, s_X2_addDoor_10, s_X2_addDoor_11_at5, s_X2_addDoor_11_at25, s_X2_addDoor_14, s_X2_addDoor_17, s_X2_addDoor_18, s_X2_addDoor_20, s_X2_addDoor_23, s_X2_addDoor_24, s_X2_addDoor_25, s_X2_addDoor_26_at5, s_X2_addDoor_26_at25, s_X2_addDoor_29, s_X2_addDoor_32, s_X2_addDoor_33, s_X2_addDoor_34, s_X2_addDoor_35, s_X2_addDoor_36, s_X2_addDoor_39, s_X2_addDoor_40, s_X2_addDoor_42, s_X2_addDoor_45, s_X2_addDoor_47, s_X2_addDoor_50, s_X2_addDoor_52, s_X2_addDoor_53, s_X2_addDoor_56, s_X2_addDoor_57, c2, g10, h1, if_true, am_01_0, true_or]
    · by_cases h2 : i < P 7 0
      · rw [decide_eq_true h2] at t1
        by_cases h3 : j = 8 ∨ (j < P 7 0 ∧ P 0 i ≠ P 0 j)
        · have hmid : am_e 10 0 [.ref p, .int (nI i), .int (nI j), .int (nI w), .int (nI k)] [] I A G = am_e 10 34 [.ref p, .int (nI i), .int (nI j), .int (nI w), .int (nI k)] [] I A G := by
            by_cases h4 : j = 8
            · have g8' := g8.trans (eq_true h4)
              rcases hpp with rfl | rfl <;> simp only [s_X2_addDoor_0, s_X2_addDoor_1_at5, s_X2_addDoor_1_at25, s_X2_addDoor_4, s_X2_addDoor_6, s_X2_addDoor_9, s_X2_addDoor_10, s_X2_addDoor_11_at5, s_X2_addDoor_11_at25, s_X2_addDoor_14, s_X2_addDoor_17, s_X2_addDoor_18, s_X2_addDoor_20, s_X2_addDoor_23, s_X2_addDoor_24, s_X2_addDoor_25, s_X2_addDoor_26_at5, s_X2_addDoor_26_at25, s_X2_addDoor_29, s_X2_addDoor_32, s_X2_addDoor_33, c2, g10, h1, if_false, t1, am_k_some, am_push_i, am_bi_0, Bool.true_eq_false, g8', if_true]
            · rw [decide_eq_true ⟨h2, (h3.resolve_left h4).1, (h3.resolve_left h4).2⟩] at t2
              rcases hpp with rfl | rfl <;> simp only [s_X2_addDoor_0, s_X2_addDoor_1_at5, s_X2_addDoor_1_at25, s_X2_addDoor_4, s_X2_addDoor_6, s_X2_addDoor_9, s_X2_addDoor_10, s_X2_addDoor_11_at5, s_X2_addDoor_11_at25, s_X2_addDoor_14, s_X2_addDoor_17, s_X2_addDoor_18, s_X2_addDoor_20, s_X2_addDoor_23, s_X2_addDoor_24, s_X2_addDoor_25, s_X2_addDoor_26_at5, s_X2_addDoor_26_at25, s_X2_addDoor_29, s_X2_addDoor_32, s_X2_addDoor_33, c2, g10, h1, if_false, t1, t2, am_k_some, am_push_i, am_bi_0, Bool.true_eq_false, g8, h4]
          rw [hmid]
          simp only [s_X2_addDoor_34, s_X2_addDoor_35, s_X2_addDoor_36, s_X2_addDoor_39, s_X2_addDoor_40, s_X2_addDoor_42, s_X2_addDoor_45, s_X2_addDoor_47, s_X2_addDoor_50, s_X2_addDoor_52, s_X2_addDoor_53, s_X2_addDoor_56, s_X2_addDoor_57, gw1, gw2, gk1, gk2, if_false, am_01_0, true_or, if_true]
          repeat' split
          all_goals first | rfl | (exfalso; omega)
        · rw [if_neg (fun q => h3 q.2.2.1)]
          have h4 : ¬ j = 8 := fun q => h3 (Or.inl q)
          rw [decide_eq_false (fun q => h3 (Or.inr q.2))] at t2
          rcases hpp with rfl | rfl <;> simp only [s_X2_addDoor_0, s_X2_addDoor_1_at5, s_X2_addDoor_1_at25, s_X2_addDoor_4, s_X2_addDoor_6, s_X2_addDoor_9, s_X2_addDoor_10, s_X2_addDoor_11_at5, s_X2_addDoor_11_at25, s_X2_addDoor_14, s_X2_addDoor_17, s_X2_addDoor_18, s_X2_addDoor_20, s_X2_addDoor_23, s_X2_addDoor_24, s_X2_addDoor_25, s_X2_addDoor_26_at5, s_X2_addDoor_26_at25, s_X2_addDoor_29, s_X2_addDoor_32, s_X2_addDoor_33, c2, g10, h1, if_false, t1, t2, am_k_some, am_push_i, am_bi_0, Bool.true_eq_false, g8, h4, if_true, am_01_0, true_or]
      · rw [if_neg (fun q => h2 q.2.1)]
        rw [decide_eq_false h2] at t1
        rcases hpp with rfl | rfl <;> simp only [s_X2_addDoor_0, s_X2_addDoor_1_at5, s_X2_addDoor_1_at25, s_X2_addDoor_4, s_X2_addDoor_6, s_X2_addDoor_9, s_X2_addDoor_10, s_X2_addDoor_11_at5, s_X2_addDoor_11_at25, s_X2_addDoor_14, s_X2_addDoor_17, s_X2_addDoor_18, s_X2_addDoor_20, s_X2_addDoor_23, s_X2_addDoor_24, s_X2_addDoor_25, s_X2_addDoor_26_at5, s_X2_addDoor_26_at25, s_X2_addDoor_29, s_X2_addDoor_32, s_X2_addDoor_33, c2, g10, h1, if_false, t1, am_k_some, am_push_i, am_bi_0, if_true, am_01_0, true_or]
  refine ⟨fun hc => ?_, fun hc => by rw [e0, if_neg hc]⟩
  have hx := am_ixF hc.1 (show 10 < 2 ^ 31 by omega)
  have hcl := nI_clamp (show P 7 1 < 2 ^ 31 by omega)
  refine ⟨am_u I p 10 (nI (P 7 1 + 1)), am_u (am_u (am_u (am_u A (p + 4) (P 7 1) (nI i)) (p + 5) (P 7 1) (nI j)) (p + 6) (P 7 1) (nI w)) (p + 7) (P 7 1) (nI k), ?_, ⟨⟨?_, ?_, fun x hx => ?_, fun d hd => ?_, ?_, ?_, ?_, ?_, ?_, ?_⟩, ?_⟩, fun a x ha => ?_, fun a ha => ?_⟩
  · rw [e0, if_pos hc]
    rcases hpp with rfl | rfl <;> simp only [s_X2_addDoor_58, s_X2_addDoor_59_at5, s_X2_addDoor_59_at25, s_X2_addDoor_62, s_X2_addDoor_63_at5, s_X2_addDoor_63_at25, s_X2_addDoor_66, s_X2_addDoor_67, s_X2_addDoor_68, s_X2_addDoor_69_at5, s_X2_addDoor_69_at25, s_X2_addDoor_72, s_X2_addDoor_73_at5, s_X2_addDoor_73_at25, s_X2_addDoor_76, s_X2_addDoor_77, s_X2_addDoor_78, s_X2_addDoor_79_at5, s_X2_addDoor_79_at25, s_X2_addDoor_82, s_X2_addDoor_83_at5, s_X2_addDoor_83_at25, s_X2_addDoor_86, s_X2_addDoor_87, s_X2_addDoor_88, s_X2_addDoor_89_at5, s_X2_addDoor_89_at25, s_X2_addDoor_92, s_X2_addDoor_93_at5, s_X2_addDoor_93_at25, s_X2_addDoor_96, s_X2_addDoor_98, s_X2_addDoor_99, s_X2_addDoor_100, s_X2_addDoor_101_at5, s_X2_addDoor_101_at25, s_X2_addDoor_104, s_X2_addDoor_105, s_X2_addDoor_106_at5, s_X2_addDoor_106_at25, s_X2_addDoor_109, s_X2_addDoor_110, c2, am_len_9, am_len_10, am_len_11, am_len_12, am_len_29, am_len_30, am_len_31, am_len_32, hcl, hx, if_false, am_add1, am_01_1, or_true, if_true, Nat.reduceAdd]
  · simp [am_u_at, pf_doorP]; exact c1
  · simp [am_u_at, pf_doorP]
  · simp [pf_doorP, am_uN] at hx
    simp [am_u_at, pf_doorP]
    exact c3 x hx
  · simp [pf_doorP, am_uN] at hd
    simp [am_u_at, pf_doorP]
    by_cases hd2 : d = P 7 1
    · simp [hd2]
    · simp [hd2]
      exact c4 d (by omega)
  · simp [am_u_at, pf_doorP]; exact c5
  · simp [am_u_at, pf_doorP]; exact c6
  · simp [am_u_at, pf_doorP]; exact c7
  · simp [am_u_at, pf_doorP]; exact c8
  · simp [am_u_at, pf_doorP]; exact c9
  · simp [am_u_at, pf_doorP]; exact c10
  · rw [show pf_doorP P i j w k 7 0 = P 7 0 by simp [pf_doorP, am_uN], pf_smk_c (P := P) (P 7 0) (fun i hi => by simp [pf_doorP, am_uN]), ← cs]
    simp [am_u_at]
  · simp [am_u_at, ha]
  · rw [am_u_ne (by omega), am_u_ne (by omega), am_u_ne (by omega), am_u_ne (by omega)]
/-- take: an item's numbers stand in the reader's row (cell 3) -/
theorem e_X2_take {p c : Nat} {P : sg_P} {l : List Nat} {I A : am_F} {G : am_G} (hpp : p = 5 ∨ p = 25) (hv : vq_p P) (hp : cr_q p P I A) (hc : c < 256) (hm : 0 < pf_many c) (hl : ∀ i, i < pf_many c → A 3 i = nI (l.getD i 0)) (hl9 : ∀ i, l.getD i 0 ≤ 99) : (∀ P', pf_take P c l = some P' → ∃ I' A', am_e 7 0 [.ref p, .int (nI c), .ref 3] [] I A G = some (.int 1, I', A', G) ∧ cr_q p P' I' A' ∧ fr_p p I A I' A') ∧ (pf_take P c l = none → am_e 7 0 [.ref p, .int (nI c), .ref 3] [] I A G = some (.int 0, I, A, G)) := by
  have hpc := hp
  obtain ⟨⟨c1, c2, c3, c4, c5, c6, c7, c8, c9, c10⟩, cs⟩ := hp
  have hH := hv.1
  have g0 := hl9 0; have g1 := hl9 1; have g2 := hl9 2; have g3 := hl9 3
  have hl0 : 0 < pf_many c → A 3 0 = nI (l.getD 0 0) := hl 0
  have hl1 : 1 < pf_many c → A 3 1 = nI (l.getD 1 0) := hl 1
  have hl2 : 2 < pf_many c → A 3 2 = nI (l.getD 2 0) := hl 2
  have hl3 : 3 < pf_many c → A 3 3 = nI (l.getD 3 0) := hl 3
  clear hl hl9
  unfold pf_take
  generalize l.getD 0 0 = x0 at *; generalize l.getD 1 0 = x1 at *; generalize l.getD 2 0 = x2 at *; generalize l.getD 3 0 = x3 at *
  have hset : ∀ (k x : Nat), (k = 12 ∨ k = 13 ∨ k = 14 ∨ k = 15 ∨ k = 16 ∨ k = 17) → cr_q p (am_u P 7 (k - 10) x) (am_u I p k (nI x)) A := by
    intro k x hk
    refine ⟨⟨?_, ?_, fun i hi => ?_, fun d hd => ?_, ?_, ?_, ?_, ?_, ?_, ?_⟩, ?_⟩
    · rcases hk with rfl | rfl | rfl | rfl | rfl | rfl <;> simpa [am_u_at] using c1
    · rcases hk with rfl | rfl | rfl | rfl | rfl | rfl <;> simpa [am_u_at] using c2
    · have hi : i < P 7 0 := by rcases hk with rfl | rfl | rfl | rfl | rfl | rfl <;> simpa [am_uN] using hi
      simpa [am_u_at] using c3 i hi
    · have hd : d < P 7 1 := by rcases hk with rfl | rfl | rfl | rfl | rfl | rfl <;> simpa [am_uN] using hd
      simpa [am_u_at] using c4 d hd
    · rcases hk with rfl | rfl | rfl | rfl | rfl | rfl <;> simp [am_u_at, c5]
    · rcases hk with rfl | rfl | rfl | rfl | rfl | rfl <;> simp [am_u_at, c6]
    · rcases hk with rfl | rfl | rfl | rfl | rfl | rfl <;> simp [am_u_at, c7]
    · rcases hk with rfl | rfl | rfl | rfl | rfl | rfl <;> simp [am_u_at, c8]
    · rcases hk with rfl | rfl | rfl | rfl | rfl | rfl <;> simp [am_u_at, c9]
    · rcases hk with rfl | rfl | rfl | rfl | rfl | rfl <;> simp [am_u_at, c10]
    · have e1 : am_u P 7 (k - 10) x 7 0 = P 7 0 := by rcases hk with rfl | rfl | rfl | rfl | rfl | rfl <;> simp [am_uN]
      rw [e1, pf_smk_c (P := P) (P 7 0) (fun i hi => by simp [am_uN]), ← cs]
      rcases hk with rfl | rfl | rfl | rfl | rfl | rfl <;> simp [am_u_at]
  have hfr : ∀ (k : Nat) (x : Int32), fr_p p I A (am_u I p k x) A := fun k x => ⟨fun a j ha => by simp [am_u_at, ha], fun a _ => rfl⟩
  rcases (show c = 99 ∨ c = 100 ∨ c = 104 ∨ c = 109 ∨ c = 111 ∨ c = 115 ∨ c = 118 ∨ c = 119 ∨ (c ≠ 99 ∧ c ≠ 100 ∧ c ≠ 104 ∧ c ≠ 109 ∧ c ≠ 111 ∧ c ≠ 115 ∧ c ≠ 118 ∧ c ≠ 119) by omega) with rfl | rfl | rfl | rfl | rfl | rfl | rfl | rfl | h9
  · have a0 := hl0 (by decide)
    refine ⟨fun P' h => ?_, fun h => by simp at h⟩
    simp at h
    subst h
    refine ⟨am_u I p 13 (nI (x0)), A, ?_, by simpa using hset 13 (x0) (by simp), hfr _ _⟩
    rcases hpp with rfl | rfl <;> simp [s_X2_take_0, s_X2_take_1, s_X2_take_100, s_X2_take_101, s_X2_take_102, s_X2_take_103, s_X2_take_104, s_X2_take_105, s_X2_take_106, s_X2_take_107, s_X2_take_108, s_X2_take_109, s_X2_take_110_at5, s_X2_take_110_at25, s_X2_take_113, s_X2_take_114, s_X2_take_115, s_X2_take_116, s_X2_take_117, s_X2_take_118_at5, s_X2_take_118_at25, s_X2_take_121, s_X2_take_124, s_X2_take_125, s_X2_take_126, s_X2_take_127, s_X2_take_128, s_X2_take_129, s_X2_take_130, s_X2_take_131, s_X2_take_132, s_X2_take_133, s_X2_take_134, s_X2_take_135, s_X2_take_136, s_X2_take_137_at5, s_X2_take_137_at25, s_X2_take_140, s_X2_take_143, s_X2_take_144, s_X2_take_147, s_X2_take_148, s_X2_take_149, s_X2_take_150, s_X2_take_151, s_X2_take_152, s_X2_take_153, s_X2_take_155, s_X2_take_156, s_X2_take_157, s_X2_take_158, s_X2_take_159, s_X2_take_160, s_X2_take_161_at5, s_X2_take_161_at25, s_X2_take_164, s_X2_take_165, s_X2_take_166, s_X2_take_167, s_X2_take_168, s_X2_take_169_at5, s_X2_take_169_at25, s_X2_take_172, s_X2_take_173, s_X2_take_174, s_X2_take_175, s_X2_take_176, s_X2_take_177, s_X2_take_178_at5, s_X2_take_178_at25, s_X2_take_181, s_X2_take_182, s_X2_take_183, s_X2_take_184, s_X2_take_185, s_X2_take_186, s_X2_take_187_at5, s_X2_take_187_at25, s_X2_take_190, s_X2_take_191, s_X2_take_192, s_X2_take_193, s_X2_take_194_at5, s_X2_take_194_at25, s_X2_take_197, s_X2_take_198, s_X2_take_199, s_X2_take_200, s_X2_take_201, s_X2_take_202, s_X2_take_203_at5, s_X2_take_203_at25, s_X2_take_206, s_X2_take_207, s_X2_take_208, s_X2_take_209, s_X2_take_210, s_X2_take_211_at5, s_X2_take_211_at25, s_X2_take_214, s_X2_take_215, s_X2_take_216, am_len_3, a0, show nI 99 = 99 from rfl]
  · have a0 := hl0 (by decide)
    have a1 := hl1 (by decide)
    have a2 := hl2 (by decide)
    have a3 := hl3 (by decide)
    obtain ⟨d1, d2⟩ := e_X2_addDoor (G := G) (i := x0) (j := x1) (w := x2) (k := x3) hpp hv hpc g0 g1 g2 g3
    have t1 := @e_X2_isTold p (nI (x1)) I A G hpp
    rw [am_told hv hpc.1 (by omega)] at t1
    by_cases hj : x1 < P 7 0
    · rw [decide_eq_true hj] at t1
      by_cases hcd : P 7 1 < 10 ∧ x0 < P 7 0 ∧ x1 < P 7 0 ∧ P 0 (x0) ≠ P 0 (x1) ∧ 1 ≤ x2 ∧ x2 ≤ 50 ∧ x3 ≤ 3
      · obtain ⟨I', A', e1, e2, e3⟩ := d1 ⟨hcd.1, hcd.2.1, Or.inr ⟨hcd.2.2.1, hcd.2.2.2.1⟩, hcd.2.2.2.2⟩
        refine ⟨fun P' h => ?_, fun h => ?_⟩
        · skip
          rw [if_neg (by decide), if_pos rfl, if_pos hcd] at h
          cases h
          refine ⟨I', A', ?_, e2, e3⟩
          rcases hpp with rfl | rfl <;> simp [s_X2_take_0, s_X2_take_1, s_X2_take_100, s_X2_take_101, s_X2_take_102, s_X2_take_103, s_X2_take_104, s_X2_take_105, s_X2_take_106, s_X2_take_107, s_X2_take_108, s_X2_take_109, s_X2_take_110_at5, s_X2_take_110_at25, s_X2_take_113, s_X2_take_114, s_X2_take_115, s_X2_take_116, s_X2_take_117, s_X2_take_118_at5, s_X2_take_118_at25, s_X2_take_121, s_X2_take_124, s_X2_take_125, s_X2_take_126, s_X2_take_127, s_X2_take_128, s_X2_take_129, s_X2_take_130, s_X2_take_131, s_X2_take_132, s_X2_take_133, s_X2_take_134, s_X2_take_135, s_X2_take_136, s_X2_take_137_at5, s_X2_take_137_at25, s_X2_take_140, s_X2_take_143, s_X2_take_144, s_X2_take_147, s_X2_take_148, s_X2_take_149, s_X2_take_150, s_X2_take_151, s_X2_take_152, s_X2_take_153, s_X2_take_155, s_X2_take_156, s_X2_take_157, s_X2_take_158, s_X2_take_159, s_X2_take_160, s_X2_take_161_at5, s_X2_take_161_at25, s_X2_take_164, s_X2_take_165, s_X2_take_166, s_X2_take_167, s_X2_take_168, s_X2_take_169_at5, s_X2_take_169_at25, s_X2_take_172, s_X2_take_173, s_X2_take_174, s_X2_take_175, s_X2_take_176, s_X2_take_177, s_X2_take_178_at5, s_X2_take_178_at25, s_X2_take_181, s_X2_take_182, s_X2_take_183, s_X2_take_184, s_X2_take_185, s_X2_take_186, s_X2_take_187_at5, s_X2_take_187_at25, s_X2_take_190, s_X2_take_191, s_X2_take_192, s_X2_take_193, s_X2_take_194_at5, s_X2_take_194_at25, s_X2_take_197, s_X2_take_198, s_X2_take_199, s_X2_take_200, s_X2_take_201, s_X2_take_202, s_X2_take_203_at5, s_X2_take_203_at25, s_X2_take_206, s_X2_take_207, s_X2_take_208, s_X2_take_209, s_X2_take_210, s_X2_take_211_at5, s_X2_take_211_at25, s_X2_take_214, s_X2_take_215, s_X2_take_216, am_len_3, a0, a1, a2, a3, show nI 100 = 100 from rfl, t1, e1, am_k_some, am_push_i, am_bi]
        · skip
          rw [if_neg (by decide), if_pos rfl, if_pos hcd] at h
          cases h
      · have e1 := d2 (fun q => hcd ⟨q.1, q.2.1, hj, (q.2.2.1.resolve_left (by omega)).2, q.2.2.2⟩)
        refine ⟨fun P' h => ?_, fun h => ?_⟩
        · skip
          rw [if_neg (by decide), if_pos rfl, if_neg hcd] at h
          cases h
        · rcases hpp with rfl | rfl <;> simp [s_X2_take_0, s_X2_take_1, s_X2_take_100, s_X2_take_101, s_X2_take_102, s_X2_take_103, s_X2_take_104, s_X2_take_105, s_X2_take_106, s_X2_take_107, s_X2_take_108, s_X2_take_109, s_X2_take_110_at5, s_X2_take_110_at25, s_X2_take_113, s_X2_take_114, s_X2_take_115, s_X2_take_116, s_X2_take_117, s_X2_take_118_at5, s_X2_take_118_at25, s_X2_take_121, s_X2_take_124, s_X2_take_125, s_X2_take_126, s_X2_take_127, s_X2_take_128, s_X2_take_129, s_X2_take_130, s_X2_take_131, s_X2_take_132, s_X2_take_133, s_X2_take_134, s_X2_take_135, s_X2_take_136, s_X2_take_137_at5, s_X2_take_137_at25, s_X2_take_140, s_X2_take_143, s_X2_take_144, s_X2_take_147, s_X2_take_148, s_X2_take_149, s_X2_take_150, s_X2_take_151, s_X2_take_152, s_X2_take_153, s_X2_take_155, s_X2_take_156, s_X2_take_157, s_X2_take_158, s_X2_take_159, s_X2_take_160, s_X2_take_161_at5, s_X2_take_161_at25, s_X2_take_164, s_X2_take_165, s_X2_take_166, s_X2_take_167, s_X2_take_168, s_X2_take_169_at5, s_X2_take_169_at25, s_X2_take_172, s_X2_take_173, s_X2_take_174, s_X2_take_175, s_X2_take_176, s_X2_take_177, s_X2_take_178_at5, s_X2_take_178_at25, s_X2_take_181, s_X2_take_182, s_X2_take_183, s_X2_take_184, s_X2_take_185, s_X2_take_186, s_X2_take_187_at5, s_X2_take_187_at25, s_X2_take_190, s_X2_take_191, s_X2_take_192, s_X2_take_193, s_X2_take_194_at5, s_X2_take_194_at25, s_X2_take_197, s_X2_take_198, s_X2_take_199, s_X2_take_200, s_X2_take_201, s_X2_take_202, s_X2_take_203_at5, s_X2_take_203_at25, s_X2_take_206, s_X2_take_207, s_X2_take_208, s_X2_take_209, s_X2_take_210, s_X2_take_211_at5, s_X2_take_211_at25, s_X2_take_214, s_X2_take_215, s_X2_take_216, am_len_3, a0, a1, a2, a3, show nI 100 = 100 from rfl, t1, e1, am_k_some, am_push_i, am_bi]
    · rw [decide_eq_false hj] at t1
      refine ⟨fun P' h => ?_, fun h => ?_⟩
      · skip
        rw [if_neg (by decide), if_pos rfl, if_neg (fun q => hj q.2.2.1)] at h
        cases h
      · rcases hpp with rfl | rfl <;> simp [s_X2_take_0, s_X2_take_1, s_X2_take_100, s_X2_take_101, s_X2_take_102, s_X2_take_103, s_X2_take_104, s_X2_take_105, s_X2_take_106, s_X2_take_107, s_X2_take_108, s_X2_take_109, s_X2_take_110_at5, s_X2_take_110_at25, s_X2_take_113, s_X2_take_114, s_X2_take_115, s_X2_take_116, s_X2_take_117, s_X2_take_118_at5, s_X2_take_118_at25, s_X2_take_121, s_X2_take_124, s_X2_take_125, s_X2_take_126, s_X2_take_127, s_X2_take_128, s_X2_take_129, s_X2_take_130, s_X2_take_131, s_X2_take_132, s_X2_take_133, s_X2_take_134, s_X2_take_135, s_X2_take_136, s_X2_take_137_at5, s_X2_take_137_at25, s_X2_take_140, s_X2_take_143, s_X2_take_144, s_X2_take_147, s_X2_take_148, s_X2_take_149, s_X2_take_150, s_X2_take_151, s_X2_take_152, s_X2_take_153, s_X2_take_155, s_X2_take_156, s_X2_take_157, s_X2_take_158, s_X2_take_159, s_X2_take_160, s_X2_take_161_at5, s_X2_take_161_at25, s_X2_take_164, s_X2_take_165, s_X2_take_166, s_X2_take_167, s_X2_take_168, s_X2_take_169_at5, s_X2_take_169_at25, s_X2_take_172, s_X2_take_173, s_X2_take_174, s_X2_take_175, s_X2_take_176, s_X2_take_177, s_X2_take_178_at5, s_X2_take_178_at25, s_X2_take_181, s_X2_take_182, s_X2_take_183, s_X2_take_184, s_X2_take_185, s_X2_take_186, s_X2_take_187_at5, s_X2_take_187_at25, s_X2_take_190, s_X2_take_191, s_X2_take_192, s_X2_take_193, s_X2_take_194_at5, s_X2_take_194_at25, s_X2_take_197, s_X2_take_198, s_X2_take_199, s_X2_take_200, s_X2_take_201, s_X2_take_202, s_X2_take_203_at5, s_X2_take_203_at25, s_X2_take_206, s_X2_take_207, s_X2_take_208, s_X2_take_209, s_X2_take_210, s_X2_take_211_at5, s_X2_take_211_at25, s_X2_take_214, s_X2_take_215, s_X2_take_216, am_len_3, a1, show nI 100 = 100 from rfl, t1, am_k_some, am_push_i, am_bi]
  · have a0 := hl0 (by decide)
    have a1 := hl1 (by decide)
    have a2 := hl2 (by decide)
    obtain ⟨d1, d2⟩ := e_X2_addHall (G := G) (z := x0) (s := x1) (m := x2) hpp hv hpc g1
    by_cases hcd : P 7 0 < 8 ∧ x1 ≤ 50
    · obtain ⟨I', A', e1, e2, e3⟩ := d1 hcd
      refine ⟨fun P' h => ?_, fun h => ?_⟩
      · skip
        rw [if_pos rfl, if_pos hcd] at h
        cases h
        refine ⟨I', A', ?_, e2, e3⟩
        rcases hpp with rfl | rfl <;> simp [s_X2_take_0, s_X2_take_1, s_X2_take_100, s_X2_take_101, s_X2_take_102, s_X2_take_103, s_X2_take_104, s_X2_take_105, s_X2_take_106, s_X2_take_107, s_X2_take_108, s_X2_take_109, s_X2_take_110_at5, s_X2_take_110_at25, s_X2_take_113, s_X2_take_114, s_X2_take_115, s_X2_take_116, s_X2_take_117, s_X2_take_118_at5, s_X2_take_118_at25, s_X2_take_121, s_X2_take_124, s_X2_take_125, s_X2_take_126, s_X2_take_127, s_X2_take_128, s_X2_take_129, s_X2_take_130, s_X2_take_131, s_X2_take_132, s_X2_take_133, s_X2_take_134, s_X2_take_135, s_X2_take_136, s_X2_take_137_at5, s_X2_take_137_at25, s_X2_take_140, s_X2_take_143, s_X2_take_144, s_X2_take_147, s_X2_take_148, s_X2_take_149, s_X2_take_150, s_X2_take_151, s_X2_take_152, s_X2_take_153, s_X2_take_155, s_X2_take_156, s_X2_take_157, s_X2_take_158, s_X2_take_159, s_X2_take_160, s_X2_take_161_at5, s_X2_take_161_at25, s_X2_take_164, s_X2_take_165, s_X2_take_166, s_X2_take_167, s_X2_take_168, s_X2_take_169_at5, s_X2_take_169_at25, s_X2_take_172, s_X2_take_173, s_X2_take_174, s_X2_take_175, s_X2_take_176, s_X2_take_177, s_X2_take_178_at5, s_X2_take_178_at25, s_X2_take_181, s_X2_take_182, s_X2_take_183, s_X2_take_184, s_X2_take_185, s_X2_take_186, s_X2_take_187_at5, s_X2_take_187_at25, s_X2_take_190, s_X2_take_191, s_X2_take_192, s_X2_take_193, s_X2_take_194_at5, s_X2_take_194_at25, s_X2_take_197, s_X2_take_198, s_X2_take_199, s_X2_take_200, s_X2_take_201, s_X2_take_202, s_X2_take_203_at5, s_X2_take_203_at25, s_X2_take_206, s_X2_take_207, s_X2_take_208, s_X2_take_209, s_X2_take_210, s_X2_take_211_at5, s_X2_take_211_at25, s_X2_take_214, s_X2_take_215, s_X2_take_216, am_len_3, a0, a1, a2, show nI 104 = 104 from rfl, e1, am_k_some, am_push_i]
      · skip
        rw [if_pos rfl, if_pos hcd] at h
        cases h
    · have e1 := d2 hcd
      refine ⟨fun P' h => ?_, fun h => ?_⟩
      · skip
        rw [if_pos rfl, if_neg hcd] at h
        cases h
      · rcases hpp with rfl | rfl <;> simp [s_X2_take_0, s_X2_take_1, s_X2_take_100, s_X2_take_101, s_X2_take_102, s_X2_take_103, s_X2_take_104, s_X2_take_105, s_X2_take_106, s_X2_take_107, s_X2_take_108, s_X2_take_109, s_X2_take_110_at5, s_X2_take_110_at25, s_X2_take_113, s_X2_take_114, s_X2_take_115, s_X2_take_116, s_X2_take_117, s_X2_take_118_at5, s_X2_take_118_at25, s_X2_take_121, s_X2_take_124, s_X2_take_125, s_X2_take_126, s_X2_take_127, s_X2_take_128, s_X2_take_129, s_X2_take_130, s_X2_take_131, s_X2_take_132, s_X2_take_133, s_X2_take_134, s_X2_take_135, s_X2_take_136, s_X2_take_137_at5, s_X2_take_137_at25, s_X2_take_140, s_X2_take_143, s_X2_take_144, s_X2_take_147, s_X2_take_148, s_X2_take_149, s_X2_take_150, s_X2_take_151, s_X2_take_152, s_X2_take_153, s_X2_take_155, s_X2_take_156, s_X2_take_157, s_X2_take_158, s_X2_take_159, s_X2_take_160, s_X2_take_161_at5, s_X2_take_161_at25, s_X2_take_164, s_X2_take_165, s_X2_take_166, s_X2_take_167, s_X2_take_168, s_X2_take_169_at5, s_X2_take_169_at25, s_X2_take_172, s_X2_take_173, s_X2_take_174, s_X2_take_175, s_X2_take_176, s_X2_take_177, s_X2_take_178_at5, s_X2_take_178_at25, s_X2_take_181, s_X2_take_182, s_X2_take_183, s_X2_take_184, s_X2_take_185, s_X2_take_186, s_X2_take_187_at5, s_X2_take_187_at25, s_X2_take_190, s_X2_take_191, s_X2_take_192, s_X2_take_193, s_X2_take_194_at5, s_X2_take_194_at25, s_X2_take_197, s_X2_take_198, s_X2_take_199, s_X2_take_200, s_X2_take_201, s_X2_take_202, s_X2_take_203_at5, s_X2_take_203_at25, s_X2_take_206, s_X2_take_207, s_X2_take_208, s_X2_take_209, s_X2_take_210, s_X2_take_211_at5, s_X2_take_211_at25, s_X2_take_214, s_X2_take_215, s_X2_take_216, am_len_3, a0, a1, a2, show nI 104 = 104 from rfl, e1, am_k_some, am_push_i]
  · have a0 := hl0 (by decide)
    refine ⟨fun P' h => ?_, fun h => by simp at h⟩
    simp at h
    subst h
    refine ⟨am_u I p 12 (nI (x0)), A, ?_, by simpa using hset 12 (x0) (by simp), hfr _ _⟩
    rcases hpp with rfl | rfl <;> simp [s_X2_take_0, s_X2_take_1, s_X2_take_100, s_X2_take_101, s_X2_take_102, s_X2_take_103, s_X2_take_104, s_X2_take_105, s_X2_take_106, s_X2_take_107, s_X2_take_108, s_X2_take_109, s_X2_take_110_at5, s_X2_take_110_at25, s_X2_take_113, s_X2_take_114, s_X2_take_115, s_X2_take_116, s_X2_take_117, s_X2_take_118_at5, s_X2_take_118_at25, s_X2_take_121, s_X2_take_124, s_X2_take_125, s_X2_take_126, s_X2_take_127, s_X2_take_128, s_X2_take_129, s_X2_take_130, s_X2_take_131, s_X2_take_132, s_X2_take_133, s_X2_take_134, s_X2_take_135, s_X2_take_136, s_X2_take_137_at5, s_X2_take_137_at25, s_X2_take_140, s_X2_take_143, s_X2_take_144, s_X2_take_147, s_X2_take_148, s_X2_take_149, s_X2_take_150, s_X2_take_151, s_X2_take_152, s_X2_take_153, s_X2_take_155, s_X2_take_156, s_X2_take_157, s_X2_take_158, s_X2_take_159, s_X2_take_160, s_X2_take_161_at5, s_X2_take_161_at25, s_X2_take_164, s_X2_take_165, s_X2_take_166, s_X2_take_167, s_X2_take_168, s_X2_take_169_at5, s_X2_take_169_at25, s_X2_take_172, s_X2_take_173, s_X2_take_174, s_X2_take_175, s_X2_take_176, s_X2_take_177, s_X2_take_178_at5, s_X2_take_178_at25, s_X2_take_181, s_X2_take_182, s_X2_take_183, s_X2_take_184, s_X2_take_185, s_X2_take_186, s_X2_take_187_at5, s_X2_take_187_at25, s_X2_take_190, s_X2_take_191, s_X2_take_192, s_X2_take_193, s_X2_take_194_at5, s_X2_take_194_at25, s_X2_take_197, s_X2_take_198, s_X2_take_199, s_X2_take_200, s_X2_take_201, s_X2_take_202, s_X2_take_203_at5, s_X2_take_203_at25, s_X2_take_206, s_X2_take_207, s_X2_take_208, s_X2_take_209, s_X2_take_210, s_X2_take_211_at5, s_X2_take_211_at25, s_X2_take_214, s_X2_take_215, s_X2_take_216, am_len_3, a0, show nI 109 = 109 from rfl]
  · have a0 := hl0 (by decide)
    have a1 := hl1 (by decide)
    have a2 := hl2 (by decide)
    obtain ⟨d1, d2⟩ := e_X2_addDoor (G := G) (i := x0) (j := 8) (w := x1) (k := x2) hpp hv hpc g0 (by omega) g1 g2
    have n8 : (8 : Int32) = nI 8 := rfl
    by_cases hcd : P 7 1 < 10 ∧ x0 < P 7 0 ∧ 1 ≤ x1 ∧ x1 ≤ 50 ∧ x2 ≤ 3
    · obtain ⟨I', A', e1, e2, e3⟩ := d1 ⟨hcd.1, hcd.2.1, Or.inl rfl, hcd.2.2⟩
      rw [← n8] at e1
      refine ⟨fun P' h => ?_, fun h => ?_⟩
      · skip
        rw [if_neg (by decide), if_neg (by decide), if_pos rfl, if_pos hcd] at h
        cases h
        refine ⟨I', A', ?_, e2, e3⟩
        rcases hpp with rfl | rfl <;> simp [s_X2_take_0, s_X2_take_1, s_X2_take_100, s_X2_take_101, s_X2_take_102, s_X2_take_103, s_X2_take_104, s_X2_take_105, s_X2_take_106, s_X2_take_107, s_X2_take_108, s_X2_take_109, s_X2_take_110_at5, s_X2_take_110_at25, s_X2_take_113, s_X2_take_114, s_X2_take_115, s_X2_take_116, s_X2_take_117, s_X2_take_118_at5, s_X2_take_118_at25, s_X2_take_121, s_X2_take_124, s_X2_take_125, s_X2_take_126, s_X2_take_127, s_X2_take_128, s_X2_take_129, s_X2_take_130, s_X2_take_131, s_X2_take_132, s_X2_take_133, s_X2_take_134, s_X2_take_135, s_X2_take_136, s_X2_take_137_at5, s_X2_take_137_at25, s_X2_take_140, s_X2_take_143, s_X2_take_144, s_X2_take_147, s_X2_take_148, s_X2_take_149, s_X2_take_150, s_X2_take_151, s_X2_take_152, s_X2_take_153, s_X2_take_155, s_X2_take_156, s_X2_take_157, s_X2_take_158, s_X2_take_159, s_X2_take_160, s_X2_take_161_at5, s_X2_take_161_at25, s_X2_take_164, s_X2_take_165, s_X2_take_166, s_X2_take_167, s_X2_take_168, s_X2_take_169_at5, s_X2_take_169_at25, s_X2_take_172, s_X2_take_173, s_X2_take_174, s_X2_take_175, s_X2_take_176, s_X2_take_177, s_X2_take_178_at5, s_X2_take_178_at25, s_X2_take_181, s_X2_take_182, s_X2_take_183, s_X2_take_184, s_X2_take_185, s_X2_take_186, s_X2_take_187_at5, s_X2_take_187_at25, s_X2_take_190, s_X2_take_191, s_X2_take_192, s_X2_take_193, s_X2_take_194_at5, s_X2_take_194_at25, s_X2_take_197, s_X2_take_198, s_X2_take_199, s_X2_take_200, s_X2_take_201, s_X2_take_202, s_X2_take_203_at5, s_X2_take_203_at25, s_X2_take_206, s_X2_take_207, s_X2_take_208, s_X2_take_209, s_X2_take_210, s_X2_take_211_at5, s_X2_take_211_at25, s_X2_take_214, s_X2_take_215, s_X2_take_216, am_len_3, a0, a1, a2, show nI 111 = 111 from rfl, e1, am_k_some, am_push_i]
      · skip
        rw [if_neg (by decide), if_neg (by decide), if_pos rfl, if_pos hcd] at h
        cases h
    · have e1 := d2 (fun q => hcd ⟨q.1, q.2.1, q.2.2.2⟩)
      rw [← n8] at e1
      refine ⟨fun P' h => ?_, fun h => ?_⟩
      · skip
        rw [if_neg (by decide), if_neg (by decide), if_pos rfl, if_neg hcd] at h
        cases h
      · rcases hpp with rfl | rfl <;> simp [s_X2_take_0, s_X2_take_1, s_X2_take_100, s_X2_take_101, s_X2_take_102, s_X2_take_103, s_X2_take_104, s_X2_take_105, s_X2_take_106, s_X2_take_107, s_X2_take_108, s_X2_take_109, s_X2_take_110_at5, s_X2_take_110_at25, s_X2_take_113, s_X2_take_114, s_X2_take_115, s_X2_take_116, s_X2_take_117, s_X2_take_118_at5, s_X2_take_118_at25, s_X2_take_121, s_X2_take_124, s_X2_take_125, s_X2_take_126, s_X2_take_127, s_X2_take_128, s_X2_take_129, s_X2_take_130, s_X2_take_131, s_X2_take_132, s_X2_take_133, s_X2_take_134, s_X2_take_135, s_X2_take_136, s_X2_take_137_at5, s_X2_take_137_at25, s_X2_take_140, s_X2_take_143, s_X2_take_144, s_X2_take_147, s_X2_take_148, s_X2_take_149, s_X2_take_150, s_X2_take_151, s_X2_take_152, s_X2_take_153, s_X2_take_155, s_X2_take_156, s_X2_take_157, s_X2_take_158, s_X2_take_159, s_X2_take_160, s_X2_take_161_at5, s_X2_take_161_at25, s_X2_take_164, s_X2_take_165, s_X2_take_166, s_X2_take_167, s_X2_take_168, s_X2_take_169_at5, s_X2_take_169_at25, s_X2_take_172, s_X2_take_173, s_X2_take_174, s_X2_take_175, s_X2_take_176, s_X2_take_177, s_X2_take_178_at5, s_X2_take_178_at25, s_X2_take_181, s_X2_take_182, s_X2_take_183, s_X2_take_184, s_X2_take_185, s_X2_take_186, s_X2_take_187_at5, s_X2_take_187_at25, s_X2_take_190, s_X2_take_191, s_X2_take_192, s_X2_take_193, s_X2_take_194_at5, s_X2_take_194_at25, s_X2_take_197, s_X2_take_198, s_X2_take_199, s_X2_take_200, s_X2_take_201, s_X2_take_202, s_X2_take_203_at5, s_X2_take_203_at25, s_X2_take_206, s_X2_take_207, s_X2_take_208, s_X2_take_209, s_X2_take_210, s_X2_take_211_at5, s_X2_take_211_at25, s_X2_take_214, s_X2_take_215, s_X2_take_216, am_len_3, a0, a1, a2, show nI 111 = 111 from rfl, e1, am_k_some, am_push_i]
  · have a0 := hl0 (by decide)
    have t1 := @e_X2_isTold p (nI (x0)) I A G hpp
    rw [am_told hv hpc.1 (by omega)] at t1
    by_cases hj : x0 < P 7 0
    · rw [decide_eq_true hj] at t1
      refine ⟨fun P' h => ?_, fun h => by simp [hj] at h⟩
      simp [hj] at h
      subst h
      refine ⟨am_u I p 16 (nI (x0)), A, ?_, by simpa using hset 16 (x0) (by simp), hfr _ _⟩
      rcases hpp with rfl | rfl <;> simp [s_X2_take_0, s_X2_take_1, s_X2_take_100, s_X2_take_101, s_X2_take_102, s_X2_take_103, s_X2_take_104, s_X2_take_105, s_X2_take_106, s_X2_take_107, s_X2_take_108, s_X2_take_109, s_X2_take_110_at5, s_X2_take_110_at25, s_X2_take_113, s_X2_take_114, s_X2_take_115, s_X2_take_116, s_X2_take_117, s_X2_take_118_at5, s_X2_take_118_at25, s_X2_take_121, s_X2_take_124, s_X2_take_125, s_X2_take_126, s_X2_take_127, s_X2_take_128, s_X2_take_129, s_X2_take_130, s_X2_take_131, s_X2_take_132, s_X2_take_133, s_X2_take_134, s_X2_take_135, s_X2_take_136, s_X2_take_137_at5, s_X2_take_137_at25, s_X2_take_140, s_X2_take_143, s_X2_take_144, s_X2_take_147, s_X2_take_148, s_X2_take_149, s_X2_take_150, s_X2_take_151, s_X2_take_152, s_X2_take_153, s_X2_take_155, s_X2_take_156, s_X2_take_157, s_X2_take_158, s_X2_take_159, s_X2_take_160, s_X2_take_161_at5, s_X2_take_161_at25, s_X2_take_164, s_X2_take_165, s_X2_take_166, s_X2_take_167, s_X2_take_168, s_X2_take_169_at5, s_X2_take_169_at25, s_X2_take_172, s_X2_take_173, s_X2_take_174, s_X2_take_175, s_X2_take_176, s_X2_take_177, s_X2_take_178_at5, s_X2_take_178_at25, s_X2_take_181, s_X2_take_182, s_X2_take_183, s_X2_take_184, s_X2_take_185, s_X2_take_186, s_X2_take_187_at5, s_X2_take_187_at25, s_X2_take_190, s_X2_take_191, s_X2_take_192, s_X2_take_193, s_X2_take_194_at5, s_X2_take_194_at25, s_X2_take_197, s_X2_take_198, s_X2_take_199, s_X2_take_200, s_X2_take_201, s_X2_take_202, s_X2_take_203_at5, s_X2_take_203_at25, s_X2_take_206, s_X2_take_207, s_X2_take_208, s_X2_take_209, s_X2_take_210, s_X2_take_211_at5, s_X2_take_211_at25, s_X2_take_214, s_X2_take_215, s_X2_take_216, s_X2_placeWard_0, s_X2_placeWard_1, s_X2_placeWard_2_at5, s_X2_placeWard_2_at25, s_X2_placeWard_5, s_X2_placeWard_8, s_X2_placeWard_9, s_X2_placeWard_10, s_X2_placeWard_11, s_X2_placeWard_12_at5, s_X2_placeWard_12_at25, s_X2_placeWard_15, s_X2_placeWard_16, am_len_3, a0, show nI 115 = 115 from rfl, t1, am_k_some, am_push_i, am_bi]
    · rw [decide_eq_false hj] at t1
      refine ⟨fun P' h => by simp [hj] at h, fun h => ?_⟩
      rcases hpp with rfl | rfl <;> simp [s_X2_take_0, s_X2_take_1, s_X2_take_100, s_X2_take_101, s_X2_take_102, s_X2_take_103, s_X2_take_104, s_X2_take_105, s_X2_take_106, s_X2_take_107, s_X2_take_108, s_X2_take_109, s_X2_take_110_at5, s_X2_take_110_at25, s_X2_take_113, s_X2_take_114, s_X2_take_115, s_X2_take_116, s_X2_take_117, s_X2_take_118_at5, s_X2_take_118_at25, s_X2_take_121, s_X2_take_124, s_X2_take_125, s_X2_take_126, s_X2_take_127, s_X2_take_128, s_X2_take_129, s_X2_take_130, s_X2_take_131, s_X2_take_132, s_X2_take_133, s_X2_take_134, s_X2_take_135, s_X2_take_136, s_X2_take_137_at5, s_X2_take_137_at25, s_X2_take_140, s_X2_take_143, s_X2_take_144, s_X2_take_147, s_X2_take_148, s_X2_take_149, s_X2_take_150, s_X2_take_151, s_X2_take_152, s_X2_take_153, s_X2_take_155, s_X2_take_156, s_X2_take_157, s_X2_take_158, s_X2_take_159, s_X2_take_160, s_X2_take_161_at5, s_X2_take_161_at25, s_X2_take_164, s_X2_take_165, s_X2_take_166, s_X2_take_167, s_X2_take_168, s_X2_take_169_at5, s_X2_take_169_at25, s_X2_take_172, s_X2_take_173, s_X2_take_174, s_X2_take_175, s_X2_take_176, s_X2_take_177, s_X2_take_178_at5, s_X2_take_178_at25, s_X2_take_181, s_X2_take_182, s_X2_take_183, s_X2_take_184, s_X2_take_185, s_X2_take_186, s_X2_take_187_at5, s_X2_take_187_at25, s_X2_take_190, s_X2_take_191, s_X2_take_192, s_X2_take_193, s_X2_take_194_at5, s_X2_take_194_at25, s_X2_take_197, s_X2_take_198, s_X2_take_199, s_X2_take_200, s_X2_take_201, s_X2_take_202, s_X2_take_203_at5, s_X2_take_203_at25, s_X2_take_206, s_X2_take_207, s_X2_take_208, s_X2_take_209, s_X2_take_210, s_X2_take_211_at5, s_X2_take_211_at25, s_X2_take_214, s_X2_take_215, s_X2_take_216, s_X2_placeWard_0, s_X2_placeWard_1, s_X2_placeWard_2_at5, s_X2_placeWard_2_at25, s_X2_placeWard_5, s_X2_placeWard_8, s_X2_placeWard_9, s_X2_placeWard_10, s_X2_placeWard_11, s_X2_placeWard_12_at5, s_X2_placeWard_12_at25, s_X2_placeWard_15, s_X2_placeWard_16, am_len_3, a0, show nI 115 = 115 from rfl, t1, am_k_some, am_push_i, am_bi]
  · have a0 := hl0 (by decide)
    have g30 : (nI (x0) ≤ 30) = (x0 ≤ 30) := propext (by rw [show (30 : Int32) = nI 30 from rfl, nI_leI (by omega) (by omega)])
    by_cases hj : x0 ≤ 30
    · rw [eq_true hj] at g30
      refine ⟨fun P' h => ?_, fun h => by simp [hj] at h⟩
      simp [hj] at h
      subst h
      refine ⟨am_u I p 17 (nI (x0)), A, ?_, by simpa using hset 17 (x0) (by simp), hfr _ _⟩
      rcases hpp with rfl | rfl <;> simp [s_X2_take_0, s_X2_take_1, s_X2_take_100, s_X2_take_101, s_X2_take_102, s_X2_take_103, s_X2_take_104, s_X2_take_105, s_X2_take_106, s_X2_take_107, s_X2_take_108, s_X2_take_109, s_X2_take_110_at5, s_X2_take_110_at25, s_X2_take_113, s_X2_take_114, s_X2_take_115, s_X2_take_116, s_X2_take_117, s_X2_take_118_at5, s_X2_take_118_at25, s_X2_take_121, s_X2_take_124, s_X2_take_125, s_X2_take_126, s_X2_take_127, s_X2_take_128, s_X2_take_129, s_X2_take_130, s_X2_take_131, s_X2_take_132, s_X2_take_133, s_X2_take_134, s_X2_take_135, s_X2_take_136, s_X2_take_137_at5, s_X2_take_137_at25, s_X2_take_140, s_X2_take_143, s_X2_take_144, s_X2_take_147, s_X2_take_148, s_X2_take_149, s_X2_take_150, s_X2_take_151, s_X2_take_152, s_X2_take_153, s_X2_take_155, s_X2_take_156, s_X2_take_157, s_X2_take_158, s_X2_take_159, s_X2_take_160, s_X2_take_161_at5, s_X2_take_161_at25, s_X2_take_164, s_X2_take_165, s_X2_take_166, s_X2_take_167, s_X2_take_168, s_X2_take_169_at5, s_X2_take_169_at25, s_X2_take_172, s_X2_take_173, s_X2_take_174, s_X2_take_175, s_X2_take_176, s_X2_take_177, s_X2_take_178_at5, s_X2_take_178_at25, s_X2_take_181, s_X2_take_182, s_X2_take_183, s_X2_take_184, s_X2_take_185, s_X2_take_186, s_X2_take_187_at5, s_X2_take_187_at25, s_X2_take_190, s_X2_take_191, s_X2_take_192, s_X2_take_193, s_X2_take_194_at5, s_X2_take_194_at25, s_X2_take_197, s_X2_take_198, s_X2_take_199, s_X2_take_200, s_X2_take_201, s_X2_take_202, s_X2_take_203_at5, s_X2_take_203_at25, s_X2_take_206, s_X2_take_207, s_X2_take_208, s_X2_take_209, s_X2_take_210, s_X2_take_211_at5, s_X2_take_211_at25, s_X2_take_214, s_X2_take_215, s_X2_take_216, s_X2_swingBy_0, s_X2_swingBy_1, s_X2_swingBy_3, s_X2_swingBy_6, s_X2_swingBy_7, s_X2_swingBy_8, s_X2_swingBy_9, s_X2_swingBy_10_at5, s_X2_swingBy_10_at25, s_X2_swingBy_13, s_X2_swingBy_14, am_len_3, a0, show nI 118 = 118 from rfl, g30, am_k_some, am_push_i]
    · rw [eq_false hj] at g30
      refine ⟨fun P' h => by simp [hj] at h, fun h => ?_⟩
      rcases hpp with rfl | rfl <;> simp [s_X2_take_0, s_X2_take_1, s_X2_take_100, s_X2_take_101, s_X2_take_102, s_X2_take_103, s_X2_take_104, s_X2_take_105, s_X2_take_106, s_X2_take_107, s_X2_take_108, s_X2_take_109, s_X2_take_110_at5, s_X2_take_110_at25, s_X2_take_113, s_X2_take_114, s_X2_take_115, s_X2_take_116, s_X2_take_117, s_X2_take_118_at5, s_X2_take_118_at25, s_X2_take_121, s_X2_take_124, s_X2_take_125, s_X2_take_126, s_X2_take_127, s_X2_take_128, s_X2_take_129, s_X2_take_130, s_X2_take_131, s_X2_take_132, s_X2_take_133, s_X2_take_134, s_X2_take_135, s_X2_take_136, s_X2_take_137_at5, s_X2_take_137_at25, s_X2_take_140, s_X2_take_143, s_X2_take_144, s_X2_take_147, s_X2_take_148, s_X2_take_149, s_X2_take_150, s_X2_take_151, s_X2_take_152, s_X2_take_153, s_X2_take_155, s_X2_take_156, s_X2_take_157, s_X2_take_158, s_X2_take_159, s_X2_take_160, s_X2_take_161_at5, s_X2_take_161_at25, s_X2_take_164, s_X2_take_165, s_X2_take_166, s_X2_take_167, s_X2_take_168, s_X2_take_169_at5, s_X2_take_169_at25, s_X2_take_172, s_X2_take_173, s_X2_take_174, s_X2_take_175, s_X2_take_176, s_X2_take_177, s_X2_take_178_at5, s_X2_take_178_at25, s_X2_take_181, s_X2_take_182, s_X2_take_183, s_X2_take_184, s_X2_take_185, s_X2_take_186, s_X2_take_187_at5, s_X2_take_187_at25, s_X2_take_190, s_X2_take_191, s_X2_take_192, s_X2_take_193, s_X2_take_194_at5, s_X2_take_194_at25, s_X2_take_197, s_X2_take_198, s_X2_take_199, s_X2_take_200, s_X2_take_201, s_X2_take_202, s_X2_take_203_at5, s_X2_take_203_at25, s_X2_take_206, s_X2_take_207, s_X2_take_208, s_X2_take_209, s_X2_take_210, s_X2_take_211_at5, s_X2_take_211_at25, s_X2_take_214, s_X2_take_215, s_X2_take_216, s_X2_swingBy_0, s_X2_swingBy_1, s_X2_swingBy_3, s_X2_swingBy_6, s_X2_swingBy_7, s_X2_swingBy_8, s_X2_swingBy_9, s_X2_swingBy_10_at5, s_X2_swingBy_10_at25, s_X2_swingBy_13, s_X2_swingBy_14, am_len_3, a0, show nI 118 = 118 from rfl, g30, am_k_some, am_push_i]
  · have a0 := hl0 (by decide)
    have a1 := hl1 (by decide)
    refine ⟨fun P' h => ?_, fun h => by simp at h⟩
    simp at h
    subst h
    refine ⟨am_u (am_u I p 14 (nI x0)) p 15 (nI x1), A, ?_, ⟨⟨?_, ?_, fun i hi => ?_, fun d hd => ?_, ?_, ?_, ?_, ?_, ?_, ?_⟩, ?_⟩, fun a j ha => by simp [am_u_at, ha], fun a _ => rfl⟩
    · rcases hpp with rfl | rfl <;> simp [s_X2_take_0, s_X2_take_1, s_X2_take_100, s_X2_take_101, s_X2_take_102, s_X2_take_103, s_X2_take_104, s_X2_take_105, s_X2_take_106, s_X2_take_107, s_X2_take_108, s_X2_take_109, s_X2_take_110_at5, s_X2_take_110_at25, s_X2_take_113, s_X2_take_114, s_X2_take_115, s_X2_take_116, s_X2_take_117, s_X2_take_118_at5, s_X2_take_118_at25, s_X2_take_121, s_X2_take_124, s_X2_take_125, s_X2_take_126, s_X2_take_127, s_X2_take_128, s_X2_take_129, s_X2_take_130, s_X2_take_131, s_X2_take_132, s_X2_take_133, s_X2_take_134, s_X2_take_135, s_X2_take_136, s_X2_take_137_at5, s_X2_take_137_at25, s_X2_take_140, s_X2_take_143, s_X2_take_144, s_X2_take_147, s_X2_take_148, s_X2_take_149, s_X2_take_150, s_X2_take_151, s_X2_take_152, s_X2_take_153, s_X2_take_155, s_X2_take_156, s_X2_take_157, s_X2_take_158, s_X2_take_159, s_X2_take_160, s_X2_take_161_at5, s_X2_take_161_at25, s_X2_take_164, s_X2_take_165, s_X2_take_166, s_X2_take_167, s_X2_take_168, s_X2_take_169_at5, s_X2_take_169_at25, s_X2_take_172, s_X2_take_173, s_X2_take_174, s_X2_take_175, s_X2_take_176, s_X2_take_177, s_X2_take_178_at5, s_X2_take_178_at25, s_X2_take_181, s_X2_take_182, s_X2_take_183, s_X2_take_184, s_X2_take_185, s_X2_take_186, s_X2_take_187_at5, s_X2_take_187_at25, s_X2_take_190, s_X2_take_191, s_X2_take_192, s_X2_take_193, s_X2_take_194_at5, s_X2_take_194_at25, s_X2_take_197, s_X2_take_198, s_X2_take_199, s_X2_take_200, s_X2_take_201, s_X2_take_202, s_X2_take_203_at5, s_X2_take_203_at25, s_X2_take_206, s_X2_take_207, s_X2_take_208, s_X2_take_209, s_X2_take_210, s_X2_take_211_at5, s_X2_take_211_at25, s_X2_take_214, s_X2_take_215, s_X2_take_216, am_len_3, a0, a1, show nI 119 = 119 from rfl]
    · simpa [am_u_at] using c1
    · simpa [am_u_at] using c2
    · simpa [am_u_at] using c3 i (by simpa [am_uN] using hi)
    · simpa [am_u_at] using c4 d (by simpa [am_uN] using hd)
    · simpa [am_u_at] using c5
    · simpa [am_u_at] using c6
    · simp [am_u_at]
    · simp [am_u_at]
    · simpa [am_u_at] using c9
    · simpa [am_u_at] using c10
    · rw [show am_u (am_u P 7 4 x0) 7 5 x1 7 0 = P 7 0 by simp [am_uN], pf_smk_c (P := P) (P 7 0) (fun i hi => by simp [am_uN]), ← cs]
      simp [am_u_at]
  · exfalso
    unfold pf_many at hm
    rw [if_neg (by omega), if_neg (by omega), if_neg (by omega), if_neg (by omega)] at hm
    omega
