/-! ===== hall, door, set, flood, goes, smelled ===== -/
theorem am_ixF {j n : Nat} (h : j < n) (hn : n < 2 ^ 31) : (nI j < 0 ∨ n ≤ j) = False := by
  apply eq_false
  rintro (h1 | h1)
  · exact nI_pos (by omega) h1
  · omega
theorem am_31 {n : Nat} (h : n ≤ 10) : n < 2 ^ 31 := by omega
def pf_hall (P : sg_P) (s : sg_S) (i w : Int32) : Int32 := if (0 ≤ i ∧ i ≤ nI (P 7 0) - 1) then (if w = 0 then nI (P 0 i.toNatClampNeg) else if w = 1 then nI (P 1 i.toNatClampNeg) else if w = 2 then nI (P 2 i.toNatClampNeg) else if w = 3 then s.2.2.2 i.toNatClampNeg else if w = 4 then am_bi (am_hb s.2.1 i.toNatClampNeg) else -1) else -1
theorem am_w04 {w : Int32} (h : 0 ≤ w ∧ w ≤ 4) : w = 0 ∨ w = 1 ∨ w = 2 ∨ w = 3 ∨ w = 4 := by
  obtain ⟨j, hj, rfl⟩ := (am_rngK 4 rfl (by omega)).mp h
  have : ∀ m : Fin 5, nI m.val = 0 ∨ nI m.val = 1 ∨ nI m.val = 2 ∨ nI m.val = 3 ∨ nI m.val = 4 := by decide
  exact this ⟨j, by omega⟩
theorem am_w04n {w : Int32} (h : ¬ (0 ≤ w ∧ w ≤ 4)) : ¬ w = 0 ∧ ¬ w = 1 ∧ ¬ w = 2 ∧ ¬ w = 3 ∧ ¬ w = 4 := by
  refine ⟨?_, ?_, ?_, ?_, ?_⟩ <;> (rintro rfl; exact h (by decide))
theorem am_mul3 {j : Nat} : (3 : Int32) * nI j = nI (3 * j) := by
  show nI 3 * nI j = _
  exact (by unfold nI; rw [← Int32.ofNat_mul])
theorem am_mul4 {j : Nat} : (4 : Int32) * nI j = nI (4 * j) := by
  show nI 4 * nI j = _
  exact (by unfold nI; rw [← Int32.ofNat_mul])
theorem am_mul12 {j : Nat} : (12 : Int32) * nI j = nI (12 * j) := by
  show nI 12 * nI j = _
  exact (by unfold nI; rw [← Int32.ofNat_mul])
theorem am_add1 {j : Nat} : nI j + 1 = nI (j + 1) := nI_1 j
theorem am_add2 {j : Nat} : nI j + 2 = nI (j + 2) := nI_add j 2
theorem am_add3 {j : Nat} : nI j + 3 = nI (j + 3) := nI_add j 3
theorem am_add4 {j : Nat} : nI j + 4 = nI (j + 4) := nI_add j 4
theorem e_X7_hall {I A : am_F} {G : am_G} {P : sg_P} {s : sg_S} {i w : Int32} (hv : vp_p P) (hp : mr_p P I A) (hs : mr_s s I A) : am_e 95 0 [.ref 69, .int i, .int w] [] I A G = some (.int (pf_hall P s i w), I, A, G) := by
  have hH := hv.1.2
  simp only [s_X7_hall_0, s_X7_hall_1, s_X7_hall_2, s_X7_hall_5, s_X7_hall_8, s_X7_hall_9, s_X7_hall_10, s_X7_hall_11, s_X7_hall_14, s_X7_hall_17, s_X7_hall_18, e_X7_isHall, e_X7_in, am_k_some, am_push_i, am_bi_0, decide_eq_false_iff_not, hp.1]
  unfold pf_hall
  by_cases h : 0 ≤ i ∧ i ≤ nI (P 7 0) - 1
  · rw [if_neg (not_not_intro h), if_pos h]
    by_cases hw : 0 ≤ w ∧ w ≤ 4
    · rw [if_neg (not_not_intro hw)]
      obtain ⟨j, hj, rfl⟩ := (am_rngM (by omega)).mp h
      have hj8 : j < 8 := by omega
      rcases am_w04 hw with rfl | rfl | rfl | rfl | rfl
      · simp [s_X7_hall_19, s_X7_hall_20, s_X7_hall_21, s_X7_hall_24, s_X7_hall_25, s_X7_hall_28, s_X7_hall_29, s_X7_hall_30, s_X7_hall_31, s_X7_hall_32, s_X7_hall_33, s_X7_hall_34, s_X7_hall_37, s_X7_hall_38, s_X7_hall_39, s_X7_hall_42, s_X7_hall_43, s_X7_hall_46, s_X7_hall_47, s_X7_hall_48, s_X7_hall_51, s_X7_hall_52, s_X7_hall_55, s_X7_hall_56, s_X7_hall_59, s_X7_hall_62, s_X7_hall_63, s_X7_hall_66, s_X7_hall_67, am_len_74, am_mul3, nI_clamp (show 3 * j < 2 ^ 31 by omega), nI_clamp (show j < 2 ^ 31 by omega), nI_pos (show 3 * j < 2 ^ 31 by omega), (hp.2.2.1 j hj).1]
        omega
      · simp [s_X7_hall_19, s_X7_hall_20, s_X7_hall_21, s_X7_hall_24, s_X7_hall_25, s_X7_hall_28, s_X7_hall_29, s_X7_hall_30, s_X7_hall_31, s_X7_hall_32, s_X7_hall_33, s_X7_hall_34, s_X7_hall_37, s_X7_hall_38, s_X7_hall_39, s_X7_hall_42, s_X7_hall_43, s_X7_hall_46, s_X7_hall_47, s_X7_hall_48, s_X7_hall_51, s_X7_hall_52, s_X7_hall_55, s_X7_hall_56, s_X7_hall_59, s_X7_hall_62, s_X7_hall_63, s_X7_hall_66, s_X7_hall_67, am_len_74, am_mul3, am_add1, nI_clamp (show 3 * j + 1 < 2 ^ 31 by omega), nI_clamp (show j < 2 ^ 31 by omega), nI_pos (show 3 * j + 1 < 2 ^ 31 by omega), (hp.2.2.1 j hj).2.1]
        omega
      · simp [s_X7_hall_19, s_X7_hall_20, s_X7_hall_21, s_X7_hall_24, s_X7_hall_25, s_X7_hall_28, s_X7_hall_29, s_X7_hall_30, s_X7_hall_31, s_X7_hall_32, s_X7_hall_33, s_X7_hall_34, s_X7_hall_37, s_X7_hall_38, s_X7_hall_39, s_X7_hall_42, s_X7_hall_43, s_X7_hall_46, s_X7_hall_47, s_X7_hall_48, s_X7_hall_51, s_X7_hall_52, s_X7_hall_55, s_X7_hall_56, s_X7_hall_59, s_X7_hall_62, s_X7_hall_63, s_X7_hall_66, s_X7_hall_67, am_len_74, am_mul3, am_add2, nI_clamp (show 3 * j + 2 < 2 ^ 31 by omega), nI_clamp (show j < 2 ^ 31 by omega), nI_pos (show 3 * j + 2 < 2 ^ 31 by omega), (hp.2.2.1 j hj).2.2]
        omega
      · simp [s_X7_hall_19, s_X7_hall_20, s_X7_hall_21, s_X7_hall_24, s_X7_hall_25, s_X7_hall_28, s_X7_hall_29, s_X7_hall_30, s_X7_hall_31, s_X7_hall_32, s_X7_hall_33, s_X7_hall_34, s_X7_hall_37, s_X7_hall_38, s_X7_hall_39, s_X7_hall_42, s_X7_hall_43, s_X7_hall_46, s_X7_hall_47, s_X7_hall_48, s_X7_hall_51, s_X7_hall_52, s_X7_hall_55, s_X7_hall_56, s_X7_hall_59, s_X7_hall_62, s_X7_hall_63, s_X7_hall_66, s_X7_hall_67, am_len_77, nI_clamp (show j < 2 ^ 31 by omega), nI_pos (show j < 2 ^ 31 by omega), hs.2.2.2.2 j hj8]
        omega
      · simp only [s_X7_hall_19, s_X7_hall_20, s_X7_hall_21, s_X7_hall_24, s_X7_hall_25, s_X7_hall_28, s_X7_hall_29, s_X7_hall_30, s_X7_hall_31, s_X7_hall_32, s_X7_hall_33, s_X7_hall_34, s_X7_hall_37, s_X7_hall_38, s_X7_hall_39, s_X7_hall_42, s_X7_hall_43, s_X7_hall_46, s_X7_hall_47, s_X7_hall_48, s_X7_hall_51, s_X7_hall_52, s_X7_hall_55, s_X7_hall_56, s_X7_hall_59, e_X7_has, am_k_some, am_push_i, am_bi_0, hs.2.1, nI_clamp (show j < 2 ^ 31 by omega)]
        unfold am_hb
        cases hb : decide ((s.2.1 >>> (nI j &&& 31)) &&& 1 = 1) <;> simp [s_X7_hall_62, s_X7_hall_63, s_X7_hall_66, s_X7_hall_67, am_bi]
    · rw [if_pos hw]
      obtain ⟨h0, h1, h2, h3, h4⟩ := am_w04n hw
      rw [if_neg h0, if_neg h1, if_neg h2, if_neg h3, if_neg h4]
  · rw [if_pos h, if_neg h]
theorem am_decC {i : Int32} {n : Nat} (hn : n < 2 ^ 31) : (¬ i < 0 ∧ ¬ nI n ≤ i) = (0 ≤ i ∧ i ≤ nI n - 1) := propext ((am_rngC hn).trans (am_rngM hn).symm)
theorem e_X6_hall {p p' : Nat} {I A : am_F} {G : am_G} {P : sg_P} {s : sg_S} {i w : Int32} (hv : vp_p P) (hG : cr_g p p' G) (hp : cr_p p P I A) (hs : cr_s 45 s I A) : am_e 39 0 [.ref 0, .int i, .int w] [] I A G = some (.int (pf_hall P s i w), I, A, G) := by
  have hH := hv.1.2
  have hpp : p = 5 ∨ p = 25 := hG.2.2.elim (fun h => Or.inl h.1) (fun h => Or.inr h.1)
  simp only [s_X6_hall_0, s_X6_hall_1, s_X6_hall_2, s_X6_hall_5, s_X6_hall_8, s_X6_hall_9, e_X6_isHall hpp hG.1, am_k_some, am_push_i, am_bi_0, decide_eq_false_iff_not, hp.1, am_decC (show P 7 0 < 2 ^ 31 by omega)]
  unfold pf_hall
  by_cases h : 0 ≤ i ∧ i ≤ nI (P 7 0) - 1
  · rw [if_neg (not_not_intro h), if_pos h]
    obtain ⟨j, hj, rfl⟩ := (am_rngM (by omega)).mp h
    have hj8 : j < 8 := by omega
    have hi := nI_clamp (show j < 2 ^ 31 by omega)
    have hx := am_ixF hj8 (by omega)
    have hx9 := am_ixF (show j < 9 by omega) (by omega)
    obtain ⟨h3, h4, ⟨rfl, rfl⟩ | ⟨rfl, rfl⟩⟩ := hG <;>
    (simp only [s_X6_hall_10, s_X6_hall_11, s_X6_hall_44, s_X6_hall_45, s_X6_hall_48_at5, s_X6_hall_48_at25, s_X6_hall_51, s_X6_hall_52, s_X6_hall_53, s_X6_hall_54, s_X6_hall_55, s_X6_hall_58_at5, s_X6_hall_58_at25, s_X6_hall_61, s_X6_hall_62, s_X6_hall_63, s_X6_hall_64, s_X6_hall_65, s_X6_hall_68_at5, s_X6_hall_68_at25, s_X6_hall_71, s_X6_hall_72, s_X6_hall_73, s_X6_hall_74, s_X6_hall_75, s_X6_hall_78_at45, s_X6_hall_78_at48, s_X6_hall_78_at51, s_X6_hall_81, s_X6_hall_82, s_X6_hall_83, s_X6_hall_84, s_X6_hall_85, s_X6_hall_88_at45, s_X6_hall_88_at48, s_X6_hall_88_at51, s_X6_hall_91, s_X6_hall_92, s_X6_hall_95, s_X6_hall_96, s_X6_hall_97, h3, am_len_6, am_len_7, am_len_8, am_len_26, am_len_27, am_len_28, am_len_46, hi, hx, hx9, if_false, (hp.2.2.1 j hj).1, (hp.2.2.1 j hj).2.1, (hp.2.2.1 j hj).2.2, hs.2.2.2 j (by omega), hs.2.1, e_X6_bitOf, am_k_some, am_push_i, am_hb]
     repeat' split
     all_goals rfl)
  · rw [if_pos h, if_neg h]
def pf_door (P : sg_P) (s : sg_S) (i w : Int32) : Int32 := if (0 ≤ i ∧ i ≤ nI (P 7 1) - 1) then (if w = 0 then nI (P 3 i.toNatClampNeg) else if w = 1 then (if P 4 i.toNatClampNeg = 8 then -4 else nI (P 4 i.toNatClampNeg)) else if w = 2 then nI (P 5 i.toNatClampNeg) else if w = 3 then nI (P 6 i.toNatClampNeg) else if w = 4 then am_bi (am_hb s.1 i.toNatClampNeg) else -1) else -1
theorem e_X7_door {I A : am_F} {G : am_G} {P : sg_P} {s : sg_S} {i w : Int32} (hv : vp_p P) (hp : mr_p P I A) (hs : mr_s s I A) : am_e 96 0 [.ref 69, .int i, .int w] [] I A G = some (.int (pf_door P s i w), I, A, G) := by
  have hH := hv.2.1
  simp only [s_X7_door_0, s_X7_door_1, s_X7_door_2, s_X7_door_5, s_X7_door_8, s_X7_door_9, s_X7_door_10, s_X7_door_11, s_X7_door_14, s_X7_door_17, s_X7_door_18, e_X7_isDoor, e_X7_in, am_k_some, am_push_i, am_bi_0, decide_eq_false_iff_not, hp.2.1]
  unfold pf_door
  by_cases h : 0 ≤ i ∧ i ≤ nI (P 7 1) - 1
  · rw [if_neg (not_not_intro h), if_pos h]
    by_cases hw : 0 ≤ w ∧ w ≤ 4
    · rw [if_neg (not_not_intro hw)]
      obtain ⟨j, hj, rfl⟩ := (am_rngM (by omega)).mp h
      have hj8 : j < 10 := by omega
      have hd := hp.2.2.2.1 j hj
      rcases am_w04 hw with rfl | rfl | rfl | rfl | rfl
      · simp [s_X7_door_19, s_X7_door_20, s_X7_door_21, s_X7_door_24, s_X7_door_25, s_X7_door_28, s_X7_door_29, s_X7_door_30, s_X7_door_31, s_X7_door_32, s_X7_door_33, s_X7_door_34, s_X7_door_37, s_X7_door_38, s_X7_door_41, s_X7_door_42, s_X7_door_45, s_X7_door_48, s_X7_door_49, s_X7_door_52, s_X7_door_53, am_len_75, am_mul4, nI_clamp (show 4 * j < 2 ^ 31 by omega), nI_clamp (show j < 2 ^ 31 by omega), nI_pos (show 4 * j < 2 ^ 31 by omega), hd.1]
        omega
      · simp [s_X7_door_19, s_X7_door_20, s_X7_door_21, s_X7_door_24, s_X7_door_25, s_X7_door_28, s_X7_door_29, s_X7_door_30, s_X7_door_31, s_X7_door_32, s_X7_door_33, s_X7_door_34, s_X7_door_37, s_X7_door_38, s_X7_door_41, s_X7_door_42, s_X7_door_45, s_X7_door_48, s_X7_door_49, s_X7_door_52, s_X7_door_53, am_len_75, am_mul4, am_add1, nI_clamp (show 4 * j + 1 < 2 ^ 31 by omega), nI_clamp (show j < 2 ^ 31 by omega), nI_pos (show 4 * j + 1 < 2 ^ 31 by omega), hd.2.1]
        omega
      · simp [s_X7_door_19, s_X7_door_20, s_X7_door_21, s_X7_door_24, s_X7_door_25, s_X7_door_28, s_X7_door_29, s_X7_door_30, s_X7_door_31, s_X7_door_32, s_X7_door_33, s_X7_door_34, s_X7_door_37, s_X7_door_38, s_X7_door_41, s_X7_door_42, s_X7_door_45, s_X7_door_48, s_X7_door_49, s_X7_door_52, s_X7_door_53, am_len_75, am_mul4, am_add2, nI_clamp (show 4 * j + 2 < 2 ^ 31 by omega), nI_clamp (show j < 2 ^ 31 by omega), nI_pos (show 4 * j + 2 < 2 ^ 31 by omega), hd.2.2.1]
        omega
      · simp [s_X7_door_19, s_X7_door_20, s_X7_door_21, s_X7_door_24, s_X7_door_25, s_X7_door_28, s_X7_door_29, s_X7_door_30, s_X7_door_31, s_X7_door_32, s_X7_door_33, s_X7_door_34, s_X7_door_37, s_X7_door_38, s_X7_door_41, s_X7_door_42, s_X7_door_45, s_X7_door_48, s_X7_door_49, s_X7_door_52, s_X7_door_53, am_len_75, am_mul4, am_add3, nI_clamp (show 4 * j + 3 < 2 ^ 31 by omega), nI_clamp (show j < 2 ^ 31 by omega), nI_pos (show 4 * j + 3 < 2 ^ 31 by omega), hd.2.2.2]
        omega
      · simp only [s_X7_door_19, s_X7_door_20, s_X7_door_21, s_X7_door_24, s_X7_door_25, s_X7_door_28, s_X7_door_29, s_X7_door_30, s_X7_door_31, s_X7_door_32, s_X7_door_33, s_X7_door_34, s_X7_door_37, s_X7_door_38, s_X7_door_41, s_X7_door_42, s_X7_door_45, e_X7_has, am_k_some, am_push_i, am_bi_0, hs.1, nI_clamp (show j < 2 ^ 31 by omega), show ((4 : Int32) ≤ 4) = True by decide, if_true]
        unfold am_hb
        cases hb : decide ((s.1 >>> (nI j &&& 31)) &&& 1 = 1) <;> simp [s_X7_door_48, s_X7_door_49, s_X7_door_52, s_X7_door_53, am_bi]
    · rw [if_pos hw]
      obtain ⟨h0, h1, h2, h3, h4⟩ := am_w04n hw
      rw [if_neg h0, if_neg h1, if_neg h2, if_neg h3, if_neg h4]
  · rw [if_pos h, if_neg h]
theorem e_X6_door {p p' : Nat} {I A : am_F} {G : am_G} {P : sg_P} {s : sg_S} {i w : Int32} (hv : vp_p P) (hG : cr_g p p' G) (hp : cr_p p P I A) (hs : cr_s 45 s I A) : am_e 40 0 [.ref 0, .int i, .int w] [] I A G = some (.int (pf_door P s i w), I, A, G) := by
  have hH := hv.2.1
  have hpp : p = 5 ∨ p = 25 := hG.2.2.elim (fun h => Or.inl h.1) (fun h => Or.inr h.1)
  simp only [s_X6_door_0, s_X6_door_1, s_X6_door_2, s_X6_door_5, s_X6_door_8, s_X6_door_9, e_X6_isDoor hpp hG.1, am_k_some, am_push_i, am_bi_0, decide_eq_false_iff_not, hp.2.1, am_decC (show P 7 1 < 2 ^ 31 by omega)]
  unfold pf_door
  by_cases h : 0 ≤ i ∧ i ≤ nI (P 7 1) - 1
  · rw [if_neg (not_not_intro h), if_pos h]
    obtain ⟨j, hj, rfl⟩ := (am_rngM (by omega)).mp h
    have hj8 : j < 10 := by omega
    have hi := nI_clamp (show j < 2 ^ 31 by omega)
    have hx := am_ixF hj8 (by omega)
    have hd := hp.2.2.2.1 j hj
    have h8 : (nI (P 4 j) = 8) = (P 4 j = 8) := propext (nI_eq (by have := (hv.2.2.2.1 j hj).2.1; have := hv.1.2; omega) (by omega) : nI (P 4 j) = nI 8 ↔ _)
    obtain ⟨h3, h4, ⟨rfl, rfl⟩ | ⟨rfl, rfl⟩⟩ := hG <;>
    (simp only [s_X6_door_10, s_X6_door_11, s_X6_door_44, s_X6_door_45, s_X6_door_48_at5, s_X6_door_48_at25, s_X6_door_51, s_X6_door_52, s_X6_door_53, s_X6_door_54, s_X6_door_55, s_X6_door_58_at5, s_X6_door_58_at25, s_X6_door_61, s_X6_door_62, s_X6_door_63, s_X6_door_65, s_X6_door_68, s_X6_door_70, s_X6_door_73, s_X6_door_74, s_X6_door_77_at5, s_X6_door_77_at25, s_X6_door_80, s_X6_door_81, s_X6_door_82, s_X6_door_83, s_X6_door_84, s_X6_door_87_at5, s_X6_door_87_at25, s_X6_door_90, s_X6_door_91, s_X6_door_92, s_X6_door_93, s_X6_door_94, s_X6_door_97_at5, s_X6_door_97_at25, s_X6_door_100, s_X6_door_101, s_X6_door_102, s_X6_door_103, s_X6_door_104, s_X6_door_107_at45, s_X6_door_107_at48, s_X6_door_107_at51, s_X6_door_110, s_X6_door_111, s_X6_door_114, s_X6_door_115, s_X6_door_116, h3, am_len_9, am_len_10, am_len_11, am_len_12, am_len_29, am_len_30, am_len_31, am_len_32, hi, hx, if_false, hd.1, hd.2.1, hd.2.2.1, hd.2.2.2, hs.1, h8, e_X6_bitOf, am_k_some, am_push_i, am_hb]
     repeat' split
     all_goals first | rfl | simp_all)
  · rw [if_pos h, if_neg h]
/-! set, flood -/
def pf_set (P : sg_P) (s : sg_S) (i b : Int32) : Int32 × sg_S := if (0 ≤ i ∧ i ≤ nI (P 7 1) - 1) then (am_bi (am_hb s.1 i.toNatClampNeg), (pf_wb s.1 i b, s.2)) else (-1, s)
def pf_flood (P : sg_P) (s : sg_S) (i b : Int32) : Int32 × sg_S := if (0 ≤ i ∧ i ≤ nI (P 7 0) - 1) then (am_bi (am_hb s.2.1 i.toNatClampNeg), (s.1, pf_wb s.2.1 i b, s.2.2)) else (-1, s)
theorem e_X7_set {I A : am_F} {G : am_G} {P : sg_P} {s : sg_S} {i b : Int32} (hv : vp_p P) (hp : mr_p P I A) (hs : mr_s s I A) : am_e 97 0 [.ref 69, .int i, .int b, .null] [] I A G = some (.int (pf_set P s i b).1, (if (0 ≤ i ∧ i ≤ nI (P 7 1) - 1) then am_u I 69 14 (pf_wb s.1 i b) else I), A, G) := by
  have hH := hv.2.1
  simp only [s_X7_set_0, s_X7_set_1, s_X7_set_2, s_X7_set_5, s_X7_set_8, s_X7_set_9, s_X7_set_10, s_X7_set_11, s_X7_set_14, s_X7_set_15, s_X7_set_18, e_X7_isDoor, e_X7_has, am_k_some, am_push_i, am_bi_0, decide_eq_false_iff_not, hp.2.1, hs.1]
  unfold pf_set
  by_cases h : 0 ≤ i ∧ i ≤ nI (P 7 1) - 1
  · rw [if_neg (not_not_intro h), if_pos h, if_pos h]
    obtain ⟨j, hj, rfl⟩ := (am_rngM (by omega)).mp h
    simp only [s_X7_set_19, s_X7_set_20, s_X7_set_21, s_X7_set_24, s_X7_set_25, s_X7_set_28, s_X7_set_29, s_X7_set_30, s_X7_set_31, s_X7_set_32, s_X7_set_35, s_X7_set_36, s_X7_set_39, s_X7_set_40, s_X7_set_41, s_X7_set_42, s_X7_set_43, s_X7_set_44, s_X7_set_45, s_X7_set_48, s_X7_set_49, s_X7_set_52, s_X7_set_53, s_X7_set_56, s_X7_set_57, hs.1, pf_wb, nI_clamp (show j < 2 ^ 31 by omega), am_bi_0]
    unfold am_hb
    cases hb : decide ((s.1 >>> (nI j &&& 31)) &&& 1 = 1) <;> (by_cases hb0 : b = 0 <;> simp [hb0, am_bi])
  · rw [if_pos h, if_neg h, if_neg h]
theorem e_X7_flood {I A : am_F} {G : am_G} {P : sg_P} {s : sg_S} {i b : Int32} (hv : vp_p P) (hp : mr_p P I A) (hs : mr_s s I A) : am_e 98 0 [.ref 69, .int i, .int b, .null] [] I A G = some (.int (pf_flood P s i b).1, (if (0 ≤ i ∧ i ≤ nI (P 7 0) - 1) then am_u I 69 15 (pf_wb s.2.1 i b) else I), A, G) := by
  have hH := hv.1.2
  simp only [s_X7_flood_0, s_X7_flood_1, s_X7_flood_2, s_X7_flood_5, s_X7_flood_8, s_X7_flood_9, s_X7_flood_10, s_X7_flood_11, s_X7_flood_14, s_X7_flood_15, s_X7_flood_18, e_X7_isHall, e_X7_has, am_k_some, am_push_i, am_bi_0, decide_eq_false_iff_not, hp.1, hs.2.1]
  unfold pf_flood
  by_cases h : 0 ≤ i ∧ i ≤ nI (P 7 0) - 1
  · rw [if_neg (not_not_intro h), if_pos h, if_pos h]
    obtain ⟨j, hj, rfl⟩ := (am_rngM (by omega)).mp h
    simp only [s_X7_flood_19, s_X7_flood_20, s_X7_flood_21, s_X7_flood_24, s_X7_flood_25, s_X7_flood_28, s_X7_flood_29, s_X7_flood_30, s_X7_flood_31, s_X7_flood_32, s_X7_flood_35, s_X7_flood_36, s_X7_flood_39, s_X7_flood_40, s_X7_flood_41, s_X7_flood_42, s_X7_flood_43, s_X7_flood_44, s_X7_flood_45, s_X7_flood_48, s_X7_flood_49, s_X7_flood_52, s_X7_flood_53, s_X7_flood_56, s_X7_flood_57, hs.2.1, pf_wb, nI_clamp (show j < 2 ^ 31 by omega), am_bi_0]
    unfold am_hb
    cases hb : decide ((s.2.1 >>> (nI j &&& 31)) &&& 1 = 1) <;> (by_cases hb0 : b = 0 <;> simp [hb0, am_bi])
  · rw [if_pos h, if_neg h, if_neg h]
theorem e_X6_set {p p' : Nat} {I A : am_F} {G : am_G} {P : sg_P} {s : sg_S} {i b : Int32} (hv : vp_p P) (hG : cr_g p p' G) (hp : cr_p p P I A) (hs : cr_s 45 s I A) : am_e 41 0 [.ref 0, .int i, .int b, .null] [] I A G = some (.int (pf_set P s i b).1, (if (0 ≤ i ∧ i ≤ nI (P 7 1) - 1) then am_u I 45 0 (pf_wb s.1 i b) else I), A, G) := by
  have hH := hv.2.1
  have hpp : p = 5 ∨ p = 25 := hG.2.2.elim (fun h => Or.inl h.1) (fun h => Or.inr h.1)
  simp only [s_X6_set_0, s_X6_set_1, s_X6_set_2, s_X6_set_5, s_X6_set_8, s_X6_set_9, e_X6_isDoor hpp hG.1, am_k_some, am_push_i, am_bi_0, decide_eq_false_iff_not, hp.2.1, am_decC (show P 7 1 < 2 ^ 31 by omega)]
  unfold pf_set
  by_cases h : 0 ≤ i ∧ i ≤ nI (P 7 1) - 1
  · rw [if_neg (not_not_intro h), if_pos h, if_pos h]
    obtain ⟨j, hj, rfl⟩ := (am_rngM (by omega)).mp h
    simp only [s_X6_set_10, s_X6_set_11, s_X6_set_14_at45, s_X6_set_14_at48, s_X6_set_14_at51, s_X6_set_17, s_X6_set_18, s_X6_set_21, s_X6_set_22, s_X6_set_23, s_X6_set_26, s_X6_set_27, s_X6_set_30_at45, s_X6_set_30_at48, s_X6_set_30_at51, s_X6_set_33, s_X6_set_34, s_X6_set_35, s_X6_set_38_at45, s_X6_set_38_at48, s_X6_set_38_at51, s_X6_set_41, s_X6_set_42, hs.1, e_X6_bitOf, e_X6_withBit, am_k_some, am_push_i, nI_clamp (show j < 2 ^ 31 by omega), am_hb]
  · rw [if_pos h, if_neg h, if_neg h]
theorem e_X6_flood {p p' : Nat} {I A : am_F} {G : am_G} {P : sg_P} {s : sg_S} {i b : Int32} (hv : vp_p P) (hG : cr_g p p' G) (hp : cr_p p P I A) (hs : cr_s 45 s I A) : am_e 42 0 [.ref 0, .int i, .int b, .null] [] I A G = some (.int (pf_flood P s i b).1, (if (0 ≤ i ∧ i ≤ nI (P 7 0) - 1) then am_u I 45 1 (pf_wb s.2.1 i b) else I), A, G) := by
  have hH := hv.1.2
  have hpp : p = 5 ∨ p = 25 := hG.2.2.elim (fun h => Or.inl h.1) (fun h => Or.inr h.1)
  simp only [s_X6_flood_0, s_X6_flood_1, s_X6_flood_2, s_X6_flood_5, s_X6_flood_8, s_X6_flood_9, e_X6_isHall hpp hG.1, am_k_some, am_push_i, am_bi_0, decide_eq_false_iff_not, hp.1, am_decC (show P 7 0 < 2 ^ 31 by omega)]
  unfold pf_flood
  by_cases h : 0 ≤ i ∧ i ≤ nI (P 7 0) - 1
  · rw [if_neg (not_not_intro h), if_pos h, if_pos h]
    obtain ⟨j, hj, rfl⟩ := (am_rngM (by omega)).mp h
    simp only [s_X6_flood_10, s_X6_flood_11, s_X6_flood_14_at45, s_X6_flood_14_at48, s_X6_flood_14_at51, s_X6_flood_17, s_X6_flood_18, s_X6_flood_21, s_X6_flood_22, s_X6_flood_23, s_X6_flood_26, s_X6_flood_27, s_X6_flood_30_at45, s_X6_flood_30_at48, s_X6_flood_30_at51, s_X6_flood_33, s_X6_flood_34, s_X6_flood_35, s_X6_flood_38_at45, s_X6_flood_38_at48, s_X6_flood_38_at51, s_X6_flood_41, s_X6_flood_42, hs.2.1, e_X6_bitOf, e_X6_withBit, am_k_some, am_push_i, nI_clamp (show j < 2 ^ 31 by omega), am_hb]
  · rw [if_pos h, if_neg h, if_neg h]
