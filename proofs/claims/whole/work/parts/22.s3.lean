/-! ===== which way air goes; smelled; keep, back ===== -/
/-- the way at an outside warmth -/
def pf_way (P : sg_P) (o : Int32) : Int32 := if o < nI (P 7 3) then 1 else if nI (P 7 3) < o then 2 else 0
/-- the outside warmth in an hour -/
def pf_out (P : sg_P) (t : Int32) : Int32 := if 12 ≤ t - t / 24 * 24 then nI (P 7 5) else nI (P 7 4)
theorem am_tri (a b : Int32) : a < b ∨ a = b ∨ b < a := by
  rw [Int32.lt_iff_toInt_lt, Int32.lt_iff_toInt_lt, ← Int32.toInt_inj]; omega
theorem e_X7_goesBy {I A : am_F} {G : am_G} {P : sg_P} {t x : Int32} (hp : mr_p P I A) : am_e 99 0 [.ref 69, .int t, .int x, .null] [] I A G = some (.int (pf_way P (pf_out P t + x)), I, A, G) := by
  obtain ⟨-, -, -, -, -, h1, h2, h3, -⟩ := hp
  have key : ∀ o : Int32, (if nI (P 7 3) ≤ o then (if o ≤ nI (P 7 3) then some (Value.int 0, I, A, G) else some (Value.int 2, I, A, G)) else some (Value.int 1, I, A, G)) = some (.int (pf_way P o), I, A, G) := by
    intro o
    unfold pf_way
    rcases am_tri o (nI (P 7 3)) with h | h | h
    · rw [if_neg (Int32.not_le.mpr h), if_pos h]
    · rw [h, if_pos Int32.le_rfl, if_pos Int32.le_rfl, if_neg Int32.lt_irrefl, if_neg Int32.lt_irrefl]
    · rw [if_pos (Int32.le_of_lt h), if_neg (Int32.not_le.mpr h), if_neg (Int32.not_lt.mpr (Int32.le_of_lt h)), if_pos h]
  unfold pf_out
  by_cases hc : 12 ≤ t - t / 24 * 24
  · rw [if_pos hc, ← key]
    simp [s_X7_goesBy_0, s_X7_goesBy_1, s_X7_goesBy_3, s_X7_goesBy_4, s_X7_goesBy_6, s_X7_goesBy_9, s_X7_goesBy_10, s_X7_goesBy_13, s_X7_goesBy_14, s_X7_goesBy_15, s_X7_goesBy_18, s_X7_goesBy_19, s_X7_goesBy_22, s_X7_goesBy_23, s_X7_goesBy_24, s_X7_goesBy_25, s_X7_goesBy_26, s_X7_goesBy_27, s_X7_goesBy_28, s_X7_goesBy_29, s_X7_goesBy_32, s_X7_goesBy_33, s_X7_goesBy_34, s_X7_goesBy_37, s_X7_goesBy_38, s_X7_goesBy_41, s_X7_goesBy_42, s_X7_goesBy_43, s_X7_goesBy_46, s_X7_goesBy_47, s_X7_goesBy_48, s_X7_goesBy_51, s_X7_goesBy_52, s_X7_goesBy_55, s_X7_goesBy_56, am_len_76, h1, h2, h3, hc, -Int32.not_le]
  · rw [if_neg hc, ← key]
    simp [s_X7_goesBy_0, s_X7_goesBy_1, s_X7_goesBy_3, s_X7_goesBy_4, s_X7_goesBy_6, s_X7_goesBy_9, s_X7_goesBy_10, s_X7_goesBy_13, s_X7_goesBy_14, s_X7_goesBy_15, s_X7_goesBy_18, s_X7_goesBy_19, s_X7_goesBy_22, s_X7_goesBy_23, s_X7_goesBy_24, s_X7_goesBy_25, s_X7_goesBy_26, s_X7_goesBy_27, s_X7_goesBy_28, s_X7_goesBy_29, s_X7_goesBy_32, s_X7_goesBy_33, s_X7_goesBy_34, s_X7_goesBy_37, s_X7_goesBy_38, s_X7_goesBy_41, s_X7_goesBy_42, s_X7_goesBy_43, s_X7_goesBy_46, s_X7_goesBy_47, s_X7_goesBy_48, s_X7_goesBy_51, s_X7_goesBy_52, s_X7_goesBy_55, s_X7_goesBy_56, am_len_76, h1, h2, h3, hc, -Int32.not_le]
theorem e_X2_wayAt {p : Nat} {I A : am_F} {G : am_G} {P : sg_P} {o : Int32} (hpp : p = 5 ∨ p = 25) (hp : cr_p p P I A) : am_e 16 0 [.ref p, .int o] [] I A G = some (.int (pf_way P o), I, A, G) := by
  obtain ⟨-, -, -, -, -, h1, -⟩ := hp
  rcases hpp with rfl | rfl <;>
  (simp only [s_X2_wayAt_0, s_X2_wayAt_1, s_X2_wayAt_2_at5, s_X2_wayAt_2_at25, s_X2_wayAt_5, s_X2_wayAt_8, s_X2_wayAt_9, s_X2_wayAt_10, s_X2_wayAt_11, s_X2_wayAt_12_at5, s_X2_wayAt_12_at25, s_X2_wayAt_15, s_X2_wayAt_18, s_X2_wayAt_19, s_X2_wayAt_22, s_X2_wayAt_23, h1, pf_way]
   rcases (show o < nI (P 7 3) ∨ o = nI (P 7 3) ∨ nI (P 7 3) < o by
     rw [Int32.lt_iff_toInt_lt, Int32.lt_iff_toInt_lt, ← Int32.toInt_inj]; omega) with h | h | h
   · rw [if_neg (Int32.ne_of_lt h), if_neg (Int32.not_le.mpr h), if_pos h]
   · rw [if_pos h, h, if_neg Int32.lt_irrefl, if_neg Int32.lt_irrefl]
   · rw [if_neg (Int32.ne_of_lt h).symm, if_pos (Int32.le_of_lt h), if_neg (Int32.not_lt.mpr (Int32.le_of_lt h)), if_pos h])
theorem e_X2_wayIn {p : Nat} {I A : am_F} {G : am_G} {P : sg_P} {t : Int32} (hpp : p = 5 ∨ p = 25) (hp : cr_p p P I A) : am_e 15 0 [.ref p, .int t] [] I A G = some (.int (pf_way P (pf_out P t)), I, A, G) := by
  have hw := @e_X2_wayAt p I A G P
  obtain ⟨h0, h1, h2, h3, h4, h5, h6, h7, -⟩ := id hp
  unfold pf_out
  by_cases hc : 12 ≤ t - t / 24 * 24
  · rcases hpp with rfl | rfl <;>
    simp only [s_X2_wayIn_0, s_X2_wayIn_1, s_X2_wayIn_2, s_X2_wayIn_4, s_X2_wayIn_5, s_X2_wayIn_7, s_X2_wayIn_10, s_X2_wayIn_11_at5, s_X2_wayIn_11_at25, s_X2_wayIn_14, s_X2_wayIn_17, s_X2_wayIn_18_at5, s_X2_wayIn_18_at25, s_X2_wayIn_21_at5, s_X2_wayIn_21_at25, s_X2_wayIn_24, show ((24 : Int32) = 0) = False by decide, if_false, hc, if_true, h7, hw (by simp) hp, am_k_some, am_push_i]
  · rcases hpp with rfl | rfl <;>
    simp only [s_X2_wayIn_0, s_X2_wayIn_1, s_X2_wayIn_2, s_X2_wayIn_4, s_X2_wayIn_5, s_X2_wayIn_7, s_X2_wayIn_10, s_X2_wayIn_11_at5, s_X2_wayIn_11_at25, s_X2_wayIn_14, s_X2_wayIn_17, s_X2_wayIn_18_at5, s_X2_wayIn_18_at25, s_X2_wayIn_21_at5, s_X2_wayIn_21_at25, s_X2_wayIn_24, show ((24 : Int32) = 0) = False by decide, if_false, hc, h6, hw (by simp) hp, am_k_some, am_push_i]
def pf_goes (P : sg_P) (t : Int32) : Int32 := if (0 ≤ t ∧ t ≤ 999999) then pf_way P (pf_out P t) else -1
theorem e_X7_goes {I A : am_F} {G : am_G} {P : sg_P} {t : Int32} (hp : mr_p P I A) : am_e 101 0 [.ref 69, .int t] [] I A G = some (.int (pf_goes P t), I, A, G) := by
  simp only [s_X7_goes_0, s_X7_goes_1, s_X7_goes_4, s_X7_goes_7, s_X7_goes_8, s_X7_goes_9, s_X7_goes_10, s_X7_goes_13, s_X7_goes_16, s_X7_goes_17, e_X7_isHour, e_X7_goesBy hp, am_k_some, am_push_i, am_bi_0, decide_eq_false_iff_not, pf_goes, Int32.add_zero]
  by_cases h : 0 ≤ t ∧ t ≤ 999999
  · rw [if_neg (not_not_intro h), if_pos h]
  · rw [if_pos h, if_neg h]
theorem e_X6_goes {p p' : Nat} {I A : am_F} {G : am_G} {P : sg_P} {t : Int32} (hG : cr_g p p' G) (hp : cr_p p P I A) : am_e 43 0 [.ref 0, .int t] [] I A G = some (.int (pf_goes P t), I, A, G) := by
  have hw := @e_X2_wayIn p I A G P t
  obtain ⟨h3, h4, ⟨rfl, rfl⟩ | ⟨rfl, rfl⟩⟩ := hG <;>
  (simp only [s_X6_goes_0, s_X6_goes_1, s_X6_goes_4, s_X6_goes_7, s_X6_goes_8, s_X6_goes_11, s_X6_goes_12_at5, s_X6_goes_12_at25, s_X6_goes_15, s_X6_goes_18, s_X6_goes_19, e_X6_isHour, h3, hw (by simp) hp, am_k_some, am_push_i, am_bi_0, decide_eq_false_iff_not, pf_goes]
   by_cases h : 0 ≤ t ∧ t ≤ 999999
   · rw [if_neg (not_not_intro h), if_pos h]
   · rw [if_pos h, if_neg h])
/-! keep, back -/
theorem e_X7_keep {I A : am_F} {G : am_G} {s : sg_S} {k : Nat} {K : Nat → sg_S} (hk2 : k ≤ 2) (hs : mr_s s I A) (hk : mr_k k K I A) : ∃ A', am_e 128 0 [.ref 69, .null, .null] [] I A G = some (.int (if k = 2 then -3 else nI (k + 1)), (if k = 2 then I else am_u I 69 19 (nI (k + 1))), A', G) ∧ (∀ a, a ≠ 78 → A' a = A a) ∧ (k = 2 → A' = A) ∧ (k < 2 → mr_k (k + 1) (fun e => if e = k then s else K e) (am_u I 69 19 (nI (k + 1))) A') := by
  obtain ⟨h1, h2, h3, h4, h5⟩ := hs
  obtain ⟨g1, g2⟩ := hk
  have e := fun i hi => h5 i hi
  have e0 := h5 0 (by omega); have e1 := h5 1 (by omega); have e2 := h5 2 (by omega); have e3 := h5 3 (by omega)
  have e4 := h5 4 (by omega); have e5 := h5 5 (by omega); have e6 := h5 6 (by omega); have e7 := h5 7 (by omega)
  match k, hk2 with
  | 0, _ =>
    have g1 : I 69 19 = 0 := g1
    refine ⟨_, by simp [s_X7_keep_0, s_X7_keep_1, s_X7_keep_4, s_X7_keep_5, s_X7_keep_8, s_X7_keep_10, s_X7_keep_11, s_X7_keep_13, s_X7_keep_14, s_X7_keep_17, s_X7_keep_18, s_X7_keep_19, s_X7_keep_20, s_X7_keep_23, s_X7_keep_24, s_X7_keep_25, s_X7_keep_28, s_X7_keep_29, s_X7_keep_30, s_X7_keep_33, s_X7_keep_34, s_X7_keep_35, s_X7_keep_36, s_X7_keep_37, s_X7_keep_40, s_X7_keep_41, s_X7_keep_42, s_X7_keep_45, s_X7_keep_46, s_X7_keep_47, s_X7_keep_48, s_X7_keep_49, s_X7_keep_52, s_X7_keep_53, s_X7_keep_54, s_X7_keep_57, s_X7_keep_58, s_X7_keep_59, s_X7_keep_60, s_X7_keep_61, s_X7_keep_64, s_X7_keep_65, s_X7_keep_66, s_X7_keep_67, s_X7_keep_68, s_X7_keep_70, s_X7_keep_73, s_X7_keep_74, s_X7_keep_77, s_X7_keep_78, s_X7_keep_79, s_X7_keep_80, s_X7_keep_81, s_X7_keep_82, s_X7_keep_83, s_X7_keep_86, s_X7_keep_87, s_X7_keep_88, s_X7_keep_89, s_X7_keep_92, s_X7_keep_95, s_X7_keep_96, s_X7_keep_97, s_X7_keep_100, s_X7_keep_101, s_X7_keep_102, s_X7_keep_105, s_X7_keep_106, s_X7_keep_109, am_len_78, am_len_77, am_u_at, g1, h1, h2, h3, h4, e0, e1, e2, e3, e4, e5, e6, e7]; exact ⟨rfl, rfl, rfl⟩, fun a ha => ?_, fun h => by omega, fun _ => ⟨?_, fun q hq => ?_⟩⟩
    · funext j; simp [am_u_at, ha]
    · simp [am_u_at]
    · have : q = 0 := by omega
      subst this
      simp [am_u_at]
      intro i hi
      have : i = 0 ∨ i = 1 ∨ i = 2 ∨ i = 3 ∨ i = 4 ∨ i = 5 ∨ i = 6 ∨ i = 7 := by omega
      rcases this with rfl | rfl | rfl | rfl | rfl | rfl | rfl | rfl <;> simp
  | 1, _ =>
    have g1 : I 69 19 = 1 := g1
    refine ⟨_, by simp [s_X7_keep_0, s_X7_keep_1, s_X7_keep_4, s_X7_keep_5, s_X7_keep_8, s_X7_keep_10, s_X7_keep_11, s_X7_keep_13, s_X7_keep_14, s_X7_keep_17, s_X7_keep_18, s_X7_keep_19, s_X7_keep_20, s_X7_keep_23, s_X7_keep_24, s_X7_keep_25, s_X7_keep_28, s_X7_keep_29, s_X7_keep_30, s_X7_keep_33, s_X7_keep_34, s_X7_keep_35, s_X7_keep_36, s_X7_keep_37, s_X7_keep_40, s_X7_keep_41, s_X7_keep_42, s_X7_keep_45, s_X7_keep_46, s_X7_keep_47, s_X7_keep_48, s_X7_keep_49, s_X7_keep_52, s_X7_keep_53, s_X7_keep_54, s_X7_keep_57, s_X7_keep_58, s_X7_keep_59, s_X7_keep_60, s_X7_keep_61, s_X7_keep_64, s_X7_keep_65, s_X7_keep_66, s_X7_keep_67, s_X7_keep_68, s_X7_keep_70, s_X7_keep_73, s_X7_keep_74, s_X7_keep_77, s_X7_keep_78, s_X7_keep_79, s_X7_keep_80, s_X7_keep_81, s_X7_keep_82, s_X7_keep_83, s_X7_keep_86, s_X7_keep_87, s_X7_keep_88, s_X7_keep_89, s_X7_keep_92, s_X7_keep_95, s_X7_keep_96, s_X7_keep_97, s_X7_keep_100, s_X7_keep_101, s_X7_keep_102, s_X7_keep_105, s_X7_keep_106, s_X7_keep_109, am_len_78, am_len_77, am_u_at, g1, h1, h2, h3, h4, e0, e1, e2, e3, e4, e5, e6, e7]; exact ⟨rfl, rfl, rfl⟩, fun a ha => ?_, fun h => by omega, fun _ => ⟨?_, fun q hq => ?_⟩⟩
    · funext j; simp [am_u_at, ha]
    · simp [am_u_at]
    · have : q = 0 ∨ q = 1 := by omega
      rcases this with rfl | rfl
      · obtain ⟨f1, f2, f3, f4, f5⟩ := g2 0 (by omega)
        simp [am_u_at] at f1 f2 f3 f4 f5 ⊢
        refine ⟨f1, f2, f3, f4, fun i hi => ?_⟩
        have := f5 i hi
        have hi : i = 0 ∨ i = 1 ∨ i = 2 ∨ i = 3 ∨ i = 4 ∨ i = 5 ∨ i = 6 ∨ i = 7 := by omega
        rcases hi with rfl | rfl | rfl | rfl | rfl | rfl | rfl | rfl <;> simpa using this
      · simp [am_u_at]
        intro i hi
        have : i = 0 ∨ i = 1 ∨ i = 2 ∨ i = 3 ∨ i = 4 ∨ i = 5 ∨ i = 6 ∨ i = 7 := by omega
        rcases this with rfl | rfl | rfl | rfl | rfl | rfl | rfl | rfl <;> simp
  | 2, _ =>
    have g1 : I 69 19 = 2 := g1
    exact ⟨A, by simp [s_X7_keep_0, s_X7_keep_1, s_X7_keep_4, s_X7_keep_5, s_X7_keep_8, s_X7_keep_10, s_X7_keep_11, s_X7_keep_13, s_X7_keep_14, s_X7_keep_17, s_X7_keep_18, s_X7_keep_19, s_X7_keep_20, s_X7_keep_23, s_X7_keep_24, s_X7_keep_25, s_X7_keep_28, s_X7_keep_29, s_X7_keep_30, s_X7_keep_33, s_X7_keep_34, s_X7_keep_35, s_X7_keep_36, s_X7_keep_37, s_X7_keep_40, s_X7_keep_41, s_X7_keep_42, s_X7_keep_45, s_X7_keep_46, s_X7_keep_47, s_X7_keep_48, s_X7_keep_49, s_X7_keep_52, s_X7_keep_53, s_X7_keep_54, s_X7_keep_57, s_X7_keep_58, s_X7_keep_59, s_X7_keep_60, s_X7_keep_61, s_X7_keep_64, s_X7_keep_65, s_X7_keep_66, s_X7_keep_67, s_X7_keep_68, s_X7_keep_70, s_X7_keep_73, s_X7_keep_74, s_X7_keep_77, s_X7_keep_78, s_X7_keep_79, s_X7_keep_80, s_X7_keep_81, s_X7_keep_82, s_X7_keep_83, s_X7_keep_86, s_X7_keep_87, s_X7_keep_88, s_X7_keep_89, s_X7_keep_92, s_X7_keep_95, s_X7_keep_96, s_X7_keep_97, s_X7_keep_100, s_X7_keep_101, s_X7_keep_102, s_X7_keep_105, s_X7_keep_106, s_X7_keep_109, g1], fun a _ => rfl, fun _ => rfl, fun h => by omega⟩
theorem e_X7_back {I A : am_F} {G : am_G} {k : Nat} {K : Nat → sg_S} (hk2 : k ≤ 2) (hk : mr_k k K I A) : ∃ I' A', am_e 129 0 [.ref 69, .null, .null] [] I A G = some (.int (if k = 0 then -2 else nI (k - 1)), I', A', G) ∧ (∀ a, a ≠ 77 → A' a = A a) ∧ (∀ a j, ¬ (a = 69 ∧ (j = 14 ∨ j = 15 ∨ j = 17 ∨ j = 18 ∨ j = 19)) → I' a j = I a j) ∧ (k = 0 → I' = I ∧ A' = A) ∧ (0 < k → I' 69 19 = nI (k - 1) ∧ mr_s (K (k - 1)) I' A') := by
  obtain ⟨g1, g2⟩ := hk
  match k, hk2 with
  | 0, _ =>
    have g1 : I 69 19 = 0 := g1
    exact ⟨I, A, by simp [s_X7_back_0, s_X7_back_1, s_X7_back_4, s_X7_back_7, s_X7_back_9, s_X7_back_10, s_X7_back_11, s_X7_back_12, s_X7_back_15, s_X7_back_16, s_X7_back_17, s_X7_back_20, s_X7_back_22, s_X7_back_23, s_X7_back_26, s_X7_back_27, s_X7_back_28, s_X7_back_29, s_X7_back_30, s_X7_back_33, s_X7_back_34, s_X7_back_35, s_X7_back_38, s_X7_back_39, s_X7_back_40, s_X7_back_43, s_X7_back_44, s_X7_back_45, s_X7_back_46, s_X7_back_47, s_X7_back_50, s_X7_back_51, s_X7_back_52, s_X7_back_55, s_X7_back_56, s_X7_back_57, s_X7_back_58, s_X7_back_59, s_X7_back_62, s_X7_back_63, s_X7_back_64, s_X7_back_67, s_X7_back_68, s_X7_back_69, s_X7_back_70, s_X7_back_71, s_X7_back_74, s_X7_back_75, s_X7_back_76, s_X7_back_77, s_X7_back_79, s_X7_back_82, s_X7_back_83, s_X7_back_86, s_X7_back_87, s_X7_back_88, s_X7_back_91, s_X7_back_92, s_X7_back_93, s_X7_back_94, s_X7_back_95, s_X7_back_96, s_X7_back_97, s_X7_back_98, s_X7_back_101, s_X7_back_104, s_X7_back_105, s_X7_back_108, g1], fun a _ => rfl, fun a j _ => rfl, fun _ => ⟨rfl, rfl⟩, fun h => by omega⟩
  | 1, _ =>
    have g1 : I 69 19 = 1 := g1
    obtain ⟨f1, f2, f3, f4, f5⟩ := g2 0 (by omega)
    have f1 : A 78 0 = (K 0).1 := f1
    have f2 : A 78 1 = (K 0).2.1 := f2
    have f3 : A 78 2 = (K 0).2.2.2 8 := f3
    have f4 : A 78 3 = nI (K 0).2.2.1 := f4
    have e0 : A 78 4 = (K 0).2.2.2 0 := f5 0 (by omega)
    have e1 : A 78 5 = (K 0).2.2.2 1 := f5 1 (by omega)
    have e2 : A 78 6 = (K 0).2.2.2 2 := f5 2 (by omega)
    have e3 : A 78 7 = (K 0).2.2.2 3 := f5 3 (by omega)
    have e4 : A 78 8 = (K 0).2.2.2 4 := f5 4 (by omega)
    have e5 : A 78 9 = (K 0).2.2.2 5 := f5 5 (by omega)
    have e6 : A 78 10 = (K 0).2.2.2 6 := f5 6 (by omega)
    have e7 : A 78 11 = (K 0).2.2.2 7 := f5 7 (by omega)
    refine ⟨_, _, by simp [s_X7_back_0, s_X7_back_1, s_X7_back_4, s_X7_back_7, s_X7_back_9, s_X7_back_10, s_X7_back_11, s_X7_back_12, s_X7_back_15, s_X7_back_16, s_X7_back_17, s_X7_back_20, s_X7_back_22, s_X7_back_23, s_X7_back_26, s_X7_back_27, s_X7_back_28, s_X7_back_29, s_X7_back_30, s_X7_back_33, s_X7_back_34, s_X7_back_35, s_X7_back_38, s_X7_back_39, s_X7_back_40, s_X7_back_43, s_X7_back_44, s_X7_back_45, s_X7_back_46, s_X7_back_47, s_X7_back_50, s_X7_back_51, s_X7_back_52, s_X7_back_55, s_X7_back_56, s_X7_back_57, s_X7_back_58, s_X7_back_59, s_X7_back_62, s_X7_back_63, s_X7_back_64, s_X7_back_67, s_X7_back_68, s_X7_back_69, s_X7_back_70, s_X7_back_71, s_X7_back_74, s_X7_back_75, s_X7_back_76, s_X7_back_77, s_X7_back_79, s_X7_back_82, s_X7_back_83, s_X7_back_86, s_X7_back_87, s_X7_back_88, s_X7_back_91, s_X7_back_92, s_X7_back_93, s_X7_back_94, s_X7_back_95, s_X7_back_96, s_X7_back_97, s_X7_back_98, s_X7_back_101, s_X7_back_104, s_X7_back_105, s_X7_back_108, am_len_78, am_len_77, am_u_at, g1, f1, f2, f3, f4, e0, e1, e2, e3, e4, e5, e6, e7]; exact ⟨rfl, rfl, rfl⟩, fun a ha => ?_, fun a j hj => ?_, fun h => by omega, fun _ => ⟨by first | (simp [am_u_at]; done) | (simp [am_u_at]; rfl), by simp [am_u_at], by simp [am_u_at], by simp [am_u_at], by simp [am_u_at], fun i hi => ?_⟩⟩
    · funext j; simp [am_u_at, ha]
    · simp only [am_u_at]
      repeat' split
      all_goals first | rfl | (exfalso; omega)
    · have : i = 0 ∨ i = 1 ∨ i = 2 ∨ i = 3 ∨ i = 4 ∨ i = 5 ∨ i = 6 ∨ i = 7 := by omega
      rcases this with rfl | rfl | rfl | rfl | rfl | rfl | rfl | rfl <;> simp [am_u_at]
  | 2, _ =>
    have g1 : I 69 19 = 2 := g1
    obtain ⟨f1, f2, f3, f4, f5⟩ := g2 1 (by omega)
    have f1 : A 78 12 = (K 1).1 := f1
    have f2 : A 78 13 = (K 1).2.1 := f2
    have f3 : A 78 14 = (K 1).2.2.2 8 := f3
    have f4 : A 78 15 = nI (K 1).2.2.1 := f4
    have e0 : A 78 16 = (K 1).2.2.2 0 := f5 0 (by omega)
    have e1 : A 78 17 = (K 1).2.2.2 1 := f5 1 (by omega)
    have e2 : A 78 18 = (K 1).2.2.2 2 := f5 2 (by omega)
    have e3 : A 78 19 = (K 1).2.2.2 3 := f5 3 (by omega)
    have e4 : A 78 20 = (K 1).2.2.2 4 := f5 4 (by omega)
    have e5 : A 78 21 = (K 1).2.2.2 5 := f5 5 (by omega)
    have e6 : A 78 22 = (K 1).2.2.2 6 := f5 6 (by omega)
    have e7 : A 78 23 = (K 1).2.2.2 7 := f5 7 (by omega)
    refine ⟨_, _, by simp [s_X7_back_0, s_X7_back_1, s_X7_back_4, s_X7_back_7, s_X7_back_9, s_X7_back_10, s_X7_back_11, s_X7_back_12, s_X7_back_15, s_X7_back_16, s_X7_back_17, s_X7_back_20, s_X7_back_22, s_X7_back_23, s_X7_back_26, s_X7_back_27, s_X7_back_28, s_X7_back_29, s_X7_back_30, s_X7_back_33, s_X7_back_34, s_X7_back_35, s_X7_back_38, s_X7_back_39, s_X7_back_40, s_X7_back_43, s_X7_back_44, s_X7_back_45, s_X7_back_46, s_X7_back_47, s_X7_back_50, s_X7_back_51, s_X7_back_52, s_X7_back_55, s_X7_back_56, s_X7_back_57, s_X7_back_58, s_X7_back_59, s_X7_back_62, s_X7_back_63, s_X7_back_64, s_X7_back_67, s_X7_back_68, s_X7_back_69, s_X7_back_70, s_X7_back_71, s_X7_back_74, s_X7_back_75, s_X7_back_76, s_X7_back_77, s_X7_back_79, s_X7_back_82, s_X7_back_83, s_X7_back_86, s_X7_back_87, s_X7_back_88, s_X7_back_91, s_X7_back_92, s_X7_back_93, s_X7_back_94, s_X7_back_95, s_X7_back_96, s_X7_back_97, s_X7_back_98, s_X7_back_101, s_X7_back_104, s_X7_back_105, s_X7_back_108, am_len_78, am_len_77, am_u_at, g1, f1, f2, f3, f4, e0, e1, e2, e3, e4, e5, e6, e7]; exact ⟨rfl, rfl, rfl⟩, fun a ha => ?_, fun a j hj => ?_, fun h => by omega, fun _ => ⟨by first | (simp [am_u_at]; done) | (simp [am_u_at]; rfl), by simp [am_u_at], by simp [am_u_at], by simp [am_u_at], by simp [am_u_at], fun i hi => ?_⟩⟩
    · funext j; simp [am_u_at, ha]
    · simp only [am_u_at]
      repeat' split
      all_goals first | rfl | (exfalso; omega)
    · have : i = 0 ∨ i = 1 ∨ i = 2 ∨ i = 3 ∨ i = 4 ∨ i = 5 ∨ i = 6 ∨ i = 7 := by omega
      rcases this with rfl | rfl | rfl | rfl | rfl | rfl | rfl | rfl <;> simp [am_u_at]
theorem e_X4_copyFrom {c c' : Nat} {I A : am_F} {G : am_G} {s : sg_S} (hc : (c = 45 ∧ (c' = 48 ∨ c' = 51)) ∨ (c' = 45 ∧ (c = 48 ∨ c = 51))) (hs : cr_s c' s I A) : ∃ I' A', am_e 25 0 [.ref c, .ref c'] [] I A G = some (.null, I', A', G) ∧ (∀ a, a ≠ c + 1 → A' a = A a) ∧ (∀ a j, a ≠ c → I' a j = I a j) ∧ cr_s c s I' A' := by
  obtain ⟨h1, h2, h3, h4⟩ := hs
  rcases hc with ⟨rfl, rfl | rfl⟩ | ⟨rfl, rfl | rfl⟩
  all_goals
    refine ⟨_, _, by simp [s_X4_copyFrom_0, s_X4_copyFrom_1, s_X4_copyFrom_2_at45, s_X4_copyFrom_2_at48, s_X4_copyFrom_2_at51, s_X4_copyFrom_5_at45, s_X4_copyFrom_5_at48, s_X4_copyFrom_5_at51, s_X4_copyFrom_8, s_X4_copyFrom_9, s_X4_copyFrom_10_at45, s_X4_copyFrom_10_at48, s_X4_copyFrom_10_at51, s_X4_copyFrom_13_at45, s_X4_copyFrom_13_at48, s_X4_copyFrom_13_at51, s_X4_copyFrom_16, s_X4_copyFrom_17, s_X4_copyFrom_18_at45, s_X4_copyFrom_18_at48, s_X4_copyFrom_18_at51, s_X4_copyFrom_21_at45, s_X4_copyFrom_21_at48, s_X4_copyFrom_21_at51, s_X4_copyFrom_24, s_X4_copyFrom_25_at45, s_X4_copyFrom_25_at48, s_X4_copyFrom_25_at51, s_X4_copyFrom_28, s_X4_copyFrom_29, s_X4_copyFrom_30_at45, s_X4_copyFrom_30_at48, s_X4_copyFrom_30_at51, s_X4_copyFrom_33, s_X4_copyFrom_34, s_X4_copyFrom_36_at46_49, s_X4_copyFrom_36_at46_52, s_X4_copyFrom_36_at49_46, s_X4_copyFrom_36_at52_46, s_X4_copyFrom_39, am_u_at, h1, h2, h3]; exact ⟨rfl, rfl⟩, fun a ha => ?_, fun a j hj => ?_, by simp [am_u_at], by simp [am_u_at], by simp [am_u_at], fun i hi => ?_⟩
    · funext j; simp [am_ur, ha]
    · simp [am_u_at, hj]
    · simp [am_ur, va_cpy, hi]
      exact h4 i hi
theorem e_X6_keep {I A : am_F} {G : am_G} {s : sg_S} {k : Nat} {K : Nat → sg_S} (hk2 : k ≤ 2) (hs : cr_s 45 s I A) (hk : cr_k k K I A) : ∃ I' A', am_e 57 0 [.ref 0] [] I A G = some (.int (if k = 2 then -3 else nI (k + 1)), I', A', G) ∧ (∀ a, a ≠ 49 → a ≠ 52 → A' a = A a) ∧ (∀ a j, a ≠ 48 → a ≠ 51 → ¬ (a = 0 ∧ j = 8) → I' a j = I a j) ∧ (k = 2 → I' = I ∧ A' = A) ∧ (k < 2 → cr_k (k + 1) (fun e => if e = k then s else K e) I' A') := by
  match k, hk2 with
  | 0, _ =>
    have g1 : I 0 8 = 0 := hk.1
    obtain ⟨I1, A1, e1, e2, e3, e4⟩ := e_X4_copyFrom (c := 48) (c' := 45) (G := G) (by omega) hs
    have g2 : I1 0 8 = 0 := by rw [e3 0 8 (by omega)]; exact g1
    refine ⟨am_u I1 0 8 1, A1, by simp [s_X6_keep_0, s_X6_keep_1, s_X6_keep_4, s_X6_keep_5, s_X6_keep_8, s_X6_keep_10, s_X6_keep_11, s_X6_keep_12, s_X6_keep_13, s_X6_keep_16, s_X6_keep_19, s_X6_keep_20, s_X6_keep_23_at45, s_X6_keep_23_at48, s_X6_keep_23_at51, s_X6_keep_26, s_X6_keep_27, s_X6_keep_28, s_X6_keep_31, s_X6_keep_32, s_X6_keep_33, s_X6_keep_36, s_X6_keep_37, s_X6_keep_40, s_X6_keptAt_0, s_X6_keptAt_1, s_X6_keptAt_4, s_X6_keptAt_5, s_X6_keptAt_8, s_X6_keptAt_11, s_X6_keptAt_12, s_X6_keptAt_15, g1, am_k_some, am_push_r, am_push_n, e1, g2, am_u_at]; rfl, fun a h1 h2 => e2 a h1, fun a j h1 h2 h3 => ?_, fun h => by omega, fun _ => ⟨by rw [am_u_eq]; rfl, fun _ => ?_, fun h => by omega⟩⟩
    · rw [am_u_at, if_neg h3]; exact e3 a j h1
    · obtain ⟨q1, q2, q3, q4⟩ := e4
      exact ⟨by simpa [am_u_at] using q1, by simpa [am_u_at] using q2, by simpa [am_u_at] using q3, by simpa using q4⟩
  | 1, _ =>
    have g1 : I 0 8 = 1 := hk.1
    obtain ⟨I1, A1, e1, e2, e3, e4⟩ := e_X4_copyFrom (c := 51) (c' := 45) (G := G) (by omega) hs
    have g2 : I1 0 8 = 1 := by rw [e3 0 8 (by omega)]; exact g1
    obtain ⟨p1, p2, p3, p4⟩ := hk.2.1 (by omega)
    refine ⟨am_u I1 0 8 2, A1, by simp [s_X6_keep_0, s_X6_keep_1, s_X6_keep_4, s_X6_keep_5, s_X6_keep_8, s_X6_keep_10, s_X6_keep_11, s_X6_keep_12, s_X6_keep_13, s_X6_keep_16, s_X6_keep_19, s_X6_keep_20, s_X6_keep_23_at45, s_X6_keep_23_at48, s_X6_keep_23_at51, s_X6_keep_26, s_X6_keep_27, s_X6_keep_28, s_X6_keep_31, s_X6_keep_32, s_X6_keep_33, s_X6_keep_36, s_X6_keep_37, s_X6_keep_40, s_X6_keptAt_0, s_X6_keptAt_1, s_X6_keptAt_4, s_X6_keptAt_5, s_X6_keptAt_8, s_X6_keptAt_11, s_X6_keptAt_12, s_X6_keptAt_15, g1, am_k_some, am_push_r, am_push_n, e1, g2, am_u_at]; rfl, fun a h1 h2 => e2 a h2, fun a j h1 h2 h3 => ?_, fun h => by omega, fun _ => ⟨by rw [am_u_eq]; rfl, fun _ => ?_, fun _ => ?_⟩⟩
    · rw [am_u_at, if_neg h3]; exact e3 a j h2
    · exact ⟨by simpa [am_u_at, e3 48 0] using p1, by simpa [am_u_at, e3 48 1] using p2, by simpa [am_u_at, e3 48 2] using p3, fun i hi => by rw [e2 49 (by omega)]; simpa using p4 i hi⟩
    · obtain ⟨q1, q2, q3, q4⟩ := e4
      exact ⟨by simpa [am_u_at] using q1, by simpa [am_u_at] using q2, by simpa [am_u_at] using q3, by simpa using q4⟩
  | 2, _ =>
    have g1 : I 0 8 = 2 := hk.1
    exact ⟨I, A, by simp [s_X6_keep_0, s_X6_keep_1, s_X6_keep_4, s_X6_keep_5, s_X6_keep_8, s_X6_keep_10, s_X6_keep_11, s_X6_keep_12, s_X6_keep_13, s_X6_keep_16, s_X6_keep_19, s_X6_keep_20, s_X6_keep_23_at45, s_X6_keep_23_at48, s_X6_keep_23_at51, s_X6_keep_26, s_X6_keep_27, s_X6_keep_28, s_X6_keep_31, s_X6_keep_32, s_X6_keep_33, s_X6_keep_36, s_X6_keep_37, s_X6_keep_40, g1], fun a _ _ => rfl, fun a j _ _ _ => rfl, fun _ => ⟨rfl, rfl⟩, fun h => by omega⟩
theorem e_X6_back {I A : am_F} {G : am_G} {k : Nat} {K : Nat → sg_S} (hk2 : k ≤ 2) (hk : cr_k k K I A) : ∃ I' A', am_e 58 0 [.ref 0] [] I A G = some (.int (if k = 0 then -2 else nI (k - 1)), I', A', G) ∧ (∀ a, a ≠ 46 → A' a = A a) ∧ (∀ a j, a ≠ 45 → ¬ (a = 0 ∧ j = 8) → I' a j = I a j) ∧ (k = 0 → I' = I ∧ A' = A) ∧ (0 < k → I' 0 8 = nI (k - 1) ∧ cr_s 45 (K (k - 1)) I' A') := by
  match k, hk2 with
  | 0, _ =>
    have g1 : I 0 8 = 0 := hk.1
    exact ⟨I, A, by simp [s_X6_back_0, s_X6_back_1, s_X6_back_4, s_X6_back_7, s_X6_back_9, s_X6_back_10, s_X6_back_11, s_X6_back_12, s_X6_back_15, s_X6_back_16, s_X6_back_17, s_X6_back_20, s_X6_back_21, s_X6_back_24, s_X6_back_25, s_X6_back_26, s_X6_back_29, s_X6_back_32_at45, s_X6_back_32_at48, s_X6_back_32_at51, s_X6_back_35, s_X6_back_36, s_X6_back_39, g1], fun a _ => rfl, fun a j _ _ => rfl, fun _ => ⟨rfl, rfl⟩, fun h => by omega⟩
  | 1, _ =>
    have g1 : I 0 8 = 1 := hk.1
    obtain ⟨p1, p2, p3, p4⟩ := hk.2.1 (by omega)
    obtain ⟨I1, A1, e1, e2, e3, e4⟩ := e_X4_copyFrom (c := 45) (c' := 48) (I := am_u I 0 8 0) (A := A) (G := G) (s := K 0) (by omega) ⟨by simpa [am_u_at] using p1, by simpa [am_u_at] using p2, by simpa [am_u_at] using p3, p4⟩
    have g2 : I1 0 8 = 0 := by rw [e3 0 8 (by omega), am_u_eq]
    refine ⟨I1, A1, by simp [s_X6_back_0, s_X6_back_1, s_X6_back_4, s_X6_back_7, s_X6_back_9, s_X6_back_10, s_X6_back_11, s_X6_back_12, s_X6_back_15, s_X6_back_16, s_X6_back_17, s_X6_back_20, s_X6_back_21, s_X6_back_24, s_X6_back_25, s_X6_back_26, s_X6_back_29, s_X6_back_32_at45, s_X6_back_32_at48, s_X6_back_32_at51, s_X6_back_35, s_X6_back_36, s_X6_back_39, s_X6_keptAt_0, s_X6_keptAt_1, s_X6_keptAt_4, s_X6_keptAt_5, s_X6_keptAt_8, s_X6_keptAt_11, s_X6_keptAt_12, s_X6_keptAt_15, g1, am_k_some, am_push_r, am_push_n, am_u_at, e1, g2]; rfl, e2, fun a j h1 h2 => by rw [e3 a j h1, am_u_at, if_neg h2], fun h => by omega, fun _ => ⟨by rw [g2]; rfl, e4⟩⟩
  | 2, _ =>
    have g1 : I 0 8 = 2 := hk.1
    obtain ⟨p1, p2, p3, p4⟩ := hk.2.2 (by omega)
    obtain ⟨I1, A1, e1, e2, e3, e4⟩ := e_X4_copyFrom (c := 45) (c' := 51) (I := am_u I 0 8 1) (A := A) (G := G) (s := K 1) (by omega) ⟨by simpa [am_u_at] using p1, by simpa [am_u_at] using p2, by simpa [am_u_at] using p3, p4⟩
    have g2 : I1 0 8 = 1 := by rw [e3 0 8 (by omega), am_u_eq]
    refine ⟨I1, A1, by simp [s_X6_back_0, s_X6_back_1, s_X6_back_4, s_X6_back_7, s_X6_back_9, s_X6_back_10, s_X6_back_11, s_X6_back_12, s_X6_back_15, s_X6_back_16, s_X6_back_17, s_X6_back_20, s_X6_back_21, s_X6_back_24, s_X6_back_25, s_X6_back_26, s_X6_back_29, s_X6_back_32_at45, s_X6_back_32_at48, s_X6_back_32_at51, s_X6_back_35, s_X6_back_36, s_X6_back_39, s_X6_keptAt_0, s_X6_keptAt_1, s_X6_keptAt_4, s_X6_keptAt_5, s_X6_keptAt_8, s_X6_keptAt_11, s_X6_keptAt_12, s_X6_keptAt_15, g1, am_k_some, am_push_r, am_push_n, am_u_at, e1, g2]; rfl, e2, fun a j h1 h2 => by rw [e3 a j h1, am_u_at, if_neg h2], fun h => by omega, fun _ => ⟨by rw [g2]; rfl, e4⟩⟩
