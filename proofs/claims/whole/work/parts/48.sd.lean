/-! ===== the class: what the doors let; dead ends ===== -/
theorem am_10 : ((1 : Int32) = 0) = False := by decide
theorem am_20 : ((2 : Int32) = 0) = False := by decide
theorem am_30 : ((3 : Int32) = 0) = False := by decide
theorem am_40 : ((4 : Int32) = 0) = False := by decide
theorem am_01f : ((0 : Int32) = 1) = False := by decide
theorem am_21 : ((2 : Int32) = 1) = False := by decide
theorem am_31f : ((3 : Int32) = 1) = False := by decide
theorem am_32 : ((3 : Int32) = 2) = False := by decide
theorem am_12 : ((1 : Int32) = 2) = False := by decide
theorem am_02 : ((0 : Int32) = 2) = False := by decide
theorem am_d20 : ((2 : Nat) = 0) = False := by decide
theorem am_d21 : ((2 : Nat) = 1) = False := by decide
theorem am_d30 : ((3 : Nat) = 0) = False := by decide
theorem am_d31 : ((3 : Nat) = 1) = False := by decide
theorem am_d32 : ((3 : Nat) = 2) = False := by decide
theorem am_d10 : ((1 : Nat) = 0) = False := by decide
theorem am_bi_or (a b : Bool) : am_bi a ||| am_bi b = am_bi (a || b) := by cases a <;> cases b <;> decide
/-- what a door lets by its kind -/
def pf_ky (P : sg_P) (d : Nat) (b : Bool) (w : Int32) : Nat := if P 6 d = 0 then (if b = true then P 5 d else 0) else if P 6 d = 1 then (if b = true ∧ w = 1 then P 5 d else 0) else if P 6 d = 2 then (if b = true then P 5 d else P 5 d / 4) else 0
def pf_wet (P : sg_P) (f : Int32) (d : Nat) : Bool := am_hb f (P 3 d) || (decide (P 4 d ≠ 8) && am_hb f (P 4 d))
/-- what a door lets -/
def pf_L (P : sg_P) (o f w : Int32) (d : Nat) : Nat := if w = 0 ∨ pf_wet P f d = true then 0 else pf_ky P d (am_hb o d) w
theorem pf_L_le {P : sg_P} (hv : vp_p P) (o f w : Int32) {d : Nat} (hd : d < P 7 1) : pf_L P o f w d ≤ 50 := by
  obtain ⟨v1, v2, v3, v4⟩ := hv.2.2.2.1 d hd
  unfold pf_L pf_ky
  repeat' split
  all_goals omega
theorem pf_L_0 (P : sg_P) (o f : Int32) (d : Nat) : pf_L P o f 0 d = 0 := by
  unfold pf_L
  rw [if_pos (Or.inl rfl)]
theorem e_X2_letBy {p d : Nat} {P : sg_P} {b : Bool} {w : Int32} {I A : am_F} {G : am_G} (hpp : p = 5 ∨ p = 25) (hv : vp_p P) (hp : cr_p p P I A) (hd : d < P 7 1) : am_e 17 0 [.ref p, .int (nI d), .int (am_bi b), .int w] [] I A G = some (.int (nI (if w = 0 then 0 else pf_ky P d b w)), I, A, G) := by
  have hD := hv.2.1
  obtain ⟨v1, v2, v3, v4⟩ := hv.2.2.2.1 d hd
  obtain ⟨a1, a2, a3, a4⟩ := hp.2.2.2.1 d hd
  have c0 := nI_clamp (show d < 2 ^ 31 by omega)
  have x0 := am_ixF (show d < 10 by omega) (show 10 < 2 ^ 31 by omega)
  have dv : nI (P 5 d) / 4 = nI (P 5 d / 4) := pk_div (a := P 5 d) (d := 4) (by omega) (by omega) (by omega)
  have z0 : nI 0 = 0 := rfl
  by_cases hw : w = 0
  · rw [if_pos hw]; simp only [s_X2_letBy_0, s_X2_letBy_1, s_X2_letBy_4, s_X2_letBy_5, hw, if_true]; rfl
  · rw [if_neg hw]
    have hk : P 6 d = 0 ∨ P 6 d = 1 ∨ P 6 d = 2 ∨ P 6 d = 3 := by omega
    unfold pf_ky
    rcases hk with h | h | h | h <;> rw [h] at a4 ⊢
    · have a4 : A (p + 7) d = 0 := a4
      cases b <;> rcases hpp with rfl | rfl <;>
      (simp only [Nat.reduceAdd] at a3 a4
       simp only [s_X2_letBy_0, s_X2_letBy_1, s_X2_letBy_4, s_X2_letBy_5, s_X2_letBy_6, s_X2_letBy_7_at5, s_X2_letBy_7_at25, s_X2_letBy_10, s_X2_letBy_11, s_X2_letBy_12, s_X2_letBy_40, s_X2_letBy_41, s_X2_letBy_44, s_X2_letBy_45_at5, s_X2_letBy_45_at25, s_X2_letBy_48, s_X2_letBy_49, s_X2_letBy_50, s_X2_letBy_53, s_X2_letBy_54, s_X2_letBy_55, s_X2_letBy_56, s_X2_letBy_59, s_X2_letBy_60, s_X2_letBy_61, s_X2_letBy_64, s_X2_letBy_65_at5, s_X2_letBy_65_at25, s_X2_letBy_68, s_X2_letBy_69, s_X2_letBy_70, s_X2_letBy_73, s_X2_letBy_74, s_X2_letBy_75, s_X2_letBy_76, s_X2_letBy_79, s_X2_letBy_80_at5, s_X2_letBy_80_at25, s_X2_letBy_83, s_X2_letBy_84, s_X2_letBy_85, s_X2_letBy_88, s_X2_letBy_89_at5, s_X2_letBy_89_at25, s_X2_letBy_92, s_X2_letBy_93, s_X2_letBy_94, s_X2_letBy_95, s_X2_letBy_96, s_X2_letBy_97, s_X2_letBy_98, am_len_11, am_len_12, am_len_31, am_len_32, hw, c0, x0, a3, a4, am_bi, am_10, if_true, if_false, Bool.false_eq_true, z0])
    · have a4 : A (p + 7) d = 1 := a4
      by_cases hw1 : w = 1 <;> cases b <;> rcases hpp with rfl | rfl <;>
      (simp only [Nat.reduceAdd] at a3 a4
       simp only [s_X2_letBy_0, s_X2_letBy_1, s_X2_letBy_4, s_X2_letBy_5, s_X2_letBy_6, s_X2_letBy_7_at5, s_X2_letBy_7_at25, s_X2_letBy_10, s_X2_letBy_11, s_X2_letBy_12, s_X2_letBy_40, s_X2_letBy_41, s_X2_letBy_44, s_X2_letBy_45_at5, s_X2_letBy_45_at25, s_X2_letBy_48, s_X2_letBy_49, s_X2_letBy_50, s_X2_letBy_53, s_X2_letBy_54, s_X2_letBy_55, s_X2_letBy_56, s_X2_letBy_59, s_X2_letBy_60, s_X2_letBy_61, s_X2_letBy_64, s_X2_letBy_65_at5, s_X2_letBy_65_at25, s_X2_letBy_68, s_X2_letBy_69, s_X2_letBy_70, s_X2_letBy_73, s_X2_letBy_74, s_X2_letBy_75, s_X2_letBy_76, s_X2_letBy_79, s_X2_letBy_80_at5, s_X2_letBy_80_at25, s_X2_letBy_83, s_X2_letBy_84, s_X2_letBy_85, s_X2_letBy_88, s_X2_letBy_89_at5, s_X2_letBy_89_at25, s_X2_letBy_92, s_X2_letBy_93, s_X2_letBy_94, s_X2_letBy_95, s_X2_letBy_96, s_X2_letBy_97, s_X2_letBy_98, am_len_11, am_len_12, am_len_31, am_len_32, hw, hw1, c0, x0, a3, a4, am_bi, am_10, if_true, if_false, Bool.false_eq_true, false_and, and_false, true_and, and_true, Nat.reduceEqDiff, z0])
    · have a4 : A (p + 7) d = 2 := a4
      cases b <;> rcases hpp with rfl | rfl <;>
      (simp only [Nat.reduceAdd] at a3 a4
       simp only [s_X2_letBy_0, s_X2_letBy_1, s_X2_letBy_4, s_X2_letBy_5, s_X2_letBy_6, s_X2_letBy_7_at5, s_X2_letBy_7_at25, s_X2_letBy_10, s_X2_letBy_11, s_X2_letBy_12, s_X2_letBy_40, s_X2_letBy_41, s_X2_letBy_44, s_X2_letBy_45_at5, s_X2_letBy_45_at25, s_X2_letBy_48, s_X2_letBy_49, s_X2_letBy_50, s_X2_letBy_53, s_X2_letBy_54, s_X2_letBy_55, s_X2_letBy_56, s_X2_letBy_59, s_X2_letBy_60, s_X2_letBy_61, s_X2_letBy_64, s_X2_letBy_65_at5, s_X2_letBy_65_at25, s_X2_letBy_68, s_X2_letBy_69, s_X2_letBy_70, s_X2_letBy_73, s_X2_letBy_74, s_X2_letBy_75, s_X2_letBy_76, s_X2_letBy_79, s_X2_letBy_80_at5, s_X2_letBy_80_at25, s_X2_letBy_83, s_X2_letBy_84, s_X2_letBy_85, s_X2_letBy_88, s_X2_letBy_89_at5, s_X2_letBy_89_at25, s_X2_letBy_92, s_X2_letBy_93, s_X2_letBy_94, s_X2_letBy_95, s_X2_letBy_96, s_X2_letBy_97, s_X2_letBy_98, am_len_11, am_len_12, am_len_31, am_len_32, hw, c0, x0, a3, a4, dv, am_bi, am_10, am_20, am_21, am_40, if_true, if_false, Bool.false_eq_true, am_d20, am_d21, am_d30, am_d31, am_d32, z0])
    · have a4 : A (p + 7) d = 3 := a4
      cases b <;> rcases hpp with rfl | rfl <;>
      (simp only [Nat.reduceAdd] at a3 a4
       simp only [s_X2_letBy_0, s_X2_letBy_1, s_X2_letBy_4, s_X2_letBy_5, s_X2_letBy_6, s_X2_letBy_7_at5, s_X2_letBy_7_at25, s_X2_letBy_10, s_X2_letBy_11, s_X2_letBy_12, s_X2_letBy_40, s_X2_letBy_41, s_X2_letBy_44, s_X2_letBy_45_at5, s_X2_letBy_45_at25, s_X2_letBy_48, s_X2_letBy_49, s_X2_letBy_50, s_X2_letBy_53, s_X2_letBy_54, s_X2_letBy_55, s_X2_letBy_56, s_X2_letBy_59, s_X2_letBy_60, s_X2_letBy_61, s_X2_letBy_64, s_X2_letBy_65_at5, s_X2_letBy_65_at25, s_X2_letBy_68, s_X2_letBy_69, s_X2_letBy_70, s_X2_letBy_73, s_X2_letBy_74, s_X2_letBy_75, s_X2_letBy_76, s_X2_letBy_79, s_X2_letBy_80_at5, s_X2_letBy_80_at25, s_X2_letBy_83, s_X2_letBy_84, s_X2_letBy_85, s_X2_letBy_88, s_X2_letBy_89_at5, s_X2_letBy_89_at25, s_X2_letBy_92, s_X2_letBy_93, s_X2_letBy_94, s_X2_letBy_95, s_X2_letBy_96, s_X2_letBy_97, s_X2_letBy_98, am_len_11, am_len_12, am_len_31, am_len_32, hw, c0, x0, a3, a4, am_bi, am_10, am_30, am_31f, am_32, if_true, if_false, Bool.false_eq_true, am_d20, am_d21, am_d30, am_d31, am_d32, z0])
theorem pf_wet_c {P : sg_P} {f : Int32} {d : Nat} (h8 : am_hb f 8 = false) : (am_hb f (P 3 d) || am_hb f (P 4 d)) = pf_wet P f d := by
  unfold pf_wet
  by_cases h : P 4 d = 8
  · rw [h, h8]; simp
  · rw [decide_eq_true h]; simp
theorem X0_lets {p : Nat} {P : sg_P} {o f w : Int32} {I : am_F} {G : am_G} (hpp : p = 5 ∨ p = 25) (hv : vp_p P) (h8 : am_hb f 8 = false) : ∀ (r d : Nat) (g : Value) (A : am_F), d + r = P 7 1 → cr_p p P I A → (∀ e, e < d → A 61 e = nI (pf_L P o f w e)) → ∃ (A' : am_F) (g' : Value), am_e 0 24 [.ref 58, .ref p, .int o, .int f, .int w, .int (nI d), g] [] I A G = am_e 0 104 [.ref 58, .ref p, .int o, .int f, .int w, .int (nI (P 7 1)), g'] [] I A' G ∧ (∀ b, b ≠ 61 → A' b = A b) ∧ ∀ e, e < P 7 1 → A' 61 e = nI (pf_L P o f w e) := by
  have hD := hv.2.1
  have hH := hv.1.2
  intro r
  induction r with
  | zero =>
    intro d g A hd hp hA
    have : d = P 7 1 := by omega
    subst this
    refine ⟨A, g, ?_, fun b _ => rfl, hA⟩
    refine (s_X0_blow_24).trans ?_
    rcases hpp with rfl | rfl <;> simp only [s_X0_blow_26, s_X0_blow_27_at5, s_X0_blow_27_at25, s_X0_blow_30, hp.2.1, Int32.le_refl, if_true]
  | succ r ih =>
    intro d g A hd hp hA
    have hdl : d < P 7 1 := by omega
    obtain ⟨v1, v2, v3, v4⟩ := hv.2.2.2.1 d hdl
    obtain ⟨a1, a2, a3, a4⟩ := hp.2.2.2.1 d hdl
    have c0 := nI_clamp (show d < 2 ^ 31 by omega)
    have x0 := am_ixF (show d < 10 by omega) (show 10 < 2 ^ 31 by omega)
    have hn : (nI (P 7 1) ≤ nI d) = False := eq_false (by rw [nI_leI (by omega) (by omega)]; omega)
    have hwet := pf_wet_c (P := P) (d := d) h8
    have l1 := @e_X2_letBy p d P true w I A G hpp hv hp hdl
    have l0 := @e_X2_letBy p d P false w I A G hpp hv hp hdl
    simp only [am_bi] at l1 l0
    obtain ⟨g1, e0⟩ : ∃ g1, am_e 0 24 [.ref 58, .ref p, .int o, .int f, .int w, .int (nI d), g] [] I A G = am_e 0 24 [.ref 58, .ref p, .int o, .int f, .int w, .int (nI (d + 1)), g1] [] I (am_u A 61 d (nI (pf_L P o f w d))) G := by
      refine ⟨.int (am_bi (pf_wet P f d)), ?_⟩
      refine (s_X0_blow_24).trans ?_
      unfold pf_L
      cases hb : pf_wet P f d with
      | true =>
        rw [hb] at hwet
        rw [if_pos (Or.inr rfl)]
        rcases hpp with rfl | rfl <;>
        (simp only [Nat.reduceAdd] at a1 a2
         simp only [s_X0_blow_26, s_X0_blow_27_at5, s_X0_blow_27_at25, s_X0_blow_30, s_X0_blow_33, s_X0_blow_34, s_X0_blow_35_at5, s_X0_blow_35_at25, s_X0_blow_38, s_X0_blow_40, s_X0_blow_41, s_X0_blow_44, s_X0_blow_45, s_X0_blow_46_at5, s_X0_blow_46_at25, s_X0_blow_49, s_X0_blow_51, s_X0_blow_52, s_X0_blow_55, s_X0_blow_56, s_X0_blow_58, s_X0_blow_59, s_X0_blow_62, s_X0_blow_64, s_X0_blow_66, s_X0_blow_67, s_X0_blow_70, s_X0_blow_71, s_X0_blow_74, s_X0_blow_75, s_X0_blow_77, s_X0_blow_78, s_X0_blow_80, s_X0_blow_83, s_X0_blow_84, s_X0_blow_87, s_X0_blow_88, s_X0_blow_91, s_X0_blow_92, s_X0_blow_94_at5, s_X0_blow_94_at25, s_X0_blow_97, s_X0_blow_98, s_X0_blow_101, hp.2.1, hn, if_false, am_len_9, am_len_10, am_len_29, am_len_30, am_len_61, c0, x0, a1, a2, e_X6_bitOf, am_k_some, am_push_i, am_hb_d, am_bi_or, hwet, am_bi_1, if_true, am_add1]
         rfl)
      | false =>
        rw [hb] at hwet
        cases ho : am_hb o d with
        | true =>
          rcases hpp with rfl | rfl <;>
          (simp only [Nat.reduceAdd] at a1 a2
           simp only [s_X0_blow_26, s_X0_blow_27_at5, s_X0_blow_27_at25, s_X0_blow_30, s_X0_blow_33, s_X0_blow_34, s_X0_blow_35_at5, s_X0_blow_35_at25, s_X0_blow_38, s_X0_blow_40, s_X0_blow_41, s_X0_blow_44, s_X0_blow_45, s_X0_blow_46_at5, s_X0_blow_46_at25, s_X0_blow_49, s_X0_blow_51, s_X0_blow_52, s_X0_blow_55, s_X0_blow_56, s_X0_blow_58, s_X0_blow_59, s_X0_blow_62, s_X0_blow_64, s_X0_blow_66, s_X0_blow_67, s_X0_blow_70, s_X0_blow_71, s_X0_blow_74, s_X0_blow_75, s_X0_blow_77, s_X0_blow_78, s_X0_blow_80, s_X0_blow_83, s_X0_blow_84, s_X0_blow_87, s_X0_blow_88, s_X0_blow_91, s_X0_blow_92, s_X0_blow_94_at5, s_X0_blow_94_at25, s_X0_blow_97, s_X0_blow_98, s_X0_blow_101, hp.2.1, hn, if_false, am_len_9, am_len_10, am_len_29, am_len_30, am_len_61, c0, x0, a1, a2, e_X6_bitOf, am_k_some, am_push_i, am_hb_d, am_bi_or, hwet, ho, am_bi_1, if_true, am_add1, Bool.false_eq_true, or_false, l1])
        | false =>
          rcases hpp with rfl | rfl <;>
          (simp only [Nat.reduceAdd] at a1 a2
           simp only [s_X0_blow_26, s_X0_blow_27_at5, s_X0_blow_27_at25, s_X0_blow_30, s_X0_blow_33, s_X0_blow_34, s_X0_blow_35_at5, s_X0_blow_35_at25, s_X0_blow_38, s_X0_blow_40, s_X0_blow_41, s_X0_blow_44, s_X0_blow_45, s_X0_blow_46_at5, s_X0_blow_46_at25, s_X0_blow_49, s_X0_blow_51, s_X0_blow_52, s_X0_blow_55, s_X0_blow_56, s_X0_blow_58, s_X0_blow_59, s_X0_blow_62, s_X0_blow_64, s_X0_blow_66, s_X0_blow_67, s_X0_blow_70, s_X0_blow_71, s_X0_blow_74, s_X0_blow_75, s_X0_blow_77, s_X0_blow_78, s_X0_blow_80, s_X0_blow_83, s_X0_blow_84, s_X0_blow_87, s_X0_blow_88, s_X0_blow_91, s_X0_blow_92, s_X0_blow_94_at5, s_X0_blow_94_at25, s_X0_blow_97, s_X0_blow_98, s_X0_blow_101, hp.2.1, hn, if_false, am_len_9, am_len_10, am_len_29, am_len_30, am_len_61, c0, x0, a1, a2, e_X6_bitOf, am_k_some, am_push_i, am_hb_d, am_bi_or, hwet, ho, am_bi_1, am_add1, Bool.false_eq_true, or_false, l0])
    obtain ⟨A', g', f1, f2, f3⟩ := ih (d + 1) g1 (am_u A 61 d (nI (pf_L P o f w d))) (by omega) (hp.fr (fun _ => rfl) (fun a h1 h2 => am_u_ne (by omega))) (fun e he => by
      rw [am_u_at]
      by_cases hed : e = d
      · rw [if_pos ⟨rfl, hed⟩, hed]
      · rw [if_neg (fun q => hed q.2)]
        exact hA e (by omega))
    exact ⟨A', g', by rw [e0, f1], fun b hb => by rw [f2 b hb, am_u_ne hb], f3⟩
