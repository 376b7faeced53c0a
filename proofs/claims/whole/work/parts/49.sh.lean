/-! ===== the class: dead ends are shut, from the last place back ===== -/
def sh_iv (H D : Nat) (F T L : Nat → Nat) (S : List Nat) (br : Int32) (A : am_F) : Prop := am_hb br 8 = true ∧ (∀ i, i < H → (am_hb br i = true ↔ ∃ d, d ∈ S ∧ F d = i ∧ fl_on D F T L d = true)) ∧ (∀ d, d < D → A 61 d = nI (if d ∈ S then fl_l D F T L d else L d)) ∧ ∀ i, i < 9 → A 62 i = nI (fl_s (fun d => if F d = i ∧ d ∈ S then fl_l D F T L d else 0) D)
/-- what a list's cut says of doors in order -/
theorem dl_cut {D : Nat} {F T : Nat → Nat} {dl : List Nat} (h : dl_ok D F T dl) {n : Nat} (hn : n < D) : ∃ d, dl.getD n 0 = d ∧ d < D ∧ dl.drop n = d :: dl.drop (n + 1) ∧ dl.take (n + 1) = dl.take n ++ [d] ∧ d ∉ dl.drop (n + 1) ∧ d ∉ dl.take n ∧ (∀ e, e < D → e ∈ dl.take n ∨ e = d ∨ e ∈ dl.drop (n + 1)) ∧ (∀ e, e ∈ dl.take n → F e ≠ 8 → T d ≠ F e) ∧ (∀ e, e ∈ dl.drop (n + 1) → F d ≠ 8 → T e ≠ F d) ∧ (∀ e, e ∈ dl.take n → e < D) ∧ (∀ e, e ∈ dl.drop (n + 1) → e < D) := by
  obtain ⟨h1, h2, h3, h4⟩ := h
  have hl : n < dl.length := by omega
  have hd : dl.drop n = dl[n] :: dl.drop (n + 1) := List.drop_eq_getElem_cons hl
  have hs : dl.take n ++ dl[n] :: dl.drop (n + 1) = dl := by rw [← hd]; exact List.take_append_drop n dl
  rw [← hs, List.nodup_append] at h2
  rw [← hs, List.pairwise_append] at h4
  obtain ⟨n1, n2, n3⟩ := h2
  obtain ⟨p1, p2, p3⟩ := h4
  have n2 := List.nodup_cons.mp n2
  have p2 := List.pairwise_cons.mp p2
  refine ⟨dl[n], by rw [List.getD_eq_getElem?_getD, List.getElem?_eq_getElem hl]; rfl, (h1 _).mp (List.getElem_mem hl), hd, (List.take_append_getElem hl).symm, n2.1, fun q => n3 _ q _ List.mem_cons_self rfl, fun e he => ?_, fun e he h8 => p3 e he _ List.mem_cons_self h8, fun e he h8 => p2.1 e he h8, fun e he => (h1 e).mp (List.mem_of_mem_take he), fun e he => (h1 e).mp (List.mem_of_mem_drop he)⟩
  have := (h1 e).mpr he
  rw [← hs, List.mem_append, List.mem_cons] at this
  exact this
theorem X0_shut {x H D : Nat} {F T L r : Nat → Nat} {dl : List Nat} {I : am_F} {G : am_G} (hx : x = 13 ∨ x = 19 ∨ x = 33 ∨ x = 39) (hG : G 58 4 = x) (hv : fl_v H D F T r) (hL : ∀ d, d < D → L d ≤ 50) (hdl : dl_ok D F T dl) : ∀ (n : Nat) (br : Int32) (g : Value) (A : am_F), n ≤ D → (∀ d, d < D → A (x + 1) d = nI (F d) ∧ A (x + 2) d = nI (T d)) → (∀ k, k < D → A (x + 4) k = nI (dl.getD k 0)) → sh_iv H D F T L (dl.drop n) br A → ∃ A' : am_F, am_e 1 14 [.ref 58, .int br, .int (nI n - 1), g] [] I A G = some (.null, I, A', G) ∧ (∀ b, b ≠ 61 → b ≠ 62 → A' b = A b) ∧ (∀ d, d < D → A' 61 d = nI (fl_l D F T L d)) ∧ ∀ i, i < 9 → A' 62 i = nI (fl_tot D F T L i) := by
  have hH := hv.1
  have hD := hv.2.1
  intro n
  induction n with
  | zero =>
    intro br g A hn hW hK hiv
    obtain ⟨i1, i2, i3, i4⟩ := hiv
    rw [List.drop_zero] at i2 i3 i4
    refine ⟨A, ?_, fun b _ _ => rfl, fun d hd => by rw [i3 d hd, if_pos ((hdl.1 d).mpr hd)], fun i hi => ?_⟩
    · refine (s_X0_shutDeadEnds_14).trans ?_
      simp only [s_X0_shutDeadEnds_15, s_X0_shutDeadEnds_106, show (nI 0 - 1 < 0) = True from eq_true nI_m1, if_true]
    · rw [i4 i hi]
      congr 1
      refine fl_s_c D (fun d hd => ?_)
      by_cases h : F d = i
      · rw [if_pos h, if_pos ⟨h, (hdl.1 d).mpr hd⟩]
      · rw [if_neg h, if_neg (fun q => h q.1)]
  | succ n ih =>
    intro br g A hn hW hK hiv
    obtain ⟨i1, i2, i3, i4⟩ := hiv
    obtain ⟨d, k1, k2, k3, k4, k5, k6, k7, k8, k9, k10, k11⟩ := dl_cut hdl (show n < D by omega)
    obtain ⟨b1, b2, b3, b4⟩ := hv.2.2.2 d k2
    have hbit : am_hb br (T d) = true ↔ (T d = 8 ∨ fl_b D F T L (T d) = true) := by
      rcases b2 with b2 | b2
      · rw [i2 _ b2, fl_b_eq hv b2]
        constructor
        · rintro ⟨e, h1, h2, h3⟩
          have h3 := fl_on_iff.mp h3
          exact Or.inr ⟨e, k11 e h1, h3.1, h2, h3.2⟩
        · rintro (h | ⟨e, h1, h2, h3, h4⟩)
          · omega
          · refine ⟨e, ?_, h3, fl_on_iff.mpr ⟨h2, h4⟩⟩
            rcases k7 e h1 with q | q | q
            · exact absurd h3.symm (k8 e q (by omega))
            · subst q
              have := b4 (by omega) b2
              rw [h3] at this
              omega
            · exact q
      · rw [b2]
        exact ⟨fun _ => Or.inl rfl, fun _ => i1⟩
    have hon : fl_on D F T L d = true ↔ 0 < L d ∧ am_hb br (T d) = true := by rw [fl_on_iff, hbit]
    have dA := hK n (by omega)
    rw [k1] at dA
    obtain ⟨fA, tA⟩ := hW d k2
    have lA := i3 d k2
    rw [if_neg k5] at lA
    have hneg : (nI n < 0) = False := eq_false (nI_pos (by omega))
    have cN := nI_clamp (show n < 2 ^ 31 by omega)
    have xN : (False ∨ 10 ≤ n) = False := eq_false (fun q => q.elim id (fun q => by omega))
    have cd := nI_clamp (show d < 2 ^ 31 by omega)
    have xd := am_ixF (show d < 10 by omega) (show 10 < 2 ^ 31 by omega)
    have cF := nI_clamp (show F d < 2 ^ 31 by omega)
    have xF := am_ixF (show F d < 9 by omega) (show 9 < 2 ^ 31 by omega)
    have hl0 := am_nle0 (n := L d) (by have := hL d k2; omega)
    have hmem : ∀ e, e ∈ dl.drop n ↔ e = d ∨ e ∈ dl.drop (n + 1) := fun e => by rw [k3, List.mem_cons]
    rw [nI_pred]
    -- not on: nothing more breathes
    have off : ¬ fl_on D F T L d = true → ∀ A1 : am_F, A1 61 d = 0 → (∀ e, e ≠ d → A1 61 e = A 61 e) → (∀ i, A1 62 i = A 62 i) → sh_iv H D F T L (dl.drop n) br A1 := by
      intro ho A1 h1 h2 h3
      refine ⟨i1, fun i hi => ?_, fun e he => ?_, fun i hi => ?_⟩
      · rw [i2 i hi]
        constructor
        · rintro ⟨e, q1, q2⟩
          exact ⟨e, (hmem e).mpr (Or.inr q1), q2⟩
        · rintro ⟨e, q1, q2, q3⟩
          rcases (hmem e).mp q1 with q | q
          · subst q; exact absurd q3 ho
          · exact ⟨e, q, q2, q3⟩
      · by_cases hed : e = d
        · subst hed
          rw [h1, if_pos ((hmem e).mpr (Or.inl rfl)), fl_l_off ho]; rfl
        · rw [h2 e hed, i3 e he]
          congr 1
          by_cases q : e ∈ dl.drop (n + 1)
          · rw [if_pos q, if_pos ((hmem e).mpr (Or.inr q))]
          · rw [if_neg q, if_neg (fun w => (((hmem e).mp w).elim hed q))]
      · rw [h3, i4 i hi]
        congr 1
        refine fl_s_c D (fun e he => ?_)
        by_cases hed : e = d
        · subst hed
          rw [fl_l_off ho, if_neg (fun q => k5 q.2)]
          split <;> rfl
        · by_cases q : F e = i ∧ e ∈ dl.drop (n + 1)
          · rw [if_pos q, if_pos ⟨q.1, (hmem e).mpr (Or.inr q.2)⟩]
          · rw [if_neg q, if_neg (fun w => q ⟨w.1, ((hmem e).mp w.2).resolve_left hed⟩)]
    cases hb : am_hb br (T d) with
    | false =>
      have ho : ¬ fl_on D F T L d = true := fun q => by rw [(hon.mp q).2] at hb; cases hb
      obtain ⟨A', f1, f2, f3, f4⟩ := ih br (.int (nI d)) (am_u A 61 d 0) (by omega) (fun e he => by rw [am_u_ne (by omega), am_u_ne (by omega)]; exact hW e he) (fun k hk => by rw [am_u_ne (by omega)]; exact hK k hk) (off ho _ (am_u_eq _ _ _ _) (fun e he => by rw [am_u_at, if_neg (fun q => he q.2)]) (fun i => by rw [am_u_at, if_neg (by omega)]))
      refine ⟨A', ?_, fun b h1 h2 => by rw [f2 b h1 h2, am_u_ne h1], f3, f4⟩
      rw [← f1]
      refine (s_X0_shutDeadEnds_14).trans ?_
      rcases hx with rfl | rfl | rfl | rfl <;>
      (simp only [Nat.reduceAdd] at dA tA fA
       simp only [s_X0_shutDeadEnds_15, s_X0_shutDeadEnds_18, s_X0_shutDeadEnds_19, s_X0_shutDeadEnds_22_at13, s_X0_shutDeadEnds_22_at19, s_X0_shutDeadEnds_22_at33, s_X0_shutDeadEnds_22_at39, s_X0_shutDeadEnds_25, s_X0_shutDeadEnds_26, s_X0_shutDeadEnds_27, s_X0_shutDeadEnds_28, s_X0_shutDeadEnds_29, s_X0_shutDeadEnds_30, s_X0_shutDeadEnds_33_at13, s_X0_shutDeadEnds_33_at19, s_X0_shutDeadEnds_33_at33, s_X0_shutDeadEnds_33_at39, s_X0_shutDeadEnds_36, s_X0_shutDeadEnds_37, s_X0_shutDeadEnds_38, s_X0_shutDeadEnds_41, s_X0_shutDeadEnds_44, s_X0_shutDeadEnds_45, s_X0_shutDeadEnds_48, s_X0_shutDeadEnds_49, s_X0_shutDeadEnds_50, s_X0_shutDeadEnds_51, s_X0_shutDeadEnds_54, s_X0_shutDeadEnds_55, s_X0_shutDeadEnds_58, s_X0_shutDeadEnds_59, s_X0_shutDeadEnds_60, s_X0_shutDeadEnds_63, s_X0_shutDeadEnds_64, s_X0_shutDeadEnds_65, s_X0_shutDeadEnds_66, s_X0_shutDeadEnds_69_at13, s_X0_shutDeadEnds_69_at19, s_X0_shutDeadEnds_69_at33, s_X0_shutDeadEnds_69_at39, s_X0_shutDeadEnds_72, s_X0_shutDeadEnds_73, s_X0_shutDeadEnds_74, s_X0_shutDeadEnds_75, s_X0_shutDeadEnds_76, s_X0_shutDeadEnds_77, s_X0_shutDeadEnds_78, s_X0_shutDeadEnds_81, s_X0_shutDeadEnds_82, s_X0_shutDeadEnds_85_at13, s_X0_shutDeadEnds_85_at19, s_X0_shutDeadEnds_85_at33, s_X0_shutDeadEnds_85_at39, s_X0_shutDeadEnds_88, s_X0_shutDeadEnds_89, s_X0_shutDeadEnds_90, s_X0_shutDeadEnds_91, s_X0_shutDeadEnds_92, s_X0_shutDeadEnds_93, s_X0_shutDeadEnds_96, s_X0_shutDeadEnds_97, s_X0_shutDeadEnds_98, s_X0_shutDeadEnds_99, s_X0_shutDeadEnds_100, s_X0_shutDeadEnds_103, hG, am_len_17, am_len_23, am_len_37, am_len_43, am_len_15, am_len_21, am_len_35, am_len_41, am_len_61, hneg, if_false, cN, xN, dA, cd, xd, tA, e_X6_bitOf, am_hb_d, hb, am_k_some, am_push_i, am_bi_0, if_true, am_dec1])
    | true =>
      by_cases hz : L d = 0
      · have ho : ¬ fl_on D F T L d = true := fun q => by have := (hon.mp q).1; omega
        obtain ⟨A', f1, f2, f3, f4⟩ := ih br (.int (nI d)) A (by omega) hW hK (off ho _ (by rw [lA, hz]; rfl) (fun _ _ => rfl) (fun _ => rfl))
        refine ⟨A', ?_, f2, f3, f4⟩
        rw [← f1]
        refine (s_X0_shutDeadEnds_14).trans ?_
        have hl0 := hl0.trans (eq_true hz)
        rcases hx with rfl | rfl | rfl | rfl <;>
        (simp only [Nat.reduceAdd] at dA tA fA
         simp only [s_X0_shutDeadEnds_15, s_X0_shutDeadEnds_18, s_X0_shutDeadEnds_19, s_X0_shutDeadEnds_22_at13, s_X0_shutDeadEnds_22_at19, s_X0_shutDeadEnds_22_at33, s_X0_shutDeadEnds_22_at39, s_X0_shutDeadEnds_25, s_X0_shutDeadEnds_26, s_X0_shutDeadEnds_27, s_X0_shutDeadEnds_28, s_X0_shutDeadEnds_29, s_X0_shutDeadEnds_30, s_X0_shutDeadEnds_33_at13, s_X0_shutDeadEnds_33_at19, s_X0_shutDeadEnds_33_at33, s_X0_shutDeadEnds_33_at39, s_X0_shutDeadEnds_36, s_X0_shutDeadEnds_37, s_X0_shutDeadEnds_38, s_X0_shutDeadEnds_41, s_X0_shutDeadEnds_44, s_X0_shutDeadEnds_45, s_X0_shutDeadEnds_48, s_X0_shutDeadEnds_49, s_X0_shutDeadEnds_50, s_X0_shutDeadEnds_51, s_X0_shutDeadEnds_54, s_X0_shutDeadEnds_55, s_X0_shutDeadEnds_58, s_X0_shutDeadEnds_59, s_X0_shutDeadEnds_60, s_X0_shutDeadEnds_63, s_X0_shutDeadEnds_64, s_X0_shutDeadEnds_65, s_X0_shutDeadEnds_66, s_X0_shutDeadEnds_69_at13, s_X0_shutDeadEnds_69_at19, s_X0_shutDeadEnds_69_at33, s_X0_shutDeadEnds_69_at39, s_X0_shutDeadEnds_72, s_X0_shutDeadEnds_73, s_X0_shutDeadEnds_74, s_X0_shutDeadEnds_75, s_X0_shutDeadEnds_76, s_X0_shutDeadEnds_77, s_X0_shutDeadEnds_78, s_X0_shutDeadEnds_81, s_X0_shutDeadEnds_82, s_X0_shutDeadEnds_85_at13, s_X0_shutDeadEnds_85_at19, s_X0_shutDeadEnds_85_at33, s_X0_shutDeadEnds_85_at39, s_X0_shutDeadEnds_88, s_X0_shutDeadEnds_89, s_X0_shutDeadEnds_90, s_X0_shutDeadEnds_91, s_X0_shutDeadEnds_92, s_X0_shutDeadEnds_93, s_X0_shutDeadEnds_96, s_X0_shutDeadEnds_97, s_X0_shutDeadEnds_98, s_X0_shutDeadEnds_99, s_X0_shutDeadEnds_100, s_X0_shutDeadEnds_103, hG, am_len_17, am_len_23, am_len_37, am_len_43, am_len_15, am_len_21, am_len_35, am_len_41, am_len_61, hneg, if_false, cN, xN, dA, cd, xd, tA, e_X6_bitOf, am_hb_d, hb, am_k_some, am_push_i, am_bi_0, lA, hl0, Bool.true_eq_false, if_true, am_dec1])
      · have ho : fl_on D F T L d = true := hon.mpr ⟨by omega, hb⟩
        have hl := (fl_l_on ho).1
        obtain ⟨A', f1, f2, f3, f4⟩ := ih (br ||| ((1 : Int32) <<< (nI (F d) &&& 31))) (.int (nI d)) (am_u A 62 (F d) (A 62 (F d) + nI (L d))) (by omega) (fun e he => by rw [am_u_ne (by omega), am_u_ne (by omega)]; exact hW e he) (fun k hk => by rw [am_u_ne (by omega)]; exact hK k hk) (by
          refine ⟨?_, fun i hi => ?_, fun e he => ?_, fun i hi => ?_⟩
          · rw [am_hb_or (by omega) (by omega), i1]; rfl
          · rw [am_hb_or (by omega) (by omega), Bool.or_eq_true, i2 i hi, decide_eq_true_iff]
            constructor
            · rintro (⟨e, q1, q2⟩ | q)
              · exact ⟨e, (hmem e).mpr (Or.inr q1), q2⟩
              · exact ⟨d, (hmem d).mpr (Or.inl rfl), q.symm, ho⟩
            · rintro ⟨e, q1, q2, q3⟩
              rcases (hmem e).mp q1 with q | q
              · subst q; exact Or.inr q2.symm
              · exact Or.inl ⟨e, q, q2, q3⟩
          · rw [am_u_at, if_neg (by omega)]
            by_cases hed : e = d
            · subst hed
              rw [lA, if_pos ((hmem e).mpr (Or.inl rfl)), hl]
            · rw [i3 e he]
              congr 1
              by_cases q : e ∈ dl.drop (n + 1)
              · rw [if_pos q, if_pos ((hmem e).mpr (Or.inr q))]
              · rw [if_neg q, if_neg (fun w => (((hmem e).mp w).elim hed q))]
          · have hot : ∀ e, e < D → e ≠ d → (if F e = i ∧ e ∈ dl.drop n then fl_l D F T L e else 0) = (if F e = i ∧ e ∈ dl.drop (n + 1) then fl_l D F T L e else 0) := fun e _ hed => by
              by_cases q : F e = i ∧ e ∈ dl.drop (n + 1)
              · rw [if_pos q, if_pos ⟨q.1, (hmem e).mpr (Or.inr q.2)⟩]
              · rw [if_neg q, if_neg (fun w => q ⟨w.1, ((hmem e).mp w.2).resolve_left hed⟩)]
            rw [am_u_at]
            by_cases hi2 : i = F d
            · rw [if_pos ⟨rfl, hi2⟩, ← hi2, i4 i hi, nI_add]
              congr 1
              refine (fl_s_u D k2 hot ?_).symm
              show (if F d = i ∧ d ∈ dl.drop n then fl_l D F T L d else 0) = (if F d = i ∧ d ∈ dl.drop (n + 1) then fl_l D F T L d else 0) + L d
              rw [if_pos ⟨hi2.symm, (hmem d).mpr (Or.inl rfl)⟩, if_neg (fun q => k5 q.2), hl]; omega
            · rw [if_neg (fun q => hi2 q.2), i4 i hi]
              congr 1
              refine fl_s_c D (fun e he => ?_)
              by_cases hed : e = d
              · subst hed
                rw [if_neg (fun q => hi2 q.1.symm), if_neg (fun q => hi2 q.1.symm)]
              · exact (hot e he hed).symm)
        refine ⟨A', ?_, fun b h1 h2 => by rw [f2 b h1 h2, am_u_ne h2], f3, f4⟩
        rw [← f1]
        refine (s_X0_shutDeadEnds_14).trans ?_
        have hl0 := hl0.trans (eq_false hz)
        rcases hx with rfl | rfl | rfl | rfl <;>
        (simp only [Nat.reduceAdd] at dA tA fA
         simp only [s_X0_shutDeadEnds_15, s_X0_shutDeadEnds_18, s_X0_shutDeadEnds_19, s_X0_shutDeadEnds_22_at13, s_X0_shutDeadEnds_22_at19, s_X0_shutDeadEnds_22_at33, s_X0_shutDeadEnds_22_at39, s_X0_shutDeadEnds_25, s_X0_shutDeadEnds_26, s_X0_shutDeadEnds_27, s_X0_shutDeadEnds_28, s_X0_shutDeadEnds_29, s_X0_shutDeadEnds_30, s_X0_shutDeadEnds_33_at13, s_X0_shutDeadEnds_33_at19, s_X0_shutDeadEnds_33_at33, s_X0_shutDeadEnds_33_at39, s_X0_shutDeadEnds_36, s_X0_shutDeadEnds_37, s_X0_shutDeadEnds_38, s_X0_shutDeadEnds_41, s_X0_shutDeadEnds_44, s_X0_shutDeadEnds_45, s_X0_shutDeadEnds_48, s_X0_shutDeadEnds_49, s_X0_shutDeadEnds_50, s_X0_shutDeadEnds_51, s_X0_shutDeadEnds_54, s_X0_shutDeadEnds_55, s_X0_shutDeadEnds_58, s_X0_shutDeadEnds_59, s_X0_shutDeadEnds_60, s_X0_shutDeadEnds_63, s_X0_shutDeadEnds_64, s_X0_shutDeadEnds_65, s_X0_shutDeadEnds_66, s_X0_shutDeadEnds_69_at13, s_X0_shutDeadEnds_69_at19, s_X0_shutDeadEnds_69_at33, s_X0_shutDeadEnds_69_at39, s_X0_shutDeadEnds_72, s_X0_shutDeadEnds_73, s_X0_shutDeadEnds_74, s_X0_shutDeadEnds_75, s_X0_shutDeadEnds_76, s_X0_shutDeadEnds_77, s_X0_shutDeadEnds_78, s_X0_shutDeadEnds_81, s_X0_shutDeadEnds_82, s_X0_shutDeadEnds_85_at13, s_X0_shutDeadEnds_85_at19, s_X0_shutDeadEnds_85_at33, s_X0_shutDeadEnds_85_at39, s_X0_shutDeadEnds_88, s_X0_shutDeadEnds_89, s_X0_shutDeadEnds_90, s_X0_shutDeadEnds_91, s_X0_shutDeadEnds_92, s_X0_shutDeadEnds_93, s_X0_shutDeadEnds_96, s_X0_shutDeadEnds_97, s_X0_shutDeadEnds_98, s_X0_shutDeadEnds_99, s_X0_shutDeadEnds_100, s_X0_shutDeadEnds_103, hG, am_len_17, am_len_23, am_len_37, am_len_43, am_len_15, am_len_21, am_len_35, am_len_41, am_len_14, am_len_20, am_len_34, am_len_40, am_len_61, am_len_62, hneg, if_false, cN, xN, dA, cd, xd, tA, fA, cF, xF, e_X6_bitOf, am_hb_d, hb, am_k_some, am_push_i, am_bi_0, lA, hl0, Bool.true_eq_false, am_dec1])
