/-! ===== the class: a place hands its air on ===== -/
theorem pf_sg_pre (F : Nat → Nat) (a m : Nat) : ∀ n, m ≤ n → ∃ t, pf_sg F n a = pf_sg F m a ++ t
  | 0, h => ⟨[], by rw [show m = 0 by omega, List.append_nil]⟩
  | n + 1, h => by
    by_cases e : m = n + 1
    · exact ⟨[], by rw [e, List.append_nil]⟩
    · obtain ⟨t, ht⟩ := pf_sg_pre F a m n (by omega)
      rw [pf_sg_s]
      split
      · exact ⟨t ++ [n], by rw [ht, List.append_assoc]⟩
      · exact ⟨t, ht⟩
theorem pf_sg_at {F : Nat → Nat} {D a d : Nat} (hd : d < D) (hF : F d = a) : (pf_sg F D a).getD (pf_sg F d a).length 0 = d ∧ (pf_sg F d a).length < (pf_sg F D a).length := by
  obtain ⟨t, ht⟩ := pf_sg_pre F a (d + 1) D (by omega)
  rw [pf_sg_s, if_pos hF] at ht
  rw [ht, List.append_assoc, List.getD_eq_getElem?_getD, List.getElem?_append_right (Nat.le_refl _), Nat.sub_self]
  refine ⟨rfl, ?_⟩
  simp
theorem fl_l_0 {D : Nat} {F T L : Nat → Nat} {d : Nat} : fl_l D F T L d = 0 ↔ ¬ fl_on D F T L d = true := by
  constructor
  · intro h ho
    have := fl_l_on ho
    omega
  · exact fl_l_off
theorem fl_ba_p (D : Nat) (F T L : Nat → Nat) (a i : Nat) {d : Nat} (hd : d < D) (hF : F d = i) : fl_s (fun e => if F e = i then fl_ba D F T L a i e else 0) d + fl_ba D F T L a i d ≤ a := by
  have h1 := fl_s_mono (fun e => if F e = i then fl_ba D F T L a i e else 0) (d + 1) D (by omega)
  have h2 := fl_ba_s D F T L a i
  have h3 : fl_s (fun e => if F e = i then fl_ba D F T L a i e else 0) (d + 1) = fl_s (fun e => if F e = i then fl_ba D F T L a i e else 0) d + fl_ba D F T L a i d := by
    show _ + (if F d = i then _ else _) = _
    rw [if_pos hF]
  omega
theorem X0_hand1 {x p a bs av H D : Nat} {F T L r : Nat → Nat} {I : am_F} {G : am_G} (hx : x = 13 ∨ x = 19 ∨ x = 33 ∨ x = 39) (hG : G 58 4 = x) (hv : fl_v H D F T r) (hL : ∀ d, d < D → L d ≤ 50) (hp : p < 9) (ha : a < 9) (hbs : bs + (pf_sg F D a).length ≤ 10) (hav : av ≤ 500) : ∀ (s d : Nat) (g : Value) (A : am_F), d + s = D → A (x + 5) p = nI (bs + (pf_sg F D a).length) → (∀ e, e < D → F e = a → A (x + 4) (bs + (pf_sg F e a).length) = nI e) → A 59 a = nI av → A 62 a = nI (fl_tot D F T L a) → (∀ e, e < D → A 61 e = nI (fl_l D F T L e)) → (∀ e, e < d → F e = a → A 60 e = nI (fl_ba D F T L av a e)) → ∃ (A' : am_F) (g' : Value), am_e 2 41 [.ref 58, .int (nI p), .int (nI a), .int (nI bs), .int (nI (av - fl_s (fun e => if F e = a then fl_ba D F T L av a e else 0) d)), .int (nI (bs + (pf_sg F d a).length)), g] [] I A G = am_e 2 126 [.ref 58, .int (nI p), .int (nI a), .int (nI bs), .int (nI (fl_lf D F T L av a)), .int (nI (bs + (pf_sg F D a).length)), g'] [] I A' G ∧ (∀ b, b ≠ 60 → A' b = A b) ∧ (∀ e, ¬ (d ≤ e ∧ e < D ∧ F e = a) → A' 60 e = A 60 e) ∧ ∀ e, e < D → F e = a → A' 60 e = nI (fl_ba D F T L av a e) := by
  have hD := hv.2.1
  intro s
  induction s with
  | zero =>
    intro d g A hd h5 h4 h59 h62 h61 h60
    have : d = D := by omega
    subst this
    refine ⟨A, g, ?_, fun b _ => rfl, fun e _ => rfl, h60⟩
    refine (s_X0_handOn_41).trans ?_
    have cp := nI_clamp (show p < 2 ^ 31 by omega)
    have xp := am_ixF (show p < 9 by omega) (show 9 < 2 ^ 31 by omega)
    rcases hx with rfl | rfl | rfl | rfl <;>
    (simp only [Nat.reduceAdd] at h5
     simp only [s_X0_handOn_43, s_X0_handOn_44, s_X0_handOn_47_at13, s_X0_handOn_47_at19, s_X0_handOn_47_at33, s_X0_handOn_47_at39, s_X0_handOn_50, s_X0_handOn_51, s_X0_handOn_52, hG, am_len_18, am_len_24, am_len_38, am_len_44, cp, xp, if_false, h5, Int32.le_refl, if_true]
     rfl)
  | succ s ih =>
    intro d g A hd h5 h4 h59 h62 h61 h60
    by_cases hF : F d = a
    · have hdl : d < D := by omega
      obtain ⟨-, hlt⟩ := pf_sg_at hdl hF
      have dA := h4 d hdl hF
      have lA := h61 d hdl
      have hbp := fl_ba_p D F T L av a hdl hF
      have hl5 := Nat.le_trans (fl_l_le D F T L d) (hL d hdl)
      have ht5 := fl_tot_le (F := F) (T := T) hD hL a
      have hml : av * fl_l D F T L d ≤ 500 * 50 := Nat.mul_le_mul hav hl5
      have cp := nI_clamp (show p < 2 ^ 31 by omega)
      have xp := am_ixF (show p < 9 by omega) (show 9 < 2 ^ 31 by omega)
      have ck := nI_clamp (show bs + (pf_sg F d a).length < 2 ^ 31 by omega)
      have xk := am_ixF (show bs + (pf_sg F d a).length < 10 by omega) (show 10 < 2 ^ 31 by omega)
      have cd := nI_clamp (show d < 2 ^ 31 by omega)
      have xd := am_ixF (show d < 10 by omega) (show 10 < 2 ^ 31 by omega)
      have ca := nI_clamp (show a < 2 ^ 31 by omega)
      have xa := am_ixF (show a < 9 by omega) (show 9 < 2 ^ 31 by omega)
      have hn : (nI (bs + (pf_sg F D a).length) ≤ nI (bs + (pf_sg F d a).length)) = False := eq_false (by rw [nI_leI (by omega) (by omega)]; omega)
      have hsub : nI (av - fl_s (fun e => if F e = a then fl_ba D F T L av a e else 0) d) - nI (fl_ba D F T L av a d) = nI (av - fl_s (fun e => if F e = a then fl_ba D F T L av a e else 0) (d + 1)) := by
        rw [pk_sub (by omega)]
        congr 1
        show _ = av - (_ + (if F d = a then _ else _))
        rw [if_pos hF]
        omega
      have hk1 : bs + (pf_sg F d a).length + 1 = bs + (pf_sg F (d + 1) a).length := by
        rw [pf_sg_s, if_pos hF, List.length_append, List.length_singleton]
        omega
      obtain ⟨A', g', f1, f2, f3, f4⟩ := ih (d + 1) (.int (nI d)) (am_u A 60 d (nI (fl_ba D F T L av a d))) (by omega) (by rw [am_u_ne (by omega)]; exact h5) (fun e he hFe => by rw [am_u_ne (by omega)]; exact h4 e he hFe) (by rw [am_u_ne (by omega)]; exact h59) (by rw [am_u_ne (by omega)]; exact h62) (fun e he => by rw [am_u_ne (by omega)]; exact h61 e he) (fun e he hFe => by
        rw [am_u_at]
        by_cases hed : e = d
        · rw [if_pos ⟨rfl, hed⟩, hed]
        · rw [if_neg (fun q => hed q.2)]
          exact h60 e (by omega) hFe)
      refine ⟨A', g', ?_, fun b hb => by rw [f2 b hb, am_u_ne hb], fun e he => by rw [f3 e (by omega), am_u_at, if_neg (fun q => he ⟨by omega, by omega, by rw [q.2]; exact hF⟩)], f4⟩
      rw [← f1]
      refine (s_X0_handOn_41).trans ?_
      by_cases ht0 : fl_tot D F T L a = 0
      · have hle : (nI (fl_tot D F T L a) ≤ 0) = True := eq_true (by rw [ht0]; decide)
        have hz : nI (fl_ba D F T L av a d) = 0 := by unfold fl_ba; rw [ht0, Nat.div_zero]; rfl
        rw [hz] at hsub
        rcases hx with rfl | rfl | rfl | rfl <;>
        (simp only [Nat.reduceAdd] at h5 dA
         simp only [s_X0_handOn_43, s_X0_handOn_44, s_X0_handOn_47_at13, s_X0_handOn_47_at19, s_X0_handOn_47_at33, s_X0_handOn_47_at39, s_X0_handOn_50, s_X0_handOn_51, s_X0_handOn_52, s_X0_handOn_55, s_X0_handOn_56, s_X0_handOn_59_at13, s_X0_handOn_59_at19, s_X0_handOn_59_at33, s_X0_handOn_59_at39, s_X0_handOn_62, s_X0_handOn_64, s_X0_handOn_65, s_X0_handOn_67, s_X0_handOn_68, s_X0_handOn_71, s_X0_handOn_73, s_X0_handOn_74, s_X0_handOn_77, s_X0_handOn_78, s_X0_handOn_79, s_X0_handOn_82, s_X0_handOn_83, s_X0_handOn_86, s_X0_handOn_87, s_X0_handOn_88, s_X0_handOn_89, s_X0_handOn_92, s_X0_handOn_94, s_X0_handOn_95, s_X0_handOn_96, s_X0_handOn_97, s_X0_handOn_100, s_X0_handOn_101, s_X0_handOn_102, s_X0_handOn_103, s_X0_handOn_106, s_X0_handOn_107, s_X0_handOn_108, s_X0_handOn_110, s_X0_handOn_111, s_X0_handOn_114, s_X0_handOn_116, s_X0_handOn_117, s_X0_handOn_118, s_X0_handOn_120, s_X0_handOn_123, hG, am_len_18, am_len_24, am_len_38, am_len_44, am_len_17, am_len_23, am_len_37, am_len_43, am_len_59, am_len_60, am_len_61, am_len_62, cp, xp, ck, xk, cd, xd, ca, xa, if_false, h5, hn, dA, h62, hle, if_true, hz, am_u_eq, hsub, am_add1, hk1])
      · have hle : (nI (fl_tot D F T L a) ≤ 0) = False := (am_nle0 (by omega)).trans (eq_false ht0)
        have hne : (nI (fl_tot D F T L a) = 0) = False := eq_false (nI_ne0 (by omega) (by omega))
        have hdv : nI av * nI (fl_l D F T L d) / nI (fl_tot D F T L a) = nI (fl_ba D F T L av a d) := by
          rw [pk_mul, pk_div (by omega) (by omega) (by omega)]; rfl
        rcases hx with rfl | rfl | rfl | rfl <;>
        (simp only [Nat.reduceAdd] at h5 dA
         simp only [s_X0_handOn_43, s_X0_handOn_44, s_X0_handOn_47_at13, s_X0_handOn_47_at19, s_X0_handOn_47_at33, s_X0_handOn_47_at39, s_X0_handOn_50, s_X0_handOn_51, s_X0_handOn_52, s_X0_handOn_55, s_X0_handOn_56, s_X0_handOn_59_at13, s_X0_handOn_59_at19, s_X0_handOn_59_at33, s_X0_handOn_59_at39, s_X0_handOn_62, s_X0_handOn_64, s_X0_handOn_65, s_X0_handOn_67, s_X0_handOn_68, s_X0_handOn_71, s_X0_handOn_73, s_X0_handOn_74, s_X0_handOn_77, s_X0_handOn_78, s_X0_handOn_79, s_X0_handOn_82, s_X0_handOn_83, s_X0_handOn_86, s_X0_handOn_87, s_X0_handOn_88, s_X0_handOn_89, s_X0_handOn_92, s_X0_handOn_94, s_X0_handOn_95, s_X0_handOn_96, s_X0_handOn_97, s_X0_handOn_100, s_X0_handOn_101, s_X0_handOn_102, s_X0_handOn_103, s_X0_handOn_106, s_X0_handOn_107, s_X0_handOn_108, s_X0_handOn_110, s_X0_handOn_111, s_X0_handOn_114, s_X0_handOn_116, s_X0_handOn_117, s_X0_handOn_118, s_X0_handOn_120, s_X0_handOn_123, hG, am_len_18, am_len_24, am_len_38, am_len_44, am_len_17, am_len_23, am_len_37, am_len_43, am_len_59, am_len_60, am_len_61, am_len_62, cp, xp, ck, xk, cd, xd, ca, xa, if_false, h5, hn, dA, h59, h62, lA, hle, hne, hdv, am_u_eq, hsub, am_add1, hk1])
    · have e1 : fl_s (fun e => if F e = a then fl_ba D F T L av a e else 0) (d + 1) = fl_s (fun e => if F e = a then fl_ba D F T L av a e else 0) d := by
        show _ + (if F d = a then _ else _) = _
        rw [if_neg hF]; omega
      obtain ⟨A', g', f1, f2, f3, f4⟩ := ih (d + 1) g A (by omega) h5 h4 h59 h62 h61 (fun e he hFe => by
        by_cases hed : e = d
        · rw [hed] at hFe; exact absurd hFe hF
        · exact h60 e (by omega) hFe)
      rw [pf_sg_s, if_neg hF, e1] at f1
      exact ⟨A', g', f1, f2, fun e he => f3 e (fun q => he ⟨by omega, q.2⟩), f4⟩
theorem fl_ct_s (D : Nat) (F T L : Nat → Nat) (i n : Nat) : fl_ct D F T L i (n + 1) = fl_ct D F T L i n + if F n = i ∧ fl_on D F T L n = true then 1 else 0 := rfl
theorem X0_hand2 {x p a bs av H D : Nat} {F T L r : Nat → Nat} {al : Nat → Nat} {I : am_F} {G : am_G} (hx : x = 13 ∨ x = 19 ∨ x = 33 ∨ x = 39) (hG : G 58 4 = x) (hv : fl_v H D F T r) (hL : ∀ d, d < D → L d ≤ 50) (hp : p < 9) (hbs : bs + (pf_sg F D a).length ≤ 10) (hav : av ≤ 500) : ∀ (s d : Nat) (g : Value) (A : am_F), d + s = D → A (x + 5) p = nI (bs + (pf_sg F D a).length) → (∀ e, e < D → F e = a → A (x + 4) (bs + (pf_sg F e a).length) = nI e) → (∀ e, e < D → A (x + 2) e = nI (T e)) → (∀ e, e < D → A 61 e = nI (fl_l D F T L e)) → (∀ e, e < D → F e = a → A 60 e = nI (if e < d then fl_sh D F T L av a e else fl_ba D F T L av a e)) → (∀ i, i < 9 → A 59 i = nI (al i + fl_s (fun e => if F e = a ∧ T e = i then fl_sh D F T L av a e else 0) d)) → ∃ A' : am_F, am_e 2 129 [.ref 58, .int (nI p), .int (nI a), .int (nI bs), .int (nI (fl_lf D F T L av a - fl_ct D F T L a d)), .int (nI (bs + (pf_sg F d a).length)), g] [] I A G = some (.null, I, A', G) ∧ (∀ b, b ≠ 59 → b ≠ 60 → A' b = A b) ∧ (∀ e, ¬ (e < D ∧ F e = a) → A' 60 e = A 60 e) ∧ (∀ e, e < D → F e = a → A' 60 e = nI (fl_sh D F T L av a e)) ∧ ∀ i, i < 9 → A' 59 i = nI (al i + fl_s (fun e => if F e = a ∧ T e = i then fl_sh D F T L av a e else 0) D) := by
  have hD := hv.2.1
  have hH := hv.1
  intro s
  induction s with
  | zero =>
    intro d g A hd h5 h4 h2 h61 h60 h59
    have : d = D := by omega
    subst this
    refine ⟨A, ?_, fun b _ _ => rfl, fun e _ => rfl, fun e he hF => by rw [h60 e he hF, if_pos he], h59⟩
    refine (s_X0_handOn_129).trans ?_
    have cp := nI_clamp (show p < 2 ^ 31 by omega)
    have xp := am_ixF (show p < 9 by omega) (show 9 < 2 ^ 31 by omega)
    rcases hx with rfl | rfl | rfl | rfl <;>
    (simp only [Nat.reduceAdd] at h5
     simp only [s_X0_handOn_131, s_X0_handOn_132, s_X0_handOn_135_at13, s_X0_handOn_135_at19, s_X0_handOn_135_at33, s_X0_handOn_135_at39, s_X0_handOn_138, s_X0_handOn_139, s_X0_handOn_140, s_X0_handOn_215, hG, am_len_18, am_len_24, am_len_38, am_len_44, cp, xp, if_false, h5, Int32.le_refl, if_true])
  | succ s ih =>
    intro d g A hd h5 h4 h2 h61 h60 h59
    by_cases hF : F d = a
    · have hdl : d < D := by omega
      obtain ⟨-, hlt⟩ := pf_sg_at hdl hF
      obtain ⟨b1, b2, b3, b4⟩ := hv.2.2.2 d hdl
      have dA := h4 d hdl hF
      have tA := h2 d hdl
      have lA := h61 d hdl
      have qA := h60 d hdl hF
      rw [if_neg (by omega)] at qA
      have hl5 := Nat.le_trans (fl_l_le D F T L d) (hL d hdl)
      have hlf : fl_lf D F T L av a ≤ 500 := by unfold fl_lf; omega
      have cp := nI_clamp (show p < 2 ^ 31 by omega)
      have xp := am_ixF (show p < 9 by omega) (show 9 < 2 ^ 31 by omega)
      have ck := nI_clamp (show bs + (pf_sg F d a).length < 2 ^ 31 by omega)
      have xk := am_ixF (show bs + (pf_sg F d a).length < 10 by omega) (show 10 < 2 ^ 31 by omega)
      have cd := nI_clamp (show d < 2 ^ 31 by omega)
      have xd := am_ixF (show d < 10 by omega) (show 10 < 2 ^ 31 by omega)
      have ct := nI_clamp (show T d < 2 ^ 31 by omega)
      have xt := am_ixF (show T d < 9 by omega) (show 9 < 2 ^ 31 by omega)
      have hn : (nI (bs + (pf_sg F D a).length) ≤ nI (bs + (pf_sg F d a).length)) = False := eq_false (by rw [nI_leI (by omega) (by omega)]; omega)
      have hk1 : bs + (pf_sg F d a).length + 1 = bs + (pf_sg F (d + 1) a).length := by
        rw [pf_sg_s, if_pos hF, List.length_append, List.length_singleton]
        omega
      have hl0 := am_nle0 (n := fl_l D F T L d) (by omega)
      have hf0 := am_nle0 (n := fl_lf D F T L av a - fl_ct D F T L a d) (by omega)
      -- the new rows
      have nx : ∀ A1 : am_F, (∀ b, b ≠ 59 → b ≠ 60 → A1 b = A b) → (∀ e, e ≠ d → A1 60 e = A 60 e) → A1 60 d = nI (fl_sh D F T L av a d) → (∀ i, A1 59 i = if i = T d then A 59 i + nI (fl_sh D F T L av a d) else A 59 i) → am_e 2 129 [.ref 58, .int (nI p), .int (nI a), .int (nI bs), .int (nI (fl_lf D F T L av a - fl_ct D F T L a d)), .int (nI (bs + (pf_sg F d a).length)), g] [] I A G = am_e 2 129 [.ref 58, .int (nI p), .int (nI a), .int (nI bs), .int (nI (fl_lf D F T L av a - fl_ct D F T L a (d + 1))), .int (nI (bs + (pf_sg F (d + 1) a).length)), .int (nI d)] [] I A1 G → ∃ A' : am_F, am_e 2 129 [.ref 58, .int (nI p), .int (nI a), .int (nI bs), .int (nI (fl_lf D F T L av a - fl_ct D F T L a d)), .int (nI (bs + (pf_sg F d a).length)), g] [] I A G = some (.null, I, A', G) ∧ (∀ b, b ≠ 59 → b ≠ 60 → A' b = A b) ∧ (∀ e, ¬ (e < D ∧ F e = a) → A' 60 e = A 60 e) ∧ (∀ e, e < D → F e = a → A' 60 e = nI (fl_sh D F T L av a e)) ∧ ∀ i, i < 9 → A' 59 i = nI (al i + fl_s (fun e => if F e = a ∧ T e = i then fl_sh D F T L av a e else 0) D) := by
        intro A1 n1 n2 n3 n4 ne
        obtain ⟨A', f1, f2, f3, f4, f5⟩ := ih (d + 1) (.int (nI d)) A1 (by omega) (by rw [n1 _ (by omega) (by omega)]; exact h5) (fun e he hFe => by rw [n1 _ (by omega) (by omega)]; exact h4 e he hFe) (fun e he => by rw [n1 _ (by omega) (by omega)]; exact h2 e he) (fun e he => by rw [n1 _ (by omega) (by omega)]; exact h61 e he) (fun e he hFe => by
          by_cases hed : e = d
          · rw [hed, n3, if_pos (by omega)]
          · rw [n2 e hed, h60 e he hFe]
            congr 1
            by_cases q : e < d
            · rw [if_pos q, if_pos (by omega)]
            · rw [if_neg q, if_neg (by omega)]) (fun i hi => by
          rw [n4, h59 i hi, nI_add]
          have e2 : fl_s (fun e => if F e = a ∧ T e = i then fl_sh D F T L av a e else 0) (d + 1) = fl_s (fun e => if F e = a ∧ T e = i then fl_sh D F T L av a e else 0) d + if F d = a ∧ T d = i then fl_sh D F T L av a d else 0 := rfl
          rw [e2]
          by_cases q : i = T d
          · rw [if_pos q, if_pos ⟨hF, q.symm⟩, Nat.add_assoc]
          · rw [if_neg q, if_neg (fun w => q w.2.symm), Nat.add_zero])
        exact ⟨A', by rw [ne, f1], fun b h1 h2 => by rw [f2 b h1 h2, n1 b h1 h2], fun e he => by rw [f3 e he, n2 e (fun q => he ⟨by omega, by rw [q]; exact hF⟩)], f4, f5⟩
      by_cases ho : fl_on D F T L d = true
      · have hl0' := hl0.trans (eq_false (fun q => fl_l_0.mp q ho))
        by_cases hc : fl_ct D F T L a d < fl_lf D F T L av a
        · have hf0' := hf0.trans (eq_false (show ¬ (fl_lf D F T L av a - fl_ct D F T L a d = 0) by omega))
          have hs : nI (fl_ba D F T L av a d) + 1 = nI (fl_sh D F T L av a d) := by unfold fl_sh; rw [if_pos ⟨ho, hc⟩, am_add1]
          have hd1 : nI (fl_lf D F T L av a - fl_ct D F T L a d) - 1 = nI (fl_lf D F T L av a - fl_ct D F T L a (d + 1)) := by
            rw [fl_ct_s, if_pos ⟨hF, ho⟩, show fl_lf D F T L av a - fl_ct D F T L a d = (fl_lf D F T L av a - (fl_ct D F T L a d + 1)) + 1 by omega, nI_pred]
          refine nx (am_u (am_u A 60 d (nI (fl_sh D F T L av a d))) 59 (T d) (A 59 (T d) + nI (fl_sh D F T L av a d))) (fun b h1 h2 => by rw [am_u_ne h1, am_u_ne h2]) (fun e he => by rw [am_u_at, if_neg (by omega), am_u_at, if_neg (fun q => he q.2)]) (by rw [am_u_at, if_neg (by omega), am_u_eq]) (fun i => by
            rw [am_u_at, am_u_ne (by omega)]
            by_cases q : i = T d
            · rw [if_pos ⟨rfl, q⟩, if_pos q, q]
            · rw [if_neg (fun w => q w.2), if_neg q]) ?_
          refine (s_X0_handOn_129).trans ?_
          have u59 : am_u A 60 d (nI (fl_sh D F T L av a d)) 59 = A 59 := am_u_ne (by omega)
          have u2 : am_u A 60 d (nI (fl_sh D F T L av a d)) (x + 2) = A (x + 2) := am_u_ne (by omega)
          rcases hx with rfl | rfl | rfl | rfl <;>
          (simp only [Nat.reduceAdd] at h5 dA tA u2
           simp only [s_X0_handOn_131, s_X0_handOn_132, s_X0_handOn_135_at13, s_X0_handOn_135_at19, s_X0_handOn_135_at33, s_X0_handOn_135_at39, s_X0_handOn_138, s_X0_handOn_139, s_X0_handOn_140, s_X0_handOn_143, s_X0_handOn_144, s_X0_handOn_147_at13, s_X0_handOn_147_at19, s_X0_handOn_147_at33, s_X0_handOn_147_at39, s_X0_handOn_150, s_X0_handOn_152, s_X0_handOn_153, s_X0_handOn_155, s_X0_handOn_156, s_X0_handOn_159, s_X0_handOn_161, s_X0_handOn_162, s_X0_handOn_165, s_X0_handOn_167, s_X0_handOn_170, s_X0_handOn_171, s_X0_handOn_174, s_X0_handOn_176, s_X0_handOn_177, s_X0_handOn_178, s_X0_handOn_179, s_X0_handOn_180, s_X0_handOn_181, s_X0_handOn_184, s_X0_handOn_185, s_X0_handOn_188, s_X0_handOn_189, s_X0_handOn_192_at13, s_X0_handOn_192_at19, s_X0_handOn_192_at33, s_X0_handOn_192_at39, s_X0_handOn_195, s_X0_handOn_197, s_X0_handOn_198, s_X0_handOn_199, s_X0_handOn_200, s_X0_handOn_201, s_X0_handOn_204, s_X0_handOn_206, s_X0_handOn_207, s_X0_handOn_208, s_X0_handOn_209, s_X0_handOn_212, hG, am_len_18, am_len_24, am_len_38, am_len_44, am_len_17, am_len_23, am_len_37, am_len_43, am_len_15, am_len_21, am_len_35, am_len_41, am_len_59, am_len_60, am_len_61, cp, xp, ck, xk, cd, xd, ct, xt, if_false, h5, hn, dA, lA, hl0', hf0', qA, hs, u59, u2, tA, am_u_eq, am_dec1, hd1, am_add1, hk1])
        · have hf0' := hf0.trans (eq_true (show fl_lf D F T L av a - fl_ct D F T L a d = 0 by omega))
          have hs : fl_ba D F T L av a d = fl_sh D F T L av a d := by unfold fl_sh; rw [if_neg (fun q => hc q.2)]; omega
          have hd1 : fl_lf D F T L av a - fl_ct D F T L a (d + 1) = fl_lf D F T L av a - fl_ct D F T L a d := by
            rw [fl_ct_s, if_pos ⟨hF, ho⟩]; omega
          rw [hs] at qA
          refine nx (am_u A 59 (T d) (A 59 (T d) + nI (fl_sh D F T L av a d))) (fun b h1 h2 => by rw [am_u_ne h1]) (fun e he => by rw [am_u_at, if_neg (by omega)]) (by rw [am_u_at, if_neg (by omega)]; exact qA) (fun i => by
            rw [am_u_at]
            by_cases q : i = T d
            · rw [if_pos ⟨rfl, q⟩, if_pos q, q]
            · rw [if_neg (fun w => q w.2), if_neg q]) ?_
          rw [hd1]
          refine (s_X0_handOn_129).trans ?_
          rcases hx with rfl | rfl | rfl | rfl <;>
          (simp only [Nat.reduceAdd] at h5 dA tA
           simp only [s_X0_handOn_131, s_X0_handOn_132, s_X0_handOn_135_at13, s_X0_handOn_135_at19, s_X0_handOn_135_at33, s_X0_handOn_135_at39, s_X0_handOn_138, s_X0_handOn_139, s_X0_handOn_140, s_X0_handOn_143, s_X0_handOn_144, s_X0_handOn_147_at13, s_X0_handOn_147_at19, s_X0_handOn_147_at33, s_X0_handOn_147_at39, s_X0_handOn_150, s_X0_handOn_152, s_X0_handOn_153, s_X0_handOn_155, s_X0_handOn_156, s_X0_handOn_159, s_X0_handOn_161, s_X0_handOn_162, s_X0_handOn_165, s_X0_handOn_167, s_X0_handOn_170, s_X0_handOn_171, s_X0_handOn_174, s_X0_handOn_176, s_X0_handOn_177, s_X0_handOn_178, s_X0_handOn_179, s_X0_handOn_180, s_X0_handOn_181, s_X0_handOn_184, s_X0_handOn_185, s_X0_handOn_188, s_X0_handOn_189, s_X0_handOn_192_at13, s_X0_handOn_192_at19, s_X0_handOn_192_at33, s_X0_handOn_192_at39, s_X0_handOn_195, s_X0_handOn_197, s_X0_handOn_198, s_X0_handOn_199, s_X0_handOn_200, s_X0_handOn_201, s_X0_handOn_204, s_X0_handOn_206, s_X0_handOn_207, s_X0_handOn_208, s_X0_handOn_209, s_X0_handOn_212, hG, am_len_18, am_len_24, am_len_38, am_len_44, am_len_17, am_len_23, am_len_37, am_len_43, am_len_15, am_len_21, am_len_35, am_len_41, am_len_59, am_len_60, am_len_61, cp, xp, ck, xk, cd, xd, ct, xt, if_false, if_true, h5, hn, dA, lA, hl0', hf0', qA, tA, am_add1, hk1])
      · have hl0' := hl0.trans (eq_true (fl_l_0.mpr ho))
        have hs : fl_ba D F T L av a d = fl_sh D F T L av a d := by unfold fl_sh; rw [if_neg (fun q => ho q.1)]; omega
        have hd1 : fl_lf D F T L av a - fl_ct D F T L a (d + 1) = fl_lf D F T L av a - fl_ct D F T L a d := by
          rw [fl_ct_s, if_neg (fun q => ho q.2)]; omega
        rw [hs] at qA
        refine nx (am_u A 59 (T d) (A 59 (T d) + nI (fl_sh D F T L av a d))) (fun b h1 h2 => by rw [am_u_ne h1]) (fun e he => by rw [am_u_at, if_neg (by omega)]) (by rw [am_u_at, if_neg (by omega)]; exact qA) (fun i => by
          rw [am_u_at]
          by_cases q : i = T d
          · rw [if_pos ⟨rfl, q⟩, if_pos q, q]
          · rw [if_neg (fun w => q w.2), if_neg q]) ?_
        rw [hd1]
        refine (s_X0_handOn_129).trans ?_
        rcases hx with rfl | rfl | rfl | rfl <;>
        (simp only [Nat.reduceAdd] at h5 dA tA
         simp only [s_X0_handOn_131, s_X0_handOn_132, s_X0_handOn_135_at13, s_X0_handOn_135_at19, s_X0_handOn_135_at33, s_X0_handOn_135_at39, s_X0_handOn_138, s_X0_handOn_139, s_X0_handOn_140, s_X0_handOn_143, s_X0_handOn_144, s_X0_handOn_147_at13, s_X0_handOn_147_at19, s_X0_handOn_147_at33, s_X0_handOn_147_at39, s_X0_handOn_150, s_X0_handOn_152, s_X0_handOn_153, s_X0_handOn_155, s_X0_handOn_156, s_X0_handOn_159, s_X0_handOn_161, s_X0_handOn_162, s_X0_handOn_165, s_X0_handOn_167, s_X0_handOn_170, s_X0_handOn_171, s_X0_handOn_174, s_X0_handOn_176, s_X0_handOn_177, s_X0_handOn_178, s_X0_handOn_179, s_X0_handOn_180, s_X0_handOn_181, s_X0_handOn_184, s_X0_handOn_185, s_X0_handOn_188, s_X0_handOn_189, s_X0_handOn_192_at13, s_X0_handOn_192_at19, s_X0_handOn_192_at33, s_X0_handOn_192_at39, s_X0_handOn_195, s_X0_handOn_197, s_X0_handOn_198, s_X0_handOn_199, s_X0_handOn_200, s_X0_handOn_201, s_X0_handOn_204, s_X0_handOn_206, s_X0_handOn_207, s_X0_handOn_208, s_X0_handOn_209, s_X0_handOn_212, hG, am_len_18, am_len_24, am_len_38, am_len_44, am_len_17, am_len_23, am_len_37, am_len_43, am_len_15, am_len_21, am_len_35, am_len_41, am_len_59, am_len_60, am_len_61, cp, xp, ck, xk, cd, xd, ct, xt, if_false, if_true, h5, hn, dA, lA, hl0', qA, tA, am_add1, hk1])
    · have e1 : fl_ct D F T L a (d + 1) = fl_ct D F T L a d := by
        rw [fl_ct_s, if_neg (fun q => hF q.1)]; omega
      obtain ⟨A', f1, f2, f3, f4, f5⟩ := ih (d + 1) g A (by omega) h5 h4 h2 h61 (fun e he hFe => by
        rw [h60 e he hFe]
        congr 1
        have hed : e ≠ d := fun q => by rw [q] at hFe; exact hF hFe
        by_cases q : e < d
        · rw [if_pos q, if_pos (by omega)]
        · rw [if_neg q, if_neg (by omega)]) (fun i hi => by
        rw [h59 i hi]
        congr 2
        show _ = _ + (if F d = a ∧ T d = i then _ else _)
        rw [if_neg (fun q => hF q.1)]; omega)
      rw [pf_sg_s, if_neg hF, e1] at f1
      exact ⟨A', f1, f2, f3, f4, f5⟩
