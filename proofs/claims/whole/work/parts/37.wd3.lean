/-! ===== the class: places in the order of air ===== -/
def pf_so (P : sg_P) (u : Bool) (l : List Nat) : Prop := l.Pairwise (fun a b => pf_lt P u a b = false)
theorem pf_lt_tr {P : sg_P} {u : Bool} {a b c : Nat} (h1 : pf_lt P u a b = false) (h2 : pf_lt P u b c = false) : pf_lt P u a c = false := by
  cases u <;> simp only [pf_lt, decide_eq_false_iff_not] at * <;> omega
theorem pf_lt_as {P : sg_P} {u : Bool} {a b : Nat} (h1 : pf_lt P u a b = true) : pf_lt P u b a = false := by
  cases u <;> simp only [pf_lt, decide_eq_false_iff_not, decide_eq_true_eq] at * <;> omega
theorem am_cP {p x : Nat} (h : wd_px p x) : (p = 5 ∨ p = 25) ∧ am_len 86 false (x + 3) = 9 ∧ am_len 86 false (x + 4) = 10 ∧ am_len 86 false (x + 5) = 9 ∧ am_len 86 false (x + 1) = 10 ∧ am_len 86 false (x + 2) = 10 := by
  rcases h with ⟨rfl, rfl | rfl⟩ | ⟨rfl, rfl | rfl⟩ <;> decide +kernel
/-- the array behind the hall i's insertion: rp the places ahead, the last first; suf the places behind, all later -/
theorem X5_insert {p x i : Nat} {P : sg_P} {u : Bool} {I : am_F} {G : am_G} (hx : wd_px p x) (hv : vp_p P) (hi : i < P 7 0) : ∀ (rp suf : List Nat) (A : am_F), cr_p p P I A → rp.length + suf.length = i → (∀ a ∈ rp, a < P 7 0) → (∀ k, k < rp.length → A (x + 3) (rp.length - k) = nI (rp.getD k 0)) → (∀ k, k < suf.length → A (x + 3) (rp.length + 2 + k) = nI (suf.getD k 0)) → (∀ a ∈ suf, pf_lt P u a i = true) → pf_so P u (rp.reverse ++ suf) → ∃ (A' : am_F) (rp' suf' : List Nat) (at' : Int32), am_e 32 23 [.ref x, .ref p, .int (am_bi u), .int (nI i), .int (nI (rp.length + 1))] [] I A G = am_e 32 10 [.ref x, .ref p, .int (am_bi u), .int (nI (i + 1)), .int at'] [] I A' G ∧ rp'.reverse ++ suf' = rp.reverse ++ suf ∧ rp'.length + suf'.length = i ∧ (∀ k, k < rp'.length → A' (x + 3) (rp'.length - k) = nI (rp'.getD k 0)) ∧ A' (x + 3) (rp'.length + 1) = nI i ∧ (∀ k, k < suf'.length → A' (x + 3) (rp'.length + 2 + k) = nI (suf'.getD k 0)) ∧ A' (x + 3) 0 = A (x + 3) 0 ∧ (∀ b, b ≠ x + 3 → A' b = A b) ∧ pf_so P u (rp'.reverse ++ i :: suf') := by
  obtain ⟨hpp, hl3, -⟩ := am_cP hx
  have hH := hv.1.2
  have fin : ∀ (rp suf : List Nat) (A : am_F), rp.length + suf.length = i → (∀ k, k < rp.length → A (x + 3) (rp.length - k) = nI (rp.getD k 0)) → (∀ k, k < suf.length → A (x + 3) (rp.length + 2 + k) = nI (suf.getD k 0)) → (∀ a ∈ suf, pf_lt P u a i = true) → (∀ a ∈ rp, pf_lt P u a i = false) → pf_so P u (rp.reverse ++ suf) → am_e 32 23 [.ref x, .ref p, .int (am_bi u), .int (nI i), .int (nI (rp.length + 1))] [] I A G = am_e 32 69 [.ref x, .ref p, .int (am_bi u), .int (nI i), .int (nI (rp.length + 1))] [] I A G → ∃ (A' : am_F) (rp' suf' : List Nat) (at' : Int32), am_e 32 23 [.ref x, .ref p, .int (am_bi u), .int (nI i), .int (nI (rp.length + 1))] [] I A G = am_e 32 10 [.ref x, .ref p, .int (am_bi u), .int (nI (i + 1)), .int at'] [] I A' G ∧ rp'.reverse ++ suf' = rp.reverse ++ suf ∧ rp'.length + suf'.length = i ∧ (∀ k, k < rp'.length → A' (x + 3) (rp'.length - k) = nI (rp'.getD k 0)) ∧ A' (x + 3) (rp'.length + 1) = nI i ∧ (∀ k, k < suf'.length → A' (x + 3) (rp'.length + 2 + k) = nI (suf'.getD k 0)) ∧ A' (x + 3) 0 = A (x + 3) 0 ∧ (∀ b, b ≠ x + 3 → A' b = A b) ∧ pf_so P u (rp'.reverse ++ i :: suf') := by
    intro rp suf A hlen h1 h2 h3 h4 h5 he
    refine ⟨am_u A (x + 3) (rp.length + 1) (nI i), rp, suf, nI (rp.length + 1), ?_, rfl, hlen, fun k hk => ?_, am_u_eq _ _ _ _, fun k hk => ?_, ?_, fun b hb => am_u_ne hb, ?_⟩
    · rw [he]
      have c1 := nI_clamp (show rp.length + 1 < 2 ^ 31 by omega)
      have x1 := am_ixF (show rp.length + 1 < 9 by omega) (show 9 < 2 ^ 31 by omega)
      rcases hx with ⟨rfl, rfl | rfl⟩ | ⟨rfl, rfl | rfl⟩ <;> simp only [s_X5_orderPlaces_69, s_X5_orderPlaces_70_at13, s_X5_orderPlaces_70_at19, s_X5_orderPlaces_70_at33, s_X5_orderPlaces_70_at39, s_X5_orderPlaces_73, s_X5_orderPlaces_75, s_X5_orderPlaces_76, s_X5_orderPlaces_77, s_X5_orderPlaces_80, am_len_16, am_len_22, am_len_36, am_len_42, c1, x1, if_false, am_add1, Nat.reduceAdd]
    · rw [am_u_at, if_neg (by omega)]; exact h1 k hk
    · rw [am_u_at, if_neg (by omega)]; exact h2 k hk
    · rw [am_u_at, if_neg (by omega)]
    · unfold pf_so at h5 ⊢
      rw [List.pairwise_append] at h5 ⊢
      obtain ⟨s1, s2, s3⟩ := h5
      refine ⟨s1, List.pairwise_cons.mpr ⟨fun a ha => pf_lt_as (h3 a ha), s2⟩, fun a ha b hb => ?_⟩
      rcases List.mem_cons.mp hb with rfl | hb
      · exact h4 a (List.mem_reverse.mp ha)
      · exact s3 a ha b hb
  intro rp
  induction rp with
  | nil =>
    intro suf A hp hlen hm h1 h2 h3 h5
    refine fin [] suf A hlen h1 h2 h3 (fun a ha => by cases ha) h5 ?_
    refine (s_X5_orderPlaces_23).trans ?_
    simp only [s_X5_orderPlaces_25, s_X5_orderPlaces_26]
    rw [if_pos (by show nI 1 ≤ 1; decide)]
  | cons a r ih =>
    intro suf A hp hlen hm h1 h2 h3 h5
    have ha : a < P 7 0 := hm a List.mem_cons_self
    simp only [List.length_cons] at hlen h1 h2 ⊢
    have ht : A (x + 3) (r.length + 1) = nI a := by
      have := h1 0 (by omega)
      simpa using this
    have hlt := @e_X5_isLater p a i P u I A G hpp hv hp ha hi
    have c1 := nI_clamp (show r.length + 1 < 2 ^ 31 by omega)
    have x1 := am_ixF (show r.length + 1 < 9 by omega) (show 9 < 2 ^ 31 by omega)
    have c2 := nI_clamp (show r.length + 1 + 1 < 2 ^ 31 by omega)
    have x2 := am_ixF (show r.length + 1 + 1 < 9 by omega) (show 9 < 2 ^ 31 by omega)
    have hle : (nI (r.length + 1 + 1) ≤ 1) = False := eq_false (by rw [show (1 : Int32) = nI 1 from rfl, nI_leI (by omega) (by omega)]; omega)
    have e0 : am_e 32 23 [.ref x, .ref p, .int (am_bi u), .int (nI i), .int (nI (r.length + 1 + 1))] [] I A G = if pf_lt P u a i = false then am_e 32 69 [.ref x, .ref p, .int (am_bi u), .int (nI i), .int (nI (r.length + 1 + 1))] [] I A G else am_e 32 23 [.ref x, .ref p, .int (am_bi u), .int (nI i), .int (nI (r.length + 1))] [] I (am_u A (x + 3) (r.length + 1 + 1) (nI a)) G := by
      refine (s_X5_orderPlaces_23).trans ?_
      rcases hx with ⟨rfl, rfl | rfl⟩ | ⟨rfl, rfl | rfl⟩ <;>
      (simp only [Nat.reduceAdd] at ht ⊢
       simp only [s_X5_orderPlaces_25, s_X5_orderPlaces_26, s_X5_orderPlaces_29, s_X5_orderPlaces_30, s_X5_orderPlaces_31_at13, s_X5_orderPlaces_31_at19, s_X5_orderPlaces_31_at33, s_X5_orderPlaces_31_at39, s_X5_orderPlaces_34, s_X5_orderPlaces_36, s_X5_orderPlaces_37, s_X5_orderPlaces_38, s_X5_orderPlaces_39, s_X5_orderPlaces_40, s_X5_orderPlaces_41, s_X5_orderPlaces_44, s_X5_orderPlaces_47, s_X5_orderPlaces_48_at13, s_X5_orderPlaces_48_at19, s_X5_orderPlaces_48_at33, s_X5_orderPlaces_48_at39, s_X5_orderPlaces_51, s_X5_orderPlaces_53, s_X5_orderPlaces_54_at13, s_X5_orderPlaces_54_at19, s_X5_orderPlaces_54_at33, s_X5_orderPlaces_54_at39, s_X5_orderPlaces_57, s_X5_orderPlaces_59, s_X5_orderPlaces_60, s_X5_orderPlaces_61, s_X5_orderPlaces_62, s_X5_orderPlaces_63, s_X5_orderPlaces_66, am_len_16, am_len_22, am_len_36, am_len_42, hle, nI_pred, c1, x1, c2, x2, if_false, ht, hlt, am_k_some, am_push_i, am_bi_0, am_dec1])
    cases hb : pf_lt P u a i with
    | false =>
      rw [hb, if_pos rfl] at e0
      refine fin (a :: r) suf A hlen h1 h2 h3 (fun b hbm => ?_) h5 e0
      rcases List.mem_cons.mp hbm with rfl | hbm
      · exact hb
      · unfold pf_so at h5
        rw [List.reverse_cons, List.append_assoc, List.pairwise_append] at h5
        exact pf_lt_tr (h5.2.2 b (List.mem_reverse.mpr hbm) a (by simp)) hb
    | true =>
      rw [hb, if_neg (by decide)] at e0
      have hp' : cr_p p P I (am_u A (x + 3) (r.length + 1 + 1) (nI a)) := by
        have hne : ∀ y, p < y → y ≤ p + 7 → am_u A (x + 3) (r.length + 1 + 1) (nI a) y = A y := fun y h6 h7 => am_u_ne (by rcases hx with ⟨rfl, rfl | rfl⟩ | ⟨rfl, rfl | rfl⟩ <;> omega)
        obtain ⟨c1, c2, c3, c4, c5⟩ := hp
        refine ⟨c1, c2, fun i hi => ?_, fun d hd => ?_, c5⟩
        · rw [hne (p + 1) (by omega) (by omega), hne (p + 2) (by omega) (by omega), hne (p + 3) (by omega) (by omega)]; exact c3 i hi
        · rw [hne (p + 4) (by omega) (by omega), hne (p + 5) (by omega) (by omega), hne (p + 6) (by omega) (by omega), hne (p + 7) (by omega) (by omega)]; exact c4 d hd
      obtain ⟨A', rp', suf', at', f1, f2, f3, f4, f5, f6, f7, f8, f9⟩ := ih (a :: suf) (am_u A (x + 3) (r.length + 1 + 1) (nI a)) hp' (by simp only [List.length_cons]; omega) (fun b hbm => hm b (List.mem_cons_of_mem _ hbm)) (fun k hk => by
        rw [am_u_at, if_neg (by omega)]
        have := h1 (k + 1) (by omega)
        rw [show r.length + 1 - (k + 1) = r.length - k by omega] at this
        simpa using this) (fun k hk => by
        cases k with
        | zero => rw [am_u_at, if_pos ⟨rfl, by omega⟩]; rfl
        | succ k =>
          rw [am_u_at, if_neg (by omega)]
          have := h2 k (by simp only [List.length_cons] at hk; omega)
          rw [show r.length + 2 + (k + 1) = r.length + 1 + 2 + k by omega]
          simpa using this) (fun b hbm => by
        rcases List.mem_cons.mp hbm with rfl | hbm
        · exact hb
        · exact h3 b hbm) (by simpa using h5)
      refine ⟨A', rp', suf', at', by rw [e0, f1], by rw [f2]; simp, f3, f4, f5, f6, by rw [f7, am_u_at, if_neg (by omega)], fun b hbm => by rw [f8 b hbm, am_u_ne hbm], f9⟩
theorem X5_placesLoop {p x : Nat} {P : sg_P} {u : Bool} {I : am_F} {G : am_G} (hx : wd_px p x) (hv : vp_p P) : ∀ (r i : Nat) (l : List Nat) (g : Value) (A : am_F), i + r = P 7 0 → cr_p p P I A → l.Perm (List.range i) → pf_so P u l → (∀ k, k < i → A (x + 3) (k + 1) = nI (l.getD k 0)) → ∃ (A' : am_F) (pl : List Nat), am_e 32 10 [.ref x, .ref p, .int (am_bi u), .int (nI i), g] [] I A G = some (.null, I, A', G) ∧ pl.Perm (List.range (P 7 0)) ∧ pf_so P u pl ∧ (∀ k, k < P 7 0 → A' (x + 3) (k + 1) = nI (pl.getD k 0)) ∧ A' (x + 3) 0 = A (x + 3) 0 ∧ ∀ b, b ≠ x + 3 → A' b = A b := by
  obtain ⟨hpp, hl3, -⟩ := am_cP hx
  have hH := hv.1.2
  intro r
  induction r with
  | zero =>
    intro i l g A hi hp hl hs hA
    have : i = P 7 0 := by omega
    subst this
    refine ⟨A, l, ?_, hl, hs, hA, rfl, fun b _ => rfl⟩
    refine (s_X5_orderPlaces_10).trans ?_
    rcases hpp with rfl | rfl <;> simp only [s_X5_orderPlaces_11, s_X5_orderPlaces_12_at5, s_X5_orderPlaces_12_at25, s_X5_orderPlaces_15, s_X5_orderPlaces_83, hp.1, Int32.le_refl, if_true]
  | succ r ih =>
    intro i l g A hi hp hl hs hA
    have hlen : l.length = i := by rw [hl.length_eq, List.length_range]
    have e0 : am_e 32 10 [.ref x, .ref p, .int (am_bi u), .int (nI i), g] [] I A G = am_e 32 23 [.ref x, .ref p, .int (am_bi u), .int (nI i), .int (nI (l.reverse.length + 1))] [] I A G := by
      refine (s_X5_orderPlaces_10).trans ?_
      have hn : (nI (P 7 0) ≤ nI i) = False := eq_false (by rw [nI_leI (by omega) (by omega)]; omega)
      rw [List.length_reverse, hlen]
      rcases hpp with rfl | rfl <;> simp only [s_X5_orderPlaces_11, s_X5_orderPlaces_12_at5, s_X5_orderPlaces_12_at25, s_X5_orderPlaces_15, s_X5_orderPlaces_18, s_X5_orderPlaces_19, s_X5_orderPlaces_20, s_X5_orderPlaces_21, hp.1, hn, if_false, am_add1]
    obtain ⟨A1, rp, suf, at', f1, f2, f3, f4, f5, f6, f7, f8, f9⟩ := X5_insert (I := I) (G := G) (u := u) hx hv (i := i) (by omega) l.reverse [] A hp (by simp [hlen]) (fun a ha => by
        have := (hl.mem_iff (a := a)).mp (List.mem_reverse.mp ha)
        rw [List.mem_range] at this
        omega) (fun k hk => by
        rw [List.length_reverse] at hk ⊢
        have := hA (l.length - k - 1) (by omega)
        rw [show l.length - k - 1 + 1 = l.length - k by omega] at this
        rw [this, List.getD_eq_getElem?_getD, List.getD_eq_getElem?_getD, List.getElem?_reverse hk, show l.length - 1 - k = l.length - k - 1 by omega]) (fun k hk => by simp at hk) (fun a ha => by cases ha) (by simpa using hs)
    rw [List.reverse_reverse, List.append_nil] at f2
    have hp1 : cr_p p P I A1 := by
      have hne : ∀ y, p < y → y ≤ p + 7 → A1 y = A y := fun y h6 h7 => f8 y (by rcases hx with ⟨rfl, rfl | rfl⟩ | ⟨rfl, rfl | rfl⟩ <;> omega)
      obtain ⟨c1, c2, c3, c4, c5⟩ := hp
      refine ⟨c1, c2, fun i hi => ?_, fun d hd => ?_, c5⟩
      · rw [hne (p + 1) (by omega) (by omega), hne (p + 2) (by omega) (by omega), hne (p + 3) (by omega) (by omega)]; exact c3 i hi
      · rw [hne (p + 4) (by omega) (by omega), hne (p + 5) (by omega) (by omega), hne (p + 6) (by omega) (by omega), hne (p + 7) (by omega) (by omega)]; exact c4 d hd
    obtain ⟨A', pl, g1, g2, g3, g4, g5, g6⟩ := ih (i + 1) (rp.reverse ++ i :: suf) (.int at') A1 (by omega) hp1 (by
        rw [List.range_succ]
        refine (List.perm_middle).trans ?_
        rw [f2]
        exact (List.Perm.cons i hl).trans (List.perm_append_singleton i (List.range i)).symm) f9 (fun k hk => by
        rw [List.getD_eq_getElem?_getD]
        by_cases h1 : k < rp.length
        · rw [List.getElem?_append_left (by rw [List.length_reverse]; exact h1), List.getElem?_reverse h1]
          have := f4 (rp.length - 1 - k) (by omega)
          rw [show rp.length - (rp.length - 1 - k) = k + 1 by omega] at this
          rw [this, List.getD_eq_getElem?_getD]
        · rw [List.getElem?_append_right (by rw [List.length_reverse]; omega), List.length_reverse]
          by_cases h2 : k = rp.length
          · subst h2
            rw [Nat.sub_self, f5]
            rfl
          · have := f6 (k - rp.length - 1) (by omega)
            rw [show rp.length + 2 + (k - rp.length - 1) = k + 1 by omega] at this
            rw [this, show k - rp.length = (k - rp.length - 1) + 1 by omega, List.getElem?_cons_succ, List.getD_eq_getElem?_getD]
            rfl)
    exact ⟨A', pl, by rw [e0, f1, g1], g2, g3, g4, by rw [g5, f7], fun b hb => by rw [g6 b hb, f8 b hb]⟩
theorem e_X5_orderPlaces {p x : Nat} {P : sg_P} {u : Bool} {I A : am_F} {G : am_G} (hx : wd_px p x) (hv : vp_p P) (hp : cr_p p P I A) : ∃ (A' : am_F) (pl : List Nat), am_e 32 0 [.ref x, .ref p, .int (am_bi u), .null, .null] [] I A G = some (.null, I, A', G) ∧ pl.Perm (List.range (P 7 0)) ∧ pf_so P u pl ∧ A' (x + 3) 0 = 8 ∧ (∀ k, k < P 7 0 → A' (x + 3) (k + 1) = nI (pl.getD k 0)) ∧ ∀ b, b ≠ x + 3 → A' b = A b := by
  have e0 : am_e 32 0 [.ref x, .ref p, .int (am_bi u), .null, .null] [] I A G = am_e 32 10 [.ref x, .ref p, .int (am_bi u), .int (nI 0), .null] [] I (am_u A (x + 3) 0 8) G := by
    rcases hx with ⟨rfl, rfl | rfl⟩ | ⟨rfl, rfl | rfl⟩ <;> (simp [s_X5_orderPlaces_0, s_X5_orderPlaces_1_at13, s_X5_orderPlaces_1_at19, s_X5_orderPlaces_1_at33, s_X5_orderPlaces_1_at39, s_X5_orderPlaces_4, s_X5_orderPlaces_5, s_X5_orderPlaces_7, s_X5_orderPlaces_8, s_X5_orderPlaces_9, am_len_16, am_len_22, am_len_36, am_len_42]; rfl)
  have hp1 : cr_p p P I (am_u A (x + 3) 0 8) := by
    have hne : ∀ y, p < y → y ≤ p + 7 → am_u A (x + 3) 0 8 y = A y := fun y h6 h7 => am_u_ne (by rcases hx with ⟨rfl, rfl | rfl⟩ | ⟨rfl, rfl | rfl⟩ <;> omega)
    obtain ⟨c1, c2, c3, c4, c5⟩ := hp
    refine ⟨c1, c2, fun i hi => ?_, fun d hd => ?_, c5⟩
    · rw [hne (p + 1) (by omega) (by omega), hne (p + 2) (by omega) (by omega), hne (p + 3) (by omega) (by omega)]; exact c3 i hi
    · rw [hne (p + 4) (by omega) (by omega), hne (p + 5) (by omega) (by omega), hne (p + 6) (by omega) (by omega), hne (p + 7) (by omega) (by omega)]; exact c4 d hd
  obtain ⟨A', pl, g1, g2, g3, g4, g5, g6⟩ := X5_placesLoop (u := u) (I := I) (G := G) hx hv (P 7 0) 0 [] .null (am_u A (x + 3) 0 8) (by omega) hp1 (by simp) List.Pairwise.nil (fun k hk => by omega)
  exact ⟨A', pl, by rw [e0, g1], g2, g3, by rw [g5, am_u_eq], g4, fun b hb => by rw [g6 b hb, am_u_ne hb]⟩
