/-! ===== the state behind both constructors ===== -/
def P0 : sg_P := fun r i => match r, i with
  | 0, 0 => 10
  | 7, 0 => 1
  | 7, 2 => 50
  | 7, 3 => 12
  | 7, 4 => 5
  | 7, 5 => 20
  | _, _ => 0
def s0 : sg_S := (0, 0, 0, fun _ => 0)
theorem P0_vp : vp_p P0 := by unfold vp_p; decide
def x6_ok (v : am_V) : Bool := (List.range 69).all (fun k => match am_cell k with
  | .inl _ => true
  | .inr c => (List.range (am_nf c)).all (fun j => match am_fv v.2.1 v.2.2.2 k c j with
    | .ref x => Nat.blt x 69
    | _ => true))
/-- what the class's cells hold behind its constructor -/
def x6_F (v : am_V) : Prop := (v.2.2.2 0 3 = 5 ∧ v.2.2.2 0 4 = 25) ∧ (v.2.1 5 9 = 1 ∧ v.2.1 5 10 = 0 ∧ v.2.1 5 12 = 50 ∧ v.2.1 5 13 = 12 ∧ v.2.1 5 14 = 5 ∧ v.2.1 5 15 = 20 ∧ v.2.1 5 16 = 0 ∧ v.2.1 5 17 = 0 ∧ v.2.1 5 11 = 0 ∧ v.2.1 13 3 = 2 ∧ v.2.1 13 6 = 0 ∧ v.2.1 19 3 = 2 ∧ v.2.1 19 6 = 0 ∧ v.2.1 45 0 = 0 ∧ v.2.1 45 1 = 0 ∧ v.2.1 45 2 = 0 ∧ v.2.1 0 8 = 0 ∧ v.2.1 54 3 = 0 ∧ v.2.1 0 1 = 0) ∧ (v.2.2.1 6 0 = 10 ∧ v.2.2.1 7 0 = 0 ∧ v.2.2.1 8 0 = 0 ∧ v.2.2.1 16 0 = 8 ∧ v.2.2.1 16 1 = 0 ∧ v.2.2.1 18 0 = 0 ∧ v.2.2.1 18 1 = 0 ∧ v.2.2.1 22 0 = 8 ∧ v.2.2.1 22 1 = 0 ∧ v.2.2.1 24 0 = 0 ∧ v.2.2.1 24 1 = 0) ∧ (∀ i, i < 9 → v.2.2.1 46 i = 0) ∧ x6_ok v = true
theorem x6_F4 : x6_F x6_4 := ⟨by decide +kernel, by decide +kernel, by decide +kernel, by decide +kernel, by decide +kernel⟩
theorem x6_wd (u : Bool) (x : Nat) (I A : am_F) (h3 : I x 3 = 2) (h6 : I x 6 = 0) (a0 : A (x + 3) 0 = 8) (a1 : A (x + 3) 1 = 0) (b0 : A (x + 5) 0 = 0) (b1 : A (x + 5) 1 = 0) : wd_ok P0 u x [0] I A := by
  have hsg : ∀ q, pf_sg (pf_fr P0 u) 0 q = [] := fun q => rfl
  refine ⟨h3, h6, fun d hd => absurd hd (Nat.not_lt_zero _), List.Perm.refl _, List.pairwise_singleton _ _, fun k hk => ?_, fun k hk => absurd hk (Nat.not_lt_zero _), fun k hk => ?_⟩
  · replace hk : k < 2 := hk
    rcases (show k = 0 ∨ k = 1 by omega) with rfl | rfl
    · exact a0
    · exact a1
  · replace hk : k < 2 := hk
    rcases (show k = 0 ∨ k = 1 by omega) with rfl | rfl
    · exact b0
    · exact b1
theorem x6_ck {v : am_V} (hF : x6_F v) : ck P0 s0 5 25 v.2.1 v.2.2.1 v.2.2.2 := by
  obtain ⟨⟨g1, g2⟩, x6_fI, x6_fA, x6_fS, -⟩ := hF
  obtain ⟨i1, i2, i3, i4, i5, i6, i7, i8, i9, i10, i11, i12, i13, i14, i15, i16, i17, i18, i19⟩ := x6_fI
  obtain ⟨a1, a2, a3, a4, a5, a6, a7, a8, a9, a10, a11⟩ := x6_fA
  refine ⟨⟨g1, g2, Or.inl ⟨rfl, rfl⟩⟩, ⟨⟨i1, i2, fun i hi => ?_, fun d hd => absurd hd (Nat.not_lt_zero _), i3, i4, i5, i6, i7, i8⟩, ?_⟩, ⟨⟨[0], x6_wd true 13 _ _ i10 i11 a4 a5 a6 a7⟩, ⟨[0], x6_wd false 19 _ _ i12 i13 a8 a9 a10 a11⟩⟩, i14, i15, i16, fun i hi => x6_fS i hi⟩
  · replace hi : i < 1 := hi
    obtain rfl : i = 0 := by omega
    exact ⟨a1, a2, a3⟩
  · rw [i9]; decide
theorem x6_cx {v : am_V} (hF : x6_F v) : cx 0 (fun _ => s0) 0 (fun _ => (0, 0, 0)) 0 (fun _ => 0) v.2.1 v.2.2.1 := by
  obtain ⟨⟨g1, g2⟩, x6_fI, x6_fA, x6_fS, -⟩ := hF
  obtain ⟨i1, i2, i3, i4, i5, i6, i7, i8, i9, i10, i11, i12, i13, i14, i15, i16, i17, i18, i19⟩ := x6_fI
  exact ⟨⟨i17, fun h => absurd h (Nat.lt_irrefl _), fun h => absurd h (by omega)⟩, ⟨i18, fun e he => absurd he (Nat.not_lt_zero _)⟩, ⟨i19, fun e he => absurd he (Nat.not_lt_zero _)⟩⟩
theorem x7_mk : mk P0 s0 I7 A7 := by
  refine ⟨⟨by decide +kernel, by decide +kernel, fun i hi => ?_, fun d hd => absurd hd (Nat.not_lt_zero _), by decide +kernel, by decide +kernel, by decide +kernel, by decide +kernel, by decide +kernel, by decide +kernel⟩, by decide +kernel, by decide +kernel, by decide +kernel, by decide +kernel, fun i hi => ?_⟩
  · replace hi : i < 1 := hi
    obtain rfl : i = 0 := by omega
    exact ⟨by decide +kernel, by decide +kernel, by decide +kernel⟩
  · have h : ∀ i, i < 8 → A7 77 i = 0 := by decide +kernel
    exact h i hi
theorem x7_mx : mx 0 (fun _ => s0) 0 (fun _ => (0, 0, 0)) 0 (fun _ => 0) I7 A7 := ⟨⟨by decide +kernel, fun e he => absurd he (Nat.not_lt_zero _)⟩, ⟨by decide +kernel, fun e he => absurd he (Nat.not_lt_zero _)⟩, ⟨by decide +kernel, fun e he => absurd he (Nat.not_lt_zero _)⟩⟩
/-- both sides' cells, and the script -/
def IM (v : am_V) (L : Nat) : am_F := fun a j => if a < 69 then v.2.1 a j else if a = 86 then (if j = 0 then nI L else 0) else I7 a j
def AM (v : am_V) (xs : Nat → Int32) : am_F := fun a => if a < 69 then v.2.2.1 a else if a = 86 then xs else A7 a
theorem li_0 {v : am_V} (hF : x6_F v) (L : Nat) (xs : Nat → Int32) : li 0 (IM v L) (AM v xs) v.2.2.2 := by
  have hI : ∀ a j, a < 69 → IM v L a j = v.2.1 a j := fun a j h => if_pos h
  have hA : ∀ a, a < 69 → AM v xs a = v.2.2.1 a := fun a h => if_pos h
  have hJ : ∀ j, IM v L 69 j = I7 69 j := fun j => (if_neg (by decide)).trans (if_neg (by decide))
  have hB : ∀ a, 69 ≤ a → a < 86 → AM v xs a = A7 a := fun a h h2 => (if_neg (by omega)).trans (if_neg (by omega))
  have hm := x7_mk
  refine ⟨P0, s0, 0, fun _ => s0, 0, fun _ => (0, 0, 0), 0, fun _ => 0, 5, 25, ⟨P0_vp, ⟨⟨⟨0, by decide, rfl⟩, fun j h1 h2 => ?_⟩, Nat.zero_le _⟩, by decide, fun e he => absurd he (Nat.not_lt_zero _), ⟨by decide, fun e he => absurd he (Nat.not_lt_zero _)⟩, by decide, fun e he => absurd he (Nat.not_lt_zero _)⟩, ⟨(x6_ck hF).up hI hA, (x6_cx hF).fr (fun a j h => hI a j (by omega)) (fun b h => hA b (by omega))⟩, ⟨hm.1.fr (hJ _) (hJ _) (hB _ (by decide) (by decide)) (hB _ (by decide) (by decide)) (hB _ (by decide) (by decide)), hm.2.fr (fun j _ => hJ j) (hB _ (by decide) (by decide))⟩, x7_mx.fr (fun j _ => hJ j) (fun b h => hB b (by omega) (by omega))⟩
  have h3 : ∀ j, j < 32 → am_hb s0.2.1 j = false := by decide +kernel
  exact h3 j h2
/-- the cells as one world -/
theorem am_ce_c {cI cB : ClassId} {ad ad' : Nat → Nat} {I A : am_F} {G : am_G} {k : Nat} (h : ∀ c j x, am_cell k = .inr c → j < am_nf c → am_fv I G k c j = .ref x → ad x = ad' x) : am_ce cI cB ad I A G k = am_ce cI cB ad' I A G k := by
  unfold am_ce
  split
  · rfl
  · rename_i c hc
    congr 2
    refine List.map_congr_left (fun j hj => ?_)
    have h1 := h c j
    cases hv : am_fv I G k c j with
    | ref x =>
      show Value.ref (ad x) = Value.ref (ad' x)
      rw [h1 x hc (List.mem_range.mp hj) hv]
    | _ => rfl
theorem am_ce_IA {cI cB : ClassId} {ad : Nat → Nat} {I A I' A' : am_F} {G : am_G} {k : Nat} (hI : ∀ j, I k j = I' k j) (hA : A k = A' k) : am_ce cI cB ad I A G k = am_ce cI cB ad I' A' G k := by
  unfold am_ce
  split
  · rw [hA]
  · congr 2
    refine List.map_congr_left (fun j _ => ?_)
    unfold am_fv
    rw [hI]
theorem am_ce_G {cI cB : ClassId} {ad : Nat → Nat} {I A : am_F} {G G' : am_G} {k : Nat} (h : ∀ c j, am_cell k = .inr c → j < am_nf c → am_fk c j = 0 ∨ am_fk c j = 1) : am_ce cI cB ad I A G k = am_ce cI cB ad I A G' k := by
  unfold am_ce
  split
  · rfl
  · rename_i c hc
    congr 2
    refine List.map_congr_left (fun j hj => ?_)
    unfold am_fv
    rcases h c j hc (List.mem_range.mp hj) with h1 | h1 <;> (rw [h1]; rfl)
theorem x67_w {v : am_V} (hF : x6_F v) (cI cB : ClassId) (ad6 ad7 : Nat → Nat) (b L : Nat) (xs : Nat → Int32) : am_w 69 cI cB ad6 v.2.1 v.2.2.1 v.2.2.2 ++ mw cI cB ad7 I7 A7 G00 = am_w 86 cI cB (fun x => if x < 69 then ad6 x else if x = 86 then b else ad7 x) (IM v L) (AM v xs) v.2.2.2 := by
  have h7 : (List.range 17).all (fun i => match am_cell (69 + i) with
    | .inl _ => true
    | .inr c => Nat.beq c 7) = true := by decide +kernel
  have hk7 : (List.range 33).all (fun j => Nat.ble (am_fk 7 j) 1 && (Nat.beq (am_fk 7 j) 0 || (Nat.ble 69 (am_rf 69 j) && Nat.blt (am_rf 69 j) 86))) = true := by decide +kernel
  apply List.ext_getElem?
  intro k
  have hlen : (am_w 69 cI cB ad6 v.2.1 v.2.2.1 v.2.2.2).length = 69 := by unfold am_w; rw [List.length_map, List.length_range]
  by_cases hk : k < 69
  · rw [List.getElem?_append_left (by rw [hlen]; exact hk), am_w_at hk, am_w_at (by omega)]
    have h1 := List.all_eq_true.mp hF.2.2.2.2 k (List.mem_range.mpr hk)
    rw [am_ce_c (ad' := fun x => if x < 69 then ad6 x else if x = 86 then b else ad7 x) (fun c j x hc hj hv => ?_), am_ce_IA (I' := IM v L) (A' := AM v xs) (fun j => (if_pos hk).symm) (if_pos hk).symm]
    · show some (ad6 k, _) = some ((if k < 69 then ad6 k else _), _)
      rw [if_pos hk]
    · rw [hc] at h1
      have h2 := List.all_eq_true.mp h1 j (List.mem_range.mpr hj)
      rw [hv] at h2
      exact (if_pos (Nat.le_of_ble_eq_true h2)).symm
  · rw [List.getElem?_append_right (by rw [hlen]; omega), hlen]
    by_cases h86 : k < 86
    · obtain ⟨i, rfl⟩ : ∃ i, k = 69 + i := ⟨k - 69, by omega⟩
      rw [Nat.add_sub_cancel_left, mw_at (by omega), am_w_at h86]
      have h1 := List.all_eq_true.mp h7 i (List.mem_range.mpr (by omega))
      have hc7 : ∀ c, am_cell (69 + i) = .inr c → c = 7 := fun c hc => by
        rw [hc] at h1
        exact Nat.eq_of_beq_eq_true h1
      have hi : ∀ c, am_cell (69 + i) = .inr c → i = 0 := fun c hc => by
        have h3 : (List.range 17).all (fun i => (am_cell (69 + i)).isLeft || Nat.beq i 0) = true := by decide +kernel
        have h4 := List.all_eq_true.mp h3 i (List.mem_range.mpr (by omega))
        rw [hc] at h4
        exact Nat.eq_of_beq_eq_true h4
      rw [am_ce_G (G' := v.2.2.2) (fun c j hc hj => ?_), am_ce_c (ad' := fun x => if x < 69 then ad6 x else if x = 86 then b else ad7 x) (fun c j x hc hj hv => ?_), am_ce_IA (I' := IM v L) (A' := AM v xs) (fun j => ((if_neg (by omega)).trans (if_neg (by omega))).symm) ((if_neg (by omega)).trans (if_neg (by omega))).symm]
      · show some (ad7 (69 + i), _) = some ((if 69 + i < 69 then _ else if 69 + i = 86 then _ else ad7 (69 + i)), _)
        rw [if_neg (by omega), if_neg (by omega)]
      · obtain rfl := hc7 c hc
        obtain rfl := hi _ hc
        have h2 := List.all_eq_true.mp hk7 j (List.mem_range.mpr hj)
        rw [Bool.and_eq_true, Bool.or_eq_true] at h2
        unfold am_fv at hv
        have h3 := Nat.le_of_ble_eq_true h2.1
        rcases h2.2 with h4 | h4
        · rw [Nat.eq_of_beq_eq_true h4] at hv
          cases hv
        · rw [Bool.and_eq_true] at h4
          have h5 := Nat.le_of_ble_eq_true h4.1
          have h6 : am_rf 69 j + 1 ≤ 86 := Nat.le_of_ble_eq_true h4.2
          rcases (show am_fk 7 j = 0 ∨ am_fk 7 j = 1 by omega) with h9 | h9
          · rw [h9] at hv
            cases hv
          · rw [h9] at hv
            cases hv
            exact ((if_neg (show ¬ am_rf 69 j < 69 by omega)).trans (if_neg (show ¬ am_rf 69 j = 86 by omega))).symm
      · obtain rfl := hc7 c hc
        have h2 := List.all_eq_true.mp hk7 j (List.mem_range.mpr hj)
        rw [Bool.and_eq_true] at h2
        have h3 := Nat.le_of_ble_eq_true h2.1
        omega
    · rw [mw_no (by omega)]
      unfold am_w
      rw [List.getElem?_eq_none (by rw [List.length_map, List.length_range]; omega)]
