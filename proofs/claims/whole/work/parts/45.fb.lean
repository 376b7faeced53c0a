/-! ===== air: what is handed on is no more than what comes in ===== -/
theorem fl_l_le (D : Nat) (F T L : Nat → Nat) (d : Nat) : fl_l D F T L d ≤ L d := by
  unfold fl_l; split <;> omega
theorem fl_l_off {D : Nat} {F T L : Nat → Nat} {d : Nat} (h : ¬ fl_on D F T L d = true) : fl_l D F T L d = 0 := by
  unfold fl_l; rw [if_neg h]
theorem fl_l_on {D : Nat} {F T L : Nat → Nat} {d : Nat} (h : fl_on D F T L d = true) : fl_l D F T L d = L d ∧ 0 < L d := by
  refine ⟨?_, (fl_on_iff.mp h).1⟩
  unfold fl_l; rw [if_pos h]
theorem fl_ba_s (D : Nat) (F T L : Nat → Nat) (a i : Nat) : fl_s (fun d => if F d = i then fl_ba D F T L a i d else 0) D ≤ a := by
  by_cases h0 : fl_tot D F T L i = 0
  · rw [fl_s_0 D (fun d _ => by unfold fl_ba; rw [h0, Nat.div_zero]; split <;> rfl)]
    omega
  · have h1 : fl_tot D F T L i * fl_s (fun d => if F d = i then fl_ba D F T L a i d else 0) D ≤ a * fl_tot D F T L i := by
      rw [← fl_s_mul]
      show _ ≤ a * fl_s _ D
      rw [← fl_s_mul]
      refine fl_s_le D (fun d _ => ?_)
      by_cases hF : F d = i
      · rw [if_pos hF, if_pos hF]
        exact Nat.mul_div_le _ _
      · rw [if_neg hF, if_neg hF]; omega
    rw [Nat.mul_comm] at h1
    exact Nat.le_of_mul_le_mul_right h1 (by omega)
theorem fl_bo_s (D : Nat) (F T L : Nat → Nat) (i c : Nat) : ∀ n, fl_s (fun d => if F d = i then (if fl_on D F T L d = true ∧ fl_ct D F T L i d < c then 1 else 0) else 0) n = min (fl_ct D F T L i n) c
  | 0 => by show 0 = min 0 c; omega
  | n + 1 => by
    have e : fl_ct D F T L i (n + 1) = fl_ct D F T L i n + if F n = i ∧ fl_on D F T L n = true then 1 else 0 := rfl
    show fl_s _ n + (if F n = i then (if fl_on D F T L n = true ∧ fl_ct D F T L i n < c then 1 else 0) else 0) = _
    rw [fl_bo_s D F T L i c n, e]
    by_cases hF : F n = i
    · rw [if_pos hF]
      by_cases ho : fl_on D F T L n = true
      · by_cases hc : fl_ct D F T L i n < c
        · rw [if_pos ⟨ho, hc⟩, if_pos ⟨hF, ho⟩]; omega
        · rw [if_neg (fun q => hc q.2), if_pos ⟨hF, ho⟩]; omega
      · rw [if_neg (fun q => ho q.1), if_neg (fun q => ho q.2)]; omega
    · rw [if_neg hF, if_neg (fun q => hF q.1)]; omega
theorem fl_sh_s (D : Nat) (F T L : Nat → Nat) (a i : Nat) : fl_s (fun d => if F d = i then fl_sh D F T L a i d else 0) D ≤ a := by
  have e : fl_s (fun d => if F d = i then fl_sh D F T L a i d else 0) D = fl_s (fun d => if F d = i then fl_ba D F T L a i d else 0) D + fl_s (fun d => if F d = i then (if fl_on D F T L d = true ∧ fl_ct D F T L i d < fl_lf D F T L a i then 1 else 0) else 0) D := by
    rw [← fl_s_add]
    refine fl_s_c D (fun d _ => ?_)
    by_cases hF : F d = i
    · rw [if_pos hF, if_pos hF, if_pos hF]; rfl
    · rw [if_neg hF, if_neg hF, if_neg hF]
  rw [e, fl_bo_s]
  have h1 := fl_ba_s D F T L a i
  have h2 : fl_lf D F T L a i = a - fl_s (fun d => if F d = i then fl_ba D F T L a i d else 0) D := rfl
  omega
/-- what a hall hands on is no more than its air -/
theorem fl_out {H D : Nat} {F T r : Nat → Nat} {L : Nat → Nat} (hv : fl_v H D F T r) {i : Nat} (hi : i < H) : fl_s (fun d => if F d = i then fl_q D F T L d else 0) D ≤ fl_a D F T L i := by
  refine Nat.le_trans (Nat.le_of_eq (fl_s_c D (fun d hd => ?_))) (fl_sh_s D F T L (fl_a D F T L i) i)
  by_cases hF : F d = i
  · have := hv.1
    rw [if_pos hF, if_pos hF, fl_q_eq hv hd, if_neg (by omega), hF]
  · rw [if_neg hF, if_neg hF]
/-- through the doors that lead over the height k -/
def fl_k (D : Nat) (F T L r : Nat → Nat) (k : Nat) : Nat := fl_s (fun d => if (F d = 8 ∨ r (F d) < k) ∧ T d ≠ 8 ∧ k ≤ r (T d) then fl_q D F T L d else 0) D
theorem fl_k_a {H D : Nat} {F T r : Nat → Nat} {L : Nat → Nat} (hv : fl_v H D F T r) {i : Nat} (hi : i < H) : fl_a D F T L i ≤ fl_k D F T L r (r i) := by
  have h8 := hv.1
  refine fl_s_le D (fun d hd => ?_)
  obtain ⟨b1, b2, b3, b4⟩ := hv.2.2.2 d hd
  by_cases hT : T d = i
  · rw [if_pos hT, if_pos]
    · exact Nat.le_refl _
    · refine ⟨?_, by omega, by rw [hT]; exact Nat.le_refl _⟩
      rcases b1 with b1 | b1
      · right
        have := b4 b1 (by omega)
        rw [hT] at this
        exact this
      · exact Or.inl b1
  · rw [if_neg hT]; omega
theorem fl_k_0 {H D : Nat} {F T r : Nat → Nat} {L : Nat → Nat} (hv : fl_v H D F T r) : fl_k D F T L r 0 ≤ fl_tot D F T L 8 := by
  refine fl_s_le D (fun d hd => ?_)
  by_cases hF : F d = 8
  · rw [if_pos hF, fl_q_eq hv hd, if_pos hF]
    split <;> omega
  · rw [if_neg (fun q => by rcases q.1 with q | q <;> omega)]; omega
/-- the halls of one height -/
theorem fl_ex {H D : Nat} (F r q : Nat → Nat) (k : Nat) : fl_s (fun i => if r i = k then fl_s (fun d => if F d = i then q d else 0) D else 0) H = fl_s (fun d => if F d < H ∧ r (F d) = k then q d else 0) D := by
  have e : fl_s (fun i => if r i = k then fl_s (fun d => if F d = i then q d else 0) D else 0) H = fl_s (fun i => fl_s (fun d => if r i = k then (if F d = i then q d else 0) else 0) D) H := by
    refine fl_s_c H (fun i _ => ?_)
    by_cases h : r i = k
    · rw [if_pos h]
      exact fl_s_c D (fun d _ => by rw [if_pos h])
    · rw [if_neg h]
      exact (fl_s_0 D (fun d _ => by rw [if_neg h])).symm
  rw [e, fl_s_sw]
  refine fl_s_c D (fun d _ => ?_)
  rw [fl_s_c H (h := fun i => if i = F d then (if r (F d) = k then q d else 0) else 0) (fun i _ => ?_), fl_s_one]
  · by_cases h1 : F d < H
    · rw [if_pos h1]
      by_cases h2 : r (F d) = k
      · rw [if_pos h2, if_pos ⟨h1, h2⟩]
      · rw [if_neg h2, if_neg (fun q => h2 q.2)]
    · rw [if_neg h1, if_neg (fun q => h1 q.1)]
  · by_cases h3 : F d = i
    · subst h3
      rw [if_pos rfl, if_pos rfl]
    · rw [if_neg h3, if_neg (show ¬ i = F d from fun q => h3 q.symm)]
      split <;> rfl
theorem fl_k_s {H D : Nat} {F T r : Nat → Nat} {L : Nat → Nat} (hv : fl_v H D F T r) (k : Nat) : fl_k D F T L r (k + 1) ≤ fl_k D F T L r k := by
  have h8 := hv.1
  have e1 : fl_s (fun d => if F d < H ∧ r (F d) = k then fl_q D F T L d else 0) D ≤ fl_s (fun d => if T d < H ∧ r (T d) = k then fl_q D F T L d else 0) D := by
    rw [← fl_ex F r (fl_q D F T L) k, ← fl_ex T r (fl_q D F T L) k]
    refine fl_s_le H (fun i hi => ?_)
    split
    · exact fl_out hv hi
    · exact Nat.le_refl _
  have e2 : fl_k D F T L r (k + 1) + fl_s (fun d => if T d < H ∧ r (T d) = k then fl_q D F T L d else 0) D ≤ fl_k D F T L r k + fl_s (fun d => if F d < H ∧ r (F d) = k then fl_q D F T L d else 0) D := by
    unfold fl_k
    rw [← fl_s_add, ← fl_s_add]
    refine fl_s_le D (fun d hd => ?_)
    obtain ⟨b1, b2, b3, b4⟩ := hv.2.2.2 d hd
    by_cases c1 : T d < H ∧ r (T d) = k
    · rw [if_pos c1, if_neg (by omega), if_pos]
      · omega
      · refine ⟨?_, by omega, by omega⟩
        rcases b1 with b1 | b1
        · have := b4 b1 c1.1
          omega
        · exact Or.inl b1
    · rw [if_neg c1]
      by_cases c2 : (F d = 8 ∨ r (F d) < k + 1) ∧ T d ≠ 8 ∧ k + 1 ≤ r (T d)
      · rw [if_pos c2]
        by_cases c3 : F d < H ∧ r (F d) = k
        · rw [if_pos c3]; omega
        · rw [if_pos ⟨by omega, by omega, by omega⟩]; omega
      · rw [if_neg c2]; omega
  omega
theorem fl_tot_le {D : Nat} {F T L : Nat → Nat} (hD : D ≤ 10) (hL : ∀ d, d < D → L d ≤ 50) (i : Nat) : fl_tot D F T L i ≤ 500 := by
  have h := fl_s_b (g := fun d => if F d = i then fl_l D F T L d else 0) (c := 50) D (fun d hd => by
    have := hL d hd
    have := fl_l_le D F T L d
    show (if F d = i then fl_l D F T L d else 0) ≤ 50
    split <;> omega)
  have : D * 50 ≤ 10 * 50 := Nat.mul_le_mul_right 50 hD
  unfold fl_tot
  omega
theorem fl_a_le {H D : Nat} {F T r : Nat → Nat} {L : Nat → Nat} (hv : fl_v H D F T r) (hL : ∀ d, d < D → L d ≤ 50) {i : Nat} (hi : i < H) : fl_a D F T L i ≤ 500 := by
  have key : ∀ k, fl_k D F T L r k ≤ fl_k D F T L r 0 := by
    intro k
    induction k with
    | zero => exact Nat.le_refl _
    | succ k ih => exact Nat.le_trans (fl_k_s hv k) ih
  exact Nat.le_trans (fl_k_a hv hi) (Nat.le_trans (key _) (Nat.le_trans (fl_k_0 hv) (fl_tot_le hv.2.1 hL 8)))
theorem fl_q_le {H D : Nat} {F T r : Nat → Nat} {L : Nat → Nat} (hv : fl_v H D F T r) (hL : ∀ d, d < D → L d ≤ 50) {d : Nat} (hd : d < D) : fl_q D F T L d ≤ 500 := by
  obtain ⟨b1, b2, b3, b4⟩ := hv.2.2.2 d hd
  rcases b1 with b1 | b1
  · have h1 := fl_out (L := L) hv b1
    have h2 := fl_a_le hv hL b1
    have h3 : fl_s (fun e => if e = d then fl_q D F T L d else 0) D ≤ fl_s (fun e => if F e = F d then fl_q D F T L e else 0) D := fl_s_le D (fun e _ => by
      by_cases h : e = d
      · subst h; rw [if_pos rfl, if_pos rfl]; exact Nat.le_refl _
      · rw [if_neg h]; omega)
    rw [fl_s_one, if_pos hd] at h3
    omega
  · rw [fl_q_eq hv hd, if_pos b1]
    have := fl_l_le D F T L d
    have := hL d hd
    omega
/-- no air where nothing breathes -/
theorem fl_q_off {H D : Nat} {F T r : Nat → Nat} {L : Nat → Nat} (hv : fl_v H D F T r) {d : Nat} (hd : d < D) (ho : ¬ fl_on D F T L d = true) : fl_q D F T L d = 0 := by
  rw [fl_q_eq hv hd]
  have hl := fl_l_off ho
  split
  · exact hl
  · unfold fl_sh fl_ba
    rw [hl, Nat.mul_zero, Nat.zero_div, if_neg (fun q => ho q.1)]
theorem fl_a_off {H D : Nat} {F T r : Nat → Nat} {L : Nat → Nat} (hv : fl_v H D F T r) {i : Nat} (hi : i < H) (hb : ¬ fl_b D F T L i = true) : fl_a D F T L i = 0 := by
  have h8 := hv.1
  refine fl_s_0 D (fun d hd => ?_)
  by_cases hT : T d = i
  · rw [if_pos hT]
    refine fl_q_off hv hd (fun q => ?_)
    rcases (fl_on_iff.mp q).2 with q | q
    · omega
    · rw [hT] at q; exact hb q
  · rw [if_neg hT]
/-- the open as a hall with all that it lets in -/
theorem fl_sh_8 (D : Nat) (F T L : Nat → Nat) {d : Nat} (hd : d < D) (hF : F d = 8) : fl_sh D F T L (fl_tot D F T L 8) 8 d = fl_l D F T L d := by
  have hb : ∀ e, e < D → F e = 8 → fl_ba D F T L (fl_tot D F T L 8) 8 e = fl_l D F T L e := by
    intro e he hFe
    unfold fl_ba
    by_cases h0 : fl_tot D F T L 8 = 0
    · have h3 : fl_s (fun j => if j = e then fl_l D F T L e else 0) D ≤ fl_tot D F T L 8 := fl_s_le D (fun j _ => by
        by_cases h : j = e
        · subst h; rw [if_pos rfl, if_pos hFe]; exact Nat.le_refl _
        · rw [if_neg h]; omega)
      rw [fl_s_one, if_pos he] at h3
      rw [h0, Nat.zero_mul, Nat.zero_div]; omega
    · rw [Nat.mul_comm, Nat.mul_div_cancel _ (by omega)]
  have hl : fl_lf D F T L (fl_tot D F T L 8) 8 = 0 := by
    unfold fl_lf
    rw [fl_s_c D (h := fun e => if F e = 8 then fl_l D F T L e else 0) (fun e he => ?_)]
    · exact Nat.sub_self _
    · by_cases h : F e = 8
      · rw [if_pos h, if_pos h, hb e he h]
      · rw [if_neg h, if_neg h]
  unfold fl_sh
  rw [hl, hb d hd hF, if_neg (by omega)]; rfl
