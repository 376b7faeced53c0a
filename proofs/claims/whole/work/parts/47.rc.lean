/-! ===== where air carries to; the rank of a hall; doors in the order of air ===== -/
def fl_R (D : Nat) (F T q : Nat → Nat) (S : Nat → Bool) : Nat → Nat → Bool
  | 0, j => S j
  | n + 1, j => S j || (List.range D).any (fun d => decide (0 < q d ∧ F d ≠ 8 ∧ T d = j ∧ fl_R D F T q S n (F d) = true))
def fl_r (D : Nat) (F T q : Nat → Nat) (S : Nat → Bool) (j : Nat) : Bool := fl_R D F T q S 8 j
theorem fl_R_s (D : Nat) (F T q : Nat → Nat) (S : Nat → Bool) (n j : Nat) : fl_R D F T q S (n + 1) j = true ↔ S j = true ∨ ∃ d, d < D ∧ 0 < q d ∧ F d ≠ 8 ∧ T d = j ∧ fl_R D F T q S n (F d) = true := by
  show (S j || (List.range D).any _) = true ↔ _
  rw [Bool.or_eq_true, List.any_eq_true]
  constructor
  · rintro (h | ⟨d, h1, h2⟩)
    · exact Or.inl h
    · exact Or.inr ⟨d, List.mem_range.mp h1, of_decide_eq_true h2⟩
  · rintro (h | ⟨d, h1, h2⟩)
    · exact Or.inl h
    · exact Or.inr ⟨d, List.mem_range.mpr h1, decide_eq_true h2⟩
theorem fl_R_S (D : Nat) (F T q : Nat → Nat) (S : Nat → Bool) (n j : Nat) (h : S j = true) : fl_R D F T q S n j = true := by
  cases n with
  | zero => exact h
  | succ n => rw [fl_R_s]; exact Or.inl h
theorem fl_R_st {H D : Nat} {F T r : Nat → Nat} (q : Nat → Nat) (S : Nat → Bool) (hv : fl_v H D F T r) : ∀ (n m j : Nat), j < H → r j ≤ n → r j ≤ m → fl_R D F T q S n j = true → fl_R D F T q S m j = true
  | 0, m, j, hj, h1, _, h3 => fl_R_S D F T q S m j h3
  | n + 1, m, j, hj, h1, h2, h3 => by
    rw [fl_R_s] at h3
    rcases h3 with h3 | ⟨d, a1, a2, a3, a4, a5⟩
    · exact fl_R_S D F T q S m j h3
    · obtain ⟨b1, b2, b3, b4⟩ := hv.2.2.2 d a1
      have b1 := b1.resolve_right a3
      have b5 := b4 b1 (by omega)
      rw [a4] at b5
      cases m with
      | zero => omega
      | succ m =>
        rw [fl_R_s]
        exact Or.inr ⟨d, a1, a2, a3, a4, fl_R_st q S hv n m (F d) b1 (by omega) (by omega) a5⟩
theorem fl_r_eq {H D : Nat} {F T r q : Nat → Nat} {S : Nat → Bool} (hv : fl_v H D F T r) {j : Nat} (hj : j < H) : fl_r D F T q S j = true ↔ S j = true ∨ ∃ d, d < D ∧ 0 < q d ∧ F d ≠ 8 ∧ T d = j ∧ fl_r D F T q S (F d) = true := by
  have hr := hv.2.2.1 j hj
  constructor
  · intro h
    exact (fl_R_s D F T q S 8 j).mp (fl_R_st q S hv 8 9 j hj (by omega) (by omega) h)
  · intro h
    exact fl_R_st q S hv 9 8 j hj (by omega) (by omega) ((fl_R_s D F T q S 8 j).mpr h)
theorem fl_r_uq {H D : Nat} {F T r q : Nat → Nat} {S : Nat → Bool} (hv : fl_v H D F T r) {X : Nat → Bool} (hX : ∀ j, j < H → (X j = true ↔ S j = true ∨ ∃ d, d < D ∧ 0 < q d ∧ F d ≠ 8 ∧ T d = j ∧ X (F d) = true)) : ∀ n j, j < H → r j ≤ n → X j = fl_r D F T q S j := by
  have key : ∀ n j, j < H → r j ≤ n → (X j = true ↔ fl_r D F T q S j = true) := by
    intro n
    induction n with
    | zero =>
      intro j hj h
      rw [hX j hj, fl_r_eq hv hj]
      constructor
      · rintro (h1 | ⟨d, a1, a2, a3, a4, a5⟩)
        · exact Or.inl h1
        · obtain ⟨b1, b2, b3, b4⟩ := hv.2.2.2 d a1
          have b5 := b4 (b1.resolve_right a3) (by omega)
          rw [a4] at b5
          omega
      · rintro (h1 | ⟨d, a1, a2, a3, a4, a5⟩)
        · exact Or.inl h1
        · obtain ⟨b1, b2, b3, b4⟩ := hv.2.2.2 d a1
          have b5 := b4 (b1.resolve_right a3) (by omega)
          rw [a4] at b5
          omega
    | succ n ih =>
      intro j hj h
      rw [hX j hj, fl_r_eq hv hj]
      constructor
      · rintro (h1 | ⟨d, a1, a2, a3, a4, a5⟩)
        · exact Or.inl h1
        · obtain ⟨b1, b2, b3, b4⟩ := hv.2.2.2 d a1
          have b5 := b4 (b1.resolve_right a3) (by omega)
          rw [a4] at b5
          exact Or.inr ⟨d, a1, a2, a3, a4, (ih (F d) (b1.resolve_right a3) (by omega)).mp a5⟩
      · rintro (h1 | ⟨d, a1, a2, a3, a4, a5⟩)
        · exact Or.inl h1
        · obtain ⟨b1, b2, b3, b4⟩ := hv.2.2.2 d a1
          have b5 := b4 (b1.resolve_right a3) (by omega)
          rw [a4] at b5
          exact Or.inr ⟨d, a1, a2, a3, a4, (ih (F d) (b1.resolve_right a3) (by omega)).mpr a5⟩
  intro n j hj h
  exact Bool.eq_iff_iff.mpr (key n j hj h)
/-- from several halls: from one of them -/
theorem fl_R_un {H D : Nat} {F T r : Nat → Nat} (q : Nat → Nat) (S : Nat → Bool) (hv : fl_v H D F T r) : ∀ (n j : Nat), j < H → (fl_R D F T q S n j = true ↔ ∃ i, i < H ∧ S i = true ∧ fl_R D F T q (fun k => decide (k = i)) n j = true)
  | 0, j, hj => by
    constructor
    · intro h
      exact ⟨j, hj, h, decide_eq_true rfl⟩
    · rintro ⟨i, h1, h2, h3⟩
      have h3 : j = i := of_decide_eq_true h3
      rw [h3]; exact h2
  | n + 1, j, hj => by
    rw [fl_R_s]
    constructor
    · rintro (h | ⟨d, a1, a2, a3, a4, a5⟩)
      · exact ⟨j, hj, h, fl_R_S D F T q _ _ j (decide_eq_true rfl)⟩
      · obtain ⟨b1, b2, b3, b4⟩ := hv.2.2.2 d a1
        obtain ⟨i, h1, h2, h3⟩ := (fl_R_un q S hv n (F d) (b1.resolve_right a3)).mp a5
        exact ⟨i, h1, h2, (fl_R_s D F T q _ n j).mpr (Or.inr ⟨d, a1, a2, a3, a4, h3⟩)⟩
    · rintro ⟨i, h1, h2, h3⟩
      rcases (fl_R_s D F T q _ n j).mp h3 with h3 | ⟨d, a1, a2, a3, a4, a5⟩
      · have h3 : j = i := of_decide_eq_true h3
        rw [h3]; exact Or.inl h2
      · obtain ⟨b1, b2, b3, b4⟩ := hv.2.2.2 d a1
        exact Or.inr ⟨d, a1, a2, a3, a4, (fl_R_un q S hv n (F d) (b1.resolve_right a3)).mpr ⟨i, h1, h2, a5⟩⟩
/-- the rank of a hall -/
def pf_rk (P : sg_P) (u : Bool) (i : Nat) : Nat := fl_s (fun k => if pf_lt P u i k = true then 1 else 0) (P 7 0)
theorem pf_lt_ir (P : sg_P) (u : Bool) (i : Nat) : pf_lt P u i i = false := by
  cases u <;> simp [pf_lt]
theorem pf_lt_t2 {P : sg_P} {u : Bool} {a b k : Nat} (h : pf_lt P u b a = true) (h2 : pf_lt P u a k = true) : pf_lt P u b k = true := by
  cases u <;> simp only [pf_lt, decide_eq_true_eq] at * <;> omega
theorem pf_rk_lt {P : sg_P} {u : Bool} {i : Nat} (hi : i < P 7 0) : pf_rk P u i < P 7 0 := by
  have h1 : fl_s (fun k => (if pf_lt P u i k = true then 1 else 0) + if k = i then 1 else 0) (P 7 0) ≤ P 7 0 * 1 := fl_s_b (P 7 0) (fun k _ => by
    by_cases h : k = i
    · subst h; rw [pf_lt_ir]; simp
    · rw [if_neg h]; split <;> omega)
  rw [fl_s_add, fl_s_one, if_pos hi] at h1
  unfold pf_rk
  omega
theorem pf_rk_mo {P : sg_P} {u : Bool} {a b : Nat} (ha : a < P 7 0) (h : pf_lt P u b a = true) : pf_rk P u a < pf_rk P u b := by
  have h1 : fl_s (fun k => (if pf_lt P u a k = true then 1 else 0) + if k = a then 1 else 0) (P 7 0) ≤ fl_s (fun k => if pf_lt P u b k = true then 1 else 0) (P 7 0) := fl_s_le (P 7 0) (fun k _ => by
    by_cases hk : k = a
    · subst hk; rw [pf_lt_ir, if_pos h]; simp
    · rw [if_neg hk]
      by_cases h2 : pf_lt P u a k = true
      · rw [if_pos h2, if_pos (pf_lt_t2 h h2)]; omega
      · rw [if_neg h2]; omega)
  rw [fl_s_add, fl_s_one, if_pos ha] at h1
  unfold pf_rk
  omega
theorem pf_ends {P : sg_P} {u : Bool} (hv : vp_p P) {d : Nat} (hd : d < P 7 1) : (pf_fr P u d < P 7 0 ∨ pf_fr P u d = 8) ∧ (pf_to P u d < P 7 0 ∨ pf_to P u d = 8) ∧ ¬ (pf_fr P u d = 8 ∧ pf_to P u d = 8) ∧ (pf_fr P u d < P 7 0 → pf_to P u d < P 7 0 → pf_lt P u (pf_to P u d) (pf_fr P u d) = true) := by
  have hH := hv.1.2
  obtain ⟨v1, v2, -, -⟩ := hv.2.2.2.1 d hd
  unfold pf_fr pf_to
  by_cases h8 : P 4 d = 8
  · rw [if_pos h8, if_pos h8]
    split <;> refine ⟨by omega, by omega, by omega, fun _ _ => by omega⟩
  · have v2 := v2.resolve_left h8
    rw [if_neg h8, if_neg h8]
    by_cases hc : decide (P 0 (P 3 d) < P 0 (P 4 d)) = u
    · rw [if_pos hc, if_pos hc]
      refine ⟨by omega, by omega, by omega, fun _ _ => ?_⟩
      cases u <;> simp only [pf_lt, decide_eq_true_eq, decide_eq_false_iff_not] at * <;> omega
    · rw [if_neg hc, if_neg hc]
      refine ⟨by omega, by omega, by omega, fun _ _ => ?_⟩
      cases u <;> simp only [pf_lt, decide_eq_true_eq, decide_eq_false_iff_not, Bool.not_eq_true, Bool.not_eq_false] at * <;> omega
theorem pf_flv {P : sg_P} (u : Bool) (hv : vp_p P) : fl_v (P 7 0) (P 7 1) (pf_fr P u) (pf_to P u) (pf_rk P u) := by
  refine ⟨hv.1.2, hv.2.1, fun i hi => ?_, fun d hd => ?_⟩
  · have := pf_rk_lt (u := u) hi
    have := hv.1.2
    omega
  · obtain ⟨a1, a2, a3, a4⟩ := pf_ends (u := u) hv hd
    exact ⟨a1, a2, a3, fun h1 h2 => pf_rk_mo h1 (a4 h1 h2)⟩
/-- doors in an order in which no door leads to where an earlier one begins -/
def dl_ok (D : Nat) (F T : Nat → Nat) (dl : List Nat) : Prop := (∀ d, d ∈ dl ↔ d < D) ∧ dl.Nodup ∧ dl.length = D ∧ dl.Pairwise (fun e d => F e ≠ 8 → T d ≠ F e)
theorem pf_sg_m {F : Nat → Nat} {D a d : Nat} : d ∈ pf_sg F D a ↔ d < D ∧ F d = a := by
  unfold pf_sg
  rw [List.mem_filter, List.mem_range]
  simp
theorem pf_ln_e (F : Nat → Nat) {l : List Nat} (hn : l.Nodup) : ∀ D, (∀ d, d < D → F d ∈ l) → pf_ln F D l = D
  | 0, _ => pf_ln_0 F l
  | D + 1, h => by
    have ih := pf_ln_e F hn D (fun d hd => h d (by omega))
    have key : ∀ l : List Nat, l.Nodup → F D ∈ l → pf_ln F (D + 1) l = pf_ln F D l + 1 := by
      intro l
      induction l with
      | nil => intro _ h; cases h
      | cons a l ih2 =>
        intro hn hm
        have h1 := List.nodup_cons.mp hn
        unfold pf_ln
        rw [pf_sg_s]
        by_cases hq : F D = a
        · rw [if_pos hq, pf_ln_ni F D l (by rw [hq]; exact h1.1)]
          simp
          omega
        · rw [if_neg hq, ih2 h1.2 ((List.mem_cons.mp hm).resolve_left hq)]
          omega
    rw [key l hn (h D (by omega)), ih]
theorem wd_dl {P : sg_P} {u : Bool} {pl : List Nat} (hv : vp_p P) (h1 : pl.Perm (List.range (P 7 0))) (h2 : pf_so P u pl) : dl_ok (P 7 1) (pf_fr P u) (pf_to P u) ((8 :: pl).flatMap (pf_sg (pf_fr P u) (P 7 1))) := by
  have hH := hv.1.2
  have hmem : ∀ a, a ∈ pl ↔ a < P 7 0 := fun a => by rw [h1.mem_iff, List.mem_range]
  have hnd : (8 :: pl).Nodup := List.nodup_cons.mpr ⟨fun q => by have := (hmem 8).mp q; omega, h1.nodup_iff.mpr List.nodup_range⟩
  have hin : ∀ d, d < P 7 1 → pf_fr P u d ∈ 8 :: pl := fun d hd => by
    rcases (pf_ends (u := u) hv hd).1 with h | h
    · exact List.mem_cons_of_mem _ ((hmem _).mpr h)
    · rw [h]; exact List.mem_cons_self
  have h8 : ∀ b, b ∈ pl → b ≠ 8 := fun b hb => by have := (hmem b).mp hb; omega
  have hpw : (8 :: pl).Pairwise (fun a b => (a ≠ 8 → pf_lt P u a b = false) ∧ b ≠ 8) := List.pairwise_cons.mpr ⟨fun b hb => ⟨fun h => absurd rfl h, h8 b hb⟩, List.Pairwise.imp (fun h => ⟨fun _ => h.1, h.2⟩) (List.Pairwise.and h2 (List.pairwise_of_forall_mem_list (fun a _ b hb => h8 b hb)))⟩
  refine ⟨fun d => ?_, ?_, ?_, ?_⟩
  · rw [List.mem_flatMap]
    constructor
    · rintro ⟨a, _, h⟩
      exact (pf_sg_m.mp h).1
    · intro h
      exact ⟨_, hin d h, pf_sg_m.mpr ⟨h, rfl⟩⟩
  · unfold List.Nodup
    rw [List.pairwise_flatMap]
    refine ⟨fun a _ => List.Pairwise.filter _ List.nodup_range, List.Pairwise.imp (fun hab x hx y hy hxy => ?_) hnd⟩
    subst hxy
    exact hab ((pf_sg_m.mp hx).2.symm.trans (pf_sg_m.mp hy).2)
  · rw [pf_ln_fm, pf_ln_e _ hnd _ hin]
  · rw [List.pairwise_flatMap]
    refine ⟨fun a _ => List.pairwise_of_forall_mem_list (fun e he d hd h8 hT => ?_), List.Pairwise.imp (fun {a b} hab e he d hd h8 hT => ?_) hpw⟩
    · obtain ⟨e1, e2⟩ := pf_sg_m.mp he
      obtain ⟨d1, d2⟩ := pf_sg_m.mp hd
      obtain ⟨c1, c2, c3, c4⟩ := pf_ends (u := u) hv d1
      rw [e2] at h8 hT
      have := c4 (by omega) (by omega)
      rw [hT, d2, pf_lt_ir] at this
      cases this
    · obtain ⟨e1, e2⟩ := pf_sg_m.mp he
      obtain ⟨d1, d2⟩ := pf_sg_m.mp hd
      obtain ⟨c1, c2, c3, c4⟩ := pf_ends (u := u) hv d1
      obtain ⟨f1, f2, f3, f4⟩ := pf_ends (u := u) hv e1
      have hb8 := hab.2
      have hab := hab.1 (by rw [← e2]; exact h8)
      have hf := f1.resolve_right h8
      rcases c1 with c1 | c1
      · have := c4 c1 (by rw [hT]; exact hf)
        rw [hT, d2, e2, hab] at this
        cases this
      · exact hb8 (d2.symm.trans c1)
