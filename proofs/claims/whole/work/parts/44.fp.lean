/-! ===== air in our own words: doors D, halls H, from F, to T (8: the open), what the doors let L ===== -/
def fl_s (g : Nat → Nat) : Nat → Nat
  | 0 => 0
  | n + 1 => fl_s g n + g n
theorem fl_s_c {g h : Nat → Nat} : ∀ n, (∀ d, d < n → g d = h d) → fl_s g n = fl_s h n
  | 0, _ => rfl
  | n + 1, e => by
    show fl_s g n + g n = fl_s h n + h n
    rw [fl_s_c n (fun d hd => e d (by omega)), e n (by omega)]
theorem fl_s_le {g h : Nat → Nat} : ∀ n, (∀ d, d < n → g d ≤ h d) → fl_s g n ≤ fl_s h n
  | 0, _ => Nat.le_refl _
  | n + 1, e => by
    show fl_s g n + g n ≤ fl_s h n + h n
    have := fl_s_le n (fun d hd => e d (by omega))
    have := e n (by omega)
    omega
theorem fl_s_add (g h : Nat → Nat) : ∀ n, fl_s (fun d => g d + h d) n = fl_s g n + fl_s h n
  | 0 => rfl
  | n + 1 => by
    show fl_s (fun d => g d + h d) n + (g n + h n) = fl_s g n + g n + (fl_s h n + h n)
    rw [fl_s_add g h n]; omega
theorem fl_s_0 {g : Nat → Nat} : ∀ n, (∀ d, d < n → g d = 0) → fl_s g n = 0
  | 0, _ => rfl
  | n + 1, e => by
    show fl_s g n + g n = 0
    rw [fl_s_0 n (fun d hd => e d (by omega)), e n (by omega)]
theorem fl_s_sw (g : Nat → Nat → Nat) (m : Nat) : ∀ n, fl_s (fun i => fl_s (g i) m) n = fl_s (fun d => fl_s (fun i => g i d) n) m
  | 0 => (fl_s_0 m (fun _ _ => rfl)).symm
  | n + 1 => by
    show fl_s (fun i => fl_s (g i) m) n + fl_s (g n) m = fl_s (fun d => fl_s (fun i => g i d) n + g n d) m
    rw [fl_s_add, fl_s_sw g m n]
theorem fl_s_one (i v : Nat) : ∀ n, fl_s (fun j => if j = i then v else 0) n = if i < n then v else 0
  | 0 => by rw [if_neg (by omega)]; rfl
  | n + 1 => by
    show fl_s (fun j => if j = i then v else 0) n + (if n = i then v else 0) = _
    rw [fl_s_one i v n]
    by_cases h1 : i < n
    · rw [if_pos h1, if_neg (by omega), if_pos (by omega)]; rfl
    · rw [if_neg h1]
      by_cases h2 : n = i
      · rw [if_pos h2, if_pos (by omega)]; omega
      · rw [if_neg h2, if_neg (by omega)]
theorem fl_s_b {g : Nat → Nat} {c : Nat} : ∀ n, (∀ d, d < n → g d ≤ c) → fl_s g n ≤ n * c
  | 0, _ => by show (0 : Nat) ≤ _; omega
  | n + 1, e => by
    show fl_s g n + g n ≤ (n + 1) * c
    have h1 := fl_s_b n (fun d hd => e d (by omega))
    have h2 := e n (by omega)
    rw [Nat.add_mul]; omega
theorem fl_s_mul (g : Nat → Nat) (c : Nat) : ∀ n, fl_s (fun d => c * g d) n = c * fl_s g n
  | 0 => by show (0 : Nat) = c * 0; omega
  | n + 1 => by
    show fl_s (fun d => c * g d) n + c * g n = c * (fl_s g n + g n)
    rw [fl_s_mul g c n, Nat.mul_add]
theorem fl_s_mono (g : Nat → Nat) (m : Nat) : ∀ n, m ≤ n → fl_s g m ≤ fl_s g n
  | 0, h => by rw [show m = 0 by omega]; exact Nat.le_refl _
  | n + 1, h => by
    by_cases e : m = n + 1
    · rw [e]; exact Nat.le_refl _
    · have := fl_s_mono g m n (by omega)
      show _ ≤ fl_s g n + g n
      omega
theorem fl_s_u {g h : Nat → Nat} {d v : Nat} : ∀ n, d < n → (∀ e, e < n → e ≠ d → h e = g e) → h d = g d + v → fl_s h n = fl_s g n + v
  | 0, h0, _, _ => by omega
  | n + 1, h0, e, ed => by
    show fl_s h n + h n = fl_s g n + g n + v
    by_cases hd : d = n
    · subst hd
      rw [fl_s_c d (fun k hk => e k (by omega) (by omega)), ed]; omega
    · rw [fl_s_u n (by omega) (fun k hk => e k (by omega)) ed, e n (by omega) (by omega)]; omega
/-- does the hall breathe, within n doors -/
def fl_B (D : Nat) (F T L : Nat → Nat) : Nat → Nat → Bool
  | 0, _ => false
  | n + 1, i => (List.range D).any (fun d => decide (0 < L d ∧ F d = i ∧ (T d = 8 ∨ fl_B D F T L n (T d) = true)))
def fl_b (D : Nat) (F T L : Nat → Nat) (i : Nat) : Bool := fl_B D F T L 8 i
def fl_v (H D : Nat) (F T r : Nat → Nat) : Prop := H ≤ 8 ∧ D ≤ 10 ∧ (∀ i, i < H → r i < 8) ∧ ∀ d, d < D → (F d < H ∨ F d = 8) ∧ (T d < H ∨ T d = 8) ∧ ¬ (F d = 8 ∧ T d = 8) ∧ (F d < H → T d < H → r (F d) < r (T d))
theorem fl_B_s (D : Nat) (F T L : Nat → Nat) (n i : Nat) : fl_B D F T L (n + 1) i = true ↔ ∃ d, d < D ∧ 0 < L d ∧ F d = i ∧ (T d = 8 ∨ fl_B D F T L n (T d) = true) := by
  show (List.range D).any _ = true ↔ _
  rw [List.any_eq_true]
  constructor
  · rintro ⟨d, h1, h2⟩
    exact ⟨d, List.mem_range.mp h1, of_decide_eq_true h2⟩
  · rintro ⟨d, h1, h2⟩
    exact ⟨d, List.mem_range.mpr h1, decide_eq_true h2⟩
theorem fl_B_st {H D : Nat} {F T r : Nat → Nat} (L : Nat → Nat) (hv : fl_v H D F T r) : ∀ (n m i : Nat), i < H → 8 ≤ n + r i → 8 ≤ m + r i → fl_B D F T L n i = true → fl_B D F T L m i = true
  | 0, _, i, hi, h1, _, _ => by have := hv.2.2.1 i hi; omega
  | _ + 1, 0, i, hi, _, h2, _ => by have := hv.2.2.1 i hi; omega
  | n + 1, m + 1, i, hi, h1, h2, h3 => by
    rw [fl_B_s] at h3 ⊢
    obtain ⟨d, a1, a2, a3, a4⟩ := h3
    refine ⟨d, a1, a2, a3, ?_⟩
    obtain ⟨b1, b2, b3, b4⟩ := hv.2.2.2 d a1
    rcases b2 with b2 | b2
    · have b4 := b4 (by omega) b2
      rw [a3] at b4
      exact a4.imp id (fl_B_st L hv n m (T d) b2 (by omega) (by omega))
    · exact Or.inl b2
theorem fl_b_eq {H D : Nat} {F T r : Nat → Nat} {L : Nat → Nat} (hv : fl_v H D F T r) {i : Nat} (hi : i < H) : fl_b D F T L i = true ↔ ∃ d, d < D ∧ 0 < L d ∧ F d = i ∧ (T d = 8 ∨ fl_b D F T L (T d) = true) := by
  constructor
  · intro h
    have h := fl_B_st L hv 8 9 i hi (by omega) (by omega) h
    exact (fl_B_s D F T L 8 i).mp h
  · intro h
    exact fl_B_st L hv 9 8 i hi (by omega) (by omega) ((fl_B_s D F T L 8 i).mpr h)
def fl_on (D : Nat) (F T L : Nat → Nat) (d : Nat) : Bool := decide (0 < L d ∧ (T d = 8 ∨ fl_b D F T L (T d) = true))
theorem fl_on_iff {D : Nat} {F T L : Nat → Nat} {d : Nat} : fl_on D F T L d = true ↔ 0 < L d ∧ (T d = 8 ∨ fl_b D F T L (T d) = true) := by
  unfold fl_on; exact decide_eq_true_iff
/-- what a door lets, that may lead to the open -/
def fl_l (D : Nat) (F T L : Nat → Nat) (d : Nat) : Nat := if fl_on D F T L d = true then L d else 0
def fl_tot (D : Nat) (F T L : Nat → Nat) (i : Nat) : Nat := fl_s (fun d => if F d = i then fl_l D F T L d else 0) D
def fl_ba (D : Nat) (F T L : Nat → Nat) (a i d : Nat) : Nat := a * fl_l D F T L d / fl_tot D F T L i
def fl_lf (D : Nat) (F T L : Nat → Nat) (a i : Nat) : Nat := a - fl_s (fun d => if F d = i then fl_ba D F T L a i d else 0) D
def fl_ct (D : Nat) (F T L : Nat → Nat) (i n : Nat) : Nat := fl_s (fun d => if F d = i ∧ fl_on D F T L d = true then 1 else 0) n
def fl_sh (D : Nat) (F T L : Nat → Nat) (a i d : Nat) : Nat := fl_ba D F T L a i d + if fl_on D F T L d = true ∧ fl_ct D F T L i d < fl_lf D F T L a i then 1 else 0
def fl_Q (D : Nat) (F T L : Nat → Nat) : Nat → Nat → Nat
  | 0, _ => 0
  | n + 1, d => if F d = 8 then fl_l D F T L d else fl_sh D F T L (fl_s (fun e => if T e = F d then fl_Q D F T L n e else 0) D) (F d) d
def fl_q (D : Nat) (F T L : Nat → Nat) (d : Nat) : Nat := fl_Q D F T L 9 d
def fl_a (D : Nat) (F T L : Nat → Nat) (i : Nat) : Nat := fl_s (fun e => if T e = i then fl_q D F T L e else 0) D
theorem fl_Q_st {H D : Nat} {F T r : Nat → Nat} (L : Nat → Nat) (hv : fl_v H D F T r) : ∀ (n m d : Nat), d < D → 0 < n → 0 < m → (F d < H → r (F d) + 1 < n ∧ r (F d) + 1 < m) → fl_Q D F T L n d = fl_Q D F T L m d
  | 0, _, _, _, h, _, _ => by omega
  | _ + 1, 0, _, _, _, h, _ => by omega
  | n + 1, m + 1, d, hd, _, _, h => by
    show (if F d = 8 then _ else _) = (if F d = 8 then _ else _)
    obtain ⟨b1, b2, b3, b4⟩ := hv.2.2.2 d hd
    by_cases h8 : F d = 8
    · rw [if_pos h8, if_pos h8]
    · rw [if_neg h8, if_neg h8]
      have hF := b1.resolve_right h8
      have h := h hF
      rw [fl_s_c D (fun e he => ?_)]
      by_cases hT : T e = F d
      · rw [if_pos hT, if_pos hT]
        obtain ⟨c1, c2, c3, c4⟩ := hv.2.2.2 e he
        exact fl_Q_st L hv n m e he (by omega) (by omega) (fun hh => by have := c4 hh (by omega); rw [hT] at this; omega)
      · rw [if_neg hT, if_neg hT]
theorem fl_q_eq {H D : Nat} {F T r : Nat → Nat} {L : Nat → Nat} (hv : fl_v H D F T r) {d : Nat} (hd : d < D) : fl_q D F T L d = if F d = 8 then fl_l D F T L d else fl_sh D F T L (fl_a D F T L (F d)) (F d) d := by
  have h : fl_q D F T L d = fl_Q D F T L 10 d := fl_Q_st L hv 9 10 d hd (by omega) (by omega) (fun hh => by have := hv.2.2.1 _ hh; omega)
  exact h
