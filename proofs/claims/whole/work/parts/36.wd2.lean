/-! ===== the class: later halls; filling a row; a state's beginning ===== -/
theorem am_sub_le {a b : Nat} (ha : a ≤ 99) (hb : b ≤ 99) : ((nI a - nI b ≤ 0) = (a ≤ b)) ∧ ((0 ≤ nI a - nI b) = (b ≤ a)) := by
  have e : (nI a - nI b).toInt = (a : Int) - (b : Int) := by
    rw [Int32.toInt_sub, nI_toInt (by omega), nI_toInt (by omega), Int.bmod_eq_of_le (by omega) (by omega)]
  have z : (0 : Int32).toInt = 0 := by decide
  constructor
  · rw [Int32.le_iff_toInt_le, e, z]
    exact propext ⟨fun h => by omega, fun h => by omega⟩
  · rw [Int32.le_iff_toInt_le, e, z]
    exact propext ⟨fun h => by omega, fun h => by omega⟩
theorem e_X5_isLater {p i k : Nat} {P : sg_P} {u : Bool} {I A : am_F} {G : am_G} (hpp : p = 5 ∨ p = 25) (hv : vp_p P) (hp : cr_p p P I A) (hi : i < P 7 0) (hk : k < P 7 0) : am_e 33 0 [.ref p, .int (nI i), .int (nI k), .int (am_bi u), .null] [] I A G = some (.int (am_bi (pf_lt P u i k)), I, A, G) := by
  have hH := hv.1.2
  have b1 := (hp.2.2.1 i hi).1
  have b2 := (hp.2.2.1 k hk).1
  have c1 := nI_clamp (show i < 2 ^ 31 by omega)
  have x1 := am_ixF (show i < 8 by omega) (show 8 < 2 ^ 31 by omega)
  have c2 := nI_clamp (show k < 2 ^ 31 by omega)
  have x2 := am_ixF (show k < 8 by omega) (show 8 < 2 ^ 31 by omega)
  obtain ⟨g1, g2⟩ := am_sub_le (hv.2.2.1 i hi).1 (hv.2.2.1 k hk).1
  cases u with
  | true =>
    have e : am_e 33 0 [.ref p, .int (nI i), .int (nI k), .int (am_bi true), .null] [] I A G = if P 0 i ≤ P 0 k then some (.int 0, I, A, G) else some (.int 1, I, A, G) := by
      rcases hpp with rfl | rfl <;>
      (simp only [Nat.reduceAdd] at b1 b2
       simp only [s_X5_isLater_0, s_X5_isLater_1_at5, s_X5_isLater_1_at25, s_X5_isLater_4, s_X5_isLater_5, s_X5_isLater_6, s_X5_isLater_7_at5, s_X5_isLater_7_at25, s_X5_isLater_10, s_X5_isLater_11, s_X5_isLater_12, s_X5_isLater_13, s_X5_isLater_15, s_X5_isLater_16, s_X5_isLater_19, s_X5_isLater_21, s_X5_isLater_24, s_X5_isLater_25, s_X5_isLater_28, s_X5_isLater_29, s_X5_isLater_32, s_X5_isLater_34, s_X5_isLater_37, s_X5_isLater_38, s_X5_isLater_41, s_X5_isLater_42, am_len_6, am_len_26, am_bi, b1, b2, c1, x1, c2, x2, g1, if_false, show ((1 : Int32) = 0) = False by decide, am_01_0, am_01_1, true_or, or_true, if_true])
    rw [e, show pf_lt P true i k = decide (P 0 k < P 0 i) from rfl]
    by_cases h : P 0 i ≤ P 0 k
    · rw [if_pos h, decide_eq_false (by omega)]; rfl
    · rw [if_neg h, decide_eq_true (by omega)]; rfl
  | false =>
    have e : am_e 33 0 [.ref p, .int (nI i), .int (nI k), .int (am_bi false), .null] [] I A G = if P 0 k ≤ P 0 i then some (.int 0, I, A, G) else some (.int 1, I, A, G) := by
      rcases hpp with rfl | rfl <;>
      (simp only [Nat.reduceAdd] at b1 b2
       simp only [s_X5_isLater_0, s_X5_isLater_1_at5, s_X5_isLater_1_at25, s_X5_isLater_4, s_X5_isLater_5, s_X5_isLater_6, s_X5_isLater_7_at5, s_X5_isLater_7_at25, s_X5_isLater_10, s_X5_isLater_11, s_X5_isLater_12, s_X5_isLater_13, s_X5_isLater_15, s_X5_isLater_16, s_X5_isLater_19, s_X5_isLater_21, s_X5_isLater_24, s_X5_isLater_25, s_X5_isLater_28, s_X5_isLater_29, s_X5_isLater_32, s_X5_isLater_34, s_X5_isLater_37, s_X5_isLater_38, s_X5_isLater_41, s_X5_isLater_42, am_len_6, am_len_26, am_bi, b1, b2, c1, x1, c2, x2, g2, if_false, am_01_0, am_01_1, true_or, or_true, if_true])
    rw [e, show pf_lt P false i k = decide (P 0 i < P 0 k) from rfl]
    by_cases h : P 0 k ≤ P 0 i
    · rw [if_pos h, decide_eq_false (by omega)]; rfl
    · rw [if_neg h, decide_eq_true (by omega)]; rfl
theorem J7_fill_loop {a n : Nat} {v : Int32} {I : am_F} {G : am_G} (hl : am_len 86 false a = n) (hn : n < 1000) : ∀ (r k : Nat) (A : am_F), k + r = n → ∃ A', am_e 132 5 [.ref a, .int v, .int (nI k), .int (nI n)] [] I A G = some (.null, I, A', G) ∧ (∀ b, b ≠ a → A' b = A b) ∧ ∀ j, A' a j = if k ≤ j ∧ j < n then v else A a j
  | 0, k, A, h => by
    refine ⟨A, ?_, fun b _ => rfl, fun j => by rw [if_neg (by omega)]⟩
    have : k = n := by omega
    subst this
    refine (s_J7_fill_53178_5).trans ?_
    simp only [s_J7_fill_53178_6, s_J7_fill_53178_7, s_J7_fill_53178_20, Int32.le_refl, if_true]
  | r + 1, k, A, h => by
    obtain ⟨A', e1, e2, e3⟩ := J7_fill_loop (v := v) (I := I) (G := G) hl hn r (k + 1) (am_u A a k v) (by omega)
    refine ⟨A', ?_, fun b hb => by rw [e2 b hb, am_u_ne hb], fun j => ?_⟩
    · rw [← e1]
      refine (s_J7_fill_53178_5).trans ?_
      simp only [s_J7_fill_53178_6, s_J7_fill_53178_7, s_J7_fill_53178_10, s_J7_fill_53178_11, s_J7_fill_53178_12, s_J7_fill_53178_13, s_J7_fill_53178_14, s_J7_fill_53178_17, hl, nI_clamp (show k < 2 ^ 31 by omega), am_ixF (show k < n by omega) (by omega), if_false, am_add1]
      rw [if_neg (by rw [nI_leI (by omega) (by omega)]; omega)]
    · rw [e3, am_u_at]
      by_cases h1 : k + 1 ≤ j ∧ j < n
      · rw [if_pos h1, if_pos (by omega)]
      · rw [if_neg h1]
        by_cases h2 : j = k
        · rw [if_pos ⟨rfl, h2⟩, if_pos (by omega)]
        · rw [if_neg (fun q => h2 q.2), if_neg (by omega)]
/-- a row of nine -/
theorem e_J7_fill9 {a : Nat} {v : Int32} {I A : am_F} {G : am_G} (ha : a = 46 ∨ a = 47 ∨ a = 59 ∨ a = 62) : ∃ A', am_e 132 0 [.ref a, .int v, .null, .null] [] I A G = some (.null, I, A', G) ∧ (∀ b, b ≠ a → A' b = A b) ∧ ∀ j, j < 9 → A' a j = v := by
  have hl : am_len 86 false a = 9 := by rcases ha with rfl | rfl | rfl | rfl <;> decide +kernel
  obtain ⟨A', e1, e2, e3⟩ := J7_fill_loop (v := v) (I := I) (G := G) hl (by omega) 9 0 A (by omega)
  refine ⟨A', ?_, e2, fun j hj => by rw [e3, if_pos (by omega)]⟩
  rw [← e1]
  rcases ha with rfl | rfl | rfl | rfl <;> (simp only [s_J7_fill_53178_0, s_J7_fill_53178_1, s_J7_fill_53178_2, s_J7_fill_53178_3_at1, s_J7_fill_53178_3_at3, s_J7_fill_53178_3_at4, s_J7_fill_53178_3_at6, s_J7_fill_53178_3_at7, s_J7_fill_53178_3_at8, s_J7_fill_53178_3_at9, s_J7_fill_53178_3_at10, s_J7_fill_53178_3_at11, s_J7_fill_53178_3_at12, s_J7_fill_53178_3_at14, s_J7_fill_53178_3_at15, s_J7_fill_53178_3_at16, s_J7_fill_53178_3_at17, s_J7_fill_53178_3_at18, s_J7_fill_53178_3_at20, s_J7_fill_53178_3_at21, s_J7_fill_53178_3_at22, s_J7_fill_53178_3_at23, s_J7_fill_53178_3_at24, s_J7_fill_53178_3_at26, s_J7_fill_53178_3_at27, s_J7_fill_53178_3_at28, s_J7_fill_53178_3_at29, s_J7_fill_53178_3_at30, s_J7_fill_53178_3_at31, s_J7_fill_53178_3_at32, s_J7_fill_53178_3_at34, s_J7_fill_53178_3_at35, s_J7_fill_53178_3_at36, s_J7_fill_53178_3_at37, s_J7_fill_53178_3_at38, s_J7_fill_53178_3_at40, s_J7_fill_53178_3_at41, s_J7_fill_53178_3_at42, s_J7_fill_53178_3_at43, s_J7_fill_53178_3_at44, s_J7_fill_53178_3_at46, s_J7_fill_53178_3_at47, s_J7_fill_53178_3_at49, s_J7_fill_53178_3_at50, s_J7_fill_53178_3_at52, s_J7_fill_53178_3_at53, s_J7_fill_53178_3_at55, s_J7_fill_53178_3_at56, s_J7_fill_53178_3_at57, s_J7_fill_53178_3_at59, s_J7_fill_53178_3_at60, s_J7_fill_53178_3_at61, s_J7_fill_53178_3_at62, s_J7_fill_53178_3_at64, s_J7_fill_53178_3_at65, s_J7_fill_53178_3_at66, s_J7_fill_53178_3_at67, s_J7_fill_53178_3_at68, s_J7_fill_53178_3_at70, s_J7_fill_53178_3_at71, s_J7_fill_53178_3_at72, s_J7_fill_53178_3_at73, s_J7_fill_53178_3_at74, s_J7_fill_53178_3_at75, s_J7_fill_53178_3_at76, s_J7_fill_53178_3_at77, s_J7_fill_53178_3_at78, s_J7_fill_53178_3_at79, s_J7_fill_53178_3_at80, s_J7_fill_53178_3_at81, s_J7_fill_53178_3_at82, s_J7_fill_53178_3_at83, s_J7_fill_53178_3_at84, s_J7_fill_53178_3_at85, s_J7_fill_53178_4]; rfl)
theorem e_X4_begin {D : Nat} {I A : am_F} {G : am_G} (hD : D ≤ 10) : ∃ I' A', am_e 24 0 [.ref 45, .int (nI D)] [] I A G = some (.null, I', A', G) ∧ (∀ a j, a ≠ 45 → I' a j = I a j) ∧ (∀ a, a ≠ 46 → A' a = A a) ∧ cr_s 45 (nI (2 ^ D) - 1, 0, 0, fun _ => 0) I' A' := by
  obtain ⟨A', e1, e2, e3⟩ := e_J7_fill9 (a := 46) (v := 0) (I := am_u (am_u (am_u I 45 0 (nI (2 ^ D) - 1)) 45 1 0) 45 2 0) (A := A) (G := G) (by omega)
  refine ⟨am_u (am_u (am_u I 45 0 (nI (2 ^ D) - 1)) 45 1 0) 45 2 0, A', ?_, fun a j ha => by rw [am_u_ne ha, am_u_ne ha, am_u_ne ha], e2, by simp [am_u_at], by simp [am_u_at], by simp [am_u_at]; rfl, fun i hi => e3 i hi⟩
  simp only [s_X4_begin_0, s_X4_begin_1, s_X4_begin_2, s_X4_begin_3, s_X4_begin_4, s_X4_begin_5, s_X4_begin_6_at45, s_X4_begin_6_at48, s_X4_begin_6_at51, s_X4_begin_9, s_X4_begin_10, s_X4_begin_11_at45, s_X4_begin_11_at48, s_X4_begin_11_at51, s_X4_begin_14, s_X4_begin_15, s_X4_begin_16_at45, s_X4_begin_16_at48, s_X4_begin_16_at51, s_X4_begin_19, s_X4_begin_20_at45, s_X4_begin_20_at48, s_X4_begin_20_at51, s_X4_begin_23, s_X4_begin_24, s_X4_begin_27, am_shl1 (show D < 31 by omega), e1, am_k_some, am_push_n]
