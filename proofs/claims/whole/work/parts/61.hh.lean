/-! ===== hours: the class, whole; the model ===== -/
def pf_hn (P : sg_P) (s : sg_S) : Nat → sg_S
  | 0 => s
  | k + 1 => pf_hs P (pf_hn P s k)
theorem pf_hn_f (P : sg_P) (s : sg_S) : ∀ k, (pf_hn P s k).1 = s.1 ∧ (pf_hn P s k).2.1 = s.2.1 ∧ (pf_hn P s k).2.2.1 = s.2.2.1 + k
  | 0 => ⟨rfl, rfl, rfl⟩
  | k + 1 => by
    obtain ⟨h1, h2, h3⟩ := pf_hn_f P s k
    refine ⟨h1, h2, ?_⟩
    show (pf_hn P s k).2.2.1 + 1 = _
    rw [h3]; omega
theorem sv_s.c {P : sg_P} {s s' : sg_S} (h : sv_s P s) (h1 : s'.1 = s.1) (h2 : s'.2.1 = s.2.1) : sv_s P s' := by
  unfold sv_s; rw [h1, h2]; exact h
def pf_su (z : Nat → Int32) : Nat → Int32
  | 0 => 0
  | n + 1 => pf_su z n + z n
theorem pf_out_n (P : sg_P) {h : Nat} (hh : h < 2 ^ 31) : pf_out P (nI h) = if 12 ≤ h % 24 then nI (P 7 5) else nI (P 7 4) := by
  unfold pf_out
  have e : nI h - nI h / 24 * 24 = nI (h % 24) := pk_rem (d := 24) hh (by omega) (by omega)
  rw [e]
  have e2 : ((12 : Int32) ≤ nI (h % 24)) = (12 ≤ h % 24) := propext (nI_leI (a := 12) (by omega) (by omega))
  simp only [e2]
theorem pf_wy_s (P : sg_P) {h : Nat} (hh : h + 1 < 2 ^ 31) (hm : ¬ (h + 1) % 12 = 0) : pf_wy P (nI (h + 1)) = pf_wy P (nI h) := by
  unfold pf_wy
  rw [pf_out_n P hh, pf_out_n P (by omega)]
  by_cases h1 : 12 ≤ h % 24
  · rw [if_pos h1, if_pos (by omega)]
  · rw [if_neg h1, if_neg (by omega)]
theorem X4_sih {N : Nat} {z : Nat → Int32} {I A : am_F} {G : am_G} (hN : N ≤ 8) (h46 : ∀ j, j < 9 → A 46 j = z j) : ∀ (r i : Nat), i + r = N → am_e 28 4 [.ref 45, .int (nI N), .int (pf_su z i), .int (nI i)] [] I A G = some (.int (pf_su z N), I, A, G)
  | 0, i, h => by
    have : i = N := by omega
    subst this
    refine (s_X4_smokeInHalls_4).trans ?_
    simp only [s_X4_smokeInHalls_5, s_X4_smokeInHalls_6, s_X4_smokeInHalls_24, s_X4_smokeInHalls_25, Int32.le_refl, if_true]
  | r + 1, i, h => by
    rw [← X4_sih hN h46 r (i + 1) (by omega)]
    refine (s_X4_smokeInHalls_4).trans ?_
    have hn : (nI N ≤ nI i) = False := eq_false (by rw [nI_leI (by omega) (by omega)]; omega)
    simp only [s_X4_smokeInHalls_5, s_X4_smokeInHalls_6, s_X4_smokeInHalls_9, s_X4_smokeInHalls_10, s_X4_smokeInHalls_11_at45, s_X4_smokeInHalls_11_at48, s_X4_smokeInHalls_11_at51, s_X4_smokeInHalls_14, s_X4_smokeInHalls_15, s_X4_smokeInHalls_16, s_X4_smokeInHalls_17, s_X4_smokeInHalls_18, s_X4_smokeInHalls_21, hn, if_false, am_len_46, nI_clamp (show i < 2 ^ 31 by omega), am_ixF (show i < 9 by omega) (show 9 < 2 ^ 31 by omega), h46 i (by omega), am_add1]
    rfl
theorem e_X4_smokeInHalls {N : Nat} {z : Nat → Int32} {I A : am_F} {G : am_G} (hN : N ≤ 8) (h46 : ∀ j, j < 9 → A 46 j = z j) : am_e 28 0 [.ref 45, .int (nI N), .null, .null] [] I A G = some (.int (pf_su z N), I, A, G) := by
  rw [← X4_sih (I := I) (G := G) hN h46 N 0 (by omega)]
  simp only [s_X4_smokeInHalls_0, s_X4_smokeInHalls_1, s_X4_smokeInHalls_2, s_X4_smokeInHalls_3]
  rfl
theorem X6_hoL {p p' N : Nat} {P : sg_P} {s : sg_S} (hv : vp_p P) (hs : sv_s P s) (hN : N ≤ 99) (hb : s.2.2.1 < 100000) : ∀ (r k : Nat) (I A : am_F) (G : am_G), k + r = N → ck P (pf_hn P s k) p p' I A G → (k ≠ 0 → cb_ok P s.1 s.2.1 (pf_wy P (nI (s.2.2.1 + k - 1))) p A G) → ∃ (I' A' : am_F) (G' : am_G), am_e 47 15 [.ref 0, .int (nI N), .int (nI k)] [] I A G = am_e 47 76 [.ref 0, .int (nI N), .int (nI N)] [] I' A' G' ∧ fr_h I A G I' A' G' ∧ ck P (pf_hn P s N) p p' I' A' G' := by
  intro r
  induction r with
  | zero =>
    intro k I A G hk hc _
    have : k = N := by omega
    subst this
    refine ⟨I, A, G, ?_, fr_h.rf I A G, hc⟩
    refine (s_X6_hours_15).trans ?_
    simp only [s_X6_hours_16, s_X6_hours_17, Int32.le_refl, if_true]
  | succ r ih =>
    intro k I A G hk hc hcb
    obtain ⟨q1, q2, q3⟩ := pf_hn_f P s k
    have hsk : sv_s P (pf_hn P s k) := hs.c q1 q2
    have hpp := hc.1.pp.1
    have hn : (nI N ≤ nI k) = False := eq_false (by rw [nI_leI (by omega) (by omega)]; omega)
    have i2 : I 45 2 = nI (s.2.2.1 + k) := by rw [hc.2.2.2.2.2.1, q3]
    -- the air of this hour
    obtain ⟨A1, G1, e1, f1, c1⟩ : ∃ (A1 : am_F) (G1 : am_G), am_e 47 15 [.ref 0, .int (nI N), .int (nI k)] [] I A G = am_e 47 55 [.ref 0, .int (nI N), .int (nI k)] [] I A1 G1 ∧ fr_c A A1 G G1 ∧ cb_ok P s.1 s.2.1 (pf_wy P (nI (s.2.2.1 + k))) p A1 G1 := by
      have blow : ∃ (A1 : am_F) (G1 : am_G), am_e 67 0 [.ref 0, .int (pf_wy P (nI (s.2.2.1 + k)))] [] I A G = some (.null, I, A1, G1) ∧ fr_c A A1 G G1 ∧ cb_ok P s.1 s.2.1 (pf_wy P (nI (s.2.2.1 + k))) p A1 G1 := by
        have := e_X6_blowNow (w := pf_wy P (nI (s.2.2.1 + k))) hv hsk (pf_way_w _ _) hc
        rw [q1, q2] at this
        exact this
      have hw := @e_X2_wayIn p I A G P (nI (s.2.2.1 + k)) hpp hc.2.1.1
      have hr : nI (s.2.2.1 + k) - nI (s.2.2.1 + k) / 12 * 12 = nI ((s.2.2.1 + k) % 12) := pk_rem (d := 12) (by omega) (by omega) (by omega)
      have h12 : ((12 : Int32) = 0) = False := by decide
      by_cases hk0 : k = 0
      · have hz : (nI k = 0) = True := eq_true (by rw [hk0]; rfl)
        obtain ⟨A1, G1, b1, b2, b3⟩ := blow
        refine ⟨A1, G1, ?_, b2, b3⟩
        refine (s_X6_hours_15).trans ?_
        rcases hpp with rfl | rfl <;> simp only [s_X6_hours_16, s_X6_hours_17, s_X6_hours_20, s_X6_hours_21, s_X6_hours_24, s_X6_hours_25, s_X6_hours_28_at45, s_X6_hours_28_at48, s_X6_hours_28_at51, s_X6_hours_31, s_X6_hours_33, s_X6_hours_34, s_X6_hours_37, s_X6_hours_38, s_X6_hours_39, s_X6_hours_42, s_X6_hours_43, s_X6_hours_46_at45, s_X6_hours_46_at48, s_X6_hours_46_at51, s_X6_hours_49_at5, s_X6_hours_49_at25, s_X6_hours_52, hn, if_false, hz, if_true, hc.1.1, i2, hw, am_k_some, am_push_i, am_push_n, b1]
      · have hz : (nI k = 0) = False := eq_false (nI_ne0 (by omega) (by omega))
        by_cases hm : (s.2.2.1 + k) % 12 = 0
        · have hm0 : (nI ((s.2.2.1 + k) % 12) = 0) = True := eq_true (by rw [hm]; rfl)
          obtain ⟨A1, G1, b1, b2, b3⟩ := blow
          refine ⟨A1, G1, ?_, b2, b3⟩
          refine (s_X6_hours_15).trans ?_
          rcases hpp with rfl | rfl <;> simp only [s_X6_hours_16, s_X6_hours_17, s_X6_hours_20, s_X6_hours_21, s_X6_hours_24, s_X6_hours_25, s_X6_hours_28_at45, s_X6_hours_28_at48, s_X6_hours_28_at51, s_X6_hours_31, s_X6_hours_33, s_X6_hours_34, s_X6_hours_37, s_X6_hours_38, s_X6_hours_39, s_X6_hours_42, s_X6_hours_43, s_X6_hours_46_at45, s_X6_hours_46_at48, s_X6_hours_46_at51, s_X6_hours_49_at5, s_X6_hours_49_at25, s_X6_hours_52, hn, if_false, hz, h12, hr, hm0, if_true, hc.1.1, i2, hw, am_k_some, am_push_i, am_push_n, b1]
        · have hm0 : (nI ((s.2.2.1 + k) % 12) = 0) = False := eq_false (nI_ne0 (by omega) (by omega))
          refine ⟨A, G, ?_, fr_c.rf A G, ?_⟩
          · refine (s_X6_hours_15).trans ?_
            rcases hpp with rfl | rfl <;> simp only [s_X6_hours_16, s_X6_hours_17, s_X6_hours_20, s_X6_hours_21, s_X6_hours_24, s_X6_hours_25, s_X6_hours_28_at45, s_X6_hours_28_at48, s_X6_hours_28_at51, s_X6_hours_31, s_X6_hours_33, s_X6_hours_34, s_X6_hours_37, s_X6_hours_38, s_X6_hours_39, s_X6_hours_42, s_X6_hours_43, s_X6_hours_46_at45, s_X6_hours_46_at48, s_X6_hours_46_at51, s_X6_hours_49_at5, s_X6_hours_49_at25, s_X6_hours_52, hn, if_false, hz, h12, hr, hm0, i2]
          · have := hcb hk0
            rw [show s.2.2.1 + k = (s.2.2.1 + k - 1) + 1 by omega, pf_wy_s P (by omega) (by rw [show s.2.2.1 + k - 1 + 1 = s.2.2.1 + k by omega]; exact hm)]
            exact this
    have hc1 := hc.fr f1
    obtain ⟨I2, A2, b1, b2, b3, b4⟩ := e_X4_passHour hv hc1 (by rw [q1, q2, q3]; exact c1)
    have hc2 : ck P (pf_hn P s (k + 1)) p p' I2 A2 G1 := hc1.fh b2 b4
    obtain ⟨I', A', G', k1, k2, k3⟩ := ih (k + 1) I2 A2 G1 (by omega) hc2 (fun _ => by
      rw [show s.2.2.1 + (k + 1) - 1 = s.2.2.1 + k by omega]
      exact ⟨c1.1, fun i hi => by rw [b3 59 (by omega) (by omega)]; exact c1.2.1 i hi, fun d hd => by rw [b3 60 (by omega) (by omega)]; exact c1.2.2 d hd⟩)
    refine ⟨I', A', G', ?_, (f1.h (I := I)).tr (b2.tr k2), k3⟩
    rw [e1, ← k1]
    have g3 : G1 0 3 = p := hc1.1.1
    rcases hpp with rfl | rfl <;> simp only [s_X6_hours_55, s_X6_hours_56, s_X6_hours_59, s_X6_hours_60, s_X6_hours_63, s_X6_hours_64, s_X6_hours_67_at45, s_X6_hours_67_at48, s_X6_hours_67_at51, s_X6_hours_70, s_X6_hours_73, g3, b1, am_k_some, am_push_n, am_add1]
abbrev pf_n99 (n : Int32) : Prop := 1 ≤ n ∧ n ≤ 99
theorem am_n99 {n : Int32} : pf_n99 n ↔ ∃ j : Nat, 1 ≤ j ∧ j ≤ 99 ∧ n = nI j := by
  constructor
  · rintro ⟨h1, h2⟩
    have h0 : 0 ≤ n := Int32.le_trans (by decide) h1
    obtain ⟨j, hj, rfl⟩ := (am_rngK 99 rfl (by omega)).mp ⟨h0, h2⟩
    refine ⟨j, ?_, hj, rfl⟩
    have := (nI_leI (a := 1) (by omega) (by omega)).mp h1
    exact this
  · rintro ⟨j, h1, h2, rfl⟩
    exact ⟨(nI_leI (a := 1) (by omega) (by omega)).mpr h1, (nI_leI (b := 99) (by omega) (by omega)).mpr h2⟩
def pf_hv (P : sg_P) (s : sg_S) (n : Int32) : Int32 := if pf_n99 n then pf_su (pf_hn P s n.toNatClampNeg).2.2.2 (P 7 0) else -1
def pf_hst (P : sg_P) (s : sg_S) (n : Int32) : sg_S := if pf_n99 n then pf_hn P s n.toNatClampNeg else s
theorem e_X6_hours {p p' : Nat} {P : sg_P} {s : sg_S} {n : Int32} {I A : am_F} {G : am_G} (hv : vp_p P) (hs : sv_s P s) (hb : s.2.2.1 < 100000) (hc : ck P s p p' I A G) : ∃ (I' A' : am_F) (G' : am_G), am_e 47 0 [.ref 0, .int n, .null] [] I A G = some (.int (pf_hv P s n), I', A', G') ∧ fr_h I A G I' A' G' ∧ ck P (pf_hst P s n) p p' I' A' G' := by
  have hH := hv.1.2
  unfold pf_hv pf_hst
  by_cases hn : pf_n99 n
  · rw [if_pos hn, if_pos hn]
    obtain ⟨N, h1, h2, rfl⟩ := am_n99.mp hn
    obtain ⟨I', A', G', k1, k2, k3⟩ := X6_hoL hv hs h2 hb N 0 I A G (by omega) hc (fun q => absurd rfl q)
    rw [nI_clamp (show N < 2 ^ 31 by omega)]
    refine ⟨I', A', G', ?_, k2, k3⟩
    have n1 : (nI N < 1) = False := eq_false (by rw [show (1 : Int32) = nI 1 from rfl, nI_ltI (by omega) (by omega)]; omega)
    have n2 : (nI N ≤ 99) = True := eq_true (by rw [show (99 : Int32) = nI 99 from rfl, nI_leI (by omega) (by omega)]; omega)
    have e0 : am_e 47 0 [.ref 0, .int (nI N), .null] [] I A G = am_e 47 15 [.ref 0, .int (nI N), .int (nI 0)] [] I A G := by
      simp only [s_X6_hours_0, s_X6_hours_1, s_X6_hours_2, s_X6_hours_5, s_X6_hours_6, s_X6_hours_8, s_X6_hours_11, s_X6_hours_12, s_X6_hours_13, s_X6_hours_14, n1, n2, if_false, if_true]; rfl
    rw [e0, k1]
    have hsi := @e_X4_smokeInHalls (P 7 0) (pf_hn P s N).2.2.2 I' A' G' hH k3.2.2.2.2.2.2
    have q9 := k3.2.1.1.1
    rcases k3.1.pp.1 with rfl | rfl <;> simp only [s_X6_hours_76, s_X6_hours_77, s_X6_hours_80, s_X6_hours_81, s_X6_hours_84_at5, s_X6_hours_84_at25, s_X6_hours_87_at45, s_X6_hours_87_at48, s_X6_hours_87_at51, s_X6_hours_90, k3.1.1, q9, hsi, am_k_some, am_push_i]
  · rw [if_neg hn, if_neg hn]
    refine ⟨I, A, G, ?_, fr_h.rf I A G, hc⟩
    by_cases h1 : n < 1
    · simp only [s_X6_hours_0, s_X6_hours_1, s_X6_hours_2, s_X6_hours_5, s_X6_hours_6, s_X6_hours_8, s_X6_hours_11, s_X6_hours_12, h1, if_true]
    · have h2 : ¬ n ≤ 99 := fun q => hn ⟨Int32.not_lt.mp h1, q⟩
      simp only [s_X6_hours_0, s_X6_hours_1, s_X6_hours_2, s_X6_hours_5, s_X6_hours_6, s_X6_hours_8, s_X6_hours_11, s_X6_hours_12, h1, h2, if_false]
/-! the model -/
theorem am_as (x m g : Int32) : x + m - g = x + (m - g) := by
  rw [Int32.sub_eq_add_neg, Int32.sub_eq_add_neg, Int32.add_assoc]
theorem X7_gh1 {P : sg_P} {z : Nat → Int32} {I : am_F} {G : am_G} (hv : vp_p P) (hI : I 69 9 = nI (P 7 0)) : ∀ (r i : Nat) (A : am_F), i + r = P 7 0 → (∀ i, i < P 7 0 → A 74 (3 * i + 1) = nI (P 1 i)) → (∀ j, j < 8 → A 77 j = if j < i then z j + nI (P 1 j) else z j) → (∀ j, j < i → A 85 j = z j + nI (P 1 j)) → ∃ A' : am_F, am_e 113 10 [.ref 69, .int (nI i), .null] [] I A G = am_e 113 55 [.ref 69, .int (nI (P 7 0)), .null] [] I A' G ∧ (∀ b, b ≠ 77 → b ≠ 85 → A' b = A b) ∧ (∀ j, j < 8 → A' 77 j = pf_s1 P z j) ∧ ∀ j, j < P 7 0 → A' 85 j = pf_s1 P z j := by
  have hH := hv.1.2
  intro r
  induction r with
  | zero =>
    intro i A hi h74 h77 h85
    have : i = P 7 0 := by omega
    subst this
    refine ⟨A, ?_, fun b _ _ => rfl, h77, fun j hj => by rw [h85 j hj]; unfold pf_s1; rw [if_pos hj]⟩
    refine (s_X7_goHour_10).trans ?_
    simp only [s_X7_goHour_11, s_X7_goHour_12, s_X7_goHour_15, hI, Int32.le_refl, if_true]
  | succ r ih =>
    intro i A hi h74 h77 h85
    have b2 := h74 i (by omega)
    have zA := h77 i (by omega)
    rw [if_neg (by omega)] at zA
    have ci := nI_clamp (show i < 2 ^ 31 by omega)
    have x8 := am_ixF (show i < 8 by omega) (show 8 < 2 ^ 31 by omega)
    have c3 := nI_clamp (show 3 * i + 1 < 2 ^ 31 by omega)
    have x3 := am_ixF (show 3 * i + 1 < 24 by omega) (show 24 < 2 ^ 31 by omega)
    have hn : (nI (P 7 0) ≤ nI i) = False := eq_false (by rw [nI_leI (by omega) (by omega)]; omega)
    generalize hA1 : am_u (am_u A 77 i (z i + nI (P 1 i))) 85 i (z i + nI (P 1 i)) = A1
    have fr : ∀ b, b ≠ 77 → b ≠ 85 → A1 b = A b := fun b q1 q2 => by rw [← hA1, am_u_ne q2, am_u_ne q1]
    obtain ⟨A', f1, f2, f3, f4⟩ := ih (i + 1) A1 (by omega) (fun j hj => by rw [fr 74 (by omega) (by omega)]; exact h74 j hj) (fun j hj => by
      rw [← hA1, am_u_at, if_neg (by omega), am_u_at]
      by_cases hji : j = i
      · rw [if_pos ⟨rfl, hji⟩, hji, if_pos (by omega)]
      · rw [if_neg (fun q => hji q.2), h77 j hj]
        by_cases q : j < i
        · rw [if_pos q, if_pos (by omega)]
        · rw [if_neg q, if_neg (by omega)]) (fun j hj => by
      rw [← hA1, am_u_at]
      by_cases hji : j = i
      · rw [if_pos ⟨rfl, hji⟩, hji]
      · rw [if_neg (fun q => hji q.2), am_u_at, if_neg (by omega)]
        exact h85 j (by omega))
    refine ⟨A', ?_, fun b q1 q2 => by rw [f2 b q1 q2, fr b q1 q2], f3, f4⟩
    rw [← f1]
    refine (s_X7_goHour_10).trans ?_
    have e13 : nI (3 * i) + 1 = nI (3 * i + 1) := am_add1
    simp only [s_X7_goHour_11, s_X7_goHour_12, s_X7_goHour_15, s_X7_goHour_18, s_X7_goHour_19, s_X7_goHour_22, s_X7_goHour_23, s_X7_goHour_24, s_X7_goHour_25, s_X7_goHour_26, s_X7_goHour_29, s_X7_goHour_30, s_X7_goHour_31, s_X7_goHour_32, s_X7_goHour_33, s_X7_goHour_34, s_X7_goHour_35, s_X7_goHour_36, s_X7_goHour_37, s_X7_goHour_38, s_X7_goHour_41, s_X7_goHour_42, s_X7_goHour_43, s_X7_goHour_46, s_X7_goHour_47, s_X7_goHour_48, s_X7_goHour_49, s_X7_goHour_52, hI, hn, if_false, am_len_74, am_len_77, am_len_85, ci, x8, am_mul3, am_add1, c3, x3, b2, zA, am_u_eq, hA1]
/-- what the model's hours leave as it is -/
def fr_g (I A I' A' : am_F) : Prop := (∀ a j, ¬ (a = 69 ∧ (j = 17 ∨ j = 18 ∨ j = 23 ∨ j = 24 ∨ j = 25 ∨ j = 26)) → I' a j = I a j) ∧ ∀ b, ¬ (b = 77 ∨ b = 85 ∨ (80 ≤ b ∧ b ≤ 84)) → A' b = A b
theorem fr_g.rf (I A : am_F) : fr_g I A I A := ⟨fun _ _ _ => rfl, fun _ _ => rfl⟩
theorem fr_g.tr {I A I' A' I'' A'' : am_F} (h1 : fr_g I A I' A') (h2 : fr_g I' A' I'' A'') : fr_g I A I'' A'' := ⟨fun a j h => by rw [h2.1 a j h, h1.1 a j h], fun b hb => by rw [h2.2 b hb, h1.2 b hb]⟩
theorem fr_a.g {I A I' A' : am_F} (h : fr_a I A I' A') : fr_g I A I' A' := ⟨fun a j q => h.1 a j (by omega), fun b q => h.2 b (by omega)⟩
theorem X7_gh2 {H D : Nat} {F T L q a r : Nat → Nat} {z z8 g : Nat → Int32} {G : am_G} (hv : fl_v H D F T r) (ha : ∀ i, i < H → a i ≤ 500) (hq : ∀ d, d < D → q d ≤ 500) (hg : ∀ d, d < D → g d = pf_cb (z (F d)) (q d) (a (F d))) : ∀ (s d : Nat) (l2 : Value) (I A : am_F), d + s = D → I 69 10 = nI D → mw_ok D F T L A → (∀ i, i < H → A 80 i = nI (a i)) → (∀ d, d < D → A 81 d = nI (q d)) → (∀ j, j < H → A 85 j = z j) → (∀ j, j < 8 → A 77 j = z j + pf_mo F T g d j) → I 69 17 = z 8 + pf_mo F T g d 8 → ∃ (I' A' : am_F) (l2' : Value), am_e 113 57 [.ref 69, .int (nI d), l2] [] I A G = am_e 113 195 [.ref 69, .int (nI D), l2'] [] I' A' G ∧ (∀ b, b ≠ 77 → A' b = A b) ∧ (∀ c j, ¬ (c = 69 ∧ j = 17) → I' c j = I c j) ∧ (∀ j, j < 8 → A' 77 j = z j + pf_mo F T g D j) ∧ I' 69 17 = z 8 + pf_mo F T g D 8 := by
  have hH := hv.1
  have hD := hv.2.1
  intro s
  induction s with
  | zero =>
    intro d l2 I A hd hI hw h80 h81 h85 h77 h17
    have : d = D := by omega
    subst this
    refine ⟨I, A, l2, ?_, fun b _ => rfl, fun _ _ _ => rfl, h77, h17⟩
    refine (s_X7_goHour_57).trans ?_
    simp only [s_X7_goHour_58, s_X7_goHour_59, s_X7_goHour_62, hI, Int32.le_refl, if_true]
  | succ s ih =>
    intro d l2 I A hd hI hw h80 h81 h85 h77 h17
    have hdl : d < D := by omega
    obtain ⟨b1, b2, b3, b4⟩ := hv.2.2.2 d hdl
    obtain ⟨lA, fA, tA⟩ := hw d hdl
    have qA := h81 d hdl
    have hq5 := hq d hdl
    have cd := nI_clamp (show d < 2 ^ 31 by omega)
    have xd := am_ixF (show d < 11 by omega) (show 11 < 2 ^ 31 by omega)
    have hn : (nI D ≤ nI d) = False := eq_false (by rw [nI_leI (by omega) (by omega)]; omega)
    have f4 := mN_m4 (k := F d) (by omega)
    have t4 := mN_m4 (k := T d) (by omega)
    have hq0 := am_nle0 (n := q d) (by omega)
    have em : ∀ j, pf_mo F T g (d + 1) j = pf_mo F T g d j - (if F d ≠ 8 ∧ F d = j then g d else 0) + (if F d ≠ 8 ∧ T d = j then g d else 0) := fun j => rfl
    by_cases hc : F d ≠ 8 ∧ q d ≠ 0
    · obtain ⟨hF, hqn⟩ := hc
      have f4 := f4.trans (eq_false hF)
      rw [mN_n hF] at fA f4
      have hFH := b1.resolve_right hF
      have hq0 := hq0.trans (eq_false hqn)
      have aA := h80 (F d) hFH
      have zA := h85 (F d) hFH
      have cF := nI_clamp (show F d < 2 ^ 31 by omega)
      have xF := am_ixF (show F d < 8 by omega) (show 8 < 2 ^ 31 by omega)
      have e20 : nI (a (F d)) + 20 = nI (a (F d) + 20) := nI_add _ 20
      have ha5 := ha _ hFH
      have hne : ((nI (a (F d) + 20)).toInt64 = 0) = False := eq_false (by
        rw [nI_l (by omega), show (0 : Int64) = lN 0 from rfl, lN_eq (by omega) (by omega)]; omega)
      have hgd : ((z (F d)).toInt64 * (nI (q d)).toInt64 / (nI (a (F d) + 20)).toInt64).toInt32 = g d := (hg d hdl).symm
      have hTF := fl_T_F hv hdl
      by_cases ht : T d = 8
      · have t4 := t4.trans (eq_true ht)
        generalize hA1 : am_u A 77 (F d) (A 77 (F d) - g d) = A1
        generalize hI1 : am_u I 69 17 (I 69 17 + g d) = I1
        have fr : ∀ b, b ≠ 77 → A1 b = A b := fun b hb => by rw [← hA1, am_u_ne hb]
        have fi : ∀ c j, ¬ (c = 69 ∧ j = 17) → I1 c j = I c j := fun c j h => by rw [← hI1, am_u_at, if_neg h]
        have tA1 : A1 84 d = mN (T d) := by rw [fr 84 (by omega)]; exact tA
        obtain ⟨I', A', l2', f1, f2, f3, f5, f6⟩ := ih (d + 1) (.int (g d)) I1 A1 (by omega) (by rw [fi _ _ (by omega)]; exact hI) (hw.fr (fr _ (by omega)) (fr _ (by omega)) (fr _ (by omega))) (fun i hi => by rw [fr _ (by omega)]; exact h80 i hi) (fun e he => by rw [fr _ (by omega)]; exact h81 e he) (fun j hj => by rw [fr _ (by omega)]; exact h85 j hj) (fun j hj => by
          rw [← hA1, am_u_at, em, if_neg (show ¬ (F d ≠ 8 ∧ T d = j) by omega), Int32.add_zero]
          by_cases hjF : j = F d
          · rw [if_pos ⟨rfl, hjF⟩, if_pos ⟨hF, hjF.symm⟩, ← hjF, h77 j hj, am_as]
          · rw [if_neg (fun w => hjF w.2), if_neg (fun w => hjF w.2.symm), Int32.sub_zero]; exact h77 j hj) (by
          rw [← hI1, am_u_eq, em, if_neg (show ¬ (F d ≠ 8 ∧ F d = 8) from fun w => w.1 w.2), if_pos ⟨hF, ht⟩, Int32.sub_zero, h17, Int32.add_assoc])
        refine ⟨I', A', l2', ?_, fun b hb => by rw [f2 b hb, fr b hb], fun c j h => by rw [f3 c j h, fi c j h], f5, f6⟩
        rw [← f1]
        refine (s_X7_goHour_57).trans ?_
        simp only [s_X7_goHour_58, s_X7_goHour_59, s_X7_goHour_62, s_X7_goHour_65, s_X7_goHour_66, s_X7_goHour_69, s_X7_goHour_70, s_X7_goHour_71, s_X7_goHour_73, s_X7_goHour_76, s_X7_goHour_77, s_X7_goHour_80, s_X7_goHour_81, s_X7_goHour_82, s_X7_goHour_85, s_X7_goHour_86, s_X7_goHour_89, s_X7_goHour_90, s_X7_goHour_93, s_X7_goHour_94, s_X7_goHour_95, s_X7_goHour_96, s_X7_goHour_97, s_X7_goHour_98, s_X7_goHour_101, s_X7_goHour_102, s_X7_goHour_103, s_X7_goHour_104, s_X7_goHour_105, s_X7_goHour_106, s_X7_goHour_109, s_X7_goHour_110, s_X7_goHour_113, s_X7_goHour_114, s_X7_goHour_115, s_X7_goHour_116, s_X7_goHour_118, s_X7_goHour_119, s_X7_goHour_120, s_X7_goHour_121, s_X7_goHour_122, s_X7_goHour_123, s_X7_goHour_124, s_X7_goHour_127, s_X7_goHour_128, s_X7_goHour_131, s_X7_goHour_132, s_X7_goHour_133, s_X7_goHour_134, s_X7_goHour_135, s_X7_goHour_136, s_X7_goHour_137, s_X7_goHour_138, s_X7_goHour_139, s_X7_goHour_140, s_X7_goHour_143, s_X7_goHour_144, s_X7_goHour_147, s_X7_goHour_148, s_X7_goHour_149, s_X7_goHour_151, s_X7_goHour_154, s_X7_goHour_155, s_X7_goHour_158, s_X7_goHour_159, s_X7_goHour_160, s_X7_goHour_163, s_X7_goHour_164, s_X7_goHour_167, s_X7_goHour_168, s_X7_goHour_169, s_X7_goHour_171, s_X7_goHour_174, s_X7_goHour_175, s_X7_goHour_178, s_X7_goHour_179, s_X7_goHour_182, s_X7_goHour_183, s_X7_goHour_184, s_X7_goHour_185, s_X7_goHour_186, s_X7_goHour_187, s_X7_goHour_188, s_X7_goHour_189, s_X7_goHour_192, hI, hn, if_false, am_len_77, am_len_80, am_len_81, am_len_83, am_len_84, am_len_85, cd, xd, fA, f4, qA, hq0, cF, xF, zA, aA, e20, hne, hgd, hA1, tA1, t4, if_true, hI1, am_add1]
      · have t4 := t4.trans (eq_false ht)
        rw [mN_n ht] at tA t4
        have hTH := b2.resolve_right ht
        have cT := nI_clamp (show T d < 2 ^ 31 by omega)
        have xT := am_ixF (show T d < 8 by omega) (show 8 < 2 ^ 31 by omega)
        generalize hA0 : am_u A 77 (F d) (A 77 (F d) - g d) = A0
        have tA0 : A0 84 d = nI (T d) := by rw [← hA0, am_u_ne (by omega)]; exact tA
        have t77 : A0 77 (T d) = A 77 (T d) := by rw [← hA0, am_u_at, if_neg (fun w => hTF w.2)]
        generalize hA1 : am_u A0 77 (T d) (A 77 (T d) + g d) = A1
        have hi17 : am_u I 69 17 (I 69 17 + 0) = I := by
          funext c j
          rw [am_u_at]
          by_cases w : c = 69 ∧ j = 17
          · rw [if_pos w, w.1, w.2, Int32.add_zero]
          · rw [if_neg w]
        have fr : ∀ b, b ≠ 77 → A1 b = A b := fun b hb => by rw [← hA1, am_u_ne hb, ← hA0, am_u_ne hb]
        obtain ⟨I', A', l2', f1, f2, f3, f5, f6⟩ := ih (d + 1) (.int (g d)) I A1 (by omega) hI (hw.fr (fr _ (by omega)) (fr _ (by omega)) (fr _ (by omega))) (fun i hi => by rw [fr _ (by omega)]; exact h80 i hi) (fun e he => by rw [fr _ (by omega)]; exact h81 e he) (fun j hj => by rw [fr _ (by omega)]; exact h85 j hj) (fun j hj => by
          rw [← hA1, am_u_at, em]
          by_cases hjT : j = T d
          · rw [if_pos ⟨rfl, hjT⟩, if_neg (show ¬ (F d ≠ 8 ∧ F d = j) by omega), if_pos ⟨hF, hjT.symm⟩, Int32.sub_zero, ← hjT, h77 j hj, Int32.add_assoc]
          · rw [if_neg (fun w => hjT w.2), if_neg (show ¬ (F d ≠ 8 ∧ T d = j) from fun w => hjT w.2.symm), Int32.add_zero, ← hA0, am_u_at]
            by_cases hjF : j = F d
            · rw [if_pos ⟨rfl, hjF⟩, if_pos ⟨hF, hjF.symm⟩, ← hjF, h77 j hj, am_as]
            · rw [if_neg (fun w => hjF w.2), if_neg (fun w => hjF w.2.symm), Int32.sub_zero]; exact h77 j hj) (by
          rw [em, if_neg (show ¬ (F d ≠ 8 ∧ F d = 8) from fun w => w.1 w.2), if_neg (show ¬ (F d ≠ 8 ∧ T d = 8) from fun w => ht w.2), Int32.sub_zero, Int32.add_zero]; exact h17)
        refine ⟨I', A', l2', ?_, fun b hb => by rw [f2 b hb, fr b hb], f3, f5, f6⟩
        rw [← f1]
        refine (s_X7_goHour_57).trans ?_
        simp only [s_X7_goHour_58, s_X7_goHour_59, s_X7_goHour_62, s_X7_goHour_65, s_X7_goHour_66, s_X7_goHour_69, s_X7_goHour_70, s_X7_goHour_71, s_X7_goHour_73, s_X7_goHour_76, s_X7_goHour_77, s_X7_goHour_80, s_X7_goHour_81, s_X7_goHour_82, s_X7_goHour_85, s_X7_goHour_86, s_X7_goHour_89, s_X7_goHour_90, s_X7_goHour_93, s_X7_goHour_94, s_X7_goHour_95, s_X7_goHour_96, s_X7_goHour_97, s_X7_goHour_98, s_X7_goHour_101, s_X7_goHour_102, s_X7_goHour_103, s_X7_goHour_104, s_X7_goHour_105, s_X7_goHour_106, s_X7_goHour_109, s_X7_goHour_110, s_X7_goHour_113, s_X7_goHour_114, s_X7_goHour_115, s_X7_goHour_116, s_X7_goHour_118, s_X7_goHour_119, s_X7_goHour_120, s_X7_goHour_121, s_X7_goHour_122, s_X7_goHour_123, s_X7_goHour_124, s_X7_goHour_127, s_X7_goHour_128, s_X7_goHour_131, s_X7_goHour_132, s_X7_goHour_133, s_X7_goHour_134, s_X7_goHour_135, s_X7_goHour_136, s_X7_goHour_137, s_X7_goHour_138, s_X7_goHour_139, s_X7_goHour_140, s_X7_goHour_143, s_X7_goHour_144, s_X7_goHour_147, s_X7_goHour_148, s_X7_goHour_149, s_X7_goHour_151, s_X7_goHour_154, s_X7_goHour_155, s_X7_goHour_158, s_X7_goHour_159, s_X7_goHour_160, s_X7_goHour_163, s_X7_goHour_164, s_X7_goHour_167, s_X7_goHour_168, s_X7_goHour_169, s_X7_goHour_171, s_X7_goHour_174, s_X7_goHour_175, s_X7_goHour_178, s_X7_goHour_179, s_X7_goHour_182, s_X7_goHour_183, s_X7_goHour_184, s_X7_goHour_185, s_X7_goHour_186, s_X7_goHour_187, s_X7_goHour_188, s_X7_goHour_189, s_X7_goHour_192, hI, hn, if_false, am_len_77, am_len_80, am_len_81, am_len_83, am_len_84, am_len_85, cd, xd, fA, f4, qA, hq0, cF, xF, zA, aA, e20, hne, hgd, hA0, tA0, t4, hi17, cT, xT, t77, hA1, am_add1]
    · have same : ∀ j, pf_mo F T g (d + 1) j = pf_mo F T g d j := fun j => by
        rw [em]
        by_cases hF : F d = 8
        · rw [if_neg (fun w => w.1 hF), if_neg (fun w => w.1 hF), Int32.sub_zero, Int32.add_zero]
        · have hz : q d = 0 := Classical.byContradiction fun w => hc ⟨hF, w⟩
          have : g d = 0 := by rw [hg d hdl, hz]; exact pf_cb_0 _ _
          rw [this]
          simp
      obtain ⟨I', A', l2', f1, f2, f3, f5, f6⟩ := ih (d + 1) l2 I A (by omega) hI hw h80 h81 h85 (fun j hj => by rw [same]; exact h77 j hj) (by rw [same]; exact h17)
      refine ⟨I', A', l2', ?_, f2, f3, f5, f6⟩
      rw [← f1]
      refine (s_X7_goHour_57).trans ?_
      by_cases hF : F d = 8
      · have f4 := f4.trans (eq_true hF)
        simp only [s_X7_goHour_58, s_X7_goHour_59, s_X7_goHour_62, s_X7_goHour_65, s_X7_goHour_66, s_X7_goHour_69, s_X7_goHour_70, s_X7_goHour_71, s_X7_goHour_73, s_X7_goHour_76, s_X7_goHour_77, s_X7_goHour_80, s_X7_goHour_81, s_X7_goHour_82, s_X7_goHour_85, s_X7_goHour_86, s_X7_goHour_89, s_X7_goHour_90, s_X7_goHour_93, s_X7_goHour_94, s_X7_goHour_95, s_X7_goHour_96, s_X7_goHour_97, s_X7_goHour_98, s_X7_goHour_101, s_X7_goHour_102, s_X7_goHour_103, s_X7_goHour_104, s_X7_goHour_105, s_X7_goHour_106, s_X7_goHour_109, s_X7_goHour_110, s_X7_goHour_113, s_X7_goHour_114, s_X7_goHour_115, s_X7_goHour_116, s_X7_goHour_118, s_X7_goHour_119, s_X7_goHour_120, s_X7_goHour_121, s_X7_goHour_122, s_X7_goHour_123, s_X7_goHour_124, s_X7_goHour_127, s_X7_goHour_128, s_X7_goHour_131, s_X7_goHour_132, s_X7_goHour_133, s_X7_goHour_134, s_X7_goHour_135, s_X7_goHour_136, s_X7_goHour_137, s_X7_goHour_138, s_X7_goHour_139, s_X7_goHour_140, s_X7_goHour_143, s_X7_goHour_144, s_X7_goHour_147, s_X7_goHour_148, s_X7_goHour_149, s_X7_goHour_151, s_X7_goHour_154, s_X7_goHour_155, s_X7_goHour_158, s_X7_goHour_159, s_X7_goHour_160, s_X7_goHour_163, s_X7_goHour_164, s_X7_goHour_167, s_X7_goHour_168, s_X7_goHour_169, s_X7_goHour_171, s_X7_goHour_174, s_X7_goHour_175, s_X7_goHour_178, s_X7_goHour_179, s_X7_goHour_182, s_X7_goHour_183, s_X7_goHour_184, s_X7_goHour_185, s_X7_goHour_186, s_X7_goHour_187, s_X7_goHour_188, s_X7_goHour_189, s_X7_goHour_192, hI, hn, if_false, am_len_81, am_len_83, cd, xd, fA, f4, if_true, am_add1]
      · have f4 := f4.trans (eq_false hF)
        have hz : q d = 0 := Classical.byContradiction fun w => hc ⟨hF, w⟩
        have hq0 := hq0.trans (eq_true hz)
        simp only [s_X7_goHour_58, s_X7_goHour_59, s_X7_goHour_62, s_X7_goHour_65, s_X7_goHour_66, s_X7_goHour_69, s_X7_goHour_70, s_X7_goHour_71, s_X7_goHour_73, s_X7_goHour_76, s_X7_goHour_77, s_X7_goHour_80, s_X7_goHour_81, s_X7_goHour_82, s_X7_goHour_85, s_X7_goHour_86, s_X7_goHour_89, s_X7_goHour_90, s_X7_goHour_93, s_X7_goHour_94, s_X7_goHour_95, s_X7_goHour_96, s_X7_goHour_97, s_X7_goHour_98, s_X7_goHour_101, s_X7_goHour_102, s_X7_goHour_103, s_X7_goHour_104, s_X7_goHour_105, s_X7_goHour_106, s_X7_goHour_109, s_X7_goHour_110, s_X7_goHour_113, s_X7_goHour_114, s_X7_goHour_115, s_X7_goHour_116, s_X7_goHour_118, s_X7_goHour_119, s_X7_goHour_120, s_X7_goHour_121, s_X7_goHour_122, s_X7_goHour_123, s_X7_goHour_124, s_X7_goHour_127, s_X7_goHour_128, s_X7_goHour_131, s_X7_goHour_132, s_X7_goHour_133, s_X7_goHour_134, s_X7_goHour_135, s_X7_goHour_136, s_X7_goHour_137, s_X7_goHour_138, s_X7_goHour_139, s_X7_goHour_140, s_X7_goHour_143, s_X7_goHour_144, s_X7_goHour_147, s_X7_goHour_148, s_X7_goHour_149, s_X7_goHour_151, s_X7_goHour_154, s_X7_goHour_155, s_X7_goHour_158, s_X7_goHour_159, s_X7_goHour_160, s_X7_goHour_163, s_X7_goHour_164, s_X7_goHour_167, s_X7_goHour_168, s_X7_goHour_169, s_X7_goHour_171, s_X7_goHour_174, s_X7_goHour_175, s_X7_goHour_178, s_X7_goHour_179, s_X7_goHour_182, s_X7_goHour_183, s_X7_goHour_184, s_X7_goHour_185, s_X7_goHour_186, s_X7_goHour_187, s_X7_goHour_188, s_X7_goHour_189, s_X7_goHour_192, hI, hn, if_false, am_len_81, am_len_83, cd, xd, fA, f4, qA, hq0, if_true, am_add1]
theorem e_X7_goHour {P : sg_P} {s : sg_S} {I A : am_F} {G : am_G} (hv : vp_p P) (hm : mk P s I A) : ∃ I' A' : am_F, am_e 113 0 [.ref 69, .null, .null] [] I A G = some (.null, I', A', G) ∧ fr_g I A I' A' ∧ mk P (pf_hs P s) I' A' := by
  have hH := hv.1.2
  have h18 := hm.2.2.2.1
  obtain ⟨I1, A1, f1, f2, f3, f4⟩ := now_m (t := nI s.2.2.1) (G := G) hv hm
  have hm1 := hm.fr f2
  obtain ⟨A2, a1, a2, a3, a4⟩ := X7_gh1 (z := s.2.2.2) (I := I1) (G := G) hv hm1.1.1 (P 7 0) 0 A1 (by omega) (fun i hi => (hm1.1.2.2.1 i hi).2.1) (fun j hj => by rw [if_neg (by omega)]; exact hm1.2.2.2.2.2 j hj) (fun j hj => by omega)
  have fr2 : ∀ b, b ≠ 77 → b ≠ 85 → A2 b = A1 b := a2
  obtain ⟨I3, A3, l2, d1, d2, d3, d4, d5⟩ := X7_gh2 (z := pf_s1 P s.2.2.2) (z8 := s.2.2.2) (g := pf_gd P (pf_u (pf_wy P (nI s.2.2.1))) s.1 s.2.1 (pf_wy P (nI s.2.2.1)) s.2.2.2) (q := pf_q P s.1 s.2.1 (pf_wy P (nI s.2.2.1))) (a := pf_a P s.1 s.2.1 (pf_wy P (nI s.2.2.1))) (G := G) (pf_flv (pf_u (pf_wy P (nI s.2.2.1))) hv) (fun i hi => pf_a_le hv _ _ _ hi) (fun d hd => pf_q_le hv _ _ _ hd) (fun d _ => rfl) (P 7 1) 0 .null I1 A2 (by omega) hm1.1.2.1 (f4.2.2.fr (a2 82 (by omega) (by omega)) (a2 83 (by omega) (by omega)) (a2 84 (by omega) (by omega))) (fun i hi => by rw [a2 80 (by omega) (by omega)]; exact f4.1 i hi) (fun d hd => by rw [a2 81 (by omega) (by omega)]; exact f4.2.1 d hd) a4 (fun j hj => by rw [a3 j hj]; show _ = _ + (0 : Int32); rw [Int32.add_zero]) (by
    show I1 69 17 = pf_s1 P s.2.2.2 8 + (0 : Int32)
    unfold pf_s1
    rw [if_neg (by omega), Int32.add_zero]
    exact hm1.2.2.2.2.1)
  have q18 : I3 69 18 = nI s.2.2.1 := by rw [d3 69 18 (by omega)]; exact hm1.2.2.2.1
  refine ⟨am_u I3 69 18 (nI (s.2.2.1 + 1)), A3, ?_, ⟨fun a j h => by rw [am_u_at, if_neg (by omega), d3 a j (by omega), f2.1 a j (by omega)], fun b hb => by rw [d2 b (by omega), a2 b (by omega) (by omega), f2.2 b (by omega)]⟩, ?_, ?_⟩
  · have e0 : am_e 113 0 [.ref 69, .null, .null] [] I A G = am_e 113 10 [.ref 69, .int (nI 0), .null] [] I1 A1 G := by
      simp only [s_X7_goHour_0, s_X7_goHour_1, s_X7_goHour_2, s_X7_goHour_5, s_X7_goHour_8, s_X7_goHour_9, h18, f1, am_k_some, am_push_n]; rfl
    have e1 : am_e 113 55 [.ref 69, .int (nI (P 7 0)), .null] [] I1 A2 G = am_e 113 57 [.ref 69, .int (nI 0), .null] [] I1 A2 G := by
      simp only [s_X7_goHour_55, s_X7_goHour_56]; rfl
    rw [e0, a1, e1, d1]
    simp only [s_X7_goHour_195, s_X7_goHour_196, s_X7_goHour_197, s_X7_goHour_200, s_X7_goHour_201, s_X7_goHour_202, s_X7_goHour_205, q18, am_add1]
  · exact hm1.1.fr (by rw [am_u_at, if_neg (by omega), d3 _ _ (by omega)]) (by rw [am_u_at, if_neg (by omega), d3 _ _ (by omega)]) (by rw [d2 _ (by omega), a2 _ (by omega) (by omega)]) (by rw [d2 _ (by omega), a2 _ (by omega) (by omega)]) (by rw [d2 _ (by omega), a2 _ (by omega) (by omega)])
  · refine ⟨by rw [am_u_at, if_neg (by omega), d3 _ _ (by omega)]; exact hm1.2.1, by rw [am_u_at, if_neg (by omega), d3 _ _ (by omega)]; exact hm1.2.2.1, by rw [am_u_eq]; rfl, ?_, fun i hi => ?_⟩
    · rw [am_u_at, if_neg (by omega), d5]; rfl
    · rw [d4 i hi]; rfl
theorem X7_hoL {N : Nat} {P : sg_P} {s : sg_S} {l3 : Value} {G : am_G} (hv : vp_p P) (hN : N ≤ 99) : ∀ (r k : Nat) (I A : am_F), k + r = N → mk P (pf_hn P s k) I A → ∃ I' A' : am_F, am_e 114 14 [.ref 69, .int (nI N), .int (nI k), l3] [] I A G = am_e 114 29 [.ref 69, .int (nI N), .int (nI N), l3] [] I' A' G ∧ fr_g I A I' A' ∧ mk P (pf_hn P s N) I' A' := by
  intro r
  induction r with
  | zero =>
    intro k I A hk hm
    have : k = N := by omega
    subst this
    refine ⟨I, A, ?_, fr_g.rf I A, hm⟩
    refine (s_X7_hours_14).trans ?_
    simp only [s_X7_hours_15, s_X7_hours_16, Int32.le_refl, if_true]
  | succ r ih =>
    intro k I A hk hm
    obtain ⟨I1, A1, f1, f2, f3⟩ := e_X7_goHour (G := G) hv hm
    obtain ⟨I', A', k1, k2, k3⟩ := ih (k + 1) I1 A1 (by omega) f3
    refine ⟨I', A', ?_, f2.tr k2, k3⟩
    rw [← k1]
    refine (s_X7_hours_14).trans ?_
    have hn : (nI N ≤ nI k) = False := eq_false (by rw [nI_leI (by omega) (by omega)]; omega)
    simp only [s_X7_hours_15, s_X7_hours_16, s_X7_hours_19, s_X7_hours_20, s_X7_hours_23, s_X7_hours_26, hn, if_false, f1, am_k_some, am_push_n, am_add1]
theorem X7_hoS {H : Nat} {z : Nat → Int32} {l1 : Value} {I A : am_F} {G : am_G} (hH : H ≤ 8) (hI : I 69 9 = nI H) (h77 : ∀ j, j < 8 → A 77 j = z j) : ∀ (r i : Nat), i + r = H → am_e 114 33 [.ref 69, l1, .int (pf_su z i), .int (nI i)] [] I A G = some (.int (pf_su z H), I, A, G)
  | 0, i, h => by
    have : i = H := by omega
    subst this
    refine (s_X7_hours_33).trans ?_
    simp only [s_X7_hours_34, s_X7_hours_35, s_X7_hours_38, s_X7_hours_56, s_X7_hours_57, hI, Int32.le_refl, if_true]
  | r + 1, i, h => by
    rw [← X7_hoS (l1 := l1) hH hI h77 r (i + 1) (by omega)]
    refine (s_X7_hours_33).trans ?_
    have hn : (nI H ≤ nI i) = False := eq_false (by rw [nI_leI (by omega) (by omega)]; omega)
    simp only [s_X7_hours_34, s_X7_hours_35, s_X7_hours_38, s_X7_hours_41, s_X7_hours_42, s_X7_hours_43, s_X7_hours_46, s_X7_hours_47, s_X7_hours_48, s_X7_hours_49, s_X7_hours_50, s_X7_hours_53, hI, hn, if_false, am_len_77, nI_clamp (show i < 2 ^ 31 by omega), am_ixF (show i < 8 by omega) (show 8 < 2 ^ 31 by omega), h77 i (by omega), am_add1]
    rfl
theorem e_X7_hours {P : sg_P} {s : sg_S} {n : Int32} {I A : am_F} {G : am_G} (hv : vp_p P) (hm : mk P s I A) : ∃ I' A' : am_F, am_e 114 0 [.ref 69, .int n, .null, .null] [] I A G = some (.int (pf_hv P s n), I', A', G) ∧ fr_g I A I' A' ∧ mk P (pf_hst P s n) I' A' := by
  have hH := hv.1.2
  unfold pf_hv pf_hst
  by_cases hn : pf_n99 n
  · rw [if_pos hn, if_pos hn]
    have hin := @e_X7_in n 1 99 I A G
    rw [decide_eq_true hn] at hin
    obtain ⟨N, h1, h2, rfl⟩ := am_n99.mp hn
    obtain ⟨I', A', k1, k2, k3⟩ := X7_hoL (l3 := .null) (G := G) hv h2 N 0 I A (by omega) hm
    rw [nI_clamp (show N < 2 ^ 31 by omega)]
    refine ⟨I', A', ?_, k2, k3⟩
    have e0 : am_e 114 0 [.ref 69, .int (nI N), .null, .null] [] I A G = am_e 114 14 [.ref 69, .int (nI N), .int (nI 0), .null] [] I A G := by
      simp only [s_X7_hours_0, s_X7_hours_1, s_X7_hours_2, s_X7_hours_4, s_X7_hours_7, s_X7_hours_10, s_X7_hours_11, s_X7_hours_12, s_X7_hours_13, hin, am_k_some, am_push_i, am_bi_0, Bool.true_eq_false, if_false]; rfl
    rw [e0, k1, ← X7_hoS (l1 := .int (nI N)) (I := I') (G := G) hH k3.1.1 k3.2.2.2.2.2 (P 7 0) 0 (by omega)]
    simp only [s_X7_hours_29, s_X7_hours_30, s_X7_hours_31, s_X7_hours_32]; rfl
  · rw [if_neg hn, if_neg hn]
    have hin := @e_X7_in n 1 99 I A G
    rw [decide_eq_false hn] at hin
    refine ⟨I, A, ?_, fr_g.rf I A, hm⟩
    simp only [s_X7_hours_0, s_X7_hours_1, s_X7_hours_2, s_X7_hours_4, s_X7_hours_7, s_X7_hours_10, s_X7_hours_11, hin, am_k_some, am_push_i, am_bi_0, if_true]
