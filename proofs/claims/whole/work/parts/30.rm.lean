/-! ===== reading a text: the model ===== -/
def mr_r (n : Nat) (t : Nat → Nat) (q : Nat) (I A : am_F) : Prop := n ≤ 400 ∧ q ≤ n ∧ I 69 2 = nI q ∧ I 69 0 = nI n ∧ (∀ j, j < n → A 70 j = nI (t j)) ∧ ∀ j, j < n → t j < 256
theorem mr_r.mv {n q q' : Nat} {t : Nat → Nat} {I A I' A' : am_F} (h : mr_r n t q I A) (hq : q' ≤ n) (h2 : I' 69 2 = nI q') (h0 : I' 69 0 = I 69 0) (hA : A' 70 = A 70) : mr_r n t q' I' A' := by
  obtain ⟨a1, a2, a3, a4, a5, a6⟩ := h
  exact ⟨a1, hq, h2, by rw [h0]; exact a4, fun j hj => by rw [hA]; exact a5 j hj, a6⟩
theorem e_X7_here {n q : Nat} {t : Nat → Nat} {I A : am_F} {G : am_G} (h : mr_r n t q I A) : am_e 83 0 [.ref 69] [] I A G = some (.int (if q < n then nI (t q) else -4), I, A, G) := by
  obtain ⟨h1, h2, h3, h4, h5, h6⟩ := h
  by_cases hq : q < n
  · simp only [s_X7_here_0, s_X7_here_1, s_X7_here_4, s_X7_here_5, s_X7_here_8, s_X7_here_11, s_X7_here_12, s_X7_here_15, s_X7_here_16, s_X7_here_19, s_X7_here_20, s_X7_here_23, s_X7_here_25, h3, h4, nI_leI (show n < 2 ^ 31 by omega) (show q < 2 ^ 31 by omega), show ¬ n ≤ q by omega, hq, if_true, if_false, am_len_70, nI_clamp (show q < 2 ^ 31 by omega), am_ixF (show q < 400 by omega) (by omega), h5 q hq]
  · simp only [s_X7_here_0, s_X7_here_1, s_X7_here_4, s_X7_here_5, s_X7_here_8, s_X7_here_11, s_X7_here_12, s_X7_here_15, s_X7_here_16, s_X7_here_19, s_X7_here_20, s_X7_here_23, s_X7_here_25, h3, h4, nI_leI (show n < 2 ^ 31 by omega) (show q < 2 ^ 31 by omega), show n ≤ q by omega, hq, if_true, if_false]
theorem am_fg_m4 : decide ((48 : Int32) ≤ -4 ∧ (-4 : Int32) ≤ 57) = false := by decide
theorem am_fgh {n q : Nat} {t : Nat → Nat} (h6 : ∀ j, j < n → t j < 256) : decide ((48 : Int32) ≤ (if q < n then nI (t q) else -4) ∧ (if q < n then nI (t q) else -4) ≤ (57 : Int32)) = pf_fg (pf_by n t q) := by
  unfold pf_by
  by_cases hq : q < n
  · rw [if_pos hq, if_pos hq]
    exact pf_fg_c (by have := h6 q hq; omega)
  · rw [if_neg hq, if_neg hq]
    decide
/-- a figure is read -/
theorem X7_num1 {n q f : Nat} {t : Nat → Nat} {lo hi sg : Int32} {b5 : Value} {I A : am_F} {G : am_G} (h : mr_r n t q I A) (hf : f < 1000) (hg : pf_fg (pf_by n t q) = true) : am_e 84 8 [.ref 69, .int lo, .int hi, .int sg, .int (nI f), b5] [] I A G = am_e 84 8 [.ref 69, .int lo, .int hi, .int sg, .int (nI (f + 1)), b5] [] (am_u (am_u I 69 3 (if f < 2 then 10 * I 69 3 + nI (t q) - 48 else I 69 3)) 69 2 (nI (q + 1))) A G := by
  have hq : q < n := by
    unfold pf_by at hg
    split at hg
    · assumption
    · exact absurd hg (by decide)
  have hh := @e_X7_here n q t I A G h
  rw [if_pos hq] at hh
  have hfg : decide ((48 : Int32) ≤ nI (t q) ∧ nI (t q) ≤ (57 : Int32)) = true := by
    have := am_fgh (q := q) h.2.2.2.2.2
    rw [hg, if_pos hq] at this
    exact this
  have h2 : ((2 : Int32) ≤ nI f) = (2 ≤ f) := propext (by rw [show (2 : Int32) = nI 2 from rfl, nI_leI (by omega) (by omega)])
  refine (s_X7_isNumber_8).trans ?_
  by_cases hf2 : f < 2
  · simp only [s_X7_isNumber_9, s_X7_isNumber_12, s_X7_isNumber_14, s_X7_isNumber_16, s_X7_isNumber_19, s_X7_isNumber_22, s_X7_isNumber_23, s_X7_isNumber_25, s_X7_isNumber_26, s_X7_isNumber_29, s_X7_isNumber_31, s_X7_isNumber_32, s_X7_isNumber_35, s_X7_isNumber_36, s_X7_isNumber_37, s_X7_isNumber_40, s_X7_isNumber_41, s_X7_isNumber_43, s_X7_isNumber_44, s_X7_isNumber_47, s_X7_isNumber_48, s_X7_isNumber_51, s_X7_isNumber_54, s_X7_isNumber_57, s_X7_isNumber_58, s_X7_isNumber_59, s_X7_isNumber_62, s_X7_isNumber_63, s_X7_isNumber_64, s_X7_isNumber_67, hh, e_X7_in, hfg, am_k_some, am_push_i, am_bi_0, Bool.true_eq_false, if_false, h2, show ¬ 2 ≤ f by omega, hf2, if_true, am_add1, am_u_at, Nat.reduceEqDiff, and_false, h.2.2.1]
  · simp only [s_X7_isNumber_9, s_X7_isNumber_12, s_X7_isNumber_14, s_X7_isNumber_16, s_X7_isNumber_19, s_X7_isNumber_22, s_X7_isNumber_23, s_X7_isNumber_25, s_X7_isNumber_26, s_X7_isNumber_29, s_X7_isNumber_31, s_X7_isNumber_32, s_X7_isNumber_35, s_X7_isNumber_36, s_X7_isNumber_37, s_X7_isNumber_40, s_X7_isNumber_41, s_X7_isNumber_43, s_X7_isNumber_44, s_X7_isNumber_47, s_X7_isNumber_48, s_X7_isNumber_51, s_X7_isNumber_54, s_X7_isNumber_57, s_X7_isNumber_58, s_X7_isNumber_59, s_X7_isNumber_62, s_X7_isNumber_63, s_X7_isNumber_64, s_X7_isNumber_67, hh, e_X7_in, hfg, am_k_some, am_push_i, am_bi_0, Bool.true_eq_false, if_false, h2, show 2 ≤ f by omega, hf2, if_true, am_add1, am_u_at, Nat.reduceEqDiff, and_false, h.2.2.1]
theorem X7_num0 {n q f : Nat} {t : Nat → Nat} {lo hi sg : Int32} {b5 : Value} {I A : am_F} {G : am_G} (h : mr_r n t q I A) (hg : pf_fg (pf_by n t q) = false) : am_e 84 8 [.ref 69, .int lo, .int hi, .int sg, .int (nI f), b5] [] I A G = am_e 84 70 [.ref 69, .int lo, .int hi, .int sg, .int (nI f), b5] [] I A G := by
  have hh := @e_X7_here n q t I A G h
  have hfg := am_fgh (q := q) h.2.2.2.2.2
  rw [hg] at hfg
  refine (s_X7_isNumber_8).trans ?_
  simp only [s_X7_isNumber_9, s_X7_isNumber_12, s_X7_isNumber_14, s_X7_isNumber_16, s_X7_isNumber_19, hh, e_X7_in, hfg, am_k_some, am_push_i, am_bi_0, if_true]
/-- more figures than two -/
theorem X7_numD {n : Nat} {t : Nat → Nat} {lo hi sg : Int32} {b5 : Value} {A : am_F} {G : am_G} : ∀ (k q f : Nat) (I : am_F), n - q ≤ k → 3 ≤ f → f + (n - q) < 1000 → mr_r n t q I A → ∃ F I' q', am_e 84 8 [.ref 69, .int lo, .int hi, .int sg, .int (nI f), b5] [] I A G = am_e 84 70 [.ref 69, .int lo, .int hi, .int sg, .int (nI F), b5] [] I' A G ∧ 3 ≤ F ∧ F < 1000 ∧ mr_r n t q' I' A ∧ ∀ a j, ¬ (a = 69 ∧ (j = 2 ∨ j = 3)) → I' a j = I a j := by
  intro k
  induction k with
  | zero =>
    intro q f I hk hf hb h
    refine ⟨f, I, q, X7_num0 h ?_, hf, by omega, h, fun a j _ => rfl⟩
    unfold pf_by
    rw [if_neg (by omega)]
    decide
  | succ k ih =>
    intro q f I hk hf hb h
    cases hg : pf_fg (pf_by n t q) with
    | false => exact ⟨f, I, q, X7_num0 h hg, hf, by omega, h, fun a j _ => rfl⟩
    | true =>
      have hq : q < n := by
        unfold pf_by at hg
        split at hg
        · assumption
        · exact absurd hg (by decide)
      obtain ⟨F, I', q', e1, e2, e3, e4, e5⟩ := ih (q + 1) (f + 1) (am_u (am_u I 69 3 (if f < 2 then 10 * I 69 3 + nI (t q) - 48 else I 69 3)) 69 2 (nI (q + 1))) (by omega) (by omega) (by omega) (h.mv (by omega) (am_u_eq _ _ _ _) (by simp [am_u_at]) rfl)
      refine ⟨F, I', q', ?_, e2, e3, e4, fun a j hj => ?_⟩
      · rw [X7_num1 h (by omega) hg, e1]
      · rw [e5 a j hj, am_u_at, if_neg (by omega), am_u_at, if_neg (by omega)]
/-- behind the figures -/
theorem X7_numE {n q F : Nat} {t : Nat → Nat} {lo hi sg : Int32} {b5 : Value} {I A : am_F} {G : am_G} (h : mr_r n t q I A) (hF : F < 1000) : am_e 84 70 [.ref 69, .int lo, .int hi, .int sg, .int (nI F), b5] [] I A G = some (.int (am_bi (decide ((1 ≤ F ∧ F ≤ 2) ∧ (lo ≤ I 69 3 ∧ I 69 3 ≤ hi) ∧ (if q < n then nI (t q) else -4) = sg))), am_u I 69 2 (nI (q + 1)), A, G) := by
  have hh := @e_X7_here n q t I A G h
  have h12 : ((1 : Int32) ≤ nI F ∧ nI F ≤ 2) ↔ (1 ≤ F ∧ F ≤ 2) := by
    rw [show (1 : Int32) = nI 1 from rfl, show (2 : Int32) = nI 2 from rfl, nI_leI (by omega) (by omega), nI_leI (by omega) (by omega)]
  simp only [s_X7_isNumber_70, s_X7_isNumber_72, s_X7_isNumber_73, s_X7_isNumber_74, s_X7_isNumber_77, s_X7_isNumber_80, s_X7_isNumber_81, s_X7_isNumber_84, s_X7_isNumber_85, s_X7_isNumber_86, s_X7_isNumber_89, s_X7_isNumber_92, s_X7_isNumber_93, s_X7_isNumber_96, s_X7_isNumber_97, s_X7_isNumber_100, s_X7_isNumber_101, s_X7_isNumber_104, s_X7_isNumber_105, s_X7_isNumber_107, s_X7_isNumber_108, s_X7_isNumber_109, s_X7_isNumber_112, s_X7_isNumber_113, s_X7_isNumber_114, s_X7_isNumber_117, s_X7_isNumber_119, hh, e_X7_in, am_k_some, am_push_i, am_bi_0, decide_eq_false_iff_not, h.2.2.1, am_add1, am_01_0, am_01_1, true_or, or_true, if_true, h12]
  by_cases c1 : 1 ≤ F ∧ F ≤ 2
  · by_cases c2 : lo ≤ I 69 3 ∧ I 69 3 ≤ hi
    · by_cases c3 : (if q < n then nI (t q) else -4) = sg
      · rw [if_neg (not_not_intro c1), if_neg (not_not_intro c2), if_pos c3, decide_eq_true ⟨c1, c2, c3⟩]; rfl
      · rw [if_neg (not_not_intro c1), if_neg (not_not_intro c2), if_neg c3, decide_eq_false (fun q => c3 q.2.2)]; rfl
    · rw [if_neg (not_not_intro c1), if_pos c2, decide_eq_false (fun q => c2 q.2.1)]; rfl
  · rw [if_pos c1, decide_eq_false (fun q => c1 q.1)]; rfl
theorem e_X7_isNumber {n q s : Nat} {t : Nat → Nat} {lo hi : Int32} {I A : am_F} {G : am_G} (h : mr_r n t q I A) (hs : s = 44 ∨ s = 59) : (∀ v q', pf_num n t q s = some (v, q') → lo ≤ nI v → nI v ≤ hi → ∃ I', am_e 84 0 [.ref 69, .int lo, .int hi, .int (nI s), .null, .null] [] I A G = some (.int 1, I', A, G) ∧ I' 69 2 = nI q' ∧ I' 69 3 = nI v ∧ ∀ a j, ¬ (a = 69 ∧ (j = 2 ∨ j = 3)) → I' a j = I a j) ∧ ((∀ v q', pf_num n t q s = some (v, q') → ¬ (lo ≤ nI v ∧ nI v ≤ hi)) → ∃ I', am_e 84 0 [.ref 69, .int lo, .int hi, .int (nI s), .null, .null] [] I A G = some (.int 0, I', A, G) ∧ ∀ a j, ¬ (a = 69 ∧ (j = 2 ∨ j = 3)) → I' a j = I a j) := by
  obtain ⟨h1, h2, h3, h4, h5, h6⟩ := id h
  have e0 : am_e 84 0 [.ref 69, .int lo, .int hi, .int (nI s), .null, .null] [] I A G = am_e 84 8 [.ref 69, .int lo, .int hi, .int (nI s), .int (nI 0), .null] [] (am_u I 69 3 0) A G := by
    simp only [s_X7_isNumber_0, s_X7_isNumber_1, s_X7_isNumber_3, s_X7_isNumber_4, s_X7_isNumber_5]
    rfl
  have hr0 : mr_r n t q (am_u I 69 3 0) A := h.mv h2 (by simpa [am_u_at] using h3) (by simp [am_u_at]) rfl
  have hsg : ∀ x, ((if x < n then nI (t x) else -4) = nI s) ↔ pf_by n t x = s := by
    intro x
    unfold pf_by
    by_cases hx : x < n
    · rw [if_pos hx, if_pos hx]
      exact nI_eq (by have := h6 x hx; omega) (by omega)
    · rw [if_neg hx, if_neg hx]
      constructor
      · intro hq; rcases hs with rfl | rfl <;> exact absurd hq (by decide)
      · intro hq; omega
  have hlt : ∀ x, pf_fg (pf_by n t x) = true → x < n ∧ 48 ≤ t x ∧ t x ≤ 57 ∧ pf_by n t x = t x := by
    intro x hx
    unfold pf_by at hx ⊢
    split at hx
    · rename_i hq
      unfold pf_fg at hx
      rw [Bool.and_eq_true] at hx
      exact ⟨hq, Nat.le_of_ble_eq_true hx.1, Nat.le_of_ble_eq_true hx.2, if_pos hq⟩
    · exact absurd hx (by decide)
  have nofail : ∀ (F : Nat) (I1 : am_F) (q1 : Nat), F < 1000 → mr_r n t q1 I1 A → (∀ a j, ¬ (a = 69 ∧ (j = 2 ∨ j = 3)) → I1 a j = I a j) → am_e 84 0 [.ref 69, .int lo, .int hi, .int (nI s), .null, .null] [] I A G = am_e 84 70 [.ref 69, .int lo, .int hi, .int (nI s), .int (nI F), .null] [] I1 A G → ¬ ((1 ≤ F ∧ F ≤ 2) ∧ (lo ≤ I1 69 3 ∧ I1 69 3 ≤ hi) ∧ pf_by n t q1 = s) → ∃ I', am_e 84 0 [.ref 69, .int lo, .int hi, .int (nI s), .null, .null] [] I A G = some (.int 0, I', A, G) ∧ ∀ a j, ¬ (a = 69 ∧ (j = 2 ∨ j = 3)) → I' a j = I a j := by
    intro F I1 q1 hF hr1 hf1 he hc
    refine ⟨am_u I1 69 2 (nI (q1 + 1)), ?_, fun a j hj => by rw [am_u_at, if_neg (by omega)]; exact hf1 a j hj⟩
    rw [he, X7_numE hr1 hF, decide_eq_false (fun hq => hc ⟨hq.1, hq.2.1, (hsg q1).mp hq.2.2⟩)]
    rfl
  unfold pf_num
  cases f0 : pf_fg (pf_by n t q) with
  | false =>
    rw [if_neg (by simp)]
    refine ⟨fun v q' hq => (by cases hq), fun _ => nofail 0 _ q (by omega) hr0 (fun a j hj => by rw [am_u_at, if_neg (by omega)]) (by rw [e0, X7_num0 hr0 f0]) (by omega)⟩
  | true =>
    rw [if_pos rfl]
    obtain ⟨l1, l2, l3, l4⟩ := hlt q f0
    have v0 : 10 * (am_u I 69 3 0) 69 3 + nI (t q) - 48 = nI (t q - 48) := by
      rw [am_u_eq, show (10 : Int32) * 0 = 0 by decide, Int32.zero_add]
      exact am_nsub l2
    have s1 := X7_num1 (lo := lo) (hi := hi) (sg := nI s) (b5 := .null) (G := G) hr0 (show 0 < 1000 by omega) f0
    rw [if_pos (by omega), v0] at s1
    have hr1 : mr_r n t (q + 1) (am_u (am_u (am_u I 69 3 0) 69 3 (nI (t q - 48))) 69 2 (nI (q + 1))) A := hr0.mv (by omega) (am_u_eq _ _ _ _) (by simp [am_u_at]) rfl
    have fr1 : ∀ a j, ¬ (a = 69 ∧ (j = 2 ∨ j = 3)) → am_u (am_u (am_u I 69 3 0) 69 3 (nI (t q - 48))) 69 2 (nI (q + 1)) a j = I a j := fun a j hj => by
      rw [am_u_at, if_neg (by omega), am_u_at, if_neg (by omega), am_u_at, if_neg (by omega)]
    have n1 : am_u (am_u (am_u I 69 3 0) 69 3 (nI (t q - 48))) 69 2 (nI (q + 1)) 69 3 = nI (t q - 48) := by simp [am_u_at]
    cases f1 : pf_fg (pf_by n t (q + 1)) with
    | false =>
      rw [if_neg (by simp)]
      have he : am_e 84 0 [.ref 69, .int lo, .int hi, .int (nI s), .null, .null] [] I A G = am_e 84 70 [.ref 69, .int lo, .int hi, .int (nI s), .int (nI 1), .null] [] (am_u (am_u (am_u I 69 3 0) 69 3 (nI (t q - 48))) 69 2 (nI (q + 1))) A G := by rw [e0, s1, X7_num0 hr1 f1]
      by_cases hb : pf_by n t (q + 1) = s
      · rw [if_pos hb, l4]
        refine ⟨fun v q' hq c1 c2 => ?_, fun hc => nofail 1 _ (q + 1) (by omega) hr1 fr1 he (fun hq => hc _ _ rfl (by rw [n1] at hq; exact hq.2.1))⟩
        cases hq
        refine ⟨am_u (am_u (am_u (am_u I 69 3 0) 69 3 (nI (t q - 48))) 69 2 (nI (q + 1))) 69 2 (nI (q + 1 + 1)), ?_, am_u_eq _ _ _ _, by simp [am_u_at], fun a j hj => (by rw [am_u_at, if_neg (by omega)]; exact fr1 a j hj)⟩
        rw [he, X7_numE hr1 (by omega), decide_eq_true ⟨by omega, by rw [n1]; exact ⟨c1, c2⟩, (hsg _).mpr hb⟩]
        rfl
      · rw [if_neg hb]
        exact ⟨fun v q' hq => (by cases hq), fun hc => nofail 1 _ (q + 1) (by omega) hr1 fr1 he (fun hq => hb hq.2.2)⟩
    | true =>
      rw [if_pos rfl]
      obtain ⟨m1, m2, m3, m4⟩ := hlt (q + 1) f1
      have v1 : 10 * (am_u (am_u (am_u I 69 3 0) 69 3 (nI (t q - 48))) 69 2 (nI (q + 1))) 69 3 + nI (t (q + 1)) - 48 = nI (10 * (t q - 48) + (t (q + 1) - 48)) := by
        rw [n1]
        have e : (10 : Int32) * nI (t q - 48) = nI (10 * (t q - 48)) := by
          show nI 10 * nI _ = _
          unfold nI; rw [← Int32.ofNat_mul]
        rw [e, nI_add, show (48 : Int32) = nI 48 from rfl, am_nsub (by omega)]
        congr 1
        omega
      have s2 := X7_num1 (lo := lo) (hi := hi) (sg := nI s) (b5 := .null) (G := G) hr1 (show 1 < 1000 by omega) f1
      rw [if_pos (by omega), v1] at s2
      have hr2 : mr_r n t (q + 2) (am_u (am_u (am_u (am_u (am_u I 69 3 0) 69 3 (nI (t q - 48))) 69 2 (nI (q + 1))) 69 3 (nI (10 * (t q - 48) + (t (q + 1) - 48)))) 69 2 (nI (q + 1 + 1))) A := hr1.mv (by omega) (am_u_eq _ _ _ _) (by simp [am_u_at]) rfl
      have fr2 : ∀ a j, ¬ (a = 69 ∧ (j = 2 ∨ j = 3)) → (am_u (am_u (am_u (am_u (am_u I 69 3 0) 69 3 (nI (t q - 48))) 69 2 (nI (q + 1))) 69 3 (nI (10 * (t q - 48) + (t (q + 1) - 48)))) 69 2 (nI (q + 1 + 1))) a j = I a j := fun a j hj => by
        rw [am_u_at, if_neg (by omega), am_u_at, if_neg (by omega)]
        exact fr1 a j hj
      have n2 : (am_u (am_u (am_u (am_u (am_u I 69 3 0) 69 3 (nI (t q - 48))) 69 2 (nI (q + 1))) 69 3 (nI (10 * (t q - 48) + (t (q + 1) - 48)))) 69 2 (nI (q + 1 + 1))) 69 3 = nI (10 * (t q - 48) + (t (q + 1) - 48)) := by simp [am_u_at]
      cases f2 : pf_fg (pf_by n t (q + 2)) with
      | false =>
        have he : am_e 84 0 [.ref 69, .int lo, .int hi, .int (nI s), .null, .null] [] I A G = am_e 84 70 [.ref 69, .int lo, .int hi, .int (nI s), .int (nI 2), .null] [] (am_u (am_u (am_u (am_u (am_u I 69 3 0) 69 3 (nI (t q - 48))) 69 2 (nI (q + 1))) 69 3 (nI (10 * (t q - 48) + (t (q + 1) - 48)))) 69 2 (nI (q + 1 + 1))) A G := by rw [e0, s1, s2, X7_num0 hr2 f2]
        by_cases hb : pf_by n t (q + 2) = s
        · rw [if_pos hb, l4, m4]
          refine ⟨fun v q' hq c1 c2 => ?_, fun hc => nofail 2 _ (q + 2) (by omega) hr2 fr2 he (fun hq => hc _ _ rfl (by rw [n2] at hq; exact hq.2.1))⟩
          cases hq
          refine ⟨am_u (am_u (am_u (am_u (am_u (am_u I 69 3 0) 69 3 (nI (t q - 48))) 69 2 (nI (q + 1))) 69 3 (nI (10 * (t q - 48) + (t (q + 1) - 48)))) 69 2 (nI (q + 1 + 1))) 69 2 (nI (q + 2 + 1)), ?_, am_u_eq _ _ _ _, by simp [am_u_at], fun a j hj => (by rw [am_u_at, if_neg (by omega)]; exact fr2 a j hj)⟩
          rw [he, X7_numE hr2 (by omega), decide_eq_true ⟨by omega, by rw [n2]; exact ⟨c1, c2⟩, (hsg _).mpr hb⟩]
          rfl
        · rw [if_neg hb]
          exact ⟨fun v q' hq => (by cases hq), fun hc => nofail 2 _ (q + 2) (by omega) hr2 fr2 he (fun hq => hb hq.2.2)⟩
      | true =>
        obtain ⟨k1, k2, k3, k4⟩ := hlt (q + 2) f2
        rw [if_neg (by rw [k4]; omega)]
        refine ⟨fun v q' hq => (by cases hq), fun hc => ?_⟩
        have s3 := X7_num1 (lo := lo) (hi := hi) (sg := nI s) (b5 := .null) (G := G) hr2 (show 2 < 1000 by omega) f2
        have n2' : ∀ x : Int32, mr_r n t (q + 3) (am_u (am_u (am_u (am_u (am_u (am_u (am_u I 69 3 0) 69 3 (nI (t q - 48))) 69 2 (nI (q + 1))) 69 3 (nI (10 * (t q - 48) + (t (q + 1) - 48)))) 69 2 (nI (q + 1 + 1))) 69 3 x) 69 2 (nI (q + 2 + 1))) A := fun x => hr2.mv (by omega) (am_u_eq _ _ _ _) (by simp [am_u_at]) rfl
        rw [if_neg (by omega)] at s3
        obtain ⟨F, I', q', d1, d2, d3, d4, d5⟩ := X7_numD (lo := lo) (hi := hi) (sg := nI s) (b5 := .null) (G := G) (n - (q + 3)) (q + 3) 3 _ (by omega) (by omega) (by omega) (n2' (am_u (am_u (am_u (am_u (am_u I 69 3 0) 69 3 (nI (t q - 48))) 69 2 (nI (q + 1))) 69 3 (nI (10 * (t q - 48) + (t (q + 1) - 48)))) 69 2 (nI (q + 1 + 1)) 69 3))
        refine nofail F I' q' d3 d4 (fun a j hj => ?_) ?_ (by omega)
        · rw [d5 a j hj, am_u_at, if_neg (by omega), am_u_at, if_neg (by omega)]
          exact fr2 a j hj
        · rw [e0, s1, s2, s3]
          exact d1
