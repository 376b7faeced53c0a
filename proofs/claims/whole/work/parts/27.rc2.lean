/-! ===== the class: all numbers of an item; its taking ===== -/
theorem X3_readNumbers_loop {n : Nat} {t : Nat → Nat} {G : am_G} : ∀ (r k q : Nat) (I A : am_F), k + r ≤ 4 → cr_r n t q I A G → (∀ l q', pf_ns n t r q = some (l, q') → ∃ A', am_e 21 2 [.ref 2, .int (nI (k + r)), .int (nI k)] [] I A G = some (.int (am_bi (decide (0 < k + r))), am_u I 2 3 (nI q'), A', G) ∧ (∀ a, a ≠ 3 → A' a = A a) ∧ (∀ i, i < r → A' 3 (k + i) = nI (l.getD i 0)) ∧ ∀ i, i < k → A' 3 i = A 3 i) ∧ (pf_ns n t r q = none → ∃ I' A', am_e 21 2 [.ref 2, .int (nI (k + r)), .int (nI k)] [] I A G = some (.int 0, I', A', G) ∧ (∀ a j, ¬ (a = 2 ∧ j = 3) → I' a j = I a j) ∧ ∀ a, a ≠ 3 → A' a = A a)
  | 0, k, q, I, A, hk, h => by
    refine ⟨fun l q' hq => ?_, fun hq => by cases hq⟩
    cases hq
    refine ⟨A, ?_, fun a _ => rfl, fun i hi => by omega, fun i _ => rfl⟩
    have hI : am_u I 2 3 (nI q) = I := by
      funext b j
      rw [am_u_at]
      split
      · rename_i hb; rw [hb.1, hb.2]; exact h.2.2.1.symm
      · rfl
    rw [hI, Nat.add_zero]
    refine (s_X3_readNumbers_2).trans ?_
    simp only [s_X3_readNumbers_3, s_X3_readNumbers_4, s_X3_readNumbers_7, s_X3_readNumbers_8, s_X3_readNumbers_9, s_X3_readNumbers_12, s_X3_readNumbers_13, s_X3_readNumbers_14, s_X3_readNumbers_15, s_X3_readNumbers_16, s_X3_readNumbers_17, s_X3_readNumbers_18, s_X3_readNumbers_21, s_X3_readNumbers_23, s_X3_readNumbers_26, s_X3_readNumbers_28, s_X3_readNumbers_31, s_X3_readNumbers_34, s_X3_readNumbers_35, s_X3_readNumbers_36, s_X3_readNumbers_39, s_X3_readNumbers_42, s_X3_readNumbers_43, s_X3_readNumbers_46, s_X3_readNumbers_47, s_X3_readNumbers_50, s_X3_readNumbers_51, Int32.le_refl, if_true]
    by_cases hk0 : k = 0
    · subst hk0; rfl
    · rw [if_neg (by rw [show (0 : Int32) = nI 0 from rfl, nI_leI (by omega) (by omega)]; omega), decide_eq_true (by omega)]
      rfl
  | r + 1, k, q, I, A, hk, h => by
    have hs : (if r = 0 then 59 else 44) = 44 ∨ (if r = 0 then 59 else 44) = 59 := by split <;> simp
    obtain ⟨w1, w2⟩ := e_X3_readNumber (k := k) (s := if r = 0 then 59 else 44) h (by omega) hs
    have hsg : (if nI k = nI (k + (r + 1)) - 1 then am_e 21 21 [.ref 2, .int (nI (k + (r + 1))), .int (nI k)] [.int (nI k), .ref 2] I A G else am_e 21 26 [.ref 2, .int (nI (k + (r + 1))), .int (nI k)] [.int (nI k), .ref 2] I A G) = am_e 21 28 [.ref 2, .int (nI (k + (r + 1))), .int (nI k)] [.int (nI (if r = 0 then 59 else 44)), .int (nI k), .ref 2] I A G := by
      rw [show k + (r + 1) = k + r + 1 by omega, nI_pred]
      by_cases hr : r = 0
      · subst hr
        rw [if_pos (show nI k = nI (k + 0) from rfl)]
        simp only [s_X3_readNumbers_21, s_X3_readNumbers_23, s_X3_readNumbers_26]
        rfl
      · rw [if_neg (by rw [nI_eq (by omega) (by omega)]; omega), if_neg hr]
        simp only [s_X3_readNumbers_21, s_X3_readNumbers_23, s_X3_readNumbers_26]
        rfl
    have e0 : am_e 21 2 [.ref 2, .int (nI (k + (r + 1))), .int (nI k)] [] I A G = am_e 21 28 [.ref 2, .int (nI (k + (r + 1))), .int (nI k)] [.int (nI (if r = 0 then 59 else 44)), .int (nI k), .ref 2] I A G := by
      rw [← hsg]
      refine (s_X3_readNumbers_2).trans ?_
      simp only [s_X3_readNumbers_3, s_X3_readNumbers_4, s_X3_readNumbers_7, s_X3_readNumbers_8, s_X3_readNumbers_9, s_X3_readNumbers_12, s_X3_readNumbers_13, s_X3_readNumbers_14, s_X3_readNumbers_15, s_X3_readNumbers_16, s_X3_readNumbers_17, s_X3_readNumbers_18]
      rw [if_neg (by rw [nI_leI (by omega) (by omega)]; omega), if_neg (by rw [show (4 : Int32) = nI 4 from rfl, nI_leI (by omega) (by omega)]; omega)]
    unfold pf_ns
    cases h1 : pf_num n t q (if r = 0 then 59 else 44) with
    | none =>
      refine ⟨fun l q' hq => (by cases hq), fun _ => ?_⟩
      obtain ⟨I', A', e1, e2, e3⟩ := w2 h1
      refine ⟨I', A', ?_, e2, e3⟩
      rw [e0]
      simp only [s_X3_readNumbers_28, s_X3_readNumbers_31, s_X3_readNumbers_34, s_X3_readNumbers_35, e1, am_k_some, am_push_i, if_true, am_01_0, true_or]
    | some x =>
      obtain ⟨v, q1⟩ := x
      have e1 := w1 v q1 h1
      obtain ⟨a1, a2, a3, a4⟩ := pf_num_i h1
      have a4 := a4 (by split <;> omega)
      obtain ⟨z1, z2⟩ := X3_readNumbers_loop (n := n) (t := t) (G := G) r (k + 1) q1 (am_u I 2 3 (nI q1)) (am_u A 3 k (nI v)) (by omega) (h.mv a4 (am_u_ne (by decide)))
      have e2 : am_e 21 2 [.ref 2, .int (nI (k + (r + 1))), .int (nI k)] [] I A G = am_e 21 2 [.ref 2, .int (nI (k + 1 + r)), .int (nI (k + 1))] [] (am_u I 2 3 (nI q1)) (am_u A 3 k (nI v)) G := by
        rw [e0]
        simp only [s_X3_readNumbers_28, s_X3_readNumbers_31, s_X3_readNumbers_34, s_X3_readNumbers_35, s_X3_readNumbers_36, s_X3_readNumbers_39, e1, am_k_some, am_push_i, show ((1 : Int32) = 0) = False by decide, if_false, am_add1]
        rw [show k + (r + 1) = k + 1 + r by omega]
      rw [e2]
      dsimp only
      cases h2 : pf_ns n t r q1 with
      | none =>
        refine ⟨fun l q' hq => (by cases hq), fun _ => ?_⟩
        obtain ⟨I', A', f1, f2, f3⟩ := z2 h2
        exact ⟨I', A', f1, fun a j hj => by rw [f2 a j hj, am_u_at, if_neg hj], fun a ha => by rw [f3 a ha, am_u_ne ha]⟩
      | some y =>
        obtain ⟨l1, q2⟩ := y
        refine ⟨fun l q' hq => ?_, fun hq => by cases hq⟩
        cases hq
        obtain ⟨A', f1, f2, f3, f4⟩ := z1 l1 _ h2
        refine ⟨A', ?_, fun a ha => by rw [f2 a ha, am_u_ne ha], fun i hi => ?_, fun i hi => by rw [f4 i (by omega), am_u_at, if_neg (by omega)]⟩
        · rw [f1, am_uu, show k + 1 + r = k + (r + 1) by omega]
        · cases i with
          | zero =>
            rw [f4 (k + 0) (by omega), am_u_at, if_pos ⟨rfl, by omega⟩]
            rfl
          | succ i =>
            rw [show k + (i + 1) = k + 1 + i by omega, f3 i (by omega)]
            rfl
theorem e_X3_numbersBehind {c : Nat} {I A : am_F} {G : am_G} (hc : c < 256) : am_e 19 0 [.int (nI c)] [] I A G = some (.int (nI (pf_many c)), I, A, G) := by
  have hh : ∀ d, d < 256 → (nI c = nI d) = (c = d) := fun d hd => propext (nI_eq (by omega) (by omega))
  simp only [s_X3_numbersBehind_0, s_X3_numbersBehind_1, s_X3_numbersBehind_100, s_X3_numbersBehind_101, s_X3_numbersBehind_102, s_X3_numbersBehind_103, s_X3_numbersBehind_104, s_X3_numbersBehind_105, s_X3_numbersBehind_106, s_X3_numbersBehind_107, s_X3_numbersBehind_108, s_X3_numbersBehind_109]
  have k : ∀ d, d < 256 → (nI c = nI d) = (c = d) := hh
  rw [show (99 : Int32) = nI 99 from rfl, show (100 : Int32) = nI 100 from rfl, show (101 : Int32) = nI 101 from rfl, show (102 : Int32) = nI 102 from rfl, show (103 : Int32) = nI 103 from rfl, show (104 : Int32) = nI 104 from rfl, show (105 : Int32) = nI 105 from rfl, show (106 : Int32) = nI 106 from rfl, show (107 : Int32) = nI 107 from rfl, show (108 : Int32) = nI 108 from rfl, show (109 : Int32) = nI 109 from rfl, show (110 : Int32) = nI 110 from rfl, show (111 : Int32) = nI 111 from rfl, show (112 : Int32) = nI 112 from rfl, show (113 : Int32) = nI 113 from rfl, show (114 : Int32) = nI 114 from rfl, show (115 : Int32) = nI 115 from rfl, show (116 : Int32) = nI 116 from rfl, show (117 : Int32) = nI 117 from rfl, show (118 : Int32) = nI 118 from rfl, show (119 : Int32) = nI 119 from rfl]
  simp only [k 99 (by omega), k 100 (by omega), k 101 (by omega), k 102 (by omega), k 103 (by omega), k 104 (by omega), k 105 (by omega), k 106 (by omega), k 107 (by omega), k 108 (by omega), k 109 (by omega), k 110 (by omega), k 111 (by omega), k 112 (by omega), k 113 (by omega), k 114 (by omega), k 115 (by omega), k 116 (by omega), k 117 (by omega), k 118 (by omega), k 119 (by omega)]
  unfold pf_many
  rcases (show c = 99 ∨ c = 100 ∨ c = 104 ∨ c = 109 ∨ c = 111 ∨ c = 115 ∨ c = 118 ∨ c = 119 ∨ (c ≠ 99 ∧ c ≠ 100 ∧ c ≠ 104 ∧ c ≠ 109 ∧ c ≠ 111 ∧ c ≠ 115 ∧ c ≠ 118 ∧ c ≠ 119) by omega) with rfl | rfl | rfl | rfl | rfl | rfl | rfl | rfl | ⟨h1, h2, h3, h4, h5, h6, h7, h8⟩
  all_goals first | (simp; done) | (simp; rfl) | skip
  simp [h1, h2, h3, h4, h5, h6, h7, h8]
  repeat' split
  all_goals rfl
/-- smoky halls, as bits -/
def pf_smk (P : sg_P) : Nat → Int32
  | 0 => 0
  | h + 1 => pf_wb (pf_smk P h) (nI h) (if 0 < P 1 h then 1 else 0)
theorem pf_smk_c {P P' : sg_P} : ∀ (h : Nat), (∀ i, i < h → P' 1 i = P 1 i) → pf_smk P' h = pf_smk P h
  | 0, _ => rfl
  | h + 1, hq => by
    unfold pf_smk
    rw [pf_smk_c h (fun i hi => hq i (by omega)), hq h (by omega)]
/-- a plan's cells, with the smoky ones -/
def cr_q (p : Nat) (P : sg_P) (I A : am_F) : Prop := cr_p p P I A ∧ I p 11 = pf_smk P (P 7 0)
theorem e_X2_isTold {p : Nat} {i : Int32} {I A : am_F} {G : am_G} (hp : p = 5 ∨ p = 25) : am_e 8 0 [.ref p, .int i] [] I A G = some (.int (am_bi (decide (¬ i < 0 ∧ ¬ I p 9 ≤ i))), I, A, G) := by
  rcases hp with rfl | rfl <;>
  (simp only [s_X2_isTold_0, s_X2_isTold_1, s_X2_isTold_4, s_X2_isTold_5, s_X2_isTold_6_at5, s_X2_isTold_6_at25, s_X2_isTold_9, s_X2_isTold_12, s_X2_isTold_13, s_X2_isTold_16, s_X2_isTold_17, am_01_0, am_01_1, if_true]
   repeat' split
   all_goals simp_all [am_bi])
/-- which cells a plan's method may change -/
def fr_p (p : Nat) (I A I' A' : am_F) : Prop := (∀ a j, a ≠ p → I' a j = I a j) ∧ ∀ a, ¬ (p < a ∧ a ≤ p + 7) → A' a = A a
theorem am_told {p x : Nat} {P : sg_P} {I A : am_F} (hv : vq_p P) (hp : cr_p p P I A) (hx : x < 2 ^ 31) : decide (¬ nI x < 0 ∧ ¬ I p 9 ≤ nI x) = decide (x < P 7 0) := by
  have hH := hv.1
  rw [hp.1]
  by_cases h : x < P 7 0
  · rw [decide_eq_true h, decide_eq_true ⟨nI_pos hx, by rw [nI_leI (by omega) hx]; omega⟩]
  · rw [decide_eq_false h, decide_eq_false (fun q => q.2 (by rw [nI_leI (by omega) hx]; omega))]
