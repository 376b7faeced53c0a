/-! ===== the class: doors by the place from which they lead ===== -/
/-- the doors from a place, the lowest first -/
def pf_sg (F : Nat → Nat) (D a : Nat) : List Nat := (List.range D).filter (fun d => F d == a)
theorem pf_sg_s (F : Nat → Nat) (D a : Nat) : pf_sg F (D + 1) a = if F D = a then pf_sg F D a ++ [D] else pf_sg F D a := by
  unfold pf_sg
  rw [List.range_succ, List.filter_append]
  by_cases h : F D = a
  · rw [if_pos h]; simp [h]
  · rw [if_neg h]; simp [h]
def pf_ln (F : Nat → Nat) (D : Nat) : List Nat → Nat
  | [] => 0
  | a :: l => (pf_sg F D a).length + pf_ln F D l
theorem pf_ln_0 (F : Nat → Nat) : ∀ l : List Nat, pf_ln F 0 l = 0
  | [] => rfl
  | a :: l => by unfold pf_ln; rw [pf_ln_0 F l]; rfl
theorem pf_ln_ni (F : Nat → Nat) (D : Nat) : ∀ l : List Nat, F D ∉ l → pf_ln F (D + 1) l = pf_ln F D l
  | [], _ => rfl
  | a :: l, h => by
    unfold pf_ln
    rw [pf_ln_ni F D l (fun q => h (List.mem_cons_of_mem _ q)), pf_sg_s, if_neg (fun q => h (by rw [q]; exact List.mem_cons_self))]
theorem pf_ln_s (F : Nat → Nat) (D : Nat) : ∀ l : List Nat, l.Nodup → pf_ln F (D + 1) l ≤ pf_ln F D l + 1
  | [], _ => Nat.le_succ _
  | a :: l, h => by
    have h1 := List.nodup_cons.mp h
    unfold pf_ln
    rw [pf_sg_s]
    by_cases hq : F D = a
    · rw [if_pos hq, pf_ln_ni F D l (by rw [hq]; exact h1.1)]
      simp
      omega
    · rw [if_neg hq]
      have := pf_ln_s F D l h1.2
      omega
theorem pf_ln_le (F : Nat → Nat) {l : List Nat} (h : l.Nodup) : ∀ D, pf_ln F D l ≤ D
  | 0 => by rw [pf_ln_0]; exact Nat.le_refl _
  | D + 1 => Nat.le_trans (pf_ln_s F D l h) (Nat.succ_le_succ (pf_ln_le F h D))
theorem pf_ln_fm (F : Nat → Nat) (D : Nat) : ∀ l : List Nat, (l.flatMap (pf_sg F D)).length = pf_ln F D l
  | [] => rfl
  | a :: l => by rw [List.flatMap_cons, List.length_append, pf_ln_fm F D l]; rfl
theorem pf_sg_le (F : Nat → Nat) (D a d : Nat) (h : d ≤ D) : (pf_sg F d a).length ≤ (pf_sg F D a).length := by
  induction h with
  | refl => exact Nat.le_refl _
  | step _ ih =>
    refine Nat.le_trans ih ?_
    rw [pf_sg_s]
    split <;> simp
/-- the doors of one place: the inner loop; pre: the doors of the places ahead -/
theorem X5_doorsIn {x m a D : Nat} {F : Nat → Nat} {pre : List Nat} {I : am_F} {G : am_G} (hx : x = 13 ∨ x = 19 ∨ x = 33 ∨ x = 39) (hD : D ≤ 10) (hI : I x 6 = nI D) (hF9 : ∀ d, F d < 100) (ha : a < 100) (hm : m < 9) (hcap : pre.length + (pf_sg F D a).length ≤ 10) : ∀ (r d : Nat) (A : am_F), d + r = D → (∀ e, e < D → A (x + 1) e = nI (F e)) → A (x + 3) m = nI a → (∀ k, k < (pre ++ pf_sg F d a).length → A (x + 4) k = nI ((pre ++ pf_sg F d a).getD k 0)) → ∃ A' : am_F, am_e 34 14 [.ref x, .int (nI (pre ++ pf_sg F d a).length), .int (nI m), .int (nI d)] [] I A G = am_e 34 53 [.ref x, .int (nI (pre ++ pf_sg F D a).length), .int (nI m), .int (nI D)] [] I A' G ∧ (∀ b, b ≠ x + 4 → A' b = A b) ∧ ∀ k, k < (pre ++ pf_sg F D a).length → A' (x + 4) k = nI ((pre ++ pf_sg F D a).getD k 0) := by
  intro r
  induction r with
  | zero =>
    intro d A hd hF hP hA
    have : d = D := by omega
    subst this
    refine ⟨A, ?_, fun b _ => rfl, hA⟩
    refine (s_X5_orderDoors_14).trans ?_
    rcases hx with rfl | rfl | rfl | rfl <;> simp only [s_X5_orderDoors_15, s_X5_orderDoors_16_at13, s_X5_orderDoors_16_at19, s_X5_orderDoors_16_at33, s_X5_orderDoors_16_at39, s_X5_orderDoors_19, hI, Int32.le_refl, if_true]
  | succ r ih =>
    intro d A hd hF hP hA
    have c0 := nI_clamp (show d < 2 ^ 31 by omega)
    have x0 := am_ixF (show d < 10 by omega) (show 10 < 2 ^ 31 by omega)
    have c1 := nI_clamp (show m < 2 ^ 31 by omega)
    have x1 := am_ixF hm (show 9 < 2 ^ 31 by omega)
    have hn : (nI D ≤ nI d) = False := eq_false (by rw [nI_leI (by omega) (by omega)]; omega)
    have hfd := hF d (by omega)
    have heq : (nI (F d) = nI a) = (F d = a) := propext (nI_eq (by have := hF9 d; omega) (by omega))
    by_cases hc : F d = a
    · have hle := pf_sg_le F D a (d + 1) (by omega)
      rw [pf_sg_s, if_pos hc] at hle
      simp at hle
      have c2 := nI_clamp (show (pre ++ pf_sg F d a).length < 2 ^ 31 by rw [List.length_append]; omega)
      have x2 := am_ixF (show (pre ++ pf_sg F d a).length < 10 by rw [List.length_append]; omega) (show 10 < 2 ^ 31 by omega)
      obtain ⟨A', e1, e2, e3⟩ := ih (d + 1) (am_u A (x + 4) (pre ++ pf_sg F d a).length (nI d)) (by omega) (fun e he => by rw [am_u_ne (by omega)]; exact hF e he) (by rw [am_u_ne (by omega)]; exact hP) (fun k hk => by
        rw [pf_sg_s, if_pos hc, ← List.append_assoc, List.length_append, List.length_singleton] at hk
        rw [pf_sg_s, if_pos hc, ← List.append_assoc, List.getD_eq_getElem?_getD, am_u_at]
        by_cases hkl : k = (pre ++ pf_sg F d a).length
        · rw [if_pos ⟨rfl, hkl⟩, hkl, List.getElem?_append_right (Nat.le_refl _), Nat.sub_self]
          rfl
        · rw [if_neg (fun q => hkl q.2), List.getElem?_append_left (by omega), ← List.getD_eq_getElem?_getD]
          exact hA k (by omega))
      refine ⟨A', ?_, fun b hb => by rw [e2 b hb, am_u_ne hb], e3⟩
      rw [← e1, pf_sg_s, if_pos hc, ← List.append_assoc, List.length_append (as := pre ++ pf_sg F d a), List.length_singleton]
      refine (s_X5_orderDoors_14).trans ?_
      have heq' := heq.trans (eq_true hc)
      rcases hx with rfl | rfl | rfl | rfl <;>
      (simp only [Nat.reduceAdd] at hfd hP ⊢
       simp only [s_X5_orderDoors_15, s_X5_orderDoors_16_at13, s_X5_orderDoors_16_at19, s_X5_orderDoors_16_at33, s_X5_orderDoors_16_at39, s_X5_orderDoors_19, s_X5_orderDoors_22, s_X5_orderDoors_23_at13, s_X5_orderDoors_23_at19, s_X5_orderDoors_23_at33, s_X5_orderDoors_23_at39, s_X5_orderDoors_26, s_X5_orderDoors_27, s_X5_orderDoors_28, s_X5_orderDoors_29_at13, s_X5_orderDoors_29_at19, s_X5_orderDoors_29_at33, s_X5_orderDoors_29_at39, s_X5_orderDoors_32, s_X5_orderDoors_33, s_X5_orderDoors_34, s_X5_orderDoors_37, s_X5_orderDoors_38_at13, s_X5_orderDoors_38_at19, s_X5_orderDoors_38_at33, s_X5_orderDoors_38_at39, s_X5_orderDoors_41, s_X5_orderDoors_42, s_X5_orderDoors_43, s_X5_orderDoors_44, s_X5_orderDoors_47, s_X5_orderDoors_50, hI, hn, if_false, am_len_14, am_len_20, am_len_34, am_len_40, am_len_16, am_len_22, am_len_36, am_len_42, am_len_17, am_len_23, am_len_37, am_len_43, c0, x0, c1, x1, hfd, hP, heq', if_true, c2, x2, am_add1])
    · obtain ⟨A', e1, e2, e3⟩ := ih (d + 1) A (by omega) hF hP (by rw [pf_sg_s, if_neg hc]; exact hA)
      refine ⟨A', ?_, e2, e3⟩
      rw [← e1, pf_sg_s, if_neg hc]
      refine (s_X5_orderDoors_14).trans ?_
      have heq' := heq.trans (eq_false hc)
      rcases hx with rfl | rfl | rfl | rfl <;>
      (simp only [Nat.reduceAdd] at hfd hP ⊢
       simp only [s_X5_orderDoors_15, s_X5_orderDoors_16_at13, s_X5_orderDoors_16_at19, s_X5_orderDoors_16_at33, s_X5_orderDoors_16_at39, s_X5_orderDoors_19, s_X5_orderDoors_22, s_X5_orderDoors_23_at13, s_X5_orderDoors_23_at19, s_X5_orderDoors_23_at33, s_X5_orderDoors_23_at39, s_X5_orderDoors_26, s_X5_orderDoors_27, s_X5_orderDoors_28, s_X5_orderDoors_29_at13, s_X5_orderDoors_29_at19, s_X5_orderDoors_29_at33, s_X5_orderDoors_29_at39, s_X5_orderDoors_32, s_X5_orderDoors_33, s_X5_orderDoors_34, s_X5_orderDoors_37, s_X5_orderDoors_38_at13, s_X5_orderDoors_38_at19, s_X5_orderDoors_38_at33, s_X5_orderDoors_38_at39, s_X5_orderDoors_41, s_X5_orderDoors_42, s_X5_orderDoors_43, s_X5_orderDoors_44, s_X5_orderDoors_47, s_X5_orderDoors_50, hI, hn, if_false, am_len_14, am_len_20, am_len_34, am_len_40, am_len_16, am_len_22, am_len_36, am_len_42, c0, x0, c1, x1, hfd, hP, heq', am_add1])
