/-! ===== the class: all doors in order; a wind follows a plan ===== -/
theorem X5_doorsOut {x D : Nat} {F : Nat → Nat} {pls : List Nat} {I : am_F} {G : am_G} (hx : x = 13 ∨ x = 19 ∨ x = 33 ∨ x = 39) (hD : D ≤ 10) (hI : I x 6 = nI D) (hI3 : I x 3 = nI pls.length) (hF9 : ∀ d, F d < 100) (hp9 : ∀ a ∈ pls, a < 100) (hnd : pls.Nodup) (hpl : pls.length ≤ 9) : ∀ (r m : Nat) (g : Value) (A : am_F), m + r = pls.length → (∀ e, e < D → A (x + 1) e = nI (F e)) → (∀ k, k < pls.length → A (x + 3) k = nI (pls.getD k 0)) → (∀ k, k < ((pls.take m).flatMap (pf_sg F D)).length → A (x + 4) k = nI (((pls.take m).flatMap (pf_sg F D)).getD k 0)) → (∀ k, k < m → A (x + 5) k = nI ((pls.take (k + 1)).flatMap (pf_sg F D)).length) → ∃ A' : am_F, am_e 34 4 [.ref x, .int (nI ((pls.take m).flatMap (pf_sg F D)).length), .int (nI m), g] [] I A G = some (.null, I, A', G) ∧ (∀ b, b ≠ x + 4 → b ≠ x + 5 → A' b = A b) ∧ (∀ k, k < (pls.flatMap (pf_sg F D)).length → A' (x + 4) k = nI ((pls.flatMap (pf_sg F D)).getD k 0)) ∧ ∀ k, k < pls.length → A' (x + 5) k = nI ((pls.take (k + 1)).flatMap (pf_sg F D)).length := by
  intro r
  induction r with
  | zero =>
    intro m g A hm hF hP hA hE
    have : m = pls.length := by omega
    subst this
    rw [List.take_length] at hA ⊢
    refine ⟨A, ?_, fun b _ _ => rfl, hA, hE⟩
    refine (s_X5_orderDoors_4).trans ?_
    rcases hx with rfl | rfl | rfl | rfl <;> simp only [s_X5_orderDoors_5, s_X5_orderDoors_6_at13, s_X5_orderDoors_6_at19, s_X5_orderDoors_6_at33, s_X5_orderDoors_6_at39, s_X5_orderDoors_9, s_X5_orderDoors_66, hI3, Int32.le_refl, if_true]
  | succ r ih =>
    intro m g A hm hF hP hA hE
    have hml : m < pls.length := by omega
    have htk : pls.take (m + 1) = pls.take m ++ [pls.getD m 0] := by
      rw [List.take_succ_eq_append_getElem hml, List.getD_eq_getElem?_getD, List.getElem?_eq_getElem hml]
      rfl
    have ham : pls.getD m 0 ∈ pls := by
      rw [List.getD_eq_getElem?_getD, List.getElem?_eq_getElem hml]
      exact List.getElem_mem hml
    have hfm : (pls.take (m + 1)).flatMap (pf_sg F D) = (pls.take m).flatMap (pf_sg F D) ++ pf_sg F D (pls.getD m 0) := by
      rw [htk, List.flatMap_append]
      simp
    have hcap : ((pls.take m).flatMap (pf_sg F D)).length + (pf_sg F D (pls.getD m 0)).length ≤ 10 := by
      have h1 := pf_ln_fm F D (pls.take (m + 1))
      rw [hfm, List.length_append] at h1
      have h2 := pf_ln_le F (List.Nodup.sublist (List.take_sublist (m + 1) pls) hnd) D
      omega
    have hn : (nI pls.length ≤ nI m) = False := eq_false (by rw [nI_leI (by omega) (by omega)]; omega)
    have hz : pf_sg F 0 (pls.getD m 0) = [] := rfl
    have e0 : am_e 34 4 [.ref x, .int (nI ((pls.take m).flatMap (pf_sg F D)).length), .int (nI m), g] [] I A G = am_e 34 14 [.ref x, .int (nI ((pls.take m).flatMap (pf_sg F D) ++ pf_sg F 0 (pls.getD m 0)).length), .int (nI m), .int (nI 0)] [] I A G := by
      rw [hz, List.append_nil]
      refine (s_X5_orderDoors_4).trans ?_
      rcases hx with rfl | rfl | rfl | rfl <;> (simp only [s_X5_orderDoors_5, s_X5_orderDoors_6_at13, s_X5_orderDoors_6_at19, s_X5_orderDoors_6_at33, s_X5_orderDoors_6_at39, s_X5_orderDoors_9, s_X5_orderDoors_12, s_X5_orderDoors_13, hI3, hn, if_false]; rfl)
    obtain ⟨A1, f1, f2, f3⟩ := X5_doorsIn (m := m) (a := pls.getD m 0) (pre := (pls.take m).flatMap (pf_sg F D)) (I := I) (G := G) hx hD hI hF9 (hp9 _ ham) (by omega) hcap D 0 A (by omega) hF (hP m hml) (by rw [hz, List.append_nil]; exact hA)
    rw [← hfm] at f1 f3
    have c1 := nI_clamp (show m < 2 ^ 31 by omega)
    have x1 := am_ixF (show m < 9 by omega) (show 9 < 2 ^ 31 by omega)
    obtain ⟨A', g1, g2, g3, g4⟩ := ih (m + 1) (.int (nI D)) (am_u A1 (x + 5) m (nI ((pls.take (m + 1)).flatMap (pf_sg F D)).length)) (by omega) (fun e he => by rw [am_u_ne (by omega), f2 _ (by omega)]; exact hF e he) (fun k hk => by rw [am_u_ne (by omega), f2 _ (by omega)]; exact hP k hk) (fun k hk => by rw [am_u_ne (by omega)]; exact f3 k hk) (fun k hk => by
      rw [am_u_at]
      by_cases hkm : k = m
      · rw [if_pos ⟨rfl, hkm⟩, hkm]
      · rw [if_neg (fun q => hkm q.2), f2 _ (by omega)]
        exact hE k (by omega))
    refine ⟨A', ?_, fun b h1 h2 => by rw [g2 b h1 h2, am_u_ne h2, f2 b h1], g3, g4⟩
    rw [e0, f1, ← g1]
    rcases hx with rfl | rfl | rfl | rfl <;> simp only [s_X5_orderDoors_53, s_X5_orderDoors_54_at13, s_X5_orderDoors_54_at19, s_X5_orderDoors_54_at33, s_X5_orderDoors_54_at39, s_X5_orderDoors_57, s_X5_orderDoors_58, s_X5_orderDoors_59, s_X5_orderDoors_60, s_X5_orderDoors_63, am_len_18, am_len_24, am_len_38, am_len_44, c1, x1, if_false, am_add1, Nat.reduceAdd]
/-- a wind that is settled: ways, places in order, doors by places -/
def wd_ok (P : sg_P) (u : Bool) (x : Nat) (pl : List Nat) (I A : am_F) : Prop := I x 3 = nI (P 7 0 + 1) ∧ I x 6 = nI (P 7 1) ∧ (∀ d, d < P 7 1 → A (x + 1) d = nI (pf_fr P u d) ∧ A (x + 2) d = nI (pf_to P u d)) ∧ pl.Perm (List.range (P 7 0)) ∧ pf_so P u pl ∧ (∀ k, k < P 7 0 + 1 → A (x + 3) k = nI ((8 :: pl).getD k 0)) ∧ (∀ k, k < ((8 :: pl).flatMap (pf_sg (pf_fr P u) (P 7 1))).length → A (x + 4) k = nI (((8 :: pl).flatMap (pf_sg (pf_fr P u) (P 7 1))).getD k 0)) ∧ ∀ k, k < P 7 0 + 1 → A (x + 5) k = nI (((8 :: pl).take (k + 1)).flatMap (pf_sg (pf_fr P u) (P 7 1))).length
