/-! ===== the model: door items, items, all ===== -/
theorem am_leH {v H : Nat} (hv : v < 2 ^ 30) (hH : H < 2 ^ 30) : (0 ≤ nI v ∧ nI v ≤ nI H - 1) ↔ v < H := by
  rw [am_rngM (by omega)]
  constructor
  · rintro ⟨j, hj, he⟩
    rw [nI_eq (by omega) (by omega)] at he
    omega
  · intro h
    exact ⟨v, h, rfl⟩
theorem X7_nmHS {n q s H v q' : Nat} {t : Nat → Nat} {I A : am_F} {G : am_G} (h : mr_r n t q I A) (hs : s = 44 ∨ s = 59) (hH : H ≤ 8) (h1 : pf_num n t q s = some (v, q')) (h2 : v < H) : ∃ I', am_e 84 0 [.ref 69, .int 0, .int (nI H - 1), .int (nI s), .null, .null] [] I A G = some (.int 1, I', A, G) ∧ mr_r n t q' I' A ∧ I' 69 3 = nI v ∧ ∀ a j, ¬ (a = 69 ∧ (j = 2 ∨ j = 3)) → I' a j = I a j := by
  obtain ⟨b1, b2, b3, b4⟩ := pf_num_i h1
  have hq := (am_leH (v := v) (H := H) (by omega) (by omega)).mpr h2
  obtain ⟨I', e1, e2, e3, e4⟩ := (e_X7_isNumber (lo := 0) (hi := nI H - 1) (G := G) h hs).1 v q' h1 hq.1 hq.2
  exact ⟨I', e1, h.mv (b4 (by omega)) e2 (e4 69 0 (by omega)) rfl, e3, e4⟩
theorem X7_nmHF {n q s H : Nat} {t : Nat → Nat} {I A : am_F} {G : am_G} (h : mr_r n t q I A) (hs : s = 44 ∨ s = 59) (hH : H ≤ 8) (h1 : ∀ v q', pf_num n t q s = some (v, q') → ¬ v < H) : ∃ I', am_e 84 0 [.ref 69, .int 0, .int (nI H - 1), .int (nI s), .null, .null] [] I A G = some (.int 0, I', A, G) ∧ ∀ a j, ¬ (a = 69 ∧ (j = 2 ∨ j = 3)) → I' a j = I a j := by
  refine (e_X7_isNumber (lo := 0) (hi := nI H - 1) (G := G) h hs).2 (fun v q' hq hc => h1 v q' hq ?_)
  have := (pf_num_i hq).1
  exact (am_leH (by omega) (by omega)).mp hc
/-- the end of a door item: how wide, of which kind -/
theorem X7_doorEnd {n q : Nat} {t : Nat → Nat} {P : sg_P} {x j : Nat} {b : Int32} {I A B : am_F} {G : am_G} (hv : vq_p P) (hD : P 7 1 < 10) (hp : mr_q P B A) (hI : ∀ a k, ¬ (a = 69 ∧ (k = 2 ∨ k = 3)) → I a k = B a k) (h : mr_r n t q I (am_u (am_u A 72 (4 * P 7 1) (nI x)) 72 (4 * P 7 1 + 1) (if j = 8 then -4 else nI j))) : (∀ w q1 k q2, pf_num n t q 44 = some (w, q1) → pf_num n t q1 59 = some (k, q2) → 1 ≤ w → w ≤ 50 → k ≤ 3 → ∃ I' A', am_e 86 115 [.ref 69, .int b, .int (nI (4 * P 7 1))] [] I (am_u (am_u A 72 (4 * P 7 1) (nI x)) 72 (4 * P 7 1 + 1) (if j = 8 then -4 else nI j)) G = some (.int 1, I', A', G) ∧ mr_q (pf_doorP P x j w k) I' A' ∧ mr_r n t q2 I' A' ∧ fr_m B A I' A') ∧ ((∀ w q1 k q2, pf_num n t q 44 = some (w, q1) → pf_num n t q1 59 = some (k, q2) → ¬ (1 ≤ w ∧ w ≤ 50 ∧ k ≤ 3)) → ∃ I' A', am_e 86 115 [.ref 69, .int b, .int (nI (4 * P 7 1))] [] I (am_u (am_u A 72 (4 * P 7 1) (nI x)) 72 (4 * P 7 1 + 1) (if j = 8 then -4 else nI j)) G = some (.int 0, I', A', G) ∧ fr_m B A I' A') := by
  obtain ⟨p1, p2, p3, p4, p5, p6, p7, p8, p9, p10⟩ := hp
  have c2 := nI_clamp (show 4 * P 7 1 + 2 < 2 ^ 31 by omega)
  have c3 := nI_clamp (show 4 * P 7 1 + 3 < 2 ^ 31 by omega)
  have x2 := am_ixF (show 4 * P 7 1 + 2 < 40 by omega) (by omega)
  have x3 := am_ixF (show 4 * P 7 1 + 3 < 40 by omega) (by omega)
  generalize hAA : am_u (am_u A 72 (4 * P 7 1) (nI x)) 72 (4 * P 7 1 + 1) (if j = 8 then -4 else nI j) = AA at h ⊢
  have frA : ∀ a, a ≠ 72 → AA a = A a := fun a ha => by rw [← hAA, am_u_ne ha, am_u_ne ha]
  by_cases hw : ∃ w q1, pf_num n t q 44 = some (w, q1) ∧ 1 ≤ w ∧ w ≤ 50
  · obtain ⟨w, q1, h1, hw1, hw2⟩ := hw
    obtain ⟨I1, e1, e2, e3, e4⟩ := X7_nmS (lo := 1) (hi := 50) (G := G) h (Or.inl rfl) (by omega) (by omega) h1 hw1 hw2
    have e1' : am_e 84 0 [.ref 69, .int 1, .int 50, .int 44, .null, .null] [] I AA G = some (.int 1, I1, AA, G) := e1
    have hr1 : mr_r n t q1 I1 (am_u AA 72 (4 * P 7 1 + 2) (nI w)) := e2.mv e2.2.1 e2.2.2.1 rfl (am_u_ne (by decide))
    have b1 : am_e 86 115 [.ref 69, .int b, .int (nI (4 * P 7 1))] [] I AA G = am_e 86 141 [.ref 69, .int b, .int (nI (4 * P 7 1))] [] I1 (am_u AA 72 (4 * P 7 1 + 2) (nI w)) G := by
      simp only [s_X7_isDoorItem_115, s_X7_isDoorItem_116, s_X7_isDoorItem_117, s_X7_isDoorItem_119, s_X7_isDoorItem_121, s_X7_isDoorItem_124, s_X7_isDoorItem_127, s_X7_isDoorItem_128, s_X7_isDoorItem_129, s_X7_isDoorItem_130, s_X7_isDoorItem_133, s_X7_isDoorItem_134, s_X7_isDoorItem_135, s_X7_isDoorItem_136, s_X7_isDoorItem_137, s_X7_isDoorItem_140, e1', am_k_some, am_push_i, show ((1 : Int32) = 0) = False by decide, if_false, am_add2, am_len_72, c2, x2, e3]
    have frI : ∀ a k, ¬ (a = 69 ∧ (k = 2 ∨ k = 3)) → I1 a k = B a k := fun a k hk => by rw [e4 a k hk, hI a k hk]
    by_cases hk : ∃ k q2, pf_num n t q1 59 = some (k, q2) ∧ k ≤ 3
    · obtain ⟨k, q2, h2, hk3⟩ := hk
      obtain ⟨I2, f1, f2, f3, f4⟩ := X7_nmS (lo := 0) (hi := 3) (G := G) hr1 (Or.inr rfl) (by omega) (by omega) h2 (by omega) hk3
      have f1' : am_e 84 0 [.ref 69, .int 0, .int 3, .int 59, .null, .null] [] I1 (am_u AA 72 (4 * P 7 1 + 2) (nI w)) G = some (.int 1, I2, am_u AA 72 (4 * P 7 1 + 2) (nI w), G) := f1
      have frJ : ∀ a k, ¬ (a = 69 ∧ (k = 2 ∨ k = 3)) → I2 a k = B a k := fun a k hk => by rw [f4 a k hk, frI a k hk]
      have k5 : I2 69 5 = nI (P 7 1) := by rw [frJ 69 5 (by omega)]; exact p2
      refine ⟨fun w' q1' k' q2' g1 g2 _ _ _ => ?_, fun hq => absurd ⟨hw1, hw2, hk3⟩ (hq _ _ _ _ h1 h2)⟩
      rw [h1] at g1
      cases g1
      rw [h2] at g2
      cases g2
      subst hAA
      refine ⟨am_u I2 69 5 (nI (P 7 1 + 1)), am_u (am_u (am_u (am_u A 72 (4 * P 7 1) (nI x)) 72 (4 * P 7 1 + 1) (if j = 8 then -4 else nI j)) 72 (4 * P 7 1 + 2) (nI w)) 72 (4 * P 7 1 + 3) (nI k), ?_, ⟨?_, ?_, fun i hi => ?_, fun d hd => ?_, ?_, ?_, ?_, ?_, ?_, ?_⟩, ?_, ⟨fun a y hj => ?_, fun a h1 h2 h3 => ?_⟩⟩
      · rw [b1]
        simp only [s_X7_isDoorItem_141, s_X7_isDoorItem_142, s_X7_isDoorItem_143, s_X7_isDoorItem_144, s_X7_isDoorItem_146, s_X7_isDoorItem_149, s_X7_isDoorItem_152, s_X7_isDoorItem_153, s_X7_isDoorItem_154, s_X7_isDoorItem_155, s_X7_isDoorItem_158, s_X7_isDoorItem_159, s_X7_isDoorItem_160, s_X7_isDoorItem_161, s_X7_isDoorItem_162, s_X7_isDoorItem_165, s_X7_isDoorItem_166, s_X7_isDoorItem_167, s_X7_isDoorItem_168, s_X7_isDoorItem_171, s_X7_isDoorItem_172, s_X7_isDoorItem_173, s_X7_isDoorItem_176, s_X7_isDoorItem_177, f1', am_k_some, am_push_i, show ((1 : Int32) = 0) = False by decide, if_false, am_add3, am_len_72, c3, x3, f3, k5, am_add1, am_01_1, or_true, if_true]
      · simp [am_u_at, pf_doorP]; rw [frJ 69 4 (by omega)]; exact p1
      · simp [am_u_at, pf_doorP]
      · simp [pf_doorP, am_uN] at hi
        simp [am_u_at, pf_doorP]
        exact p3 i hi
      · simp [pf_doorP, am_uN] at hd
        by_cases hd2 : d = P 7 1
        · subst hd2
          simp [am_u_at, pf_doorP, am_uN]
        · have hlow : ∀ y, y < 4 * P 7 1 → am_u (am_u (am_u (am_u A 72 (4 * P 7 1) (nI x)) 72 (4 * P 7 1 + 1) (if j = 8 then -4 else nI j)) 72 (4 * P 7 1 + 2) (nI w)) 72 (4 * P 7 1 + 3) (nI k) 72 y = A 72 y := by
            intro y hy
            rw [am_u_at, if_neg (by omega), am_u_at, if_neg (by omega), am_u_at, if_neg (by omega), am_u_at, if_neg (by omega)]
          rw [hlow (4 * d) (by omega), hlow (4 * d + 1) (by omega), hlow (4 * d + 2) (by omega), hlow (4 * d + 3) (by omega)]
          simp [pf_doorP, am_uN, hd2]
          exact p4 d (by omega)
      · simp [am_u_at, pf_doorP]; exact p5
      · simp [am_u_at, pf_doorP]; exact p6
      · simp [am_u_at, pf_doorP]; exact p7
      · simp [am_u_at, pf_doorP]; exact p8
      · simp [am_u_at, pf_doorP]; exact p9
      · simp [am_u_at, pf_doorP]; exact p10
      · exact f2.mv f2.2.1 (by simpa [am_u_at] using f2.2.2.1) (by simp [am_u_at]) (am_u_ne (by decide))
      · rw [am_u_at, if_neg (by omega)]; exact frJ a y (by omega)
      · rw [am_u_ne h2, am_u_ne h2, am_u_ne h2, am_u_ne h2]
    · refine ⟨fun w' q1' k' q2' g1 g2 _ _ g3 => ?_, fun _ => ?_⟩
      · rw [h1] at g1
        cases g1
        exact absurd ⟨k', q2', g2, g3⟩ hk
      · obtain ⟨I2, f1, f4⟩ := X7_nmF (lo := 0) (hi := 3) (G := G) hr1 (Or.inr rfl) (by omega) (by omega) (fun v q' hq hc => hk ⟨v, q', hq, hc.2⟩)
        have f1' : am_e 84 0 [.ref 69, .int 0, .int 3, .int 59, .null, .null] [] I1 (am_u AA 72 (4 * P 7 1 + 2) (nI w)) G = some (.int 0, I2, am_u AA 72 (4 * P 7 1 + 2) (nI w), G) := f1
        refine ⟨I2, am_u AA 72 (4 * P 7 1 + 2) (nI w), ?_, ⟨fun a y hj => by rw [f4 a y (by omega), frI a y (by omega)], fun a h1 h2 h3 => by rw [am_u_ne h2, frA a h2]⟩⟩
        rw [b1]
        simp only [s_X7_isDoorItem_141, s_X7_isDoorItem_142, s_X7_isDoorItem_143, s_X7_isDoorItem_144, s_X7_isDoorItem_146, s_X7_isDoorItem_149, s_X7_isDoorItem_152, s_X7_isDoorItem_153, f1', am_k_some, am_push_i, if_true, am_01_0, true_or]
  · refine ⟨fun w' q1' k' q2' g1 _ g2 g3 _ => absurd ⟨w', q1', g1, g2, g3⟩ hw, fun _ => ?_⟩
    obtain ⟨I2, f1, f4⟩ := X7_nmF (lo := 1) (hi := 50) (G := G) h (Or.inl rfl) (by omega) (by omega) (fun v q' hq hc => hw ⟨v, q', hq, hc⟩)
    have f1' : am_e 84 0 [.ref 69, .int 1, .int 50, .int 44, .null, .null] [] I AA G = some (.int 0, I2, AA, G) := f1
    refine ⟨I2, AA, ?_, ⟨fun a y hj => by rw [f4 a y (by omega), hI a y (by omega)], fun a h1 h2 h3 => frA a h2⟩⟩
    simp only [s_X7_isDoorItem_115, s_X7_isDoorItem_116, s_X7_isDoorItem_117, s_X7_isDoorItem_119, s_X7_isDoorItem_121, s_X7_isDoorItem_124, s_X7_isDoorItem_127, s_X7_isDoorItem_128, f1', am_k_some, am_push_i, if_true, am_01_0, true_or]
theorem pf_take_o {P : sg_P} {x w k : Nat} : pf_take P 111 [x, w, k] = if P 7 1 < 10 ∧ x < P 7 0 ∧ 1 ≤ w ∧ w ≤ 50 ∧ k ≤ 3 then some (pf_doorP P x 8 w k) else none := rfl
theorem pf_take_d {P : sg_P} {x j w k : Nat} : pf_take P 100 [x, j, w, k] = if P 7 1 < 10 ∧ x < P 7 0 ∧ j < P 7 0 ∧ P 0 x ≠ P 0 j ∧ 1 ≤ w ∧ w ≤ 50 ∧ k ≤ 3 then some (pf_doorP P x j w k) else none := rfl
/-- the beginning of a door item -/
theorem X7_doorBegin {n q : Nat} {t : Nat → Nat} {P : sg_P} {b : Int32} {I A : am_F} {G : am_G} (hv : vq_p P) (hp : mr_q P I A) (h : mr_r n t q I A) : (∀ x q0, pf_num n t q 44 = some (x, q0) → P 7 1 < 10 → x < P 7 0 → ∃ I', am_e 86 0 [.ref 69, .int b, .null] [] I A G = am_e 86 54 [.ref 69, .int b, .int (nI (4 * P 7 1))] [] I' (am_u (am_u A 72 (4 * P 7 1) (nI x)) 72 (4 * P 7 1 + 1) (-4)) G ∧ mr_r n t q0 I' (am_u (am_u A 72 (4 * P 7 1) (nI x)) 72 (4 * P 7 1 + 1) (-4)) ∧ ∀ a k, ¬ (a = 69 ∧ (k = 2 ∨ k = 3)) → I' a k = I a k) ∧ ((∀ x q0, pf_num n t q 44 = some (x, q0) → ¬ (P 7 1 < 10 ∧ x < P 7 0)) → ∃ I' A', am_e 86 0 [.ref 69, .int b, .null] [] I A G = some (.int 0, I', A', G) ∧ fr_m I A I' A') := by
  have hH := hv.1
  have hD := hv.2.1
  obtain ⟨p1, p2, p3, p4, p5, p6, p7, p8, p9, p10⟩ := hp
  have g10 : (nI (P 7 1) = 10) = (P 7 1 = 10) := propext (nI_eq (by omega) (by omega) : nI (P 7 1) = nI 10 ↔ _)
  by_cases h10 : P 7 1 = 10
  · refine ⟨fun x q0 _ hq => by omega, fun _ => ⟨I, A, ?_, ⟨fun a j _ => rfl, fun a _ _ _ => rfl⟩⟩⟩
    have g10' := g10.trans (eq_true h10)
    simp only [s_X7_isDoorItem_0, s_X7_isDoorItem_1, s_X7_isDoorItem_2, s_X7_isDoorItem_5, s_X7_isDoorItem_6, s_X7_isDoorItem_7, s_X7_isDoorItem_8, s_X7_isDoorItem_11, s_X7_isDoorItem_13, s_X7_isDoorItem_16, s_X7_isDoorItem_17, s_X7_isDoorItem_18, s_X7_isDoorItem_19, s_X7_isDoorItem_22, s_X7_isDoorItem_23, s_X7_isDoorItem_24, s_X7_isDoorItem_26, s_X7_isDoorItem_29, s_X7_isDoorItem_32, s_X7_isDoorItem_33, p2, g10', if_true, am_01_0, true_or]
  · have g10' := g10.trans (eq_false h10)
    have c0 := nI_clamp (show 4 * P 7 1 < 2 ^ 31 by omega)
    have c1 := nI_clamp (show 4 * P 7 1 + 1 < 2 ^ 31 by omega)
    have x0 := am_ixF (show 4 * P 7 1 < 40 by omega) (by omega)
    have x1 := am_ixF (show 4 * P 7 1 + 1 < 40 by omega) (by omega)
    refine ⟨fun x q0 h1 _ hx => ?_, fun hq => ?_⟩
    · obtain ⟨I1, e1, e2, e3, e4⟩ := X7_nmHS (G := G) h (Or.inl rfl) hH h1 hx
      have e1' : am_e 84 0 [.ref 69, .int 0, .int (nI (P 7 0) - 1), .int 44, .null, .null] [] I A G = some (.int 1, I1, A, G) := e1
      refine ⟨I1, ?_, e2.mv e2.2.1 e2.2.2.1 rfl (by rw [am_u_ne (by decide), am_u_ne (by decide)]), e4⟩
      simp only [s_X7_isDoorItem_0, s_X7_isDoorItem_1, s_X7_isDoorItem_2, s_X7_isDoorItem_5, s_X7_isDoorItem_6, s_X7_isDoorItem_7, s_X7_isDoorItem_8, s_X7_isDoorItem_11, s_X7_isDoorItem_13, s_X7_isDoorItem_16, s_X7_isDoorItem_17, s_X7_isDoorItem_18, s_X7_isDoorItem_19, s_X7_isDoorItem_22, s_X7_isDoorItem_23, s_X7_isDoorItem_24, s_X7_isDoorItem_26, s_X7_isDoorItem_29, s_X7_isDoorItem_32, s_X7_isDoorItem_33, s_X7_isDoorItem_34, s_X7_isDoorItem_35, s_X7_isDoorItem_38, s_X7_isDoorItem_39, s_X7_isDoorItem_40, s_X7_isDoorItem_43, s_X7_isDoorItem_44, s_X7_isDoorItem_45, s_X7_isDoorItem_48, s_X7_isDoorItem_49, s_X7_isDoorItem_50, s_X7_isDoorItem_51, s_X7_isDoorItem_53, p2, p1, g10', if_false, e1', am_k_some, am_push_i, show ((1 : Int32) = 0) = False by decide, am_mul4, am_add1, am_len_72, c0, c1, x0, x1, e3]
    · obtain ⟨I1, e1, e4⟩ := X7_nmHF (G := G) h (Or.inl rfl) hH (fun v q' h1 h2 => hq v q' h1 ⟨by omega, h2⟩)
      have e1' : am_e 84 0 [.ref 69, .int 0, .int (nI (P 7 0) - 1), .int 44, .null, .null] [] I A G = some (.int 0, I1, A, G) := e1
      refine ⟨I1, A, ?_, fr_m.n e4⟩
      simp only [s_X7_isDoorItem_0, s_X7_isDoorItem_1, s_X7_isDoorItem_2, s_X7_isDoorItem_5, s_X7_isDoorItem_6, s_X7_isDoorItem_7, s_X7_isDoorItem_8, s_X7_isDoorItem_11, s_X7_isDoorItem_13, s_X7_isDoorItem_16, s_X7_isDoorItem_17, s_X7_isDoorItem_18, s_X7_isDoorItem_19, s_X7_isDoorItem_22, s_X7_isDoorItem_23, s_X7_isDoorItem_24, s_X7_isDoorItem_26, s_X7_isDoorItem_29, s_X7_isDoorItem_32, s_X7_isDoorItem_33, p2, p1, g10', if_false, e1', am_k_some, am_push_i, if_true, am_01_0, true_or]
theorem e_X7_isDoorItemO {n q : Nat} {t : Nat → Nat} {P : sg_P} {I A : am_F} {G : am_G} (hv : vq_p P) (hp : mr_q P I A) (h : mr_r n t q I A) : (∀ l q' P', pf_ns n t 3 q = some (l, q') → pf_take P 111 l = some P' → ∃ I' A', am_e 86 0 [.ref 69, .int 1, .null] [] I A G = some (.int 1, I', A', G) ∧ mr_q P' I' A' ∧ mr_r n t q' I' A' ∧ fr_m I A I' A') ∧ ((∀ l q' P', pf_ns n t 3 q = some (l, q') → pf_take P 111 l ≠ some P') → ∃ I' A', am_e 86 0 [.ref 69, .int 1, .null] [] I A G = some (.int 0, I', A', G) ∧ fr_m I A I' A') := by
  obtain ⟨w1, w2⟩ := X7_doorBegin (b := 1) (G := G) hv hp h
  rw [show (3 : Nat) = 1 + 2 from rfl, pf_ns_s]
  cases h1 : pf_num n t q 44 with
  | none => exact ⟨fun l q' P' hq => (by cases hq), fun _ => w2 (fun x q0 hq => by rw [h1] at hq; cases hq)⟩
  | some a =>
    obtain ⟨x, q0⟩ := a
    dsimp only
    rw [show (1 + 1 : Nat) = 0 + 2 from rfl, pf_ns_s]
    by_cases hc : P 7 1 < 10 ∧ x < P 7 0
    · obtain ⟨I1, e1, e2, e4⟩ := w1 x q0 h1 hc.1 hc.2
      have b1 : am_e 86 0 [.ref 69, .int 1, .null] [] I A G = am_e 86 115 [.ref 69, .int 1, .int (nI (4 * P 7 1))] [] I1 (am_u (am_u A 72 (4 * P 7 1) (nI x)) 72 (4 * P 7 1 + 1) (-4)) G := by
        rw [e1]
        simp only [s_X7_isDoorItem_54, s_X7_isDoorItem_55, show ((1 : Int32) = 0) = False by decide, if_false]
      obtain ⟨z1, z2⟩ := X7_doorEnd (x := x) (j := 8) (b := 1) (G := G) hv hc.1 hp e4 (by rw [if_pos rfl]; exact e2)
      rw [if_pos rfl, ← b1] at z1 z2
      refine ⟨fun l q' P' hq hP => ?_, fun hq => z2 (fun w q1 k q2 h2 h3 hk => ?_)⟩
      · cases h2 : pf_num n t q0 44 with
        | none => rw [h2] at hq; cases hq
        | some y =>
          obtain ⟨w, q1⟩ := y
          rw [h2] at hq
          dsimp only at hq
          rw [show (0 + 1 : Nat) = 1 from rfl, pf_ns_1] at hq
          cases h3 : pf_num n t q1 59 with
          | none => rw [h3] at hq; cases hq
          | some y =>
            obtain ⟨k, q2⟩ := y
            rw [h3] at hq
            cases hq
            rw [pf_take_o] at hP
            split at hP
            · rename_i hcc
              cases hP
              exact z1 w q1 k _ h2 h3 hcc.2.2.1 hcc.2.2.2.1 hcc.2.2.2.2
            · cases hP
      · rw [h2] at hq
        dsimp only at hq
        rw [show (0 + 1 : Nat) = 1 from rfl, pf_ns_1, h3] at hq
        exact hq _ _ (pf_doorP P x 8 w k) rfl (by rw [pf_take_o, if_pos ⟨hc.1, hc.2, hk⟩])
    · refine ⟨fun l q' P' hq hP => ?_, fun _ => w2 (fun x' q0' hq hk => by rw [h1] at hq; cases hq; exact hc hk)⟩
      cases h2 : pf_num n t q0 44 with
      | none => rw [h2] at hq; cases hq
      | some y =>
        obtain ⟨w, q1⟩ := y
        rw [h2] at hq
        dsimp only at hq
        rw [show (0 + 1 : Nat) = 1 from rfl, pf_ns_1] at hq
        cases h3 : pf_num n t q1 59 with
        | none => rw [h3] at hq; cases hq
        | some y =>
          obtain ⟨k, q2⟩ := y
          rw [h3] at hq
          cases hq
          rw [pf_take_o, if_neg (fun q => hc ⟨q.1, q.2.1⟩)] at hP
          cases hP
