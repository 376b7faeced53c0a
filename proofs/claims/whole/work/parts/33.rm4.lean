theorem e_X7_isDoorItemD {n q : Nat} {t : Nat → Nat} {P : sg_P} {I A : am_F} {G : am_G} (hv : vq_p P) (hp : mr_q P I A) (h : mr_r n t q I A) : (∀ l q' P', pf_ns n t 4 q = some (l, q') → pf_take P 100 l = some P' → ∃ I' A', am_e 86 0 [.ref 69, .int 0, .null] [] I A G = some (.int 1, I', A', G) ∧ mr_q P' I' A' ∧ mr_r n t q' I' A' ∧ fr_m I A I' A') ∧ ((∀ l q' P', pf_ns n t 4 q = some (l, q') → pf_take P 100 l ≠ some P') → ∃ I' A', am_e 86 0 [.ref 69, .int 0, .null] [] I A G = some (.int 0, I', A', G) ∧ fr_m I A I' A') := by
  have hH := hv.1
  obtain ⟨w1, w2⟩ := X7_doorBegin (b := 0) (G := G) hv hp h
  rw [show (4 : Nat) = 2 + 2 from rfl, pf_ns_s]
  cases h1 : pf_num n t q 44 with
  | none => exact ⟨fun l q' P' hq => (by cases hq), fun _ => w2 (fun x q0 hq => by rw [h1] at hq; cases hq)⟩
  | some a =>
    obtain ⟨x, q0⟩ := a
    dsimp only
    rw [show (2 + 1 : Nat) = 1 + 2 from rfl, pf_ns_s]
    by_cases hc : P 7 1 < 10 ∧ x < P 7 0
    · obtain ⟨I1, e1, e2, e4⟩ := w1 x q0 h1 hc.1 hc.2
      have c0 := nI_clamp (show 4 * P 7 1 < 2 ^ 31 by omega)
      have c1 := nI_clamp (show 4 * P 7 1 + 1 < 2 ^ 31 by omega)
      have x0 := am_ixF (show 4 * P 7 1 < 40 by omega) (by omega)
      have x1 := am_ixF (show 4 * P 7 1 + 1 < 40 by omega) (by omega)
      have k4 : I1 69 4 = nI (P 7 0) := by rw [e4 69 4 (by omega)]; exact hp.1
      have frA : ∀ a, a ≠ 72 → (am_u (am_u A 72 (4 * P 7 1) (nI x)) 72 (4 * P 7 1 + 1) (-4)) a = A a := fun a ha => by rw [am_u_ne ha, am_u_ne ha]
      have hA0 : (am_u (am_u A 72 (4 * P 7 1) (nI x)) 72 (4 * P 7 1 + 1) (-4)) 72 (4 * P 7 1) = nI x := by
        rw [am_u_at, if_neg (by omega), am_u_eq]
      generalize hAA : am_u (am_u A 72 (4 * P 7 1) (nI x)) 72 (4 * P 7 1 + 1) (-4) = AA at e1 e2 frA hA0
      have failj : (∀ j q1, pf_num n t q0 44 = some (j, q1) → ¬ (j < P 7 0 ∧ P 0 x ≠ P 0 j)) → ∃ I' A', am_e 86 0 [.ref 69, .int 0, .null] [] I A G = some (.int 0, I', A', G) ∧ fr_m I A I' A' := by
        intro hf
        by_cases hj : ∃ j q1, pf_num n t q0 44 = some (j, q1) ∧ j < P 7 0
        · obtain ⟨j, q1, h2, hj⟩ := hj
          have heq : P 0 x = P 0 j := Classical.byContradiction fun hne => hf j q1 h2 ⟨hj, hne⟩
          obtain ⟨I2, f1, f2, f3, f4⟩ := X7_nmHS (G := G) e2 (Or.inl rfl) hH h2 hj
          have f1' : am_e 84 0 [.ref 69, .int 0, .int (nI (P 7 0) - 1), .int 44, .null, .null] [] I1 AA G = some (.int 1, I2, AA, G) := f1
          have a1 := (hp.2.2.1 j hj).1
          have a2 := (hp.2.2.1 x hc.2).1
          rw [← frA 71 (by decide)] at a1 a2
          refine ⟨I2, AA, ?_, ⟨fun a k hk => by rw [f4 a k (by omega), e4 a k (by omega)], fun a h1 h2 h3 => frA a h2⟩⟩
          rw [e1]
          simp only [s_X7_isDoorItem_54, s_X7_isDoorItem_55, s_X7_isDoorItem_58, s_X7_isDoorItem_59, s_X7_isDoorItem_60, s_X7_isDoorItem_61, s_X7_isDoorItem_64, s_X7_isDoorItem_65, s_X7_isDoorItem_66, s_X7_isDoorItem_68, s_X7_isDoorItem_71, s_X7_isDoorItem_74, s_X7_isDoorItem_75, s_X7_isDoorItem_78, s_X7_isDoorItem_79, s_X7_isDoorItem_80, s_X7_isDoorItem_83, s_X7_isDoorItem_84, s_X7_isDoorItem_85, s_X7_isDoorItem_86, s_X7_isDoorItem_89, s_X7_isDoorItem_90, s_X7_isDoorItem_91, s_X7_isDoorItem_94, s_X7_isDoorItem_95, s_X7_isDoorItem_96, s_X7_isDoorItem_97, s_X7_isDoorItem_98, s_X7_isDoorItem_101, s_X7_isDoorItem_102, if_true, k4, f1', am_k_some, am_push_i, show ((1 : Int32) = 0) = False by decide, if_false, f3, am_mul3, am_len_71, am_len_72, nI_clamp (show 3 * j < 2 ^ 31 by omega), am_ixF (show 3 * j < 24 by omega) (show 24 < 2 ^ 31 by omega), c0, x0, hA0, nI_clamp (show 3 * x < 2 ^ 31 by omega), am_ixF (show 3 * x < 24 by omega) (show 24 < 2 ^ 31 by omega), a1, a2, heq, am_01_0, true_or]
        · obtain ⟨I2, f1, f4⟩ := X7_nmHF (G := G) e2 (Or.inl rfl) hH (fun v q' h1 h2 => hj ⟨v, q', h1, h2⟩)
          have f1' : am_e 84 0 [.ref 69, .int 0, .int (nI (P 7 0) - 1), .int 44, .null, .null] [] I1 AA G = some (.int 0, I2, AA, G) := f1
          refine ⟨I2, AA, ?_, ⟨fun a k hk => by rw [f4 a k (by omega), e4 a k (by omega)], fun a h1 h2 h3 => frA a h2⟩⟩
          rw [e1]
          simp only [s_X7_isDoorItem_54, s_X7_isDoorItem_55, s_X7_isDoorItem_58, s_X7_isDoorItem_59, s_X7_isDoorItem_60, s_X7_isDoorItem_61, s_X7_isDoorItem_64, s_X7_isDoorItem_65, s_X7_isDoorItem_66, s_X7_isDoorItem_68, s_X7_isDoorItem_71, s_X7_isDoorItem_74, s_X7_isDoorItem_75, s_X7_isDoorItem_78, s_X7_isDoorItem_79, s_X7_isDoorItem_80, s_X7_isDoorItem_83, s_X7_isDoorItem_84, s_X7_isDoorItem_85, s_X7_isDoorItem_86, s_X7_isDoorItem_89, s_X7_isDoorItem_90, s_X7_isDoorItem_91, s_X7_isDoorItem_94, s_X7_isDoorItem_95, s_X7_isDoorItem_96, s_X7_isDoorItem_97, s_X7_isDoorItem_98, s_X7_isDoorItem_101, s_X7_isDoorItem_102, if_true, k4, f1', am_k_some, am_push_i, am_01_0, true_or]
      cases h2 : pf_num n t q0 44 with
      | none => exact ⟨fun l q' P' hq => (by cases hq), fun _ => failj (fun j q1 hq => by rw [h2] at hq; cases hq)⟩
      | some y =>
        obtain ⟨j, q1⟩ := y
        dsimp only
        rw [show (1 + 1 : Nat) = 0 + 2 from rfl, pf_ns_s]
        by_cases hj : j < P 7 0 ∧ P 0 x ≠ P 0 j
        · obtain ⟨I2, f1, f2, f3, f4⟩ := X7_nmHS (G := G) e2 (Or.inl rfl) hH h2 hj.1
          have f1' : am_e 84 0 [.ref 69, .int 0, .int (nI (P 7 0) - 1), .int 44, .null, .null] [] I1 AA G = some (.int 1, I2, AA, G) := f1
          have a1 := (hp.2.2.1 j hj.1).1
          have a2 := (hp.2.2.1 x hc.2).1
          rw [← frA 71 (by decide)] at a1 a2
          have hne : (nI (P 0 j) = nI (P 0 x)) = False := eq_false (by rw [nI_eq (by have := hv.2.2.1 j hj.1; omega) (by have := hv.2.2.1 x hc.2; omega)]; exact fun q => hj.2 q.symm)
          have b1 : am_e 86 0 [.ref 69, .int 0, .null] [] I A G = am_e 86 115 [.ref 69, .int 0, .int (nI (4 * P 7 1))] [] I2 (am_u AA 72 (4 * P 7 1 + 1) (nI j)) G := by
            rw [e1]
            simp only [s_X7_isDoorItem_54, s_X7_isDoorItem_55, s_X7_isDoorItem_58, s_X7_isDoorItem_59, s_X7_isDoorItem_60, s_X7_isDoorItem_61, s_X7_isDoorItem_64, s_X7_isDoorItem_65, s_X7_isDoorItem_66, s_X7_isDoorItem_68, s_X7_isDoorItem_71, s_X7_isDoorItem_74, s_X7_isDoorItem_75, s_X7_isDoorItem_78, s_X7_isDoorItem_79, s_X7_isDoorItem_80, s_X7_isDoorItem_83, s_X7_isDoorItem_84, s_X7_isDoorItem_85, s_X7_isDoorItem_86, s_X7_isDoorItem_89, s_X7_isDoorItem_90, s_X7_isDoorItem_91, s_X7_isDoorItem_94, s_X7_isDoorItem_95, s_X7_isDoorItem_96, s_X7_isDoorItem_97, s_X7_isDoorItem_98, s_X7_isDoorItem_101, s_X7_isDoorItem_102, s_X7_isDoorItem_103, s_X7_isDoorItem_104, s_X7_isDoorItem_107, s_X7_isDoorItem_108, s_X7_isDoorItem_109, s_X7_isDoorItem_110, s_X7_isDoorItem_111, s_X7_isDoorItem_114, if_true, k4, f1', am_k_some, am_push_i, show ((1 : Int32) = 0) = False by decide, if_false, f3, am_mul3, am_len_71, am_len_72, nI_clamp (show 3 * j < 2 ^ 31 by omega), am_ixF (show 3 * j < 24 by omega) (show 24 < 2 ^ 31 by omega), c0, x0, hA0, nI_clamp (show 3 * x < 2 ^ 31 by omega), am_ixF (show 3 * x < 24 by omega) (show 24 < 2 ^ 31 by omega), a1, a2, hne, am_add1, c1, x1]
          have hAA2 : am_u AA 72 (4 * P 7 1 + 1) (nI j) = am_u (am_u A 72 (4 * P 7 1) (nI x)) 72 (4 * P 7 1 + 1) (if j = 8 then -4 else nI j) := by
            rw [← hAA, am_uu, if_neg (by omega)]
          rw [hAA2] at b1
          obtain ⟨z1, z2⟩ := X7_doorEnd (x := x) (j := j) (b := 0) (I := I2) (G := G) hv hc.1 hp (fun a k hk => by rw [f4 a k hk, e4 a k hk]) (by rw [← hAA2]; exact f2.mv f2.2.1 f2.2.2.1 rfl (am_u_ne (by decide)))
          rw [← b1] at z1 z2
          refine ⟨fun l q' P' hq hP => ?_, fun hq => z2 (fun w q2 k q3 h3 h4 hk => ?_)⟩
          · cases h3 : pf_num n t q1 44 with
            | none => rw [h3] at hq; cases hq
            | some y =>
              obtain ⟨w, q2⟩ := y
              rw [h3] at hq
              dsimp only at hq
              rw [show (0 + 1 : Nat) = 1 from rfl, pf_ns_1] at hq
              cases h4 : pf_num n t q2 59 with
              | none => rw [h4] at hq; cases hq
              | some y =>
                obtain ⟨k, q3⟩ := y
                rw [h4] at hq
                cases hq
                rw [pf_take_d] at hP
                split at hP
                · rename_i hcc
                  cases hP
                  exact z1 w q2 k _ h3 h4 hcc.2.2.2.2.1 hcc.2.2.2.2.2.1 hcc.2.2.2.2.2.2
                · cases hP
          · rw [h3] at hq
            dsimp only at hq
            rw [show (0 + 1 : Nat) = 1 from rfl, pf_ns_1, h4] at hq
            exact hq _ _ (pf_doorP P x j w k) rfl (by rw [pf_take_d, if_pos ⟨hc.1, hc.2, hj.1, hj.2, hk⟩])
        · refine ⟨fun l q' P' hq hP => ?_, fun _ => failj (fun j' q1' hq hk => by rw [h2] at hq; cases hq; exact hj hk)⟩
          cases h3 : pf_num n t q1 44 with
          | none => rw [h3] at hq; cases hq
          | some y =>
            obtain ⟨w, q2⟩ := y
            rw [h3] at hq
            dsimp only at hq
            rw [show (0 + 1 : Nat) = 1 from rfl, pf_ns_1] at hq
            cases h4 : pf_num n t q2 59 with
            | none => rw [h4] at hq; cases hq
            | some y =>
              obtain ⟨k, q3⟩ := y
              rw [h4] at hq
              cases hq
              rw [pf_take_d, if_neg (fun q => hj ⟨q.2.2.1, q.2.2.2.1⟩)] at hP
              cases hP
    · refine ⟨fun l q' P' hq hP => ?_, fun _ => w2 (fun x' q0' hq hk => by rw [h1] at hq; cases hq; exact hc hk)⟩
      cases h2 : pf_ns n t 3 q0 with
      | none =>
        rw [show (3 : Nat) = 1 + 2 from rfl, pf_ns_s] at h2
        rw [h2] at hq
        cases hq
      | some y =>
        obtain ⟨l1, q1⟩ := y
        rw [show (3 : Nat) = 1 + 2 from rfl, pf_ns_s] at h2
        rw [h2] at hq
        cases hq
        unfold pf_take at hP
        rw [if_neg (by decide), if_pos rfl, if_neg (fun q => hc ⟨q.1, q.2.1⟩)] at hP
        cases hP
/-- one item -/
theorem e_X7_isItem {n q : Nat} {t : Nat → Nat} {P : sg_P} {I A : am_F} {G : am_G} (hv : vq_p P) (hp : mr_q P I A) (h : mr_r n t q I A) (hq : q < n) : (∀ P' q', pf_item n t P q = some (P', q') → ∃ I' A', am_e 89 0 [.ref 69, .null] [] I A G = some (.int 1, I', A', G) ∧ mr_q P' I' A' ∧ mr_r n t q' I' A' ∧ fr_m I A I' A') ∧ (pf_item n t P q = none → ∃ I' A', am_e 89 0 [.ref 69, .null] [] I A G = some (.int 0, I', A', G) ∧ fr_m I A I' A') := by
  have hH := hv.1
  have hby : pf_by n t q = t q := if_pos hq
  have hc := h.2.2.2.2.2 q hq
  have hh := @e_X7_here n q t I A G h
  rw [if_pos hq] at hh
  have hr1 : mr_r n t (q + 1) (am_u I 69 2 (nI (q + 1))) A := h.mv (by omega) (am_u_eq _ _ _ _) (by simp [am_u_at]) rfl
  have hp1 : mr_q P (am_u I 69 2 (nI (q + 1))) A := by
    obtain ⟨p1, p2, p3⟩ := hp
    exact ⟨by simpa [am_u_at] using p1, by simpa [am_u_at] using p2, p3⟩
  have fr1 : fr_m I A (am_u I 69 2 (nI (q + 1))) A := ⟨fun a j hj => by rw [am_u_at, if_neg (by omega)], fun a _ _ _ => rfl⟩
  have e0 : am_e 89 0 [.ref 69, .null] [] I A G = am_e 89 15 [.ref 69, .int (nI (t q))] [] (am_u I 69 2 (nI (q + 1))) A G := by
    simp only [s_X7_isItem_0, s_X7_isItem_1, s_X7_isItem_4, s_X7_isItem_5, s_X7_isItem_6, s_X7_isItem_7, s_X7_isItem_10, s_X7_isItem_11, s_X7_isItem_12, hh, am_k_some, am_push_i, h.2.2.1, am_add1]
  -- out of a callee's two sides
  have fin : ∀ (r : Nat) (X : Option am_V), pf_many (t q) = r → 0 < r → X = am_e 89 0 [.ref 69, .null] [] I A G → ((∀ l q' P', pf_ns n t r (q + 1) = some (l, q') → pf_take P (t q) l = some P' → ∃ I' A', X = some (.int 1, I', A', G) ∧ mr_q P' I' A' ∧ mr_r n t q' I' A' ∧ fr_m (am_u I 69 2 (nI (q + 1))) A I' A') ∧ ((∀ l q' P', pf_ns n t r (q + 1) = some (l, q') → pf_take P (t q) l ≠ some P') → ∃ I' A', X = some (.int 0, I', A', G) ∧ fr_m (am_u I 69 2 (nI (q + 1))) A I' A')) → (∀ P' q', pf_item n t P q = some (P', q') → ∃ I' A', am_e 89 0 [.ref 69, .null] [] I A G = some (.int 1, I', A', G) ∧ mr_q P' I' A' ∧ mr_r n t q' I' A' ∧ fr_m I A I' A') ∧ (pf_item n t P q = none → ∃ I' A', am_e 89 0 [.ref 69, .null] [] I A G = some (.int 0, I', A', G) ∧ fr_m I A I' A') := by
    intro r X hm hr hX hw
    subst hX
    unfold pf_item
    rw [hby, hm, if_neg (by omega)]
    cases h1 : pf_ns n t r (q + 1) with
    | none =>
      refine ⟨fun P' q' hq => (by cases hq), fun _ => ?_⟩
      obtain ⟨I', A', f1, f2⟩ := hw.2 (fun l q' P' hq => by rw [h1] at hq; cases hq)
      exact ⟨I', A', f1, fr1.tr f2⟩
    | some x =>
      obtain ⟨l, q1⟩ := x
      dsimp only
      cases h2 : pf_take P (t q) l with
      | none =>
        refine ⟨fun P' q' hq => (by cases hq), fun _ => ?_⟩
        obtain ⟨I', A', f1, f2⟩ := hw.2 (fun l' q' P' hq hP => by rw [h1] at hq; cases hq; rw [h2] at hP; cases hP)
        exact ⟨I', A', f1, fr1.tr f2⟩
      | some P1 =>
        refine ⟨fun P' q' hq => ?_, fun hq => (by cases hq)⟩
        cases hq
        obtain ⟨I', A', f1, f2, f3, f4⟩ := hw.1 l q1 P1 h1 h2
        exact ⟨I', A', f1, f2, f3, fr1.tr f4⟩
  have kk : ∀ d, d < 256 → (nI (t q) = nI d) = (t q = d) := fun d hd => propext (nI_eq (by omega) (by omega))
  -- the settings of one number
  have set1 : ∀ (c w hi : Nat), w < 6 → hi < 2 ^ 31 → (∀ v, v ≤ 99 → pf_take P c [v] = if v ≤ hi then some (am_u P 7 (w + 2) v) else none) → (∀ l q' P', pf_ns n t 1 (q + 1) = some (l, q') → pf_take P c l = some P' → ∃ I' A', am_e 87 0 [.ref 69, .int (nI w), .int (nI hi), .null] [] (am_u I 69 2 (nI (q + 1))) A G = some (.int 1, I', A', G) ∧ mr_q P' I' A' ∧ mr_r n t q' I' A' ∧ fr_m (am_u I 69 2 (nI (q + 1))) A I' A') ∧ ((∀ l q' P', pf_ns n t 1 (q + 1) = some (l, q') → pf_take P c l ≠ some P') → ∃ I' A', am_e 87 0 [.ref 69, .int (nI w), .int (nI hi), .null] [] (am_u I 69 2 (nI (q + 1))) A G = some (.int 0, I', A', G) ∧ fr_m (am_u I 69 2 (nI (q + 1))) A I' A') := by
    intro c w hi hw hhi hT
    obtain ⟨z1, z2⟩ := e_X7_isSet (w := w) (hi := hi) (G := G) hr1 hw hhi
    refine ⟨fun l q' P' h1 h2 => ?_, fun hq => ?_⟩
    · rw [pf_ns_1] at h1
      cases h3 : pf_num n t (q + 1) 59 with
      | none => rw [h3] at h1; cases h1
      | some y =>
        obtain ⟨v, q2⟩ := y
        rw [h3] at h1
        cases h1
        rw [hT v (pf_num_i h3).1] at h2
        split at h2
        · rename_i hvh
          cases h2
          obtain ⟨I', f1, f2, f3⟩ := z1 v _ h3 hvh
          obtain ⟨p1, p2, p3, p4, p5, p6, p7, p8, p9, p10⟩ := hp1
          refine ⟨I', am_u A 73 w (nI v), f1, ⟨?_, ?_, fun i hi => ?_, fun d hd => ?_, ?_, ?_, ?_, ?_, ?_, ?_⟩, f2, ⟨fun a j hj => f3 a j (by omega), fun a _ _ h3 => am_u_ne h3⟩⟩
          · rw [f3 69 4 (by omega), p1]; congr 1
          · rw [f3 69 5 (by omega), p2]; congr 1
          · simp [am_uN] at hi
            simp [am_u_at]
            exact p3 i hi
          · simp [am_uN] at hd
            simp [am_u_at]
            exact p4 d hd
          · by_cases hw0 : w = 0
            · subst hw0; simp [am_u_at]
            · simp [am_u_at, hw0, show ¬ (0 = w) by omega]; exact p5
          · by_cases hw0 : w = 1
            · subst hw0; simp [am_u_at]
            · simp [am_u_at, hw0, show ¬ (1 = w) by omega]; exact p6
          · by_cases hw0 : w = 2
            · subst hw0; simp [am_u_at]
            · simp [am_u_at, hw0, show ¬ (2 = w) by omega]; exact p7
          · by_cases hw0 : w = 3
            · subst hw0; simp [am_u_at]
            · simp [am_u_at, hw0, show ¬ (3 = w) by omega]; exact p8
          · by_cases hw0 : w = 4
            · subst hw0; simp [am_u_at]
            · simp [am_u_at, hw0, show ¬ (4 = w) by omega]; exact p9
          · by_cases hw0 : w = 5
            · subst hw0; simp [am_u_at]
            · simp [am_u_at, hw0, show ¬ (5 = w) by omega]; exact p10
        · cases h2
    · obtain ⟨I', A', f1, f2⟩ := z2 (fun v q' h3 hvh => by
        rw [pf_ns_1, h3] at hq
        exact hq _ _ _ rfl (by rw [hT v (pf_num_i h3).1, if_pos hvh]))
      exact ⟨I', A', f1, f2⟩
  have idm : ∀ (X : Option am_V), (∀ v I A G, X = some (v, I, A, G) → (v = .int 0 ∨ v = .int 1)) → ∀ (L : List Value) (pc : Nat), (pc = 120 ∨ pc = 126 ∨ pc = 132 ∨ pc = 140 ∨ pc = 148 ∨ pc = 153 ∨ pc = 165 ∨ pc = 173) → am_k X (fun v I A G => am_e 89 pc L (am_push v []) I A G) = X := by
    intro X hX L pc hpc
    cases X with
    | none => rfl
    | some y =>
      obtain ⟨v, I, A, G⟩ := y
      rw [am_k_some]
      rcases hX v I A G rfl with rfl | rfl <;>
      (rcases hpc with rfl | rfl | rfl | rfl | rfl | rfl | rfl | rfl <;> simp only [am_push_i, s_X7_isItem_120, s_X7_isItem_126, s_X7_isItem_132, s_X7_isItem_140, s_X7_isItem_148, s_X7_isItem_153, s_X7_isItem_165, s_X7_isItem_173, am_01_0, am_01_1, true_or, or_true, if_true])
  have two : ∀ (X : Option am_V) (Q1 Q2 : am_F → am_F → Prop) (C : Prop), (C → ∃ I' A', X = some (.int 1, I', A', G) ∧ Q1 I' A') → (¬ C → ∃ I' A', X = some (.int 0, I', A', G) ∧ Q2 I' A') → ∀ v I A G, X = some (v, I, A, G) → (v = .int 0 ∨ v = .int 1) := by
    intro X Q1 Q2 C h1 h2 v I A G hX
    by_cases hC : C
    · obtain ⟨I', A', e, -⟩ := h1 hC
      rw [e] at hX; cases hX; exact Or.inr rfl
    · obtain ⟨I', A', e, -⟩ := h2 hC
      rw [e] at hX; cases hX; exact Or.inl rfl
  have gen : ∀ (c r : Nat) (X : Option am_V), t q = c → pf_many c = r → 0 < r → (am_e 89 15 [.ref 69, .int (nI c)] [] (am_u I 69 2 (nI (q + 1))) A G = X ∨ ∃ L pc, (pc = 120 ∨ pc = 126 ∨ pc = 132 ∨ pc = 140 ∨ pc = 148 ∨ pc = 153 ∨ pc = 165 ∨ pc = 173) ∧ am_e 89 15 [.ref 69, .int (nI c)] [] (am_u I 69 2 (nI (q + 1))) A G = am_k X (fun v I A G => am_e 89 pc L (am_push v []) I A G)) → ((∀ l q' P', pf_ns n t r (q + 1) = some (l, q') → pf_take P c l = some P' → ∃ I' A', X = some (.int 1, I', A', G) ∧ mr_q P' I' A' ∧ mr_r n t q' I' A' ∧ fr_m (am_u I 69 2 (nI (q + 1))) A I' A') ∧ ((∀ l q' P', pf_ns n t r (q + 1) = some (l, q') → pf_take P c l ≠ some P') → ∃ I' A', X = some (.int 0, I', A', G) ∧ fr_m (am_u I 69 2 (nI (q + 1))) A I' A')) → (∀ P' q', pf_item n t P q = some (P', q') → ∃ I' A', am_e 89 0 [.ref 69, .null] [] I A G = some (.int 1, I', A', G) ∧ mr_q P' I' A' ∧ mr_r n t q' I' A' ∧ fr_m I A I' A') ∧ (pf_item n t P q = none → ∃ I' A', am_e 89 0 [.ref 69, .null] [] I A G = some (.int 0, I', A', G) ∧ fr_m I A I' A') := by
    intro c r X hcq hm hr hX hw
    have hv01 : ∀ v I A G, X = some (v, I, A, G) → (v = .int 0 ∨ v = .int 1) := by
      intro v I0 A0 G0 hX0
      by_cases hC : ∃ l q' P', pf_ns n t r (q + 1) = some (l, q') ∧ pf_take P c l = some P'
      · obtain ⟨l, q', P', g1, g2⟩ := hC
        obtain ⟨I', A', e, -⟩ := hw.1 l q' P' g1 g2
        rw [e] at hX0; cases hX0; exact Or.inr rfl
      · obtain ⟨I', A', e, -⟩ := hw.2 (fun l q' P' g1 g2 => hC ⟨l, q', P', g1, g2⟩)
        rw [e] at hX0; cases hX0; exact Or.inl rfl
    have hXe : X = am_e 89 0 [.ref 69, .null] [] I A G := by
      rw [e0, hcq]
      rcases hX with hX | ⟨L, pc, hpc, hX⟩
      · exact hX.symm
      · rw [hX, idm X hv01 L pc hpc]
    refine fin r X (by rw [hcq]; exact hm) hr hXe ?_
    rw [hcq]
    exact hw
  rcases (show t q = 99 ∨ t q = 100 ∨ t q = 104 ∨ t q = 109 ∨ t q = 111 ∨ t q = 115 ∨ t q = 118 ∨ t q = 119 ∨ (t q ≠ 99 ∧ t q ≠ 100 ∧ t q ≠ 104 ∧ t q ≠ 109 ∧ t q ≠ 111 ∧ t q ≠ 115 ∧ t q ≠ 118 ∧ t q ≠ 119) by omega) with hcq | hcq | hcq | hcq | hcq | hcq | hcq | hcq | hcq
  · exact gen 99 1 _ hcq rfl (by omega) (Or.inr ⟨[.ref 69, .int 99], 148, by omega, by simp [s_X7_isItem_15, s_X7_isItem_16, s_X7_isItem_116, s_X7_isItem_117, s_X7_isItem_120, s_X7_isItem_121, s_X7_isItem_122, s_X7_isItem_123, s_X7_isItem_126, s_X7_isItem_127, s_X7_isItem_128, s_X7_isItem_129, s_X7_isItem_132, s_X7_isItem_133, s_X7_isItem_134, s_X7_isItem_135, s_X7_isItem_137, s_X7_isItem_140, s_X7_isItem_141, s_X7_isItem_142, s_X7_isItem_143, s_X7_isItem_145, show nI 99 = 99 from rfl]; rfl⟩) (set1 99 1 99 (by omega) (by omega) (fun v hv => by rw [if_pos hv]; rfl))
  · exact gen 100 4 _ hcq rfl (by omega) (Or.inr ⟨[.ref 69, .int 100], 126, by omega, by simp [s_X7_isItem_15, s_X7_isItem_16, s_X7_isItem_116, s_X7_isItem_117, s_X7_isItem_120, s_X7_isItem_121, s_X7_isItem_122, s_X7_isItem_123, show nI 100 = 100 from rfl]⟩) (e_X7_isDoorItemD hv hp1 hr1)
  · exact gen 104 3 _ hcq rfl (by omega) (Or.inr ⟨[.ref 69, .int 104], 120, by omega, by simp [s_X7_isItem_15, s_X7_isItem_16, s_X7_isItem_116, s_X7_isItem_117, show nI 104 = 104 from rfl]⟩) (e_X7_isHallItem hv hp1 hr1)
  · exact gen 109 1 _ hcq rfl (by omega) (Or.inr ⟨[.ref 69, .int 109], 140, by omega, by simp [s_X7_isItem_15, s_X7_isItem_16, s_X7_isItem_116, s_X7_isItem_117, s_X7_isItem_120, s_X7_isItem_121, s_X7_isItem_122, s_X7_isItem_123, s_X7_isItem_126, s_X7_isItem_127, s_X7_isItem_128, s_X7_isItem_129, s_X7_isItem_132, s_X7_isItem_133, s_X7_isItem_134, s_X7_isItem_135, s_X7_isItem_137, show nI 109 = 109 from rfl]; rfl⟩) (set1 109 0 99 (by omega) (by omega) (fun v hv => by rw [if_pos hv]; rfl))
  · exact gen 111 3 _ hcq rfl (by omega) (Or.inr ⟨[.ref 69, .int 111], 132, by omega, by simp [s_X7_isItem_15, s_X7_isItem_16, s_X7_isItem_116, s_X7_isItem_117, s_X7_isItem_120, s_X7_isItem_121, s_X7_isItem_122, s_X7_isItem_123, s_X7_isItem_126, s_X7_isItem_127, s_X7_isItem_128, s_X7_isItem_129, show nI 111 = 111 from rfl]⟩) (e_X7_isDoorItemO hv hp1 hr1)
  · have hp4 : (am_u I 69 2 (nI (q + 1))) 69 4 = nI (P 7 0) := hp1.1
    by_cases hH0 : P 7 0 = 0
    · refine gen 115 1 (am_e 87 0 [.ref 69, .int 4, .int (nI (P 7 0) - 1), .null] [] (am_u I 69 2 (nI (q + 1))) A G) hcq rfl (by omega) (Or.inr ⟨[.ref 69, .int 115], 165, by omega, ?_⟩) ⟨fun l q' P' _ hP => ?_, fun _ => ?_⟩
      · simp [s_X7_isItem_15, s_X7_isItem_16, s_X7_isItem_116, s_X7_isItem_117, s_X7_isItem_120, s_X7_isItem_121, s_X7_isItem_122, s_X7_isItem_123, s_X7_isItem_126, s_X7_isItem_127, s_X7_isItem_128, s_X7_isItem_129, s_X7_isItem_132, s_X7_isItem_133, s_X7_isItem_134, s_X7_isItem_135, s_X7_isItem_137, s_X7_isItem_140, s_X7_isItem_141, s_X7_isItem_142, s_X7_isItem_143, s_X7_isItem_145, s_X7_isItem_148, s_X7_isItem_149, s_X7_isItem_150, s_X7_isItem_153, s_X7_isItem_154, s_X7_isItem_155, s_X7_isItem_156, s_X7_isItem_157, s_X7_isItem_160, s_X7_isItem_161, s_X7_isItem_162, show nI 115 = 115 from rfl, hp4]
      · exfalso
        have hz : pf_take P 115 l = if l.getD 0 0 < P 7 0 then some (am_u P 7 6 (l.getD 0 0)) else none := rfl
        rw [hz, if_neg (by omega)] at hP
        cases hP
      · obtain ⟨I1, e1, e4⟩ := X7_nmHF (G := G) hr1 (Or.inr rfl) hH (fun v q' _ h2 => by omega)
        have e1' : am_e 84 0 [.ref 69, .int 0, .int (nI (P 7 0) - 1), .int 59, .null, .null] [] (am_u I 69 2 (nI (q + 1))) A G = some (.int 0, I1, A, G) := e1
        refine ⟨I1, am_u A 73 4 (I1 69 3), ?_, ⟨fun a j hj => e4 a j (by omega), fun a h1 h2 h3 => am_u_ne h3⟩⟩
        simp [s_X7_isSet_0, s_X7_isSet_1, s_X7_isSet_2, s_X7_isSet_3, s_X7_isSet_5, s_X7_isSet_8, s_X7_isSet_9, s_X7_isSet_10, s_X7_isSet_13, s_X7_isSet_14, s_X7_isSet_15, s_X7_isSet_18, s_X7_isSet_19, s_X7_isSet_20, e1', am_k_some, am_push_i, am_len_73]
    · refine gen 115 1 _ hcq rfl (by omega) (Or.inr ⟨[.ref 69, .int 115], 165, by omega, ?_⟩) (set1 115 4 (P 7 0 - 1) (by omega) (by omega) (fun v hv => ?_))
      · have hz : nI (P 7 0) - 1 = nI (P 7 0 - 1) := am_nsub (d := 1) (by omega)
        simp [s_X7_isItem_15, s_X7_isItem_16, s_X7_isItem_116, s_X7_isItem_117, s_X7_isItem_120, s_X7_isItem_121, s_X7_isItem_122, s_X7_isItem_123, s_X7_isItem_126, s_X7_isItem_127, s_X7_isItem_128, s_X7_isItem_129, s_X7_isItem_132, s_X7_isItem_133, s_X7_isItem_134, s_X7_isItem_135, s_X7_isItem_137, s_X7_isItem_140, s_X7_isItem_141, s_X7_isItem_142, s_X7_isItem_143, s_X7_isItem_145, s_X7_isItem_148, s_X7_isItem_149, s_X7_isItem_150, s_X7_isItem_153, s_X7_isItem_154, s_X7_isItem_155, s_X7_isItem_156, s_X7_isItem_157, s_X7_isItem_160, s_X7_isItem_161, s_X7_isItem_162, show nI 115 = 115 from rfl, hp4, hz]
        rfl
      · have hz : pf_take P 115 [v] = if v < P 7 0 then some (am_u P 7 6 v) else none := rfl
        rw [hz]
        by_cases hvv : v < P 7 0
        · rw [if_pos hvv, if_pos (by omega)]
        · rw [if_neg hvv, if_neg (by omega)]
  · exact gen 118 1 _ hcq rfl (by omega) (Or.inr ⟨[.ref 69, .int 118], 173, by omega, by simp [s_X7_isItem_15, s_X7_isItem_16, s_X7_isItem_116, s_X7_isItem_117, s_X7_isItem_120, s_X7_isItem_121, s_X7_isItem_122, s_X7_isItem_123, s_X7_isItem_126, s_X7_isItem_127, s_X7_isItem_128, s_X7_isItem_129, s_X7_isItem_132, s_X7_isItem_133, s_X7_isItem_134, s_X7_isItem_135, s_X7_isItem_137, s_X7_isItem_140, s_X7_isItem_141, s_X7_isItem_142, s_X7_isItem_143, s_X7_isItem_145, s_X7_isItem_148, s_X7_isItem_149, s_X7_isItem_150, s_X7_isItem_153, s_X7_isItem_154, s_X7_isItem_155, s_X7_isItem_156, s_X7_isItem_157, s_X7_isItem_160, s_X7_isItem_161, s_X7_isItem_162, s_X7_isItem_165, s_X7_isItem_166, s_X7_isItem_167, s_X7_isItem_168, s_X7_isItem_170, show nI 118 = 118 from rfl]; rfl⟩) (set1 118 5 30 (by omega) (by omega) (fun v hv => rfl))
  · obtain ⟨w1, w2⟩ := e_X7_isWarm (G := G) hr1
    refine gen 119 2 (am_e 88 0 [.ref 69, .null] [] (am_u I 69 2 (nI (q + 1))) A G) hcq rfl (by omega) (Or.inr ⟨[.ref 69, .int 119], 153, by omega, by simp [s_X7_isItem_15, s_X7_isItem_16, s_X7_isItem_116, s_X7_isItem_117, s_X7_isItem_120, s_X7_isItem_121, s_X7_isItem_122, s_X7_isItem_123, s_X7_isItem_126, s_X7_isItem_127, s_X7_isItem_128, s_X7_isItem_129, s_X7_isItem_132, s_X7_isItem_133, s_X7_isItem_134, s_X7_isItem_135, s_X7_isItem_137, s_X7_isItem_140, s_X7_isItem_141, s_X7_isItem_142, s_X7_isItem_143, s_X7_isItem_145, s_X7_isItem_148, s_X7_isItem_149, s_X7_isItem_150, show nI 119 = 119 from rfl]⟩) ⟨fun l q' P' hl hP => ?_, fun hq => ?_⟩
    · obtain ⟨I', f1, f2, f3⟩ := w1 l q' hl
      have hz : pf_take P 119 l = some (am_u (am_u P 7 4 (l.getD 0 0)) 7 5 (l.getD 1 0)) := rfl
      rw [hz] at hP
      cases hP
      obtain ⟨p1, p2, p3, p4, p5, p6, p7, p8, p9, p10⟩ := hp1
      generalize l.getD 0 0 = x0 at *
      generalize l.getD 1 0 = x1 at *
      refine ⟨I', _, f1, ⟨by rw [f3 69 4 (by omega), p1]; congr 1, by rw [f3 69 5 (by omega), p2]; congr 1, fun i hi => ?_, fun d hd => ?_, ?_, ?_, ?_, ?_, ?_, ?_⟩, f2, ⟨fun a j hj => f3 a j (by omega), fun a _ _ h3 => by rw [am_u_ne h3, am_u_ne h3]⟩⟩
      · simp [am_uN] at hi
        simp [am_u_at]
        exact p3 i hi
      · simp [am_uN] at hd
        simp [am_u_at]
        exact p4 d hd
      · simp [am_u_at]; exact p5
      · simp [am_u_at]; exact p6
      · simp [am_u_at]
      · simp [am_u_at]
      · simp [am_u_at]; exact p9
      · simp [am_u_at]; exact p10
    · refine w2 ?_
      cases h1 : pf_ns n t 2 (q + 1) with
      | none => rfl
      | some x =>
        obtain ⟨l, q1⟩ := x
        exact absurd rfl (hq l q1 (am_u (am_u P 7 4 (l.getD 0 0)) 7 5 (l.getD 1 0)) h1)
  · obtain ⟨h1, h2, h3, h4, h5, h6, h7, h8⟩ := hcq
    have hm : pf_many (t q) = 0 := by
      unfold pf_many
      rw [if_neg (by omega), if_neg (by omega), if_neg (by omega), if_neg (by omega)]
    unfold pf_item
    rw [hby, hm, if_pos rfl]
    refine ⟨fun P' q' hq => (by cases hq), fun _ => ⟨_, _, ?_, fr1⟩⟩
    rw [e0]
    simp only [s_X7_isItem_15, s_X7_isItem_16]
    rw [show (99 : Int32) = nI 99 from rfl, show (100 : Int32) = nI 100 from rfl, show (104 : Int32) = nI 104 from rfl, show (109 : Int32) = nI 109 from rfl, show (111 : Int32) = nI 111 from rfl, show (115 : Int32) = nI 115 from rfl, show (118 : Int32) = nI 118 from rfl, show (119 : Int32) = nI 119 from rfl]
    simp only [kk 99 (by omega), kk 100 (by omega), kk 104 (by omega), kk 109 (by omega), kk 111 (by omega), kk 115 (by omega), kk 118 (by omega), kk 119 (by omega), h1, h2, h3, h4, h5, h6, h7, h8, if_false, ite_self]
    simp only [s_X7_isItem_174, s_X7_isItem_175, am_01_0, true_or, if_true]
