/-! ===== fault, both ===== -/
/-- what reading finds in a text -/
def pf_rd (n : Nat) (t : Nat → Nat) : Option Nat × sg_P := pf_read n t n pf_P0 0
def pf_ft (n : Nat) (t : Nat → Nat) : Int32 := match (pf_rd n t).1 with
  | some x => nI x
  | none => -4
theorem vq_P0 : vq_p pf_P0 := by
  refine ⟨by decide, by decide, fun i hi => absurd hi (by show ¬ i < 0; omega), fun d hd => absurd hd (by show ¬ d < 0; omega), by decide, by decide, by decide, by decide, by decide, by decide⟩
theorem X7_readLoop {n : Nat} {t : Nat → Nat} {G : am_G} : ∀ (f q : Nat) (P : sg_P) (b1 : Value) (I A : am_F), n - q ≤ f → vq_p P → mr_q P I A → mr_r n t q I A → ∃ I' A', am_e 90 22 [.ref 69, b1] [] I A G = some (.int (match (pf_read n t f P q).1 with | some x => nI x | none => -4), I', A', G) ∧ fr_m I A I' A' ∧ ((pf_read n t f P q).1 = none → mr_q (pf_read n t f P q).2 I' A') := by
  intro f
  induction f with
  | zero =>
    intro q P b1 I A hf hv hp hr
    have hq := hr.2.1
    have : q = n := by omega
    subst this
    refine ⟨I, A, ?_, ⟨fun a j _ => rfl, fun a _ _ _ => rfl⟩, fun _ => hp⟩
    refine (s_X7_readAll_22).trans ?_
    simp only [s_X7_readAll_23, s_X7_readAll_26, s_X7_readAll_27, s_X7_readAll_30, s_X7_readAll_50, s_X7_readAll_52, hr.2.2.1, hr.2.2.2.1, Int32.le_refl, if_true]
    rfl
  | succ f ih =>
    intro q P b1 I A hf hv hp hr
    have hn4 := hr.1
    have hq2 := hr.2.1
    unfold pf_read
    by_cases hq : q < n
    · rw [if_pos hq]
      obtain ⟨w1, w2⟩ := e_X7_isItem (G := G) hv hp hr hq
      have e0 : am_e 90 22 [.ref 69, b1] [] I A G = am_k (am_e 89 0 [.ref 69, .null] [] I A G) (fun v I A G => am_e 90 42 [.ref 69, .int (nI q)] (am_push v []) I A G) := by
        refine (s_X7_readAll_22).trans ?_
        simp only [s_X7_readAll_23, s_X7_readAll_26, s_X7_readAll_27, s_X7_readAll_30, s_X7_readAll_33, s_X7_readAll_34, s_X7_readAll_37, s_X7_readAll_38, s_X7_readAll_39, hr.2.2.1, hr.2.2.2.1]
        rw [if_neg (by rw [nI_leI (by omega) (by omega)]; omega)]
      cases h1 : pf_item n t P q with
      | none =>
        obtain ⟨I', A', e1, e2⟩ := w2 h1
        refine ⟨I', A', ?_, e2, fun h => (by cases h)⟩
        rw [e0, e1]
        simp only [am_k_some, am_push_i, s_X7_readAll_42, s_X7_readAll_45, s_X7_readAll_46, if_true]
      | some x =>
        obtain ⟨P', q'⟩ := x
        obtain ⟨hv', hlt, hle⟩ := pf_item_i hv hq h1
        obtain ⟨I1, A1, e1, e2, e3, e4⟩ := w1 P' q' h1
        obtain ⟨I', A', f1, f2, f3⟩ := ih q' P' (.int (nI q)) I1 A1 (by omega) hv' e2 e3
        refine ⟨I', A', ?_, e4.tr f2, f3⟩
        rw [e0, e1, ← f1]
        simp only [am_k_some, am_push_i, s_X7_readAll_42, s_X7_readAll_45, s_X7_readAll_46, s_X7_readAll_47, show ((1 : Int32) = 0) = False by decide, if_false]
    · rw [if_neg hq]
      have : q = n := by omega
      subst this
      refine ⟨I, A, ?_, ⟨fun a j _ => rfl, fun a _ _ _ => rfl⟩, fun _ => hp⟩
      refine (s_X7_readAll_22).trans ?_
      simp only [s_X7_readAll_23, s_X7_readAll_26, s_X7_readAll_27, s_X7_readAll_30, s_X7_readAll_50, s_X7_readAll_52, hr.2.2.1, hr.2.2.2.1, Int32.le_refl, if_true]
theorem e_X7_readAll {n : Nat} {t : Nat → Nat} {I A : am_F} {G : am_G} (hn : n ≤ 400) (ht : mr_t n t I A) (htb : ∀ j, j < n → t j < 256) : ∃ I' A', am_e 90 0 [.ref 69, .null] [] I A G = some (.int (pf_ft n t), I', A', G) ∧ fr_m I A I' A' ∧ ((pf_rd n t).1 = none → mr_q (pf_rd n t).2 I' A') := by
  have e0 : am_e 90 0 [.ref 69, .null] [] I A G = am_e 90 22 [.ref 69, .null] [] (am_u (am_u (am_u I 69 2 0) 69 4 0) 69 5 0) (am_u (am_u (am_u (am_u (am_u (am_u A 73 0 50) 73 1 12) 73 2 5) 73 3 20) 73 4 0) 73 5 0) G := by
    simp [s_X7_readAll_0, s_X7_readAll_1, s_X7_readAll_2, s_X7_readAll_5, s_X7_readAll_6, s_X7_readAll_7, s_X7_readAll_10, s_X7_readAll_11, s_X7_readAll_12, s_X7_readAll_15, s_X7_readAll_16, s_X7_readAll_19, s_X7_standard_0, s_X7_standard_1, s_X7_standard_2, s_X7_standard_4, s_X7_standard_5, s_X7_standard_6, s_X7_standard_7, s_X7_standard_9, s_X7_standard_10, s_X7_standard_11, s_X7_standard_12, s_X7_standard_13, s_X7_standard_14, s_X7_standard_15, s_X7_standard_16, s_X7_standard_18, s_X7_standard_19, s_X7_standard_20, s_X7_standard_21, s_X7_standard_22, s_X7_standard_23, s_X7_standard_24, s_X7_standard_25, s_X7_standard_26, s_X7_standard_27, am_len_73, am_k_some, am_push_n]
  obtain ⟨I', A', f1, f2, f3⟩ := X7_readLoop (t := t) (G := G) n 0 pf_P0 .null (am_u (am_u (am_u I 69 2 0) 69 4 0) 69 5 0) (am_u (am_u (am_u (am_u (am_u (am_u A 73 0 50) 73 1 12) 73 2 5) 73 3 20) 73 4 0) 73 5 0) (by omega) vq_P0 ⟨by simp [am_u_at]; rfl, by simp [am_u_at]; rfl, fun i hi => absurd hi (by show ¬ i < 0; omega), fun d hd => absurd hd (by show ¬ d < 0; omega), by simp [am_u_at]; rfl, by simp [am_u_at]; rfl, by simp [am_u_at]; rfl, by simp [am_u_at]; rfl, by simp [am_u_at]; rfl, by simp [am_u_at]; rfl⟩ ⟨hn, by omega, by simp [am_u_at]; rfl, by simp [am_u_at]; exact ht.1, fun j hj => by simp [am_u_at]; exact ht.2 j hj, htb⟩
  refine ⟨I', A', by rw [e0, f1]; rfl, fr_m.tr ⟨fun a j hj => ?_, fun a _ _ h3 => ?_⟩ f2, f3⟩
  · rw [am_u_at, if_neg (by omega), am_u_at, if_neg (by omega), am_u_at, if_neg (by omega)]
  · rw [am_u_ne h3, am_u_ne h3, am_u_ne h3, am_u_ne h3, am_u_ne h3, am_u_ne h3]
theorem e_X7_fault {n : Nat} {t : Nat → Nat} {I A : am_F} {G : am_G} (hn : n ≤ 400) (ht : mr_t n t I A) (htb : ∀ j, j < n → t j < 256) : ∃ I' A', am_e 91 0 [.ref 69] [] I A G = some (.int (pf_ft n t), I', A', G) ∧ fr_m I A I' A' := by
  obtain ⟨I', A', f1, f2, f3⟩ := e_X7_readAll (G := G) hn ht htb
  refine ⟨I', A', ?_, f2⟩
  simp only [s_X7_fault_0, s_X7_fault_1, s_X7_fault_4, f1, am_k_some, am_push_i]
theorem e_X3_firstFault {p n : Nat} {t : Nat → Nat} {I A : am_F} {G : am_G} (hpp : p = 5 ∨ p = 25) (hn : n ≤ 400) (ht : cr_t n t I A) (htb : ∀ j, j < n → t j < 256) : ∃ I' A', am_e 18 0 [.ref 2, .ref 1, .int (nI n), .ref p, .null, .null, .null] [] I A G = some (.int (pf_ft n t), I', A', am_u G 2 1 1) ∧ fr_r p I A I' A' ∧ ((pf_rd n t).1 = none → cr_q p (pf_rd n t).2 I' A') := by
  have hmin : (if (400 : Int32) < nI n then (400 : Int32) else nI n) = nI n := if_neg (by rw [show (400 : Int32) = nI 400 from rfl, nI_ltI (by omega) (by omega)]; omega)
  generalize hI0 : am_u (am_u (am_u (am_u (am_u (am_u (am_u (am_u (am_u (am_u (am_u I 2 2 (nI n)) 2 3 0) p 9 0) p 10 0) p 11 0) p 12 50) p 13 12) p 14 5) p 15 20) p 16 0) p 17 0 = I0
  have e0 : am_e 18 0 [.ref 2, .ref 1, .int (nI n), .ref p, .null, .null, .null] [] I A G = am_e 18 27 [.ref 2, .ref 1, .int (nI n), .ref p, .int (nI 0), .null, .null] [] I0 A (am_u G 2 1 1) := by
    rw [← hI0]
    rcases hpp with rfl | rfl <;> (simp only [s_X3_firstFault_0, s_X3_firstFault_1, s_X3_firstFault_2, s_X3_firstFault_5, s_X3_firstFault_6, s_X3_firstFault_7, s_X3_firstFault_8_at1, s_X3_firstFault_9, s_X3_firstFault_12, s_X3_firstFault_15, s_X3_firstFault_16, s_X3_firstFault_17, s_X3_firstFault_20, s_X3_firstFault_21_at5, s_X3_firstFault_21_at25, s_X3_firstFault_24, s_X3_firstFault_25, s_X2_empty_0, s_X2_empty_1, s_X2_empty_2_at5, s_X2_empty_2_at25, s_X2_empty_5, s_X2_empty_6, s_X2_empty_7_at5, s_X2_empty_7_at25, s_X2_empty_10, s_X2_empty_11, s_X2_empty_12_at5, s_X2_empty_12_at25, s_X2_empty_15, s_X2_empty_16, s_X2_empty_18_at5, s_X2_empty_18_at25, s_X2_empty_21, s_X2_empty_22, s_X2_empty_24_at5, s_X2_empty_24_at25, s_X2_empty_27, s_X2_empty_28, s_X2_empty_29_at5, s_X2_empty_29_at25, s_X2_empty_32, s_X2_empty_33, s_X2_empty_35_at5, s_X2_empty_35_at25, s_X2_empty_38, s_X2_empty_39, s_X2_empty_40_at5, s_X2_empty_40_at25, s_X2_empty_43, s_X2_empty_44, s_X2_empty_45_at5, s_X2_empty_45_at25, s_X2_empty_48, hmin, am_k_some, am_push_n]; rfl)
  have h22 : I0 2 2 = nI n := by rw [← hI0]; rcases hpp with rfl | rfl <;> simp [am_u_at]
  have h23 : I0 2 3 = nI 0 := by rw [← hI0]; rcases hpp with rfl | rfl <;> simp [am_u_at] <;> rfl
  have hfr0 : fr_r p I A I0 A := ⟨fun a j h1 h2 => by
    rw [← hI0]
    simp only [am_u_at]
    rw [if_neg (by omega), if_neg (by omega), if_neg (by omega), if_neg (by omega), if_neg (by omega), if_neg (by omega), if_neg (by omega), if_neg (by omega), if_neg (by omega), if_neg (by omega), if_neg (by omega)], fun a _ _ => rfl⟩
  have hq0 : cr_q p pf_P0 I0 A := by
    rw [← hI0]
    refine ⟨⟨?_, ?_, fun i hi => absurd hi (by show ¬ i < 0; omega), fun d hd => absurd hd (by show ¬ d < 0; omega), ?_, ?_, ?_, ?_, ?_, ?_⟩, ?_⟩ <;> (simp [am_u_at]; rfl)
  obtain ⟨I', A', f1, f2, f3⟩ := X3_loop (t := t) (G := am_u G 2 1 1) hpp n 0 0 pf_P0 .null .null I0 A (by omega) (by omega) vq_P0 hq0 ⟨hn, by omega, h23, h22, am_u_eq _ _ _ _, ht.2, htb⟩
  exact ⟨I', A', by rw [e0, f1]; rfl, hfr0.tr f2, f3⟩
theorem e_X6_fault {p p' n : Nat} {t : Nat → Nat} {I A : am_F} {G : am_G} (hG : cr_g p p' G) (hn : n ≤ 400) (ht : cr_t n t I A) (htb : ∀ j, j < n → t j < 256) : ∃ I' A', am_e 37 0 [.ref 0] [] I A G = some (.int (pf_ft n t), I', A', am_u G 2 1 1) ∧ fr_r p' I A I' A' := by
  obtain ⟨h3, h4, h5⟩ := hG
  have hpp : p' = 5 ∨ p' = 25 := by omega
  obtain ⟨I', A', f1, f2, f3⟩ := e_X3_firstFault (p := p') (G := G) hpp hn ht htb
  refine ⟨I', A', ?_, f2⟩
  simp only [s_X6_fault_0, s_X6_fault_1, s_X6_fault_4, s_X6_fault_5, s_X6_fault_8, s_X6_fault_9, s_X6_fault_12, s_X6_fault_13, s_X6_fault_16, s_X6_fault_19, h4, ht.1, f1, am_k_some, am_push_i]
