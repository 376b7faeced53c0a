/-! ===== one state, both sides ===== -/
theorem cr_k.fr {k : Nat} {K : Nat → sg_S} {I A I' A' : am_F} (h : cr_k k K I A) (h8 : I' 0 8 = I 0 8) (hI : ∀ j, I' 48 j = I 48 j ∧ I' 51 j = I 51 j) (hA : A' 49 = A 49 ∧ A' 52 = A 52) : cr_k k K I' A' := ⟨by rw [h8]; exact h.1, fun q => (h.2.1 q).fr (fun j => (hI j).1) hA.1, fun q => (h.2.2 q).fr (fun j => (hI j).2) hA.2⟩
theorem cr_n.fr {m : Nat} {z : Nat → Nat × Nat × Nat} {I A I' A' : am_F} (h : cr_n m z I A) (hI : I' 54 3 = I 54 3) (h5 : A' 55 = A 55) (h6 : A' 56 = A 56) (h7 : A' 57 = A 57) : cr_n m z I' A' := ⟨by rw [hI]; exact h.1, fun e he => by rw [h5, h6, h7]; exact h.2 e he⟩
theorem cr_t.fr {n : Nat} {t : Nat → Nat} {I A I' A' : am_F} (h : cr_t n t I A) (hI : I' 0 1 = I 0 1) (hA : A' 1 = A 1) : cr_t n t I' A' := ⟨by rw [hI]; exact h.1, fun j hj => by rw [hA]; exact h.2 j hj⟩
theorem mr_k.fr {k : Nat} {K : Nat → sg_S} {I A I' A' : am_F} (h : mr_k k K I A) (hI : I' 69 19 = I 69 19) (hA : A' 78 = A 78) : mr_k k K I' A' := ⟨by rw [hI]; exact h.1, fun e he => by rw [hA]; exact h.2 e he⟩
theorem mr_n.fr {m : Nat} {z : Nat → Nat × Nat × Nat} {I A I' A' : am_F} (h : mr_n m z I A) (hI : I' 69 21 = I 69 21) (hA : A' 79 = A 79) : mr_n m z I' A' := ⟨by rw [hI]; exact h.1, fun e he => by rw [hA]; exact h.2 e he⟩
theorem mr_t.fr {n : Nat} {t : Nat → Nat} {I A I' A' : am_F} (h : mr_t n t I A) (hI : I' 69 0 = I 69 0) (hA : A' 70 = A 70) : mr_t n t I' A' := ⟨by rw [hI]; exact h.1, fun j hj => by rw [hA]; exact h.2 j hj⟩
/-- what stands beside plan and state -/
def cx (k : Nat) (K : Nat → sg_S) (m : Nat) (z : Nat → Nat × Nat × Nat) (n : Nat) (t : Nat → Nat) (I A : am_F) : Prop := cr_k k K I A ∧ cr_n m z I A ∧ cr_t n t I A
def mx (k : Nat) (K : Nat → sg_S) (m : Nat) (z : Nat → Nat × Nat × Nat) (n : Nat) (t : Nat → Nat) (I A : am_F) : Prop := mr_k k K I A ∧ mr_n m z I A ∧ mr_t n t I A
theorem cx.fr {k : Nat} {K : Nat → sg_S} {m : Nat} {z : Nat → Nat × Nat × Nat} {n : Nat} {t : Nat → Nat} {I A I' A' : am_F} (h : cx k K m z n t I A) (hI : ∀ a j, (a = 0 ∧ (j = 1 ∨ j = 8)) ∨ a = 48 ∨ a = 51 ∨ a = 54 → I' a j = I a j) (hA : ∀ b, b = 1 ∨ b = 49 ∨ b = 52 ∨ b = 55 ∨ b = 56 ∨ b = 57 → A' b = A b) : cx k K m z n t I' A' := ⟨h.1.fr (hI 0 8 (by omega)) (fun j => ⟨hI 48 j (by omega), hI 51 j (by omega)⟩) ⟨hA 49 (by omega), hA 52 (by omega)⟩, h.2.1.fr (hI 54 3 (by omega)) (hA 55 (by omega)) (hA 56 (by omega)) (hA 57 (by omega)), h.2.2.fr (hI 0 1 (by omega)) (hA 1 (by omega))⟩
theorem mx.fr {k : Nat} {K : Nat → sg_S} {m : Nat} {z : Nat → Nat × Nat × Nat} {n : Nat} {t : Nat → Nat} {I A I' A' : am_F} (h : mx k K m z n t I A) (hI : ∀ j, j = 0 ∨ j = 19 ∨ j = 21 → I' 69 j = I 69 j) (hA : ∀ b, b = 70 ∨ b = 78 ∨ b = 79 → A' b = A b) : mx k K m z n t I' A' := ⟨h.1.fr (hI 19 (by omega)) (hA 78 (by omega)), h.2.1.fr (hI 21 (by omega)) (hA 79 (by omega)), h.2.2.fr (hI 0 (by omega)) (hA 70 (by omega))⟩
/-- the class's cells beside the model's calls; the model's beside the class's -/
theorem ck.up {P : sg_P} {s : sg_S} {p p' : Nat} {I A I' A' : am_F} {G : am_G} (h : ck P s p p' I A G) (hI : ∀ a j, a < 69 → I' a j = I a j) (hA : ∀ b, b < 69 → A' b = A b) : ck P s p p' I' A' G := by
  obtain ⟨h1, h2, h3, h4⟩ := h
  obtain ⟨k1, k2, k3⟩ := h1.pp
  exact ⟨h1, h2.fr (fun j => hI p j (by omega)) (fun a q1 q2 => hA a (by omega)), h3.fr (fun a j q1 q2 => hI a j (by omega)) (fun b q1 q2 => hA b (by omega)), h4.fr (fun j => hI 45 j (by omega)) (hA 46 (by omega))⟩
theorem mk.up {P : sg_P} {s : sg_S} {I A I' A' : am_F} (h : mk P s I A) (hI : ∀ a j, 69 ≤ a → I' a j = I a j) (hA : ∀ b, 69 ≤ b → A' b = A b) : mk P s I' A' := ⟨h.1.fr (hI _ _ (by omega)) (hI _ _ (by omega)) (hA _ (by omega)) (hA _ (by omega)) (hA _ (by omega)), h.2.fr (fun j hj => hI _ _ (by omega)) (hA _ (by omega))⟩
def sv (c : Nat) (P : sg_P) (s : sg_S) (k : Nat) (K : Nat → sg_S) (m : Nat) (z : Nat → Nat × Nat × Nat) (n : Nat) (t : Nat → Nat) : Prop := vp_p P ∧ (sv_s P s ∧ s.2.2.1 ≤ 99 * c) ∧ k ≤ 2 ∧ (∀ e, e < k → sv_s P (K e) ∧ (K e).2.2.1 ≤ 99 * c) ∧ sv_z P m z ∧ n ≤ 400 ∧ ∀ j, j < n → t j < 256
theorem sv.s {c : Nat} {P : sg_P} {s : sg_S} {k : Nat} {K : Nat → sg_S} {m : Nat} {z : Nat → Nat × Nat × Nat} {n : Nat} {t : Nat → Nat} (h : sv c P s k K m z n t) : sv (c + 1) P s k K m z n t := by
  obtain ⟨h1, h2, h3, h4, h5⟩ := h
  exact ⟨h1, ⟨h2.1, by omega⟩, h3, fun e he => ⟨(h4 e he).1, by have := (h4 e he).2; omega⟩, h5⟩
/-- class and model stand at one state -/
def li (c : Nat) (I A : am_F) (G : am_G) : Prop := ∃ (P : sg_P) (s : sg_S) (k : Nat) (K : Nat → sg_S) (m : Nat) (z : Nat → Nat × Nat × Nat) (n : Nat) (t : Nat → Nat) (p p' : Nat), sv c P s k K m z n t ∧ (ck P s p p' I A G ∧ cx k K m z n t I A) ∧ mk P s I A ∧ mx k K m z n t I A
/-- a call of the class and the same of the model: one answer, and one state -/
def pr (c : Nat) (I A : am_F) (G : am_G) (o6 o7 : am_F → am_F → am_G → Option am_V) : Prop := ∃ (v : Int32) (I1 A1 : am_F) (G1 : am_G) (I2 A2 : am_F), o6 I A G = some (.int v, I1, A1, G1) ∧ o7 I1 A1 G1 = some (.int v, I2, A2, G1) ∧ li (c + 1) I2 A2 G1
section PAIR
variable {c : Nat} {I A : am_F} {G : am_G}
/-- calls that change neither side's state -/
theorem pr_same {P : sg_P} {s : sg_S} {k : Nat} {K : Nat → sg_S} {m : Nat} {z : Nat → Nat × Nat × Nat} {n : Nat} {t : Nat → Nat} {p p' : Nat} {o6 o7 : am_F → am_F → am_G → Option am_V} (hv : sv c P s k K m z n t) (hc : ck P s p p' I A G) (hx : cx k K m z n t I A) (hm : mk P s I A) (hy : mx k K m z n t I A) (v : Int32) {A1 : am_F} {G1 : am_G} {I2 A2 : am_F} (h6 : o6 I A G = some (.int v, I, A1, G1)) (f6 : fr_c A A1 G G1) (h7 : o7 I A1 G1 = some (.int v, I2, A2, G1)) (f7 : fr_d (P 7 1) I A1 I2 A2) : pr c I A G o6 o7 := by
  refine ⟨v, I, A1, G1, I2, A2, h6, h7, P, s, k, K, m, z, n, t, p, p', hv.s, ⟨(hc.fr f6).up (fun a j h => f7.1 a j (by omega)) (fun b h => f7.2.1 b (by omega)), ?_⟩, ?_, ?_⟩
  · exact hx.fr (fun a j h => f7.1 a j (by omega)) (fun b h => by rw [f7.2.1 b (by omega), f6.1 b (by omega)])
  · exact (hm.up (fun _ _ _ => rfl) (fun b hb => f6.1 b (by omega))).fd f7
  · exact hy.fr (fun j h => f7.1 _ _ (by omega)) (fun b h => by rw [f7.2.1 b (by omega), f6.1 b (by omega)])
theorem mk_c {P : sg_P} {s : sg_S} {A1 : am_F} {G1 : am_G} (h : mk P s I A) (f6 : fr_c A A1 G G1) : mk P s I A1 := h.up (fun _ _ _ => rfl) (fun b hb => f6.1 b (by omega))
theorem pr_hall {x y : Int32} (h : li c I A G) : pr c I A G (fun I A G => am_e 39 0 [.ref 0, .int x, .int y] [] I A G) (fun I A G => am_e 95 0 [.ref 69, .int x, .int y] [] I A G) := by
  obtain ⟨P, s, k, K, m, z, n, t, p, p', hv, ⟨hc, hx⟩, hm, hy⟩ := h
  exact pr_same hv hc hx hm hy _ (e_X6_hall hv.1 hc.1 hc.2.1.1 hc.2.2.2) (fr_c.rf A G) (e_X7_hall hv.1 hm.1 hm.2) (fr_d.rf _ I A)
theorem pr_door {x y : Int32} (h : li c I A G) : pr c I A G (fun I A G => am_e 40 0 [.ref 0, .int x, .int y] [] I A G) (fun I A G => am_e 96 0 [.ref 69, .int x, .int y] [] I A G) := by
  obtain ⟨P, s, k, K, m, z, n, t, p, p', hv, ⟨hc, hx⟩, hm, hy⟩ := h
  exact pr_same hv hc hx hm hy _ (e_X6_door hv.1 hc.1 hc.2.1.1 hc.2.2.2) (fr_c.rf A G) (e_X7_door hv.1 hm.1 hm.2) (fr_d.rf _ I A)
theorem pr_goes {x : Int32} (h : li c I A G) : pr c I A G (fun I A G => am_e 43 0 [.ref 0, .int x] [] I A G) (fun I A G => am_e 101 0 [.ref 69, .int x] [] I A G) := by
  obtain ⟨P, s, k, K, m, z, n, t, p, p', hv, ⟨hc, hx⟩, hm, hy⟩ := h
  exact pr_same hv hc hx hm hy _ (e_X6_goes hc.1 hc.2.1.1) (fr_c.rf A G) (e_X7_goes hm.1) (fr_d.rf _ I A)
theorem pr_count {x : Int32} (h : li c I A G) : pr c I A G (fun I A G => am_e 59 0 [.ref 0, .int x] [] I A G) (fun I A G => am_e 130 0 [.ref 69, .int x] [] I A G) := by
  obtain ⟨P, s, k, K, m, z, n, t, p, p', hv, ⟨hc, hx⟩, hm, hy⟩ := h
  exact pr_same hv hc hx hm hy _ (e_X6_count hc.1 hc.2.1.1 hc.2.2.2 hx.1 hx.2.1 hx.2.2) (fr_c.rf A G) (e_X7_count hm.1 hm.2 hy.1 hy.2.1 hy.2.2) (fr_d.rf _ I A)
theorem pr_air {x y : Int32} (h : li c I A G) : pr c I A G (fun I A G => am_e 44 0 [.ref 0, .int x, .int y] [] I A G) (fun I A G => am_e 109 0 [.ref 69, .int x, .int y] [] I A G) := by
  obtain ⟨P, s, k, K, m, z, n, t, p, p', hv, ⟨hc, hx⟩, hm, hy⟩ := h
  obtain ⟨A1, G1, h6, f6⟩ := e_X6_air (t := x) (i := y) hv.1 hv.2.1.1 hc
  obtain ⟨I2, A2, h7, f7⟩ := e_X7_air (t := x) (i := y) (G := G1) hv.1 (mk_c hm f6)
  exact pr_same hv hc hx hm hy _ h6 f6 h7 f7.d
theorem pr_through {x y : Int32} (h : li c I A G) : pr c I A G (fun I A G => am_e 45 0 [.ref 0, .int x, .int y] [] I A G) (fun I A G => am_e 110 0 [.ref 69, .int x, .int y] [] I A G) := by
  obtain ⟨P, s, k, K, m, z, n, t, p, p', hv, ⟨hc, hx⟩, hm, hy⟩ := h
  obtain ⟨A1, G1, h6, f6⟩ := e_X6_through (t := x) (i := y) hv.1 hv.2.1.1 hc
  obtain ⟨I2, A2, h7, f7⟩ := e_X7_through (t := x) (i := y) (G := G1) hv.1 (mk_c hm f6)
  exact pr_same hv hc hx hm hy _ h6 f6 h7 f7.d
theorem pr_downwind {x y : Int32} (h : li c I A G) : pr c I A G (fun I A G => am_e 46 0 [.ref 0, .int x, .int y] [] I A G) (fun I A G => am_e 112 0 [.ref 69, .int x, .int y] [] I A G) := by
  obtain ⟨P, s, k, K, m, z, n, t, p, p', hv, ⟨hc, hx⟩, hm, hy⟩ := h
  obtain ⟨v, A1, G1, h6, f6, q6⟩ := e_X6_downwind (t := x) (i := y) hv.1 hv.2.1.1 hc
  obtain ⟨v', I2, A2, h7, f7, q7⟩ := e_X7_downwind (t := x) (i := y) (G := G1) hv.1 (mk_c hm f6)
  rw [← pf_dw_u q6 q7] at h7
  exact pr_same hv hc hx hm hy v h6 f6 h7 f7.d
theorem pr_clean {x : Int32} (h : li c I A G) : pr c I A G (fun I A G => am_e 48 0 [.ref 0, .int x] [] I A G) (fun I A G => am_e 117 0 [.ref 69, .int x] [] I A G) := by
  obtain ⟨P, s, k, K, m, z, n, t, p, p', hv, ⟨hc, hx⟩, hm, hy⟩ := h
  obtain ⟨A1, G1, h6, f6⟩ := e_X6_clean (x := x) hv.1 hv.2.1.1 hc
  obtain ⟨I2, A2, h7, f7⟩ := e_X7_clean (x := x) (G := G1) hv.1 (mk_c hm f6)
  exact pr_same hv hc hx hm hy _ h6 f6 h7 f7.d
theorem pr_settings {x : Int32} (h : li c I A G) : pr c I A G (fun I A G => am_e 49 0 [.ref 0, .int x] [] I A G) (fun I A G => am_e 119 0 [.ref 69, .int x, .null, .null, .null] [] I A G) := by
  obtain ⟨P, s, k, K, m, z, n, t, p, p', hv, ⟨hc, hx⟩, hm, hy⟩ := h
  obtain ⟨v, A1, G1, h6, f6, q6⟩ := e_X6_settings (x := x) hv.1 hv.2.1.1 hc
  obtain ⟨v', I2, A2, h7, f7, q7⟩ := e_X7_settings (x := x) (G := G1) hv.1 (mk_c hm f6)
  rw [← pf_se_u q6 q7] at h7
  exact pr_same hv hc hx hm hy v h6 f6 h7 f7.d
theorem pr_first {x y w : Int32} (h : li c I A G) : pr c I A G (fun I A G => am_e 50 0 [.ref 0, .int x, .int y, .int w, .null, .null, .null, .null, .null, .null] [] I A G) (fun I A G => am_e 120 0 [.ref 69, .int x, .int y, .int w, .null, .null, .null, .null] [] I A G) := by
  obtain ⟨P, s, k, K, m, z, n, t, p, p', hv, ⟨hc, hx⟩, hm, hy⟩ := h
  obtain ⟨A1, G1, h6, f6⟩ := e_X6_first (i := x) (t := y) (x := w) hv.1 hv.2.1.1 hc
  obtain ⟨I2, A2, h7, f7⟩ := e_X7_first (i := x) (t := y) (x := w) (G := G1) hv.1 (mk_c hm f6)
  exact pr_same hv hc hx hm hy _ h6 f6 h7 f7.d
theorem pr_burns (h : li c I A G) : pr c I A G (fun I A G => am_e 53 0 [.ref 0, .null, .null, .null, .null] [] I A G) (fun I A G => am_e 123 0 [.ref 69, .null, .null, .null, .null, .null] [] I A G) := by
  obtain ⟨P, s, k, K, m, z, n, t, p, p', hv, ⟨hc, hx⟩, hm, hy⟩ := h
  obtain ⟨A1, G1, h6, f6⟩ := e_X6_burns hv.1 hv.2.1.1 hv.2.2.2.2.1 hc hx.2.1
  obtain ⟨I2, A2, h7, f7⟩ := e_X7_burns (G := G1) hv.1 hv.2.2.2.2.1 (mk_c hm f6) (hy.2.1.fr rfl (f6.1 79 (by omega)))
  exact pr_same hv hc hx hm hy _ h6 f6 h7 f7.d
theorem pr_lamps {x : Int32} (h : li c I A G) : pr c I A G (fun I A G => am_e 55 0 [.ref 0, .int x] [] I A G) (fun I A G => am_e 126 0 [.ref 69, .int x] [] I A G) := by
  obtain ⟨P, s, k, K, m, z, n, t, p, p', hv, ⟨hc, hx⟩, hm, hy⟩ := h
  obtain ⟨A1, G1, h6, f6⟩ := e_X6_lamps (i := x) hv.1 hv.2.1.1 hc
  obtain ⟨I2, A2, h7, f7⟩ := e_X7_lamps (i := x) (G := G1) hv.1 (mk_c hm f6)
  exact pr_same hv hc hx hm hy _ h6 f6 h7 f7.d
theorem pr_weather {x y : Int32} (h : li c I A G) : pr c I A G (fun I A G => am_e 56 0 [.ref 0, .int x, .int y, .null, .null, .null, .null, .null, .null, .null, .null, .null] [] I A G) (fun I A G => am_e 127 0 [.ref 69, .int x, .int y, .null, .null, .null, .null, .null, .null, .null] [] I A G) := by
  obtain ⟨P, s, k, K, m, z, n, t, p, p', hv, ⟨hc, hx⟩, hm, hy⟩ := h
  obtain ⟨A1, G1, h6, f6⟩ := e_X6_weather (z := x) (n := y) hv.1 hv.2.1.1 hc
  obtain ⟨I2, A2, h7, f7⟩ := e_X7_weather (z := x) (n := y) (G := G1) hv.1 (mk_c hm f6)
  exact pr_same hv hc hx hm hy _ h6 f6 h7 f7.d
theorem pr_shaft {x : Int32} (h : li c I A G) : pr c I A G (fun I A G => am_e 54 0 [.ref 0, .int x, .null, .null, .null, .null] [] I A G) (fun I A G => am_e 125 0 [.ref 69, .int x, .null, .null, .null, .null] [] I A G) := by
  obtain ⟨P, s, k, K, m, z, n, t, p, p', hv, ⟨hc, hx⟩, hm, hy⟩ := h
  have hpp := hc.1.pp
  obtain ⟨I1, A1, G1, h6, f6⟩ := e_X6_shaft (x := x) hv.1 hv.2.1.1 hc
  have hm1 : mk P s I1 A1 := hm.up (fun a j h => f6.1 a j (by omega)) (fun b h => f6.2.1 b (by omega))
  obtain ⟨I2, A2, h7, f7⟩ := e_X7_shaft (x := x) (G := G1) hv.1 hm1
  refine ⟨_, I1, A1, G1, I2, A2, h6, h7, P, s, k, K, m, z, n, t, p, p', hv.s, ⟨(hc.fs f6).up (fun a j h => f7.1 a j (by omega)) (fun b h => f7.2.1 b (by omega)), ?_⟩, hm1.fd f7, ?_⟩
  · exact hx.fr (fun a j h => by rw [f7.1 a j (by omega), f6.1 a j (by omega)]) (fun b h => by rw [f7.2.1 b (by omega), f6.2.1 b (by omega)])
  · exact hy.fr (fun j h => by rw [f7.1 _ _ (by omega), f6.1 _ _ (by omega)]) (fun b h => by rw [f7.2.1 b (by omega), f6.2.1 b (by omega)])
theorem pr_hours {x : Int32} (hcb : c ≤ 512) (h : li c I A G) : pr c I A G (fun I A G => am_e 47 0 [.ref 0, .int x, .null] [] I A G) (fun I A G => am_e 114 0 [.ref 69, .int x, .null, .null] [] I A G) := by
  obtain ⟨P, s, k, K, m, z, n, t, p, p', hv, ⟨hc, hx⟩, hm, hy⟩ := h
  have hh := hv.2.1.2
  obtain ⟨I1, A1, G1, h6, f6, c6⟩ := e_X6_hours (n := x) hv.1 hv.2.1.1 (by omega) hc
  have hm1 : mk P s I1 A1 := hm.up (fun a j h => f6.1 a j (by omega)) (fun b h => f6.2.1 b (by omega))
  obtain ⟨I2, A2, h7, f7, m7⟩ := e_X7_hours (n := x) (G := G1) hv.1 hm1
  have hst : sv_s P (pf_hst P s x) ∧ (pf_hst P s x).2.2.1 ≤ 99 * (c + 1) := by
    unfold pf_hst
    by_cases hn : pf_n99 x
    · rw [if_pos hn]
      obtain ⟨N, a1, a2, rfl⟩ := am_n99.mp hn
      rw [nI_clamp (by omega)]
      obtain ⟨b1, b2, b3⟩ := pf_hn_f P s N
      exact ⟨hv.2.1.1.c b1 b2, by rw [b3]; omega⟩
    · rw [if_neg hn]
      exact ⟨hv.2.1.1, by omega⟩
  refine ⟨_, I1, A1, G1, I2, A2, h6, h7, P, pf_hst P s x, k, K, m, z, n, t, p, p', ⟨hv.1, hst, hv.s.2.2⟩, ⟨c6.up (fun a j h => f7.1 a j (by omega)) (fun b h => f7.2 b (by omega)), ?_⟩, m7, ?_⟩
  · exact hx.fr (fun a j h => by rw [f7.1 a j (by omega), f6.1 a j (by omega)]) (fun b h => by rw [f7.2 b (by omega), f6.2.1 b (by omega)])
  · exact hy.fr (fun j h => by rw [f7.1 _ _ (by omega), f6.1 _ _ (by omega)]) (fun b h => by rw [f7.2 b (by omega), f6.2.1 b (by omega)])
theorem pr_wipe (h : li c I A G) : pr c I A G (fun I A G => am_e 36 0 [.ref 0, .null] [] I A G) (fun I A G => am_e 82 0 [.ref 69, .null] [] I A G) := by
  obtain ⟨P, s, k, K, m, z, n, t, p, p', hv, ⟨hc, hx⟩, hm, hy⟩ := h
  have hpp := hc.1.pp
  have e7 := @e_X7_wipe (am_u I 0 1 0) A G
  rw [show am_u I 0 1 0 69 0 = I 0 1 by rw [am_u_at, if_neg (by omega), hx.2.2.1]; exact hy.2.2.1] at e7
  refine ⟨I 0 1, am_u I 0 1 0, A, G, _, A, e_X6_wipe, e7, P, s, k, K, m, z, 0, t, p, p', ⟨hv.1, hv.s.2.1, hv.2.2.1, hv.s.2.2.2.1, hv.2.2.2.2.1, by omega, fun j hj => by omega⟩, ⟨?_, ?_⟩, ?_, ?_⟩
  · obtain ⟨h1, h2, h3, h4⟩ := hc
    have hi : ∀ a j, a ≠ 0 → a ≠ 69 → am_u (am_u I 0 1 0) 69 0 0 a j = I a j := fun a j q1 q2 => by rw [am_u_ne q2, am_u_ne q1]
    exact ⟨h1, h2.fr (fun j => hi p j (by omega) (by omega)) (fun _ _ _ => rfl), h3.fr (fun a j q1 q2 => hi a j (by omega) (by omega)) (fun _ _ _ => rfl), h4.fr (fun j => hi 45 j (by omega) (by omega)) rfl⟩
  · refine ⟨hx.1.fr (by rw [am_u_ne (by omega), am_u_at, if_neg (by omega)]) (fun j => ⟨by rw [am_u_ne (by omega), am_u_ne (by omega)], by rw [am_u_ne (by omega), am_u_ne (by omega)]⟩) ⟨rfl, rfl⟩, hx.2.1.fr (by rw [am_u_ne (by omega), am_u_ne (by omega)]) rfl rfl rfl, ?_, fun j hj => by omega⟩
    rw [am_u_ne (by omega), am_u_eq]; rfl
  · have hi : ∀ j, j ≠ 0 → am_u (am_u I 0 1 0) 69 0 0 69 j = I 69 j := fun j q => by rw [am_u_at, if_neg (by omega), am_u_ne (by omega)]
    exact ⟨hm.1.fr (hi 9 (by omega)) (hi 10 (by omega)) rfl rfl rfl, hm.2.fr (fun j hj => hi j (by omega)) rfl⟩
  · have hi : ∀ j, j ≠ 0 → am_u (am_u I 0 1 0) 69 0 0 69 j = I 69 j := fun j q => by rw [am_u_at, if_neg (by omega), am_u_ne (by omega)]
    exact ⟨hy.1.fr (hi 19 (by omega)) rfl, hy.2.1.fr (hi 21 (by omega)) rfl, am_u_eq _ _ _ _, fun j hj => by omega⟩
theorem pr_forget (h : li c I A G) : pr c I A G (fun I A G => am_e 52 0 [.ref 0, .null] [] I A G) (fun I A G => am_e 122 0 [.ref 69, .null] [] I A G) := by
  obtain ⟨P, s, k, K, m, z, n, t, p, p', hv, ⟨hc, hx⟩, hm, hy⟩ := h
  have hpp := hc.1.pp
  have e7 := @e_X7_forget (am_u I 54 3 0) A G
  rw [show am_u I 54 3 0 69 21 = I 54 3 by rw [am_u_at, if_neg (by omega), hx.2.1.1]; exact hy.2.1.1] at e7
  refine ⟨I 54 3, am_u I 54 3 0, A, G, _, A, e_X6_forget, e7, P, s, k, K, 0, z, n, t, p, p', ⟨hv.1, hv.s.2.1, hv.2.2.1, hv.s.2.2.2.1, ⟨by omega, fun e he => by omega⟩, hv.2.2.2.2.2⟩, ⟨?_, ?_⟩, ?_, ?_⟩
  · obtain ⟨h1, h2, h3, h4⟩ := hc
    have hi : ∀ a j, a ≠ 54 → a ≠ 69 → am_u (am_u I 54 3 0) 69 21 0 a j = I a j := fun a j q1 q2 => by rw [am_u_ne q2, am_u_ne q1]
    exact ⟨h1, h2.fr (fun j => hi p j (by omega) (by omega)) (fun _ _ _ => rfl), h3.fr (fun a j q1 q2 => hi a j (by omega) (by omega)) (fun _ _ _ => rfl), h4.fr (fun j => hi 45 j (by omega) (by omega)) rfl⟩
  · have hi : ∀ a j, a ≠ 54 → a ≠ 69 → am_u (am_u I 54 3 0) 69 21 0 a j = I a j := fun a j q1 q2 => by rw [am_u_ne q2, am_u_ne q1]
    refine ⟨hx.1.fr (hi 0 8 (by omega) (by omega)) (fun j => ⟨hi 48 j (by omega) (by omega), hi 51 j (by omega) (by omega)⟩) ⟨rfl, rfl⟩, ⟨?_, fun e he => by omega⟩, hx.2.2.fr (hi 0 1 (by omega) (by omega)) rfl⟩
    rw [am_u_ne (by omega), am_u_eq]; rfl
  · have hi : ∀ j, j ≠ 21 → am_u (am_u I 54 3 0) 69 21 0 69 j = I 69 j := fun j q => by rw [am_u_at, if_neg (by omega), am_u_ne (by omega)]
    exact ⟨hm.1.fr (hi 9 (by omega)) (hi 10 (by omega)) rfl rfl rfl, hm.2.fr (fun j hj => hi j (by omega)) rfl⟩
  · have hi : ∀ j, j ≠ 21 → am_u (am_u I 54 3 0) 69 21 0 69 j = I 69 j := fun j q => by rw [am_u_at, if_neg (by omega), am_u_ne (by omega)]
    exact ⟨hy.1.fr (hi 19 (by omega)) rfl, ⟨am_u_eq _ _ _ _, fun e he => by omega⟩, hy.2.2.fr (hi 0 (by omega)) rfl⟩
end PAIR
