/-! ===== a run of the abstract machine is a run of the machine: by induction on its length; every method of it is a contract ===== -/
def am_rv (ad : Nat → Nat) (v : Value) : Option Value := match v with
  | .null => none
  | v => some (am_co ad v)
theorem am_push_rv (ad : Nat → Nat) (v : Value) (S : List Value) : (am_push v S).map (am_co ad) = (am_rv ad v).toList ++ S.map (am_co ad) := by cases v <;> rfl
/-- the return that a run ends with -/
def am_fi (M pc : Nat) (v : Value) : Prop := (v = .null ∧ am_rt M = none ∧ decode (am_b M) pc = .ok (.return_, 1)) ∨ (∃ x ty, v = .int x ∧ am_rt M = some ty ∧ narrow ty (.int x) = .int x ∧ decode (am_b M) pc = .ok (.ireturn, 1)) ∨ (∃ a n, v = .ref a ∧ am_rt M = some (.object n) ∧ decode (am_b M) pc = .ok (.areturn, 1))
def am_ws (M : Nat) : List Cond := Cond.code (am_y M) (am_b M) (am_l M) (am_rt M) :: lw_g
def am_rm (M : Nat) : Room := { frames := am_fr M, cells := 0, slots := 0, locals := am_lo M }
def am_Pc (N : Nat) (dC : Nat → ClassId) (dI : Nat → Nat → Nat) (cI cB : ClassId) (ad : Nat → Nat) (as : List Value) (I A : am_F) (G : am_G) (sz : Nat) : Array Value → State → Prop :=
  va_Pc (as.map (am_co ad)) (fun U => U.heap.size = sz ∧ va_P (dC, dI) vwCl (am_w N cI cB ad I A G) U.heap ∧ va_K (dC, dI) vwCl [(cI, .int), (cB, .byte)] U ∧ va_D (fun _ => True) (am_w N cI cB ad I A G) ∧ ∀ w ∈ am_nest, va_Nw w U)
def am_Qc (N : Nat) (dC : Nat → ClassId) (dI : Nat → Nat → Nat) (cI cB : ClassId) (ad : Nat → Nat) (F : Nat → Prop) (r : am_V) : Array Value → State → Outcome → State → Prop := fun _ st o t =>
  (o = .returned (am_rv ad r.1) ∧ va_P (dC, dI) vwCl (am_w N cI cB ad r.2.1 r.2.2.1 r.2.2.2) t.heap ∧ va_K (dC, dI) vwCl [(cI, .int), (cB, .byte)] t ∧ va_D F (am_w N cI cB ad r.2.1 r.2.2.1 r.2.2.2)) ∧ va_F F st t
theorem am_nest_warm {s U : State} (hW : s.WarmedH U.vm) (h : ∀ w ∈ am_nest, va_Nw w s) : ∀ w ∈ am_nest, va_Nw w U := by
  intro w hw
  have h1 := h w hw
  simp only [am_nest, List.mem_cons, List.not_mem_nil, or_false] at hw
  rcases hw with rfl | rfl | rfl | rfl | rfl | rfl | rfl | rfl | rfl <;> exact va_Nw.warmM hW h1
theorem am_nest_same {s U : State} (hv : s.vm = U.vm) (h : ∀ w ∈ am_nest, va_Nw w s) : ∀ w ∈ am_nest, va_Nw w U := by
  intro w hw
  have h1 := h w hw
  simp only [am_nest, List.mem_cons, List.not_mem_nil, or_false] at hw
  rcases hw with rfl | rfl | rfl | rfl | rfl | rfl | rfl | rfl | rfl <;> exact va_Nw.same rfl hv h1
theorem am_good : ∀ w ∈ lw_g, (w.onTables && w.keeps) = true ∨ ∃ ty, w = .arrayClass ty := fun w h => good_of_word (List.mem_filter.mp h).2
theorem am_goodIn {M : Nat} (h : Cond.code (am_y M) (am_b M) (am_l M) (am_rt M) ∈ lw_g) : GoodIn lw_g (am_ws M) := by
  intro w hw
  rcases List.mem_cons.mp hw with rfl | hw
  · exact ⟨h, am_good _ h⟩
  · exact ⟨hw, am_good _ hw⟩
section AMR
variable {p : Program} {l : Launch} {e : Env} {R : Room} {s : State} {m : MethodId} {args : Array Value} {below : List Frame} {meth : Method} {c : Code} {cells slots : Nat} {Q : State → Prop}
variable {dC : Nat → ClassId} {dI : Nat → Nat → Nat} {cI cB : ClassId} {ad : Nat → Nat} {N : Nat} {A0 : Nat → Prop} {H0 : Heap}
/-- behind a call of a contract of ours -/
theorem am_callgo {pc : Nat} {ls : Array Slot} {st0 rest : List Value} {a : Array Value} {H : Heap} {locs : List Loc} {F free : Nat → Prop} {r : am_V} (hr : va_Run p l e R s m args below meth c H locs cells slots 0 0 (F0 m pc ls st0) rest (am_Qc N dC dI cI cB ad F r a) free) (hS : va_S A0 H0 H locs) (hA : ∀ q, F q → A0 q) (hf : ∀ q, free q → A0 q)
    (kk : ∀ (H1 : Heap) (locs1 : List Loc), va_P (dC, dI) vwCl (am_w N cI cB ad r.2.1 r.2.2.1 r.2.2.2) H1 → va_D A0 (am_w N cI cB ad r.2.1 r.2.2.1 r.2.2.2) → va_S A0 H0 H1 locs1 → W p l e R s m args below meth c H1 locs1 cells slots Q (F0 m (pc + 3) ls ((am_rv ad r.1).toList ++ rest))) : W p l e R s m args below meth c H locs cells slots Q (F0 m pc ls st0) := by
  intro T hT X
  obtain ⟨v, st₀, t, T', L, h0, X', hL, e1, e2, ⟨⟨hv, hP1, hK1, hD1⟩, hz, hk⟩, st⟩ := hr T hT X
  cases hv
  rw [h0] at hz hk
  obtain ⟨t2, a1, b1⟩ := kk T'.heap (locs ++ L) (by rw [e1]; exact hP1) (hD1.weaken fun _ _ _ h => hA _ h)
    ⟨Nat.le_trans hS.1 (by rw [e1]; exact hz), fun q h1 h2 => by rw [e1, hk q (Nat.lt_of_lt_of_le h1 hS.1) (fun z => h2 (hA q z))]; exact hS.2.1 q h1 h2, fun q hq => by
      rcases List.mem_append.mp hq with h | h
      · exact hS.2.2 q h
      · exact hf _ (hL q h)⟩ T' rfl X'
  exact ⟨t2, st t2 a1, b1⟩
end AMR
/-- what a run of length n promises, in every method and on every launch -/
def am_sound (l : Launch) (n : Nat) : Prop := ∀ {p : Program} {e : Env} {R : Room} {s : State} {m : MethodId} {args : Array Value} {below : List Frame} {meth : Method} {c : Code} {cells slots : Nat} {Q : State → Prop}
  {dC : Nat → ClassId} {dI : Nat → Nat → Nat} {cI cB : ClassId} {ad : Nat → Nat} {N : Nat} {A0 : Nat → Prop} {H0 : Heap} {M pc : Nat} {L S : List Value} {I A : am_F} {G : am_G} {r : am_V} {ls : Array Slot} {H : Heap} {locs : List Loc},
  am_x N n (M, pc, L, S, I, A, G) = some r → am_cx p R s m args c cells slots M → va_K (dC, dI) vwCl [(cI, .int), (cB, .byte)] s → am_scr M N ad I A s H0 A0 → am_ls ad (am_lg M) (am_l M) ls L → va_P (dC, dI) vwCl (am_w N cI cB ad I A G) H → va_D A0 (am_w N cI cB ad I A G) → va_S A0 H0 H locs → (∀ q, H0.size ≤ q → A0 q) →
  (∀ (pc' : Nat) (ls' : Array Slot) (H' : Heap) (locs' : List Loc), am_fi M pc' r.1 → va_P (dC, dI) vwCl (am_w N cI cB ad r.2.1 r.2.2.1 r.2.2.2) H' → va_D A0 (am_w N cI cB ad r.2.1 r.2.2.1 r.2.2.2) → va_S A0 H0 H' locs' → W p l e R s m args below meth c H' locs' cells slots Q (F0 m pc' ls' ((am_push r.1 []).map (am_co ad)))) →
  W p l e R s m args below meth c H locs cells slots Q (F0 m pc ls (S.map (am_co ad)))
/-- a method's contract out of a run -/
theorem am_met_of {l : Launch} {n N : Nat} (ih : am_sound l n) {M : Nat} (hM : am_mok M) (hnl : M ≠ am_law) {as : List Value} {I A : am_F} {G : am_G} {r : am_V} (hfit : (am_lay as).length ≤ am_l M ∧ (am_lg M = false → ∀ v ∈ as, v.category = 1)) (h : am_x N n (M, 0, am_ent as (am_l M), [], I, A, G) = some r)
    (dC : Nat → ClassId) (dI : Nat → Nat → Nat) (cI cB : ClassId) (ad : Nat → Nat) (sz : Nat) :
    Met l (am_y M) (am_ws M) (am_rm M) (am_Pc N dC dI cI cB ad as I A G sz) (am_Qc N dC dI cI cB ad (va_A (am_w N cI cB ad I A G) sz) r) 0 0 (va_A (am_w N cI cB ad I A G) sz) := by
  obtain ⟨m1, m2, m3, m4, m5⟩ := hM
  refine Met.ofW (cc := am_b M) (maxL := am_l M) (ret := am_rt M) m5 rfl ?_
  intro p e s m args below meth c s₁ B hml hv
  obtain ⟨rfl, hsz, hP, hK, hD0, hN⟩ := hv
  have hx := B.exec
  have hb := B.bytes
  have hr := B.returns
  have hts0 := atoms_spec (ws := am_ws M) B.pre
  have hown : s.vm.findClass (am_y M).cls = some m.cls := findClass_of_methodNamed B.named
  have hlocks := B.notSynchronized
  subst hsz
  rw [lg_entry_eq]
  refine ih (L := am_ent as (am_l M)) (S := []) (N := N) (A0 := va_A (am_w N cI cB ad I A G) s.heap.size) (H0 := s.heap) h ⟨hx, hb, hml, by rw [← m3]; exact hown, fun w hw => hts0 w (List.mem_cons_of_mem _ hw), hN, Nat.le_refl _, Nat.le_refl _, Nat.le_refl _, Nat.le_refl _⟩ hK (fun hq => absurd hq hnl) (am_ls_entry ad _ hfit.1 hfit.2) hP hD0.self va_S.rf (fun q h => Or.inr h) ?_
  intro pc' ls' H' locs' hfi hP' hD' hS'
  rcases hfi with ⟨e1, e2, e3⟩ | ⟨x, ty, e1, e2, e3, e4⟩ | ⟨a, nm, e1, e2, e3⟩
  · rw [e1]
    exact W.vret hx hb (by rw [hr, e2]) (fun t ht hW => ⟨⟨by rw [e1]; rfl, by rw [ht]; exact hP', va_K.moved hW.alike hK, hD'⟩, hS'.F ht⟩) hS'.2.2 e3 hlocks
  · rw [e1]
    exact W.zret (v := x) (ty := ty) hx hb (by rw [hr, e2]) e3 (fun t ht hW => ⟨⟨by rw [e1]; rfl, by rw [ht]; exact hP', va_K.moved hW.alike hK, hD'⟩, hS'.F ht⟩) hS'.2.2 e4 hlocks
  · rw [e1]
    exact W.aret (v := .ref (ad a)) hx hb (by rw [hr, e2]) (Or.inl ⟨nm, rfl⟩) (Or.inr ⟨ad a, rfl⟩) (fun t ht hW => ⟨⟨by rw [e1]; rfl, by rw [ht]; exact hP', va_K.moved hW.alike hK, hD'⟩, hS'.F ht⟩) hS'.2.2 e3 hlocks
theorem am_fit_i {M M' : Nat} {as rest : List Value} (h : am_fit M M' as rest = true) : am_cat rest ≤ 8 ∧ am_fr M' + 1 ≤ am_fr M ∧ 8 + (am_l M' + 11) + am_lo M' ≤ am_lo M ∧ (am_lay as).length ≤ am_l M' ∧ (am_lg M' = false → ∀ v ∈ as, v.category = 1) := by
  unfold am_fit at h
  simp only [Bool.and_eq_true, Bool.or_eq_true] at h
  obtain ⟨h1, h2, h3, h4, h5⟩ := h
  refine ⟨Nat.le_of_ble_eq_true h1, Nat.le_of_ble_eq_true h2, Nat.le_of_ble_eq_true h3, Nat.le_of_ble_eq_true h4, fun hg v hv => ?_⟩
  rcases h5 with h5 | h5
  · rw [hg] at h5; cases h5
  · exact Nat.eq_of_beq_eq_true (List.all_eq_true.mp h5 v hv)
theorem am_cat_co (ad : Nat → Nat) (S : List Value) : ((S.map (am_co ad)).map fun v => v.category).sum = am_cat S := by
  unfold am_cat
  rw [List.map_map]
  congr 1
  exact List.map_congr_left fun v _ => am_co_cat ad v
