/-! ===== the abstract machine's steps are the machine's ===== -/
theorem am_p1_i {S : List Value} {f : Int32 → List Value → am_Q} {r} (h : am_p1 S f = some r) : ∃ x S', S = .int x :: S' ∧ f x S' = some r := by
  unfold am_p1 at h; split at h
  · exact ⟨_, _, rfl, h⟩
  · cases h
theorem am_p2_i {S : List Value} {f : Int32 → Int32 → List Value → am_Q} {r} (h : am_p2 S f = some r) : ∃ x y S', S = .int y :: .int x :: S' ∧ f x y S' = some r := by
  unfold am_p2 at h; split at h
  · exact ⟨_, _, _, rfl, h⟩
  · cases h
theorem am_q1_i {S : List Value} {f : Int64 → List Value → am_Q} {r} (h : am_q1 S f = some r) : ∃ x S', S = .long x :: S' ∧ f x S' = some r := by
  unfold am_q1 at h; split at h
  · exact ⟨_, _, rfl, h⟩
  · cases h
theorem am_q2_i {S : List Value} {f : Int64 → Int64 → List Value → am_Q} {r} (h : am_q2 S f = some r) : ∃ x y S', S = .long y :: .long x :: S' ∧ f x y S' = some r := by
  unfold am_q2 at h; split at h
  · exact ⟨_, _, _, rfl, h⟩
  · cases h
theorem am_qs_i {S : List Value} {f : Int64 → Int32 → List Value → am_Q} {r} (h : am_qs S f = some r) : ∃ x y S', S = .int y :: .long x :: S' ∧ f x y S' = some r := by
  unfold am_qs at h; split at h
  · exact ⟨_, _, _, rfl, h⟩
  · cases h
theorem am_pr_i {S : List Value} {f : Nat → List Value → am_Q} {r} (h : am_pr S f = some r) : ∃ x S', S = .ref x :: S' ∧ f x S' = some r := by
  unfold am_pr at h; split at h
  · exact ⟨_, _, rfl, h⟩
  · cases h
theorem am_pa_i {S : List Value} {f : Nat → Int32 → List Value → am_Q} {r} (h : am_pa S f = some r) : ∃ a i S', S = .int i :: .ref a :: S' ∧ f a i S' = some r := by
  unfold am_pa at h; split at h
  · exact ⟨_, _, _, rfl, h⟩
  · cases h
theorem am_ps_i {S : List Value} {f : Nat → Int32 → Int32 → List Value → am_Q} {r} (h : am_ps S f = some r) : ∃ a i x S', S = .int x :: .int i :: .ref a :: S' ∧ f a i x S' = some r := by
  unfold am_ps at h; split at h
  · exact ⟨_, _, _, _, rfl, h⟩
  · cases h
theorem am_pf_i {S : List Value} {f : Nat → Value → List Value → am_Q} {r} (h : am_pf S f = some r) : ∃ a v S', S = v :: .ref a :: S' ∧ f a v S' = some r := by
  unfold am_pf at h; split at h
  · exact ⟨_, _, _, rfl, h⟩
  · cases h
theorem am_gi_i {L : List Value} {i : Nat} {f : Int32 → am_Q} {r} (h : am_gi L i f = some r) : ∃ x, L[i]? = some (.int x) ∧ f x = some r := by
  unfold am_gi at h; split at h
  · rename_i hx; exact ⟨_, hx, h⟩
  · cases h
theorem am_gl_i {L : List Value} {i : Nat} {f : Int64 → am_Q} {r} (h : am_gl L i f = some r) : ∃ x, L[i]? = some (.long x) ∧ f x = some r := by
  unfold am_gl at h; split at h
  · rename_i hx; exact ⟨_, hx, h⟩
  · cases h
theorem am_gr_i {L : List Value} {i : Nat} {f : Nat → am_Q} {r} (h : am_gr L i f = some r) : ∃ x, L[i]? = some (.ref x) ∧ f x = some r := by
  unfold am_gr at h; split at h
  · rename_i hx; exact ⟨_, hx, h⟩
  · cases h
theorem am_at_i {pc : Nat} {off : Int} {f : Nat → am_Q} {r} (h : am_at pc off f = some r) : ∃ t : Nat, (pc : Int) + off = (t : Int) ∧ f t = some r := by
  unfold am_at at h; split at h
  · rename_i t ht; exact ⟨t, ht, h⟩
  · cases h
theorem am_ix_i {n : Nat} {i : Int32} {q : am_Q} {r} (h : am_ix n i q = some r) : vp_in i n ∧ q = some r := by
  unfold am_ix at h; split at h
  · cases h
  · rename_i hn; exact ⟨hn, h⟩
theorem am_blt {a b : Nat} (h : Nat.blt a b = true) : a < b := Nat.le_of_ble_eq_true h
theorem am_isO_i {N a c : Nat} (h : am_isO N a c = true) : a < N ∧ am_cell a = .inr c := by
  unfold am_isO at h
  rw [Bool.and_eq_true] at h
  refine ⟨am_blt h.1, ?_⟩
  have h2 := h.2
  split at h2
  · rename_i c' hc
    rw [hc, Nat.eq_of_beq_eq_true h2]
  · cases h2
theorem am_len_i {N a : Nat} {b : Bool} {i : Int32} (h : vp_in i (am_len N b a)) : ∃ n, a < N ∧ am_cell a = .inl (b, n) ∧ vp_in i n := by
  have hz : ¬ vp_in i 0 := fun h => h (Or.inr (Nat.zero_le _))
  unfold am_len at h
  split at h
  · rename_i ha
    split at h
    · rename_i b' n hc
      split at h
      · rename_i hb
        subst hb
        exact ⟨n, am_blt ha, hc, h⟩
      · exact absurd h hz
    · exact absurd h hz
  · exact absurd h hz
theorem am_isA_i {N a n : Nat} (h : am_isA N a = some n) : a < N ∧ ∃ b, am_cell a = .inl (b, n) := by
  unfold am_isA at h
  split at h
  · rename_i ha
    split at h
    · rename_i b n' hc
      cases h
      exact ⟨am_blt ha, b, hc⟩
    · cases h
  · cases h
theorem am_sw_i {pc : Nat} {f : Nat → am_Q} {d : Int} {x : Int32} {r} : ∀ (os : List Int) (lo : Int), am_sw pc f d x lo os = some r →
    ((x.toInt < lo ∨ lo + os.length ≤ x.toInt) ∧ am_at pc d f = some r) ∨ (¬ x.toInt < lo ∧ x.toInt < lo + os.length ∧ ∃ o, os[(x.toInt - lo).toNat]? = some o ∧ am_at pc o f = some r)
  | [], lo, h => Or.inl ⟨by simp only [List.length_nil, Int.ofNat_zero, Int.add_zero]; omega, h⟩
  | o :: os, lo, h => by
    unfold am_sw at h
    simp only [List.length_cons, Int.natCast_add, Int.natCast_one]
    split at h
    · rename_i he
      refine Or.inr ⟨by omega, by omega, o, ?_, h⟩
      rw [he, Int.sub_self]
      rfl
    · rename_i he
      rcases am_sw_i os (lo + 1) h with ⟨h1, h2⟩ | ⟨h1, h2, o', h3, h4⟩
      · exact Or.inl ⟨by omega, h2⟩
      · refine Or.inr ⟨by omega, by omega, o', ?_, h4⟩
        have : (x.toInt - lo).toNat = (x.toInt - (lo + 1)).toNat + 1 := by omega
        rw [this, List.getElem?_cons_succ]
        exact h3
theorem am_sl_i {pc : Nat} {f : Nat → am_Q} {d : Int} {x : Int32} {r} : ∀ (os : List (Int × Int)), am_sl pc f d x os = some r → am_at pc (Op.lookupswitch.offset os d x.toInt) f = some r
  | [], h => h
  | (v, o) :: os, h => by
    unfold am_sl at h
    rw [Op.lookupswitch.offset_cons]
    split at h
    · rename_i he
      rw [if_pos (by first | exact he | exact he.symm | simpa using he | simpa using he.symm)]
      exact h
    · rename_i he
      rw [if_neg (by first | exact he | exact fun q => he q.symm | simpa using he | simpa using fun q => he q.symm)]
      exact am_sl_i os h
theorem am_map_set {n j : Nat} {f f' : Nat → Value} {v : Value} (hj : f' j = v) (hi : ∀ i, i ≠ j → f' i = f i) : ((List.range n).map f).set j v = (List.range n).map f' := by
  apply List.ext_getElem?
  intro i
  rw [List.getElem?_set]
  by_cases h : j = i
  · subst h
    rw [if_pos rfl]
    by_cases hn : j < n
    · rw [if_pos (by simpa using hn), List.getElem?_map, List.getElem?_range hn, ← hj]
      rfl
    · rw [if_neg (by simpa using hn), List.getElem?_map, List.getElem?_eq_none (by simpa using hn)]
      rfl
  · rw [if_neg h, List.getElem?_map, List.getElem?_map]
    by_cases hn : i < n
    · rw [List.getElem?_range hn]
      show some (f i) = some (f' i)
      rw [hi i (fun e => h e.symm)]
    · rw [List.getElem?_eq_none (by simpa using hn)]
      rfl
theorem am_u_ne {α : Type} {f : Nat → Nat → α} {a k b : Nat} {v : α} (h : b ≠ a) : am_u f a k v b = f b := funext fun j => if_neg (fun q => h q.1)
theorem am_u_upd {A : am_F} {a k : Nat} {x : Int32} : am_u A a k x a = upd (A a) k x := funext fun j => by
  unfold am_u upd
  by_cases h : j = k
  · rw [if_pos ⟨rfl, h⟩, if_pos h]
  · rw [if_neg (fun q => h q.2), if_neg h]
/-- what holds in a method of the abstract machine: the machine, its code, the words, room -/
def am_cx (p : Program) (R : Room) (s : State) (m : MethodId) (args : Array Value) (c : Code) (cells slots M : Nat) : Prop :=
  p.tables.exec = Jvm.exec ∧ c.code = am_b M ∧ c.maxLocals = am_l M ∧ s.vm.findClass (am_cn (am_ow M)) = some m.cls ∧ (∀ w ∈ lw_g, w.before args s = true) ∧ (∀ w ∈ am_nest, va_Nw w s) ∧ am_fr M ≤ R.frames ∧ am_lo M ≤ R.locals ∧ cells ≤ R.cells ∧ slots ≤ R.slots
/-- the law's script, which nobody writes: cell N of the abstract machine -/
def am_scr (M N : Nat) (ad : Nat → Nat) (I A : am_F) (s : State) (H0 : Heap) (A0 : Nat → Prop) : Prop :=
  M = am_law → ∃ (Ls : Nat) (xs : Nat → Int32), va_X (ad N) Ls xs s H0 ∧ ad N < H0.size ∧ ¬ A0 (ad N) ∧ Ls < 2 ^ 31 ∧ I N 0 = Int32.ofNat Ls ∧ ∀ j, A N j = xs j
theorem am_scr.to {M N : Nat} {ad : Nat → Nat} {I A I' A' : am_F} {s : State} {H0 : Heap} {A0 : Nat → Prop} (h : am_scr M N ad I A s H0 A0) (hI : I' N = I N) (hA : A' N = A N) : am_scr M N ad I' A' s H0 A0 := fun hM => by
  obtain ⟨Ls, xs, h1, h2, h3, h4, h5, h6⟩ := h hM
  exact ⟨Ls, xs, h1, h2, h3, h4, by rw [hI]; exact h5, fun j => by rw [hA]; exact h6 j⟩
section AMS
variable {p : Program} {l : Launch} {e : Env} {R : Room} {s : State} {m : MethodId} {args : Array Value} {below : List Frame} {meth : Method} {c : Code} {cells slots : Nat} {Q : State → Prop}
variable {dC : Nat → ClassId} {dI : Nat → Nat → Nat} {cI cB : ClassId} {ad : Nat → Nat} {N : Nat} {A0 : Nat → Prop} {H0 : Heap}
variable {M pc : Nat} {L S : List Value} {I A : am_F} {G : am_G} {d : am_C} {ls : Array Slot} {H : Heap} {locs : List Loc}
/-- from every later place that d names the machine comes to Q -/
def am_kk (p : Program) (l : Launch) (e : Env) (R : Room) (s : State) (m : MethodId) (args : Array Value) (below : List Frame) (meth : Method) (c : Code) (cells slots : Nat) (Q : State → Prop) (dC : Nat → ClassId) (dI : Nat → Nat → Nat) (cI cB : ClassId) (ad : Nat → Nat) (N : Nat) (A0 : Nat → Prop) (H0 : Heap) (d : am_C) : Prop :=
  ∀ (M pc' : Nat) (L' S' : List Value) (I' A' : am_F) (G' : am_G), d = (M, pc', L', S', I', A', G') → ∀ (ls' : Array Slot) (H' : Heap) (locs' : List Loc), am_ls ad (am_lg M) (am_l M) ls' L' → am_scr M N ad I' A' s H0 A0 → va_P (dC, dI) vwCl (am_w N cI cB ad I' A' G') H' → va_D A0 (am_w N cI cB ad I' A' G') → va_S A0 H0 H' locs' → W p l e R s m args below meth c H' locs' cells slots Q (F0 m pc' ls' (S'.map (am_co ad)))

theorem am_s_iconst (X : am_cx p R s m args c cells slots M) (hK : va_K (dC, dI) vwCl [(cI, .int), (cB, .byte)] s) (hscr : am_scr M N ad I A s H0 A0) (hl : am_ls ad (am_lg M) (am_l M) ls L) (hP : va_P (dC, dI) vwCl (am_w N cI cB ad I A G) H) (hD : va_D A0 (am_w N cI cB ad I A G)) (hS : va_S A0 H0 H locs) (kk : am_kk p l e R s m args below meth c cells slots Q dC dI cI cB ad N A0 H0 d) {k : Int} (hdg : decode (am_b M) pc = .ok (.iconst k, 1)) (hd : am_in N M pc (.iconst k) L S I A G = some (.inl d)) : W p l e R s m args below meth c H locs cells slots Q (F0 m pc ls (S.map (am_co ad))) := by
  obtain ⟨hx, hb, hml, hown, hts, hnst, hfr, hlo, hc0, hs0⟩ := X
  cases hd
  exact lv_iconst hx hb hdg rfl (kk _ _ _ _ _ _ _ rfl ls H locs hl hscr hP hD hS)
theorem am_s_bipush (X : am_cx p R s m args c cells slots M) (hK : va_K (dC, dI) vwCl [(cI, .int), (cB, .byte)] s) (hscr : am_scr M N ad I A s H0 A0) (hl : am_ls ad (am_lg M) (am_l M) ls L) (hP : va_P (dC, dI) vwCl (am_w N cI cB ad I A G) H) (hD : va_D A0 (am_w N cI cB ad I A G)) (hS : va_S A0 H0 H locs) (kk : am_kk p l e R s m args below meth c cells slots Q dC dI cI cB ad N A0 H0 d) {k : Int} (hdg : decode (am_b M) pc = .ok (.bipush k, 2)) (hd : am_in N M pc (.bipush k) L S I A G = some (.inl d)) : W p l e R s m args below meth c H locs cells slots Q (F0 m pc ls (S.map (am_co ad))) := by
  obtain ⟨hx, hb, hml, hown, hts, hnst, hfr, hlo, hc0, hs0⟩ := X
  cases hd
  exact lv_bipush hx hb hdg rfl (kk _ _ _ _ _ _ _ rfl ls H locs hl hscr hP hD hS)
theorem am_s_sipush (X : am_cx p R s m args c cells slots M) (hK : va_K (dC, dI) vwCl [(cI, .int), (cB, .byte)] s) (hscr : am_scr M N ad I A s H0 A0) (hl : am_ls ad (am_lg M) (am_l M) ls L) (hP : va_P (dC, dI) vwCl (am_w N cI cB ad I A G) H) (hD : va_D A0 (am_w N cI cB ad I A G)) (hS : va_S A0 H0 H locs) (kk : am_kk p l e R s m args below meth c cells slots Q dC dI cI cB ad N A0 H0 d) {k : Int} (hdg : decode (am_b M) pc = .ok (.sipush k, 3)) (hd : am_in N M pc (.sipush k) L S I A G = some (.inl d)) : W p l e R s m args below meth c H locs cells slots Q (F0 m pc ls (S.map (am_co ad))) := by
  obtain ⟨hx, hb, hml, hown, hts, hnst, hfr, hlo, hc0, hs0⟩ := X
  cases hd
  exact lv_sipush hx hb hdg rfl (kk _ _ _ _ _ _ _ rfl ls H locs hl hscr hP hD hS)
theorem am_s_lconst (X : am_cx p R s m args c cells slots M) (hK : va_K (dC, dI) vwCl [(cI, .int), (cB, .byte)] s) (hscr : am_scr M N ad I A s H0 A0) (hl : am_ls ad (am_lg M) (am_l M) ls L) (hP : va_P (dC, dI) vwCl (am_w N cI cB ad I A G) H) (hD : va_D A0 (am_w N cI cB ad I A G)) (hS : va_S A0 H0 H locs) (kk : am_kk p l e R s m args below meth c cells slots Q dC dI cI cB ad N A0 H0 d) {k : Fin 2} (hdg : decode (am_b M) pc = .ok (.lconst k, 1)) (hd : am_in N M pc (.lconst k) L S I A G = some (.inl d)) : W p l e R s m args below meth c H locs cells slots Q (F0 m pc ls (S.map (am_co ad))) := by
  obtain ⟨hx, hb, hml, hown, hts, hnst, hfr, hlo, hc0, hs0⟩ := X
  cases hd
  exact lv_lconst hx hb hdg rfl (kk _ _ _ _ _ _ _ rfl ls H locs hl hscr hP hD hS)
theorem am_s_ldc (X : am_cx p R s m args c cells slots M) (hK : va_K (dC, dI) vwCl [(cI, .int), (cB, .byte)] s) (hscr : am_scr M N ad I A s H0 A0) (hl : am_ls ad (am_lg M) (am_l M) ls L) (hP : va_P (dC, dI) vwCl (am_w N cI cB ad I A G) H) (hD : va_D A0 (am_w N cI cB ad I A G)) (hS : va_S A0 H0 H locs) (kk : am_kk p l e R s m args below meth c cells slots Q dC dI cI cB ad N A0 H0 d) {k : Nat} (hdg : decode (am_b M) pc = .ok (.ldc k, 2)) (hd : am_in N M pc (.ldc k) L S I A G = some (.inl d)) : W p l e R s m args below meth c H locs cells slots Q (F0 m pc ls (S.map (am_co ad))) := by
  obtain ⟨hx, hb, hml, hown, hts, hnst, hfr, hlo, hc0, hs0⟩ := X
  cases hc : am_ci (am_ow M) k with
  | none => unfold am_in at hd; simp only [hc] at hd; cases hd
  | some v =>
    unfold am_in at hd
    simp only [hc] at hd
    cases hd
    exact lv_ldc hx hb hown (hts _ (am_ci_ok hc)) hdg (kk _ _ _ _ _ _ _ rfl ls H locs hl hscr hP hD hS)
theorem am_s_ldc_w (X : am_cx p R s m args c cells slots M) (hK : va_K (dC, dI) vwCl [(cI, .int), (cB, .byte)] s) (hscr : am_scr M N ad I A s H0 A0) (hl : am_ls ad (am_lg M) (am_l M) ls L) (hP : va_P (dC, dI) vwCl (am_w N cI cB ad I A G) H) (hD : va_D A0 (am_w N cI cB ad I A G)) (hS : va_S A0 H0 H locs) (kk : am_kk p l e R s m args below meth c cells slots Q dC dI cI cB ad N A0 H0 d) {k : Nat} (hdg : decode (am_b M) pc = .ok (.ldc_w k, 3)) (hd : am_in N M pc (.ldc_w k) L S I A G = some (.inl d)) : W p l e R s m args below meth c H locs cells slots Q (F0 m pc ls (S.map (am_co ad))) := by
  obtain ⟨hx, hb, hml, hown, hts, hnst, hfr, hlo, hc0, hs0⟩ := X
  cases hc : am_ci (am_ow M) k with
  | none => unfold am_in at hd; simp only [hc] at hd; cases hd
  | some v =>
    unfold am_in at hd
    simp only [hc] at hd
    cases hd
    exact lv_ldcw hx hb hown (hts _ (am_ci_ok hc)) hdg (kk _ _ _ _ _ _ _ rfl ls H locs hl hscr hP hD hS)
theorem am_s_ldc2_w (X : am_cx p R s m args c cells slots M) (hK : va_K (dC, dI) vwCl [(cI, .int), (cB, .byte)] s) (hscr : am_scr M N ad I A s H0 A0) (hl : am_ls ad (am_lg M) (am_l M) ls L) (hP : va_P (dC, dI) vwCl (am_w N cI cB ad I A G) H) (hD : va_D A0 (am_w N cI cB ad I A G)) (hS : va_S A0 H0 H locs) (kk : am_kk p l e R s m args below meth c cells slots Q dC dI cI cB ad N A0 H0 d) {k : Nat} (hdg : decode (am_b M) pc = .ok (.ldc2_w k, 3)) (hd : am_in N M pc (.ldc2_w k) L S I A G = some (.inl d)) : W p l e R s m args below meth c H locs cells slots Q (F0 m pc ls (S.map (am_co ad))) := by
  obtain ⟨hx, hb, hml, hown, hts, hnst, hfr, hlo, hc0, hs0⟩ := X
  cases hc : am_cj (am_ow M) k with
  | none => unfold am_in at hd; simp only [hc] at hd; cases hd
  | some v =>
    unfold am_in at hd
    simp only [hc] at hd
    cases hd
    exact lv_ldc2 hx hb hown (hts _ (am_cj_ok hc)) hdg (kk _ _ _ _ _ _ _ rfl ls H locs hl hscr hP hD hS)
theorem am_s_iload_n (X : am_cx p R s m args c cells slots M) (hK : va_K (dC, dI) vwCl [(cI, .int), (cB, .byte)] s) (hscr : am_scr M N ad I A s H0 A0) (hl : am_ls ad (am_lg M) (am_l M) ls L) (hP : va_P (dC, dI) vwCl (am_w N cI cB ad I A G) H) (hD : va_D A0 (am_w N cI cB ad I A G)) (hS : va_S A0 H0 H locs) (kk : am_kk p l e R s m args below meth c cells slots Q dC dI cI cB ad N A0 H0 d) {k : Fin 4} (hdg : decode (am_b M) pc = .ok (.iload_n k, 1)) (hd : am_in N M pc (.iload_n k) L S I A G = some (.inl d)) : W p l e R s m args below meth c H locs cells slots Q (F0 m pc ls (S.map (am_co ad))) := by
  obtain ⟨hx, hb, hml, hown, hts, hnst, hfr, hlo, hc0, hs0⟩ := X
  replace hd := am_gi_i (show am_gi L k _ = some _ from hd)
  obtain ⟨x, hx1, hd⟩ := hd
  cases hd
  exact lv_iload_n hx hb hdg rfl (hl.2.2.1 _ _ hx1 (fun h => by cases h)) (kk _ _ _ _ _ _ _ rfl ls H locs hl hscr hP hD hS)
theorem am_s_iload (X : am_cx p R s m args c cells slots M) (hK : va_K (dC, dI) vwCl [(cI, .int), (cB, .byte)] s) (hscr : am_scr M N ad I A s H0 A0) (hl : am_ls ad (am_lg M) (am_l M) ls L) (hP : va_P (dC, dI) vwCl (am_w N cI cB ad I A G) H) (hD : va_D A0 (am_w N cI cB ad I A G)) (hS : va_S A0 H0 H locs) (kk : am_kk p l e R s m args below meth c cells slots Q dC dI cI cB ad N A0 H0 d) {k : Nat} (hdg : decode (am_b M) pc = .ok (.iload k, 2)) (hd : am_in N M pc (.iload k) L S I A G = some (.inl d)) : W p l e R s m args below meth c H locs cells slots Q (F0 m pc ls (S.map (am_co ad))) := by
  obtain ⟨hx, hb, hml, hown, hts, hnst, hfr, hlo, hc0, hs0⟩ := X
  replace hd := am_gi_i (show am_gi L k _ = some _ from hd)
  obtain ⟨x, hx1, hd⟩ := hd
  cases hd
  exact lv_iload hx hb hdg (hl.2.2.1 _ _ hx1 (fun h => by cases h)) (kk _ _ _ _ _ _ _ rfl ls H locs hl hscr hP hD hS)
theorem am_s_lload_n (X : am_cx p R s m args c cells slots M) (hK : va_K (dC, dI) vwCl [(cI, .int), (cB, .byte)] s) (hscr : am_scr M N ad I A s H0 A0) (hl : am_ls ad (am_lg M) (am_l M) ls L) (hP : va_P (dC, dI) vwCl (am_w N cI cB ad I A G) H) (hD : va_D A0 (am_w N cI cB ad I A G)) (hS : va_S A0 H0 H locs) (kk : am_kk p l e R s m args below meth c cells slots Q dC dI cI cB ad N A0 H0 d) {k : Fin 4} (hdg : decode (am_b M) pc = .ok (.lload_n k, 1)) (hd : am_in N M pc (.lload_n k) L S I A G = some (.inl d)) : W p l e R s m args below meth c H locs cells slots Q (F0 m pc ls (S.map (am_co ad))) := by
  obtain ⟨hx, hb, hml, hown, hts, hnst, hfr, hlo, hc0, hs0⟩ := X
  replace hd := am_gl_i (show am_gl L k _ = some _ from hd)
  obtain ⟨x, hx1, hd⟩ := hd
  cases hd
  exact lv_lload_n hx hb hdg rfl (hl.2.2.1 _ _ hx1 (fun h => by cases h)) (kk _ _ _ _ _ _ _ rfl ls H locs hl hscr hP hD hS)
theorem am_s_lload (X : am_cx p R s m args c cells slots M) (hK : va_K (dC, dI) vwCl [(cI, .int), (cB, .byte)] s) (hscr : am_scr M N ad I A s H0 A0) (hl : am_ls ad (am_lg M) (am_l M) ls L) (hP : va_P (dC, dI) vwCl (am_w N cI cB ad I A G) H) (hD : va_D A0 (am_w N cI cB ad I A G)) (hS : va_S A0 H0 H locs) (kk : am_kk p l e R s m args below meth c cells slots Q dC dI cI cB ad N A0 H0 d) {k : Nat} (hdg : decode (am_b M) pc = .ok (.lload k, 2)) (hd : am_in N M pc (.lload k) L S I A G = some (.inl d)) : W p l e R s m args below meth c H locs cells slots Q (F0 m pc ls (S.map (am_co ad))) := by
  obtain ⟨hx, hb, hml, hown, hts, hnst, hfr, hlo, hc0, hs0⟩ := X
  replace hd := am_gl_i (show am_gl L k _ = some _ from hd)
  obtain ⟨x, hx1, hd⟩ := hd
  cases hd
  exact lv_lload hx hb hdg (hl.2.2.1 _ _ hx1 (fun h => by cases h)) (kk _ _ _ _ _ _ _ rfl ls H locs hl hscr hP hD hS)
theorem am_s_aload_n (X : am_cx p R s m args c cells slots M) (hK : va_K (dC, dI) vwCl [(cI, .int), (cB, .byte)] s) (hscr : am_scr M N ad I A s H0 A0) (hl : am_ls ad (am_lg M) (am_l M) ls L) (hP : va_P (dC, dI) vwCl (am_w N cI cB ad I A G) H) (hD : va_D A0 (am_w N cI cB ad I A G)) (hS : va_S A0 H0 H locs) (kk : am_kk p l e R s m args below meth c cells slots Q dC dI cI cB ad N A0 H0 d) {k : Fin 4} (hdg : decode (am_b M) pc = .ok (.aload_n k, 1)) (hd : am_in N M pc (.aload_n k) L S I A G = some (.inl d)) : W p l e R s m args below meth c H locs cells slots Q (F0 m pc ls (S.map (am_co ad))) := by
  obtain ⟨hx, hb, hml, hown, hts, hnst, hfr, hlo, hc0, hs0⟩ := X
  replace hd := am_gr_i (show am_gr L k _ = some _ from hd)
  obtain ⟨x, hx1, hd⟩ := hd
  cases hd
  exact lv_aload_n hx hb hdg rfl (hl.2.2.1 _ _ hx1 (fun h => by cases h)) (kk _ _ _ _ _ _ _ rfl ls H locs hl hscr hP hD hS)
theorem am_s_istore_n (X : am_cx p R s m args c cells slots M) (hK : va_K (dC, dI) vwCl [(cI, .int), (cB, .byte)] s) (hscr : am_scr M N ad I A s H0 A0) (hl : am_ls ad (am_lg M) (am_l M) ls L) (hP : va_P (dC, dI) vwCl (am_w N cI cB ad I A G) H) (hD : va_D A0 (am_w N cI cB ad I A G)) (hS : va_S A0 H0 H locs) (kk : am_kk p l e R s m args below meth c cells slots Q dC dI cI cB ad N A0 H0 d) {k : Fin 4} (hdg : decode (am_b M) pc = .ok (.istore_n k, 1)) (hd : am_in N M pc (.istore_n k) L S I A G = some (.inl d)) : W p l e R s m args below meth c H locs cells slots Q (F0 m pc ls (S.map (am_co ad))) := by
  obtain ⟨hx, hb, hml, hown, hts, hnst, hfr, hlo, hc0, hs0⟩ := X
  replace hd := am_p1_i (show am_p1 S _ = some _ from hd)
  obtain ⟨x, S', rfl, hd⟩ := hd
  split at hd
  · rename_i hn
    cases hd
    exact lv_istore_n hx hb hdg rfl hl.has (am_blt hn) rfl (fun ls' h' => kk _ _ _ _ _ _ _ rfl ls' H locs (am_ls_store rfl hl.2.2.2 h') hscr hP hD hS)
  · cases hd
theorem am_s_istore (X : am_cx p R s m args c cells slots M) (hK : va_K (dC, dI) vwCl [(cI, .int), (cB, .byte)] s) (hscr : am_scr M N ad I A s H0 A0) (hl : am_ls ad (am_lg M) (am_l M) ls L) (hP : va_P (dC, dI) vwCl (am_w N cI cB ad I A G) H) (hD : va_D A0 (am_w N cI cB ad I A G)) (hS : va_S A0 H0 H locs) (kk : am_kk p l e R s m args below meth c cells slots Q dC dI cI cB ad N A0 H0 d) {k : Nat} (hdg : decode (am_b M) pc = .ok (.istore k, 2)) (hd : am_in N M pc (.istore k) L S I A G = some (.inl d)) : W p l e R s m args below meth c H locs cells slots Q (F0 m pc ls (S.map (am_co ad))) := by
  obtain ⟨hx, hb, hml, hown, hts, hnst, hfr, hlo, hc0, hs0⟩ := X
  replace hd := am_p1_i (show am_p1 S _ = some _ from hd)
  obtain ⟨x, S', rfl, hd⟩ := hd
  split at hd
  · rename_i hn
    cases hd
    exact lv_istore hx hb hdg hl.has (am_blt hn) rfl (fun ls' h' => kk _ _ _ _ _ _ _ rfl ls' H locs (am_ls_store rfl hl.2.2.2 h') hscr hP hD hS)
  · cases hd
theorem am_s_astore_n (X : am_cx p R s m args c cells slots M) (hK : va_K (dC, dI) vwCl [(cI, .int), (cB, .byte)] s) (hscr : am_scr M N ad I A s H0 A0) (hl : am_ls ad (am_lg M) (am_l M) ls L) (hP : va_P (dC, dI) vwCl (am_w N cI cB ad I A G) H) (hD : va_D A0 (am_w N cI cB ad I A G)) (hS : va_S A0 H0 H locs) (kk : am_kk p l e R s m args below meth c cells slots Q dC dI cI cB ad N A0 H0 d) {k : Fin 4} (hdg : decode (am_b M) pc = .ok (.astore_n k, 1)) (hd : am_in N M pc (.astore_n k) L S I A G = some (.inl d)) : W p l e R s m args below meth c H locs cells slots Q (F0 m pc ls (S.map (am_co ad))) := by
  obtain ⟨hx, hb, hml, hown, hts, hnst, hfr, hlo, hc0, hs0⟩ := X
  replace hd := am_pr_i (show am_pr S _ = some _ from hd)
  obtain ⟨x, S', rfl, hd⟩ := hd
  split at hd
  · rename_i hn
    cases hd
    exact lv_astore_n hx hb hdg rfl hl.has (am_blt hn) rfl (fun ls' h' => kk _ _ _ _ _ _ _ rfl ls' H locs (am_ls_store rfl hl.2.2.2 h') hscr hP hD hS)
  · cases hd
theorem am_s_lstore_n (X : am_cx p R s m args c cells slots M) (hK : va_K (dC, dI) vwCl [(cI, .int), (cB, .byte)] s) (hscr : am_scr M N ad I A s H0 A0) (hl : am_ls ad (am_lg M) (am_l M) ls L) (hP : va_P (dC, dI) vwCl (am_w N cI cB ad I A G) H) (hD : va_D A0 (am_w N cI cB ad I A G)) (hS : va_S A0 H0 H locs) (kk : am_kk p l e R s m args below meth c cells slots Q dC dI cI cB ad N A0 H0 d) {k : Fin 4} (hdg : decode (am_b M) pc = .ok (.lstore_n k, 1)) (hd : am_in N M pc (.lstore_n k) L S I A G = some (.inl d)) : W p l e R s m args below meth c H locs cells slots Q (F0 m pc ls (S.map (am_co ad))) := by
  obtain ⟨hx, hb, hml, hown, hts, hnst, hfr, hlo, hc0, hs0⟩ := X
  replace hd := am_q1_i (show am_q1 S _ = some _ from hd)
  obtain ⟨x, S', rfl, hd⟩ := hd
  split at hd
  · rename_i hn
    rw [Bool.and_eq_true] at hn
    cases hd
    refine lv_lstore_n hx hb hdg rfl hl.has (am_blt hn.1) rfl (fun ls' h' => kk _ _ _ _ _ _ _ rfl ls' H locs ?_ hscr hP hD hS)
    rw [hn.2]
    exact am_ls_storeL h'
  · cases hd
theorem am_s_lstore (X : am_cx p R s m args c cells slots M) (hK : va_K (dC, dI) vwCl [(cI, .int), (cB, .byte)] s) (hscr : am_scr M N ad I A s H0 A0) (hl : am_ls ad (am_lg M) (am_l M) ls L) (hP : va_P (dC, dI) vwCl (am_w N cI cB ad I A G) H) (hD : va_D A0 (am_w N cI cB ad I A G)) (hS : va_S A0 H0 H locs) (kk : am_kk p l e R s m args below meth c cells slots Q dC dI cI cB ad N A0 H0 d) {k : Nat} (hdg : decode (am_b M) pc = .ok (.lstore k, 2)) (hd : am_in N M pc (.lstore k) L S I A G = some (.inl d)) : W p l e R s m args below meth c H locs cells slots Q (F0 m pc ls (S.map (am_co ad))) := by
  obtain ⟨hx, hb, hml, hown, hts, hnst, hfr, hlo, hc0, hs0⟩ := X
  replace hd := am_q1_i (show am_q1 S _ = some _ from hd)
  obtain ⟨x, S', rfl, hd⟩ := hd
  split at hd
  · rename_i hn
    rw [Bool.and_eq_true] at hn
    cases hd
    refine lv_lstore hx hb hdg hl.has (am_blt hn.1) rfl (fun ls' h' => kk _ _ _ _ _ _ _ rfl ls' H locs ?_ hscr hP hD hS)
    rw [hn.2]
    exact am_ls_storeL h'
  · cases hd
theorem am_s_iinc (X : am_cx p R s m args c cells slots M) (hK : va_K (dC, dI) vwCl [(cI, .int), (cB, .byte)] s) (hscr : am_scr M N ad I A s H0 A0) (hl : am_ls ad (am_lg M) (am_l M) ls L) (hP : va_P (dC, dI) vwCl (am_w N cI cB ad I A G) H) (hD : va_D A0 (am_w N cI cB ad I A G)) (hS : va_S A0 H0 H locs) (kk : am_kk p l e R s m args below meth c cells slots Q dC dI cI cB ad N A0 H0 d) {k : Nat} {n : Int} (hdg : decode (am_b M) pc = .ok (.iinc k n, 3)) (hd : am_in N M pc (.iinc k n) L S I A G = some (.inl d)) : W p l e R s m args below meth c H locs cells slots Q (F0 m pc ls (S.map (am_co ad))) := by
  obtain ⟨hx, hb, hml, hown, hts, hnst, hfr, hlo, hc0, hs0⟩ := X
  replace hd := am_gi_i (show am_gi L k _ = some _ from hd)
  obtain ⟨x, hx1, hd⟩ := hd
  split at hd
  · rename_i hn
    cases hd
    obtain ⟨k0, hk0⟩ := List.getElem?_of_mem (am_lv_mem.mpr ⟨_, hx1, (fun h => by cases h), rfl⟩ : (k, am_co ad (.int x)) ∈ am_lv ad L)
    exact lv_iinc hx hb hdg hl.has hk0 rfl (am_blt hn) rfl (fun ls' h' => kk _ _ _ _ _ _ _ rfl ls' H locs (am_ls_store rfl hl.2.2.2 h') hscr hP hD hS)
  · cases hd
theorem am_s_iadd (X : am_cx p R s m args c cells slots M) (hK : va_K (dC, dI) vwCl [(cI, .int), (cB, .byte)] s) (hscr : am_scr M N ad I A s H0 A0) (hl : am_ls ad (am_lg M) (am_l M) ls L) (hP : va_P (dC, dI) vwCl (am_w N cI cB ad I A G) H) (hD : va_D A0 (am_w N cI cB ad I A G)) (hS : va_S A0 H0 H locs) (kk : am_kk p l e R s m args below meth c cells slots Q dC dI cI cB ad N A0 H0 d) (hdg : decode (am_b M) pc = .ok (.iadd, 1)) (hd : am_in N M pc (.iadd) L S I A G = some (.inl d)) : W p l e R s m args below meth c H locs cells slots Q (F0 m pc ls (S.map (am_co ad))) := by
  obtain ⟨hx, hb, hml, hown, hts, hnst, hfr, hlo, hc0, hs0⟩ := X
  replace hd := am_p2_i (show am_p2 S _ = some _ from hd)
  obtain ⟨x, y, S', rfl, hd⟩ := hd
  cases hd
  exact lv_iadd hx hb hdg (kk _ _ _ _ _ _ _ rfl ls H locs hl hscr hP hD hS)
theorem am_s_isub (X : am_cx p R s m args c cells slots M) (hK : va_K (dC, dI) vwCl [(cI, .int), (cB, .byte)] s) (hscr : am_scr M N ad I A s H0 A0) (hl : am_ls ad (am_lg M) (am_l M) ls L) (hP : va_P (dC, dI) vwCl (am_w N cI cB ad I A G) H) (hD : va_D A0 (am_w N cI cB ad I A G)) (hS : va_S A0 H0 H locs) (kk : am_kk p l e R s m args below meth c cells slots Q dC dI cI cB ad N A0 H0 d) (hdg : decode (am_b M) pc = .ok (.isub, 1)) (hd : am_in N M pc (.isub) L S I A G = some (.inl d)) : W p l e R s m args below meth c H locs cells slots Q (F0 m pc ls (S.map (am_co ad))) := by
  obtain ⟨hx, hb, hml, hown, hts, hnst, hfr, hlo, hc0, hs0⟩ := X
  replace hd := am_p2_i (show am_p2 S _ = some _ from hd)
  obtain ⟨x, y, S', rfl, hd⟩ := hd
  cases hd
  exact lv_isub hx hb hdg (kk _ _ _ _ _ _ _ rfl ls H locs hl hscr hP hD hS)
theorem am_s_imul (X : am_cx p R s m args c cells slots M) (hK : va_K (dC, dI) vwCl [(cI, .int), (cB, .byte)] s) (hscr : am_scr M N ad I A s H0 A0) (hl : am_ls ad (am_lg M) (am_l M) ls L) (hP : va_P (dC, dI) vwCl (am_w N cI cB ad I A G) H) (hD : va_D A0 (am_w N cI cB ad I A G)) (hS : va_S A0 H0 H locs) (kk : am_kk p l e R s m args below meth c cells slots Q dC dI cI cB ad N A0 H0 d) (hdg : decode (am_b M) pc = .ok (.imul, 1)) (hd : am_in N M pc (.imul) L S I A G = some (.inl d)) : W p l e R s m args below meth c H locs cells slots Q (F0 m pc ls (S.map (am_co ad))) := by
  obtain ⟨hx, hb, hml, hown, hts, hnst, hfr, hlo, hc0, hs0⟩ := X
  replace hd := am_p2_i (show am_p2 S _ = some _ from hd)
  obtain ⟨x, y, S', rfl, hd⟩ := hd
  cases hd
  exact lv_imul hx hb hdg (kk _ _ _ _ _ _ _ rfl ls H locs hl hscr hP hD hS)
theorem am_s_iand (X : am_cx p R s m args c cells slots M) (hK : va_K (dC, dI) vwCl [(cI, .int), (cB, .byte)] s) (hscr : am_scr M N ad I A s H0 A0) (hl : am_ls ad (am_lg M) (am_l M) ls L) (hP : va_P (dC, dI) vwCl (am_w N cI cB ad I A G) H) (hD : va_D A0 (am_w N cI cB ad I A G)) (hS : va_S A0 H0 H locs) (kk : am_kk p l e R s m args below meth c cells slots Q dC dI cI cB ad N A0 H0 d) (hdg : decode (am_b M) pc = .ok (.iand, 1)) (hd : am_in N M pc (.iand) L S I A G = some (.inl d)) : W p l e R s m args below meth c H locs cells slots Q (F0 m pc ls (S.map (am_co ad))) := by
  obtain ⟨hx, hb, hml, hown, hts, hnst, hfr, hlo, hc0, hs0⟩ := X
  replace hd := am_p2_i (show am_p2 S _ = some _ from hd)
  obtain ⟨x, y, S', rfl, hd⟩ := hd
  cases hd
  exact lv_iand hx hb hdg (kk _ _ _ _ _ _ _ rfl ls H locs hl hscr hP hD hS)
theorem am_s_ior (X : am_cx p R s m args c cells slots M) (hK : va_K (dC, dI) vwCl [(cI, .int), (cB, .byte)] s) (hscr : am_scr M N ad I A s H0 A0) (hl : am_ls ad (am_lg M) (am_l M) ls L) (hP : va_P (dC, dI) vwCl (am_w N cI cB ad I A G) H) (hD : va_D A0 (am_w N cI cB ad I A G)) (hS : va_S A0 H0 H locs) (kk : am_kk p l e R s m args below meth c cells slots Q dC dI cI cB ad N A0 H0 d) (hdg : decode (am_b M) pc = .ok (.ior, 1)) (hd : am_in N M pc (.ior) L S I A G = some (.inl d)) : W p l e R s m args below meth c H locs cells slots Q (F0 m pc ls (S.map (am_co ad))) := by
  obtain ⟨hx, hb, hml, hown, hts, hnst, hfr, hlo, hc0, hs0⟩ := X
  replace hd := am_p2_i (show am_p2 S _ = some _ from hd)
  obtain ⟨x, y, S', rfl, hd⟩ := hd
  cases hd
  exact lv_ior hx hb hdg (kk _ _ _ _ _ _ _ rfl ls H locs hl hscr hP hD hS)
theorem am_s_ixor (X : am_cx p R s m args c cells slots M) (hK : va_K (dC, dI) vwCl [(cI, .int), (cB, .byte)] s) (hscr : am_scr M N ad I A s H0 A0) (hl : am_ls ad (am_lg M) (am_l M) ls L) (hP : va_P (dC, dI) vwCl (am_w N cI cB ad I A G) H) (hD : va_D A0 (am_w N cI cB ad I A G)) (hS : va_S A0 H0 H locs) (kk : am_kk p l e R s m args below meth c cells slots Q dC dI cI cB ad N A0 H0 d) (hdg : decode (am_b M) pc = .ok (.ixor, 1)) (hd : am_in N M pc (.ixor) L S I A G = some (.inl d)) : W p l e R s m args below meth c H locs cells slots Q (F0 m pc ls (S.map (am_co ad))) := by
  obtain ⟨hx, hb, hml, hown, hts, hnst, hfr, hlo, hc0, hs0⟩ := X
  replace hd := am_p2_i (show am_p2 S _ = some _ from hd)
  obtain ⟨x, y, S', rfl, hd⟩ := hd
  cases hd
  exact lv_ixor hx hb hdg (kk _ _ _ _ _ _ _ rfl ls H locs hl hscr hP hD hS)
theorem am_s_ishl (X : am_cx p R s m args c cells slots M) (hK : va_K (dC, dI) vwCl [(cI, .int), (cB, .byte)] s) (hscr : am_scr M N ad I A s H0 A0) (hl : am_ls ad (am_lg M) (am_l M) ls L) (hP : va_P (dC, dI) vwCl (am_w N cI cB ad I A G) H) (hD : va_D A0 (am_w N cI cB ad I A G)) (hS : va_S A0 H0 H locs) (kk : am_kk p l e R s m args below meth c cells slots Q dC dI cI cB ad N A0 H0 d) (hdg : decode (am_b M) pc = .ok (.ishl, 1)) (hd : am_in N M pc (.ishl) L S I A G = some (.inl d)) : W p l e R s m args below meth c H locs cells slots Q (F0 m pc ls (S.map (am_co ad))) := by
  obtain ⟨hx, hb, hml, hown, hts, hnst, hfr, hlo, hc0, hs0⟩ := X
  replace hd := am_p2_i (show am_p2 S _ = some _ from hd)
  obtain ⟨x, y, S', rfl, hd⟩ := hd
  cases hd
  exact lv_ishl hx hb hdg (kk _ _ _ _ _ _ _ rfl ls H locs hl hscr hP hD hS)
theorem am_s_ishr (X : am_cx p R s m args c cells slots M) (hK : va_K (dC, dI) vwCl [(cI, .int), (cB, .byte)] s) (hscr : am_scr M N ad I A s H0 A0) (hl : am_ls ad (am_lg M) (am_l M) ls L) (hP : va_P (dC, dI) vwCl (am_w N cI cB ad I A G) H) (hD : va_D A0 (am_w N cI cB ad I A G)) (hS : va_S A0 H0 H locs) (kk : am_kk p l e R s m args below meth c cells slots Q dC dI cI cB ad N A0 H0 d) (hdg : decode (am_b M) pc = .ok (.ishr, 1)) (hd : am_in N M pc (.ishr) L S I A G = some (.inl d)) : W p l e R s m args below meth c H locs cells slots Q (F0 m pc ls (S.map (am_co ad))) := by
  obtain ⟨hx, hb, hml, hown, hts, hnst, hfr, hlo, hc0, hs0⟩ := X
  replace hd := am_p2_i (show am_p2 S _ = some _ from hd)
  obtain ⟨x, y, S', rfl, hd⟩ := hd
  cases hd
  exact lv_ishr hx hb hdg (kk _ _ _ _ _ _ _ rfl ls H locs hl hscr hP hD hS)
theorem am_s_iushr (X : am_cx p R s m args c cells slots M) (hK : va_K (dC, dI) vwCl [(cI, .int), (cB, .byte)] s) (hscr : am_scr M N ad I A s H0 A0) (hl : am_ls ad (am_lg M) (am_l M) ls L) (hP : va_P (dC, dI) vwCl (am_w N cI cB ad I A G) H) (hD : va_D A0 (am_w N cI cB ad I A G)) (hS : va_S A0 H0 H locs) (kk : am_kk p l e R s m args below meth c cells slots Q dC dI cI cB ad N A0 H0 d) (hdg : decode (am_b M) pc = .ok (.iushr, 1)) (hd : am_in N M pc (.iushr) L S I A G = some (.inl d)) : W p l e R s m args below meth c H locs cells slots Q (F0 m pc ls (S.map (am_co ad))) := by
  obtain ⟨hx, hb, hml, hown, hts, hnst, hfr, hlo, hc0, hs0⟩ := X
  replace hd := am_p2_i (show am_p2 S _ = some _ from hd)
  obtain ⟨x, y, S', rfl, hd⟩ := hd
  cases hd
  exact lv_iushr hx hb hdg rfl (kk _ _ _ _ _ _ _ rfl ls H locs hl hscr hP hD hS)
theorem am_s_idiv (X : am_cx p R s m args c cells slots M) (hK : va_K (dC, dI) vwCl [(cI, .int), (cB, .byte)] s) (hscr : am_scr M N ad I A s H0 A0) (hl : am_ls ad (am_lg M) (am_l M) ls L) (hP : va_P (dC, dI) vwCl (am_w N cI cB ad I A G) H) (hD : va_D A0 (am_w N cI cB ad I A G)) (hS : va_S A0 H0 H locs) (kk : am_kk p l e R s m args below meth c cells slots Q dC dI cI cB ad N A0 H0 d) (hdg : decode (am_b M) pc = .ok (.idiv, 1)) (hd : am_in N M pc (.idiv) L S I A G = some (.inl d)) : W p l e R s m args below meth c H locs cells slots Q (F0 m pc ls (S.map (am_co ad))) := by
  obtain ⟨hx, hb, hml, hown, hts, hnst, hfr, hlo, hc0, hs0⟩ := X
  replace hd := am_p2_i (show am_p2 S _ = some _ from hd)
  obtain ⟨x, y, S', rfl, hd⟩ := hd
  split at hd
  · cases hd
  · rename_i hy
    cases hd
    exact lv_idiv hx hb hdg hy (kk _ _ _ _ _ _ _ rfl ls H locs hl hscr hP hD hS)
theorem am_s_irem (X : am_cx p R s m args c cells slots M) (hK : va_K (dC, dI) vwCl [(cI, .int), (cB, .byte)] s) (hscr : am_scr M N ad I A s H0 A0) (hl : am_ls ad (am_lg M) (am_l M) ls L) (hP : va_P (dC, dI) vwCl (am_w N cI cB ad I A G) H) (hD : va_D A0 (am_w N cI cB ad I A G)) (hS : va_S A0 H0 H locs) (kk : am_kk p l e R s m args below meth c cells slots Q dC dI cI cB ad N A0 H0 d) (hdg : decode (am_b M) pc = .ok (.irem, 1)) (hd : am_in N M pc (.irem) L S I A G = some (.inl d)) : W p l e R s m args below meth c H locs cells slots Q (F0 m pc ls (S.map (am_co ad))) := by
  obtain ⟨hx, hb, hml, hown, hts, hnst, hfr, hlo, hc0, hs0⟩ := X
  replace hd := am_p2_i (show am_p2 S _ = some _ from hd)
  obtain ⟨x, y, S', rfl, hd⟩ := hd
  split at hd
  · cases hd
  · rename_i hy
    cases hd
    exact lv_irem hx hb hdg hy (kk _ _ _ _ _ _ _ rfl ls H locs hl hscr hP hD hS)
theorem am_s_ladd (X : am_cx p R s m args c cells slots M) (hK : va_K (dC, dI) vwCl [(cI, .int), (cB, .byte)] s) (hscr : am_scr M N ad I A s H0 A0) (hl : am_ls ad (am_lg M) (am_l M) ls L) (hP : va_P (dC, dI) vwCl (am_w N cI cB ad I A G) H) (hD : va_D A0 (am_w N cI cB ad I A G)) (hS : va_S A0 H0 H locs) (kk : am_kk p l e R s m args below meth c cells slots Q dC dI cI cB ad N A0 H0 d) (hdg : decode (am_b M) pc = .ok (.ladd, 1)) (hd : am_in N M pc (.ladd) L S I A G = some (.inl d)) : W p l e R s m args below meth c H locs cells slots Q (F0 m pc ls (S.map (am_co ad))) := by
  obtain ⟨hx, hb, hml, hown, hts, hnst, hfr, hlo, hc0, hs0⟩ := X
  replace hd := am_q2_i (show am_q2 S _ = some _ from hd)
  obtain ⟨x, y, S', rfl, hd⟩ := hd
  cases hd
  exact lv_ladd hx hb hdg (kk _ _ _ _ _ _ _ rfl ls H locs hl hscr hP hD hS)
theorem am_s_lmul (X : am_cx p R s m args c cells slots M) (hK : va_K (dC, dI) vwCl [(cI, .int), (cB, .byte)] s) (hscr : am_scr M N ad I A s H0 A0) (hl : am_ls ad (am_lg M) (am_l M) ls L) (hP : va_P (dC, dI) vwCl (am_w N cI cB ad I A G) H) (hD : va_D A0 (am_w N cI cB ad I A G)) (hS : va_S A0 H0 H locs) (kk : am_kk p l e R s m args below meth c cells slots Q dC dI cI cB ad N A0 H0 d) (hdg : decode (am_b M) pc = .ok (.lmul, 1)) (hd : am_in N M pc (.lmul) L S I A G = some (.inl d)) : W p l e R s m args below meth c H locs cells slots Q (F0 m pc ls (S.map (am_co ad))) := by
  obtain ⟨hx, hb, hml, hown, hts, hnst, hfr, hlo, hc0, hs0⟩ := X
  replace hd := am_q2_i (show am_q2 S _ = some _ from hd)
  obtain ⟨x, y, S', rfl, hd⟩ := hd
  cases hd
  exact lv_lmul hx hb hdg (kk _ _ _ _ _ _ _ rfl ls H locs hl hscr hP hD hS)
theorem am_s_land (X : am_cx p R s m args c cells slots M) (hK : va_K (dC, dI) vwCl [(cI, .int), (cB, .byte)] s) (hscr : am_scr M N ad I A s H0 A0) (hl : am_ls ad (am_lg M) (am_l M) ls L) (hP : va_P (dC, dI) vwCl (am_w N cI cB ad I A G) H) (hD : va_D A0 (am_w N cI cB ad I A G)) (hS : va_S A0 H0 H locs) (kk : am_kk p l e R s m args below meth c cells slots Q dC dI cI cB ad N A0 H0 d) (hdg : decode (am_b M) pc = .ok (.land, 1)) (hd : am_in N M pc (.land) L S I A G = some (.inl d)) : W p l e R s m args below meth c H locs cells slots Q (F0 m pc ls (S.map (am_co ad))) := by
  obtain ⟨hx, hb, hml, hown, hts, hnst, hfr, hlo, hc0, hs0⟩ := X
  replace hd := am_q2_i (show am_q2 S _ = some _ from hd)
  obtain ⟨x, y, S', rfl, hd⟩ := hd
  cases hd
  exact lv_land hx hb hdg (kk _ _ _ _ _ _ _ rfl ls H locs hl hscr hP hD hS)
theorem am_s_lor (X : am_cx p R s m args c cells slots M) (hK : va_K (dC, dI) vwCl [(cI, .int), (cB, .byte)] s) (hscr : am_scr M N ad I A s H0 A0) (hl : am_ls ad (am_lg M) (am_l M) ls L) (hP : va_P (dC, dI) vwCl (am_w N cI cB ad I A G) H) (hD : va_D A0 (am_w N cI cB ad I A G)) (hS : va_S A0 H0 H locs) (kk : am_kk p l e R s m args below meth c cells slots Q dC dI cI cB ad N A0 H0 d) (hdg : decode (am_b M) pc = .ok (.lor, 1)) (hd : am_in N M pc (.lor) L S I A G = some (.inl d)) : W p l e R s m args below meth c H locs cells slots Q (F0 m pc ls (S.map (am_co ad))) := by
  obtain ⟨hx, hb, hml, hown, hts, hnst, hfr, hlo, hc0, hs0⟩ := X
  replace hd := am_q2_i (show am_q2 S _ = some _ from hd)
  obtain ⟨x, y, S', rfl, hd⟩ := hd
  cases hd
  exact lv_lor hx hb hdg (kk _ _ _ _ _ _ _ rfl ls H locs hl hscr hP hD hS)
theorem am_s_ldiv (X : am_cx p R s m args c cells slots M) (hK : va_K (dC, dI) vwCl [(cI, .int), (cB, .byte)] s) (hscr : am_scr M N ad I A s H0 A0) (hl : am_ls ad (am_lg M) (am_l M) ls L) (hP : va_P (dC, dI) vwCl (am_w N cI cB ad I A G) H) (hD : va_D A0 (am_w N cI cB ad I A G)) (hS : va_S A0 H0 H locs) (kk : am_kk p l e R s m args below meth c cells slots Q dC dI cI cB ad N A0 H0 d) (hdg : decode (am_b M) pc = .ok (.ldiv, 1)) (hd : am_in N M pc (.ldiv) L S I A G = some (.inl d)) : W p l e R s m args below meth c H locs cells slots Q (F0 m pc ls (S.map (am_co ad))) := by
  obtain ⟨hx, hb, hml, hown, hts, hnst, hfr, hlo, hc0, hs0⟩ := X
  replace hd := am_q2_i (show am_q2 S _ = some _ from hd)
  obtain ⟨x, y, S', rfl, hd⟩ := hd
  split at hd
  · cases hd
  · rename_i hy
    cases hd
    exact lv_ldiv hx hb hdg hy (kk _ _ _ _ _ _ _ rfl ls H locs hl hscr hP hD hS)
theorem am_s_lrem (X : am_cx p R s m args c cells slots M) (hK : va_K (dC, dI) vwCl [(cI, .int), (cB, .byte)] s) (hscr : am_scr M N ad I A s H0 A0) (hl : am_ls ad (am_lg M) (am_l M) ls L) (hP : va_P (dC, dI) vwCl (am_w N cI cB ad I A G) H) (hD : va_D A0 (am_w N cI cB ad I A G)) (hS : va_S A0 H0 H locs) (kk : am_kk p l e R s m args below meth c cells slots Q dC dI cI cB ad N A0 H0 d) (hdg : decode (am_b M) pc = .ok (.lrem, 1)) (hd : am_in N M pc (.lrem) L S I A G = some (.inl d)) : W p l e R s m args below meth c H locs cells slots Q (F0 m pc ls (S.map (am_co ad))) := by
  obtain ⟨hx, hb, hml, hown, hts, hnst, hfr, hlo, hc0, hs0⟩ := X
  replace hd := am_q2_i (show am_q2 S _ = some _ from hd)
  obtain ⟨x, y, S', rfl, hd⟩ := hd
  split at hd
  · cases hd
  · rename_i hy
    cases hd
    exact lv_lrem hx hb hdg hy (kk _ _ _ _ _ _ _ rfl ls H locs hl hscr hP hD hS)
theorem am_s_lshl (X : am_cx p R s m args c cells slots M) (hK : va_K (dC, dI) vwCl [(cI, .int), (cB, .byte)] s) (hscr : am_scr M N ad I A s H0 A0) (hl : am_ls ad (am_lg M) (am_l M) ls L) (hP : va_P (dC, dI) vwCl (am_w N cI cB ad I A G) H) (hD : va_D A0 (am_w N cI cB ad I A G)) (hS : va_S A0 H0 H locs) (kk : am_kk p l e R s m args below meth c cells slots Q dC dI cI cB ad N A0 H0 d) (hdg : decode (am_b M) pc = .ok (.lshl, 1)) (hd : am_in N M pc (.lshl) L S I A G = some (.inl d)) : W p l e R s m args below meth c H locs cells slots Q (F0 m pc ls (S.map (am_co ad))) := by
  obtain ⟨hx, hb, hml, hown, hts, hnst, hfr, hlo, hc0, hs0⟩ := X
  replace hd := am_qs_i (show am_qs S _ = some _ from hd)
  obtain ⟨x, y, S', rfl, hd⟩ := hd
  cases hd
  exact lv_lshl hx hb hdg rfl (kk _ _ _ _ _ _ _ rfl ls H locs hl hscr hP hD hS)
theorem am_s_lshr (X : am_cx p R s m args c cells slots M) (hK : va_K (dC, dI) vwCl [(cI, .int), (cB, .byte)] s) (hscr : am_scr M N ad I A s H0 A0) (hl : am_ls ad (am_lg M) (am_l M) ls L) (hP : va_P (dC, dI) vwCl (am_w N cI cB ad I A G) H) (hD : va_D A0 (am_w N cI cB ad I A G)) (hS : va_S A0 H0 H locs) (kk : am_kk p l e R s m args below meth c cells slots Q dC dI cI cB ad N A0 H0 d) (hdg : decode (am_b M) pc = .ok (.lshr, 1)) (hd : am_in N M pc (.lshr) L S I A G = some (.inl d)) : W p l e R s m args below meth c H locs cells slots Q (F0 m pc ls (S.map (am_co ad))) := by
  obtain ⟨hx, hb, hml, hown, hts, hnst, hfr, hlo, hc0, hs0⟩ := X
  replace hd := am_qs_i (show am_qs S _ = some _ from hd)
  obtain ⟨x, y, S', rfl, hd⟩ := hd
  cases hd
  exact lv_lshr hx hb hdg rfl (kk _ _ _ _ _ _ _ rfl ls H locs hl hscr hP hD hS)
theorem am_s_lushr (X : am_cx p R s m args c cells slots M) (hK : va_K (dC, dI) vwCl [(cI, .int), (cB, .byte)] s) (hscr : am_scr M N ad I A s H0 A0) (hl : am_ls ad (am_lg M) (am_l M) ls L) (hP : va_P (dC, dI) vwCl (am_w N cI cB ad I A G) H) (hD : va_D A0 (am_w N cI cB ad I A G)) (hS : va_S A0 H0 H locs) (kk : am_kk p l e R s m args below meth c cells slots Q dC dI cI cB ad N A0 H0 d) (hdg : decode (am_b M) pc = .ok (.lushr, 1)) (hd : am_in N M pc (.lushr) L S I A G = some (.inl d)) : W p l e R s m args below meth c H locs cells slots Q (F0 m pc ls (S.map (am_co ad))) := by
  obtain ⟨hx, hb, hml, hown, hts, hnst, hfr, hlo, hc0, hs0⟩ := X
  replace hd := am_qs_i (show am_qs S _ = some _ from hd)
  obtain ⟨x, y, S', rfl, hd⟩ := hd
  cases hd
  exact lv_lushr hx hb hdg rfl (kk _ _ _ _ _ _ _ rfl ls H locs hl hscr hP hD hS)
theorem am_s_i2l (X : am_cx p R s m args c cells slots M) (hK : va_K (dC, dI) vwCl [(cI, .int), (cB, .byte)] s) (hscr : am_scr M N ad I A s H0 A0) (hl : am_ls ad (am_lg M) (am_l M) ls L) (hP : va_P (dC, dI) vwCl (am_w N cI cB ad I A G) H) (hD : va_D A0 (am_w N cI cB ad I A G)) (hS : va_S A0 H0 H locs) (kk : am_kk p l e R s m args below meth c cells slots Q dC dI cI cB ad N A0 H0 d) (hdg : decode (am_b M) pc = .ok (.i2l, 1)) (hd : am_in N M pc (.i2l) L S I A G = some (.inl d)) : W p l e R s m args below meth c H locs cells slots Q (F0 m pc ls (S.map (am_co ad))) := by
  obtain ⟨hx, hb, hml, hown, hts, hnst, hfr, hlo, hc0, hs0⟩ := X
  replace hd := am_p1_i (show am_p1 S _ = some _ from hd)
  obtain ⟨x, S', rfl, hd⟩ := hd
  cases hd
  exact lv_i2l hx hb hdg rfl (kk _ _ _ _ _ _ _ rfl ls H locs hl hscr hP hD hS)
theorem am_s_l2i (X : am_cx p R s m args c cells slots M) (hK : va_K (dC, dI) vwCl [(cI, .int), (cB, .byte)] s) (hscr : am_scr M N ad I A s H0 A0) (hl : am_ls ad (am_lg M) (am_l M) ls L) (hP : va_P (dC, dI) vwCl (am_w N cI cB ad I A G) H) (hD : va_D A0 (am_w N cI cB ad I A G)) (hS : va_S A0 H0 H locs) (kk : am_kk p l e R s m args below meth c cells slots Q dC dI cI cB ad N A0 H0 d) (hdg : decode (am_b M) pc = .ok (.l2i, 1)) (hd : am_in N M pc (.l2i) L S I A G = some (.inl d)) : W p l e R s m args below meth c H locs cells slots Q (F0 m pc ls (S.map (am_co ad))) := by
  obtain ⟨hx, hb, hml, hown, hts, hnst, hfr, hlo, hc0, hs0⟩ := X
  replace hd := am_q1_i (show am_q1 S _ = some _ from hd)
  obtain ⟨x, S', rfl, hd⟩ := hd
  cases hd
  exact lv_l2i hx hb hdg rfl (kk _ _ _ _ _ _ _ rfl ls H locs hl hscr hP hD hS)
theorem am_s_i2b (X : am_cx p R s m args c cells slots M) (hK : va_K (dC, dI) vwCl [(cI, .int), (cB, .byte)] s) (hscr : am_scr M N ad I A s H0 A0) (hl : am_ls ad (am_lg M) (am_l M) ls L) (hP : va_P (dC, dI) vwCl (am_w N cI cB ad I A G) H) (hD : va_D A0 (am_w N cI cB ad I A G)) (hS : va_S A0 H0 H locs) (kk : am_kk p l e R s m args below meth c cells slots Q dC dI cI cB ad N A0 H0 d) (hdg : decode (am_b M) pc = .ok (.i2b, 1)) (hd : am_in N M pc (.i2b) L S I A G = some (.inl d)) : W p l e R s m args below meth c H locs cells slots Q (F0 m pc ls (S.map (am_co ad))) := by
  obtain ⟨hx, hb, hml, hown, hts, hnst, hfr, hlo, hc0, hs0⟩ := X
  replace hd := am_p1_i (show am_p1 S _ = some _ from hd)
  obtain ⟨x, S', rfl, hd⟩ := hd
  cases hd
  exact lv_i2b hx hb hdg rfl (kk _ _ _ _ _ _ _ rfl ls H locs hl hscr hP hD hS)
theorem am_s_dup (X : am_cx p R s m args c cells slots M) (hK : va_K (dC, dI) vwCl [(cI, .int), (cB, .byte)] s) (hscr : am_scr M N ad I A s H0 A0) (hl : am_ls ad (am_lg M) (am_l M) ls L) (hP : va_P (dC, dI) vwCl (am_w N cI cB ad I A G) H) (hD : va_D A0 (am_w N cI cB ad I A G)) (hS : va_S A0 H0 H locs) (kk : am_kk p l e R s m args below meth c cells slots Q dC dI cI cB ad N A0 H0 d) (hdg : decode (am_b M) pc = .ok (.dup, 1)) (hd : am_in N M pc (.dup) L S I A G = some (.inl d)) : W p l e R s m args below meth c H locs cells slots Q (F0 m pc ls (S.map (am_co ad))) := by
  obtain ⟨hx, hb, hml, hown, hts, hnst, hfr, hlo, hc0, hs0⟩ := X
  match S, hd with
  | [], hd => cases hd
  | v :: S, hd =>
    unfold am_in at hd
    dsimp only at hd
    split at hd
    · rename_i hv
      cases hd
      exact lv_dup hx hb hdg (by rw [am_co_cat]; exact Nat.eq_of_beq_eq_true hv) (kk _ _ _ _ _ _ _ rfl ls H locs hl hscr hP hD hS)
    · cases hd
theorem am_s_pop (X : am_cx p R s m args c cells slots M) (hK : va_K (dC, dI) vwCl [(cI, .int), (cB, .byte)] s) (hscr : am_scr M N ad I A s H0 A0) (hl : am_ls ad (am_lg M) (am_l M) ls L) (hP : va_P (dC, dI) vwCl (am_w N cI cB ad I A G) H) (hD : va_D A0 (am_w N cI cB ad I A G)) (hS : va_S A0 H0 H locs) (kk : am_kk p l e R s m args below meth c cells slots Q dC dI cI cB ad N A0 H0 d) (hdg : decode (am_b M) pc = .ok (.pop, 1)) (hd : am_in N M pc (.pop) L S I A G = some (.inl d)) : W p l e R s m args below meth c H locs cells slots Q (F0 m pc ls (S.map (am_co ad))) := by
  obtain ⟨hx, hb, hml, hown, hts, hnst, hfr, hlo, hc0, hs0⟩ := X
  match S, hd with
  | [], hd => cases hd
  | v :: S, hd =>
    unfold am_in at hd
    dsimp only at hd
    split at hd
    · rename_i hv
      cases hd
      exact lv_pop hx hb hdg (by rw [am_co_cat]; exact Nat.eq_of_beq_eq_true hv) (kk _ _ _ _ _ _ _ rfl ls H locs hl hscr hP hD hS)
    · cases hd
theorem am_s_dup2 (X : am_cx p R s m args c cells slots M) (hK : va_K (dC, dI) vwCl [(cI, .int), (cB, .byte)] s) (hscr : am_scr M N ad I A s H0 A0) (hl : am_ls ad (am_lg M) (am_l M) ls L) (hP : va_P (dC, dI) vwCl (am_w N cI cB ad I A G) H) (hD : va_D A0 (am_w N cI cB ad I A G)) (hS : va_S A0 H0 H locs) (kk : am_kk p l e R s m args below meth c cells slots Q dC dI cI cB ad N A0 H0 d) (hdg : decode (am_b M) pc = .ok (.dup2, 1)) (hd : am_in N M pc (.dup2) L S I A G = some (.inl d)) : W p l e R s m args below meth c H locs cells slots Q (F0 m pc ls (S.map (am_co ad))) := by
  obtain ⟨hx, hb, hml, hown, hts, hnst, hfr, hlo, hc0, hs0⟩ := X
  match S, hd with
  | [], hd => cases hd
  | [_], hd => cases hd
  | v :: w :: S, hd =>
    unfold am_in at hd
    dsimp only at hd
    split at hd
    · rename_i hv
      rw [Bool.and_eq_true] at hv
      cases hd
      exact lv_dup2_11 hx hb hdg (by rw [am_co_cat]; exact Nat.eq_of_beq_eq_true hv.1) (by rw [am_co_cat]; exact Nat.eq_of_beq_eq_true hv.2) (kk _ _ _ _ _ _ _ rfl ls H locs hl hscr hP hD hS)
    · cases hd
theorem am_s_goto (X : am_cx p R s m args c cells slots M) (hK : va_K (dC, dI) vwCl [(cI, .int), (cB, .byte)] s) (hscr : am_scr M N ad I A s H0 A0) (hl : am_ls ad (am_lg M) (am_l M) ls L) (hP : va_P (dC, dI) vwCl (am_w N cI cB ad I A G) H) (hD : va_D A0 (am_w N cI cB ad I A G)) (hS : va_S A0 H0 H locs) (kk : am_kk p l e R s m args below meth c cells slots Q dC dI cI cB ad N A0 H0 d) {off : Int} (hdg : decode (am_b M) pc = .ok (.goto off, 3)) (hd : am_in N M pc (.goto off) L S I A G = some (.inl d)) : W p l e R s m args below meth c H locs cells slots Q (F0 m pc ls (S.map (am_co ad))) := by
  obtain ⟨hx, hb, hml, hown, hts, hnst, hfr, hlo, hc0, hs0⟩ := X
  replace hd := am_at_i (show am_at pc off _ = some _ from hd)
  obtain ⟨t, ht, hd⟩ := hd
  cases hd
  exact lv_goto hx hb hdg ht (kk _ _ _ _ _ _ _ rfl ls H locs hl hscr hP hD hS)
theorem am_s_ifCond (X : am_cx p R s m args c cells slots M) (hK : va_K (dC, dI) vwCl [(cI, .int), (cB, .byte)] s) (hscr : am_scr M N ad I A s H0 A0) (hl : am_ls ad (am_lg M) (am_l M) ls L) (hP : va_P (dC, dI) vwCl (am_w N cI cB ad I A G) H) (hD : va_D A0 (am_w N cI cB ad I A G)) (hS : va_S A0 H0 H locs) (kk : am_kk p l e R s m args below meth c cells slots Q dC dI cI cB ad N A0 H0 d) {op : Jvm.ClassFile.Cond} {off : Int} (hdg : decode (am_b M) pc = .ok (.ifCond op off, 3)) (hd : am_in N M pc (.ifCond op off) L S I A G = some (.inl d)) : W p l e R s m args below meth c H locs cells slots Q (F0 m pc ls (S.map (am_co ad))) := by
  obtain ⟨hx, hb, hml, hown, hts, hnst, hfr, hlo, hc0, hs0⟩ := X
  replace hd := am_p1_i (show am_p1 S _ = some _ from hd)
  obtain ⟨x, S', rfl, hd⟩ := hd
  replace hd := am_at_i hd
  obtain ⟨t, ht, hd⟩ := hd
  cases op with
  | eq =>
    unfold am_br at hd
    dsimp only at hd
    refine lv_if_eq hx hb hdg ht (fun hq => ?_) (fun hq => ?_)
    · rw [if_pos hq] at hd
      cases hd
      exact kk _ _ _ _ _ _ _ rfl ls H locs hl hscr hP hD hS
    · rw [if_neg hq] at hd
      cases hd
      exact kk _ _ _ _ _ _ _ rfl ls H locs hl hscr hP hD hS
  | ne =>
    unfold am_br at hd
    dsimp only at hd
    refine lv_if_ne hx hb hdg ht (fun hq => ?_) (fun hq => ?_)
    · rw [if_neg hq] at hd
      cases hd
      exact kk _ _ _ _ _ _ _ rfl ls H locs hl hscr hP hD hS
    · rw [if_pos hq] at hd
      cases hd
      exact kk _ _ _ _ _ _ _ rfl ls H locs hl hscr hP hD hS
  | lt =>
    unfold am_br at hd
    dsimp only at hd
    refine lv_if_lt hx hb hdg ht (fun hq => ?_) (fun hq => ?_)
    · rw [if_pos hq] at hd
      cases hd
      exact kk _ _ _ _ _ _ _ rfl ls H locs hl hscr hP hD hS
    · rw [if_neg hq] at hd
      cases hd
      exact kk _ _ _ _ _ _ _ rfl ls H locs hl hscr hP hD hS
  | ge =>
    unfold am_br at hd
    dsimp only at hd
    refine lv_if_ge hx hb hdg ht (fun hq => ?_) (fun hq => ?_)
    · rw [if_pos hq] at hd
      cases hd
      exact kk _ _ _ _ _ _ _ rfl ls H locs hl hscr hP hD hS
    · rw [if_neg hq] at hd
      cases hd
      exact kk _ _ _ _ _ _ _ rfl ls H locs hl hscr hP hD hS
  | gt =>
    unfold am_br at hd
    dsimp only at hd
    refine lv_if_gt hx hb hdg ht (fun hq => ?_) (fun hq => ?_)
    · rw [if_pos hq] at hd
      cases hd
      exact kk _ _ _ _ _ _ _ rfl ls H locs hl hscr hP hD hS
    · rw [if_neg hq] at hd
      cases hd
      exact kk _ _ _ _ _ _ _ rfl ls H locs hl hscr hP hD hS
  | le =>
    unfold am_br at hd
    dsimp only at hd
    refine lv_if_le hx hb hdg ht (fun hq => ?_) (fun hq => ?_)
    · rw [if_pos hq] at hd
      cases hd
      exact kk _ _ _ _ _ _ _ rfl ls H locs hl hscr hP hD hS
    · rw [if_neg hq] at hd
      cases hd
      exact kk _ _ _ _ _ _ _ rfl ls H locs hl hscr hP hD hS
theorem am_s_if_icmp (X : am_cx p R s m args c cells slots M) (hK : va_K (dC, dI) vwCl [(cI, .int), (cB, .byte)] s) (hscr : am_scr M N ad I A s H0 A0) (hl : am_ls ad (am_lg M) (am_l M) ls L) (hP : va_P (dC, dI) vwCl (am_w N cI cB ad I A G) H) (hD : va_D A0 (am_w N cI cB ad I A G)) (hS : va_S A0 H0 H locs) (kk : am_kk p l e R s m args below meth c cells slots Q dC dI cI cB ad N A0 H0 d) {op : Jvm.ClassFile.Cond} {off : Int} (hdg : decode (am_b M) pc = .ok (.if_icmp op off, 3)) (hd : am_in N M pc (.if_icmp op off) L S I A G = some (.inl d)) : W p l e R s m args below meth c H locs cells slots Q (F0 m pc ls (S.map (am_co ad))) := by
  obtain ⟨hx, hb, hml, hown, hts, hnst, hfr, hlo, hc0, hs0⟩ := X
  replace hd := am_p2_i (show am_p2 S _ = some _ from hd)
  obtain ⟨x, y, S', rfl, hd⟩ := hd
  replace hd := am_at_i hd
  obtain ⟨t, ht, hd⟩ := hd
  cases op with
  | eq =>
    unfold am_br at hd
    dsimp only at hd
    refine lv_icmp_eq hx hb hdg ht (fun hq => ?_) (fun hq => ?_)
    · rw [if_pos hq] at hd
      cases hd
      exact kk _ _ _ _ _ _ _ rfl ls H locs hl hscr hP hD hS
    · rw [if_neg hq] at hd
      cases hd
      exact kk _ _ _ _ _ _ _ rfl ls H locs hl hscr hP hD hS
  | ne =>
    unfold am_br at hd
    dsimp only at hd
    refine lv_icmp_ne hx hb hdg ht (fun hq => ?_) (fun hq => ?_)
    · rw [if_neg hq] at hd
      cases hd
      exact kk _ _ _ _ _ _ _ rfl ls H locs hl hscr hP hD hS
    · rw [if_pos hq] at hd
      cases hd
      exact kk _ _ _ _ _ _ _ rfl ls H locs hl hscr hP hD hS
  | lt =>
    unfold am_br at hd
    dsimp only at hd
    refine lv_icmp_lt hx hb hdg ht (fun hq => ?_) (fun hq => ?_)
    · rw [if_pos hq] at hd
      cases hd
      exact kk _ _ _ _ _ _ _ rfl ls H locs hl hscr hP hD hS
    · rw [if_neg hq] at hd
      cases hd
      exact kk _ _ _ _ _ _ _ rfl ls H locs hl hscr hP hD hS
  | ge =>
    unfold am_br at hd
    dsimp only at hd
    refine lv_icmp_ge hx hb hdg ht (fun hq => ?_) (fun hq => ?_)
    · rw [if_pos hq] at hd
      cases hd
      exact kk _ _ _ _ _ _ _ rfl ls H locs hl hscr hP hD hS
    · rw [if_neg hq] at hd
      cases hd
      exact kk _ _ _ _ _ _ _ rfl ls H locs hl hscr hP hD hS
  | gt =>
    unfold am_br at hd
    dsimp only at hd
    refine lv_icmp_gt hx hb hdg ht (fun hq => ?_) (fun hq => ?_)
    · rw [if_pos hq] at hd
      cases hd
      exact kk _ _ _ _ _ _ _ rfl ls H locs hl hscr hP hD hS
    · rw [if_neg hq] at hd
      cases hd
      exact kk _ _ _ _ _ _ _ rfl ls H locs hl hscr hP hD hS
  | le =>
    unfold am_br at hd
    dsimp only at hd
    refine lv_icmp_le hx hb hdg ht (fun hq => ?_) (fun hq => ?_)
    · rw [if_pos hq] at hd
      cases hd
      exact kk _ _ _ _ _ _ _ rfl ls H locs hl hscr hP hD hS
    · rw [if_neg hq] at hd
      cases hd
      exact kk _ _ _ _ _ _ _ rfl ls H locs hl hscr hP hD hS
theorem am_s_tableswitch (X : am_cx p R s m args c cells slots M) (hK : va_K (dC, dI) vwCl [(cI, .int), (cB, .byte)] s) (hscr : am_scr M N ad I A s H0 A0) (hl : am_ls ad (am_lg M) (am_l M) ls L) (hP : va_P (dC, dI) vwCl (am_w N cI cB ad I A G) H) (hD : va_D A0 (am_w N cI cB ad I A G)) (hS : va_S A0 H0 H locs) (kk : am_kk p l e R s m args below meth c cells slots Q dC dI cI cB ad N A0 H0 d) {df lo hi : Int} {offs : Array Int} {n : Nat} (hdg : decode (am_b M) pc = .ok (.tableswitch df lo hi offs, n)) (hd : am_in N M pc (.tableswitch df lo hi offs) L S I A G = some (.inl d)) : W p l e R s m args below meth c H locs cells slots Q (F0 m pc ls (S.map (am_co ad))) := by
  obtain ⟨hx, hb, hml, hown, hts, hnst, hfr, hlo, hc0, hs0⟩ := X
  replace hd := am_p1_i (show am_p1 S _ = some _ from hd)
  obtain ⟨x, S', rfl, hd⟩ := hd
  split at hd
  · rename_i hh
    rcases am_sw_i _ _ hd with ⟨h1, h2⟩ | ⟨h1, h2, o, h3, h4⟩
    · obtain ⟨t, ht, h2⟩ := am_at_i h2
      cases h2
      exact lv_tableOut hx hb hdg (by omega) ht (kk _ _ _ _ _ _ _ rfl ls H locs hl hscr hP hD hS)
    · obtain ⟨t, ht, h4⟩ := am_at_i h4
      cases h4
      exact lv_tableIn hx hb hdg h1 (by omega) (by rw [← Array.getElem?_toList]; exact h3) ht (kk _ _ _ _ _ _ _ rfl ls H locs hl hscr hP hD hS)
  · cases hd
theorem am_s_lookupswitch (X : am_cx p R s m args c cells slots M) (hK : va_K (dC, dI) vwCl [(cI, .int), (cB, .byte)] s) (hscr : am_scr M N ad I A s H0 A0) (hl : am_ls ad (am_lg M) (am_l M) ls L) (hP : va_P (dC, dI) vwCl (am_w N cI cB ad I A G) H) (hD : va_D A0 (am_w N cI cB ad I A G)) (hS : va_S A0 H0 H locs) (kk : am_kk p l e R s m args below meth c cells slots Q dC dI cI cB ad N A0 H0 d) {df : Int} {ps : Array (Int × Int)} {n : Nat} (hdg : decode (am_b M) pc = .ok (.lookupswitch df ps, n)) (hd : am_in N M pc (.lookupswitch df ps) L S I A G = some (.inl d)) : W p l e R s m args below meth c H locs cells slots Q (F0 m pc ls (S.map (am_co ad))) := by
  obtain ⟨hx, hb, hml, hown, hts, hnst, hfr, hlo, hc0, hs0⟩ := X
  replace hd := am_p1_i (show am_p1 S _ = some _ from hd)
  obtain ⟨x, S', rfl, hd⟩ := hd
  split at hd
  · rename_i hh
    replace hd := am_at_i (am_sl_i _ hd)
    obtain ⟨t, ht, hd⟩ := hd
    cases hd
    exact lv_lookup hx hb hdg hh rfl ht (kk _ _ _ _ _ _ _ rfl ls H locs hl hscr hP hD hS)
  · cases hd
theorem am_s_getfield (X : am_cx p R s m args c cells slots M) (hK : va_K (dC, dI) vwCl [(cI, .int), (cB, .byte)] s) (hscr : am_scr M N ad I A s H0 A0) (hl : am_ls ad (am_lg M) (am_l M) ls L) (hP : va_P (dC, dI) vwCl (am_w N cI cB ad I A G) H) (hD : va_D A0 (am_w N cI cB ad I A G)) (hS : va_S A0 H0 H locs) (kk : am_kk p l e R s m args below meth c cells slots Q dC dI cI cB ad N A0 H0 d) {k : Nat} (hdg : decode (am_b M) pc = .ok (.getfield k, 3)) (hd : am_in N M pc (.getfield k) L S I A G = some (.inl d)) : W p l e R s m args below meth c H locs cells slots Q (F0 m pc ls (S.map (am_co ad))) := by
  obtain ⟨hx, hb, hml, hown, hts, hnst, hfr, hlo, hc0, hs0⟩ := X
  replace hd := am_pr_i (show am_pr S _ = some _ from hd)
  obtain ⟨a, S', rfl, hd⟩ := hd
  cases hf : am_fd (am_ow M) k with
  | none => rw [hf] at hd; cases hd
  | some q =>
    obtain ⟨c0, j⟩ := q
    rw [hf] at hd
    dsimp only at hd
    split at hd
    · rename_i ho
      cases hd
      obtain ⟨ha, hc⟩ := am_isO_i ho
      obtain ⟨C, T, n, hcl, hj, hlink⟩ := am_fd_ok hf
      have hn : am_nf c0 = n := by unfold am_nf; rw [hcl]
      refine va_get (D := (dC, dI)) hx hb hts (am_cl_ok hcl).1 hown hK hP a (by rw [am_w_at ha, am_ce_obj hc]) hcl j hj (hts _ hlink) (fun _ h => h) (v := am_co ad (am_fv I G a c0 j)) (by rw [List.getElem?_map, List.getElem?_range (by rw [hn]; exact hj)]; rfl) hdg (kk _ _ _ _ _ _ _ rfl ls H locs hl hscr hP hD hS)
    · cases hd
theorem am_s_putfield (X : am_cx p R s m args c cells slots M) (hK : va_K (dC, dI) vwCl [(cI, .int), (cB, .byte)] s) (hscr : am_scr M N ad I A s H0 A0) (hl : am_ls ad (am_lg M) (am_l M) ls L) (hP : va_P (dC, dI) vwCl (am_w N cI cB ad I A G) H) (hD : va_D A0 (am_w N cI cB ad I A G)) (hS : va_S A0 H0 H locs) (kk : am_kk p l e R s m args below meth c cells slots Q dC dI cI cB ad N A0 H0 d) {k : Nat} (hdg : decode (am_b M) pc = .ok (.putfield k, 3)) (hd : am_in N M pc (.putfield k) L S I A G = some (.inl d)) : W p l e R s m args below meth c H locs cells slots Q (F0 m pc ls (S.map (am_co ad))) := by
  obtain ⟨hx, hb, hml, hown, hts, hnst, hfr, hlo, hc0, hs0⟩ := X
  replace hd := am_pf_i (show am_pf S _ = some _ from hd)
  obtain ⟨a, v, S', rfl, hd⟩ := hd
  cases hf : am_fd (am_ow M) k with
  | none => rw [hf] at hd; cases hd
  | some q =>
    obtain ⟨c0, j⟩ := q
    rw [hf] at hd
    dsimp only at hd
    split at hd
    · rename_i ho
      rw [Bool.and_eq_true] at ho
      obtain ⟨ha, hc⟩ := am_isO_i ho.1
      obtain ⟨C, T, n, hcl, hj, hlink⟩ := am_fd_ok hf
      have hn : am_nf c0 = n := by unfold am_nf; rw [hcl]
      obtain ⟨hin, ty, hty, hnm, htk⟩ := am_cl_ok hcl
      have hfin : (T j).2.2.2 = false := by
        have h1 := ho.2
        unfold am_fin at h1
        rw [hcl] at h1
        simpa using h1
      have hk := htk j hj
      have haN : a ≠ N := Nat.ne_of_lt ha
      unfold am_put at hd
      split at hd
      · rename_i hk0
        rw [hk0] at hk
        have htyj : ty j = .int := by
          generalize ty j = t0 at hk
          cases t0 <;> first | rfl | (exact absurd hk (by decide)) | (simp [am_tk] at hk)
        split at hd
        · rename_i x
          cases hd
          refine va_put (D := (dC, dI)) hx hb hts hin ty hty hnm hown hK hP hD hS a (by rw [am_w_at ha, am_ce_obj hc]) hcl j hj (hts _ hlink) (fun _ h => h) hfin (ty := ty j) (hty j hj) (by rw [htyj]; rfl) (by rw [htyj]; rfl) (by simp only [List.length_map, List.length_range]; rw [hn]; exact hj) hdg (fun H1 locs1 hP1 hD1 hS1 => ?_)
          have he : ∀ e', e' = am_ce cI cB ad (am_u I a j x) A G a → (am_w N cI cB ad I A G).set a (ad a, e') = am_w N cI cB ad (am_u I a j x) A G := fun e' he => am_w_set (am_ce_fld fun i hi => ⟨am_u_ne hi, rfl⟩) he.symm
          have hs1 : (Sum.inr (c0, ((List.range (am_nf c0)).map (fun j => am_co ad (am_fv I G a c0 j))).set j (Value.int x)) : va_E) = am_ce cI cB ad (am_u I a j x) A G a := by
            rw [am_ce_obj hc, am_map_set (f' := fun i => am_co ad (am_fv (am_u I a j x) G a c0 i))]
            · show am_co ad (am_fv (am_u I a j x) G a c0 j) = .int x
              unfold am_fv
              rw [hk0]
              show Value.int (am_u I a j x a j) = _
              unfold am_u
              rw [if_pos ⟨rfl, rfl⟩]
            · intro i hi
              show am_co ad (am_fv (am_u I a j x) G a c0 i) = _
              unfold am_fv am_u
              rw [if_neg (fun q => hi q.2)]
          have hP1 : va_P (dC, dI) vwCl ((am_w N cI cB ad I A G).set a (ad a, .inr (c0, ((List.range (am_nf c0)).map (fun j => am_co ad (am_fv I G a c0 j))).set j (Value.int x)))) H1 := hP1
          have hD1 : va_D A0 ((am_w N cI cB ad I A G).set a (ad a, .inr (c0, ((List.range (am_nf c0)).map (fun j => am_co ad (am_fv I G a c0 j))).set j (Value.int x)))) := hD1
          rw [he _ hs1] at hP1 hD1
          exact kk _ _ _ _ _ _ _ rfl ls H1 locs1 hl (hscr.to (am_u_ne haN.symm) rfl) hP1 hD1 hS1
        · cases hd
      · rename_i hk0
        rw [hk0] at hk
        have htyj : ∀ x : Nat, narrow (ty j) (.ref x) = .ref x ∧ fits (ty j) (.ref x) = true := by
          intro x
          generalize ty j = t0 at hk
          cases t0 <;> first | exact ⟨rfl, rfl⟩ | (exact absurd hk (by decide)) | (simp [am_tk] at hk)
        split at hd
        · rename_i x
          cases hd
          refine va_put (D := (dC, dI)) (v := .ref (ad x)) hx hb hts hin ty hty hnm hown hK hP hD hS a (by rw [am_w_at ha, am_ce_obj hc]) hcl j hj (hts _ hlink) (fun _ h => h) hfin (ty := ty j) (hty j hj) (htyj _).1 (htyj _).2 (by simp only [List.length_map, List.length_range]; rw [hn]; exact hj) hdg (fun H1 locs1 hP1 hD1 hS1 => ?_)
          have he : ∀ e', e' = am_ce cI cB ad I A (am_u G a j x) a → (am_w N cI cB ad I A G).set a (ad a, e') = am_w N cI cB ad I A (am_u G a j x) := fun e' he => am_w_set (am_ce_fld fun i hi => ⟨rfl, am_u_ne hi⟩) he.symm
          have hs1 : (Sum.inr (c0, ((List.range (am_nf c0)).map (fun j => am_co ad (am_fv I G a c0 j))).set j (Value.ref (ad x))) : va_E) = am_ce cI cB ad I A (am_u G a j x) a := by
            rw [am_ce_obj hc, am_map_set (f' := fun i => am_co ad (am_fv I (am_u G a j x) a c0 i))]
            · show am_co ad (am_fv I (am_u G a j x) a c0 j) = .ref (ad x)
              unfold am_fv
              rw [hk0]
              show Value.ref (ad (am_u G a j x a j)) = _
              unfold am_u
              rw [if_pos ⟨rfl, rfl⟩]
            · intro i hi
              show am_co ad (am_fv I (am_u G a j x) a c0 i) = _
              unfold am_fv am_u
              rw [if_neg (fun q => hi q.2)]
          have hP1 : va_P (dC, dI) vwCl ((am_w N cI cB ad I A G).set a (ad a, .inr (c0, ((List.range (am_nf c0)).map (fun j => am_co ad (am_fv I G a c0 j))).set j (Value.ref (ad x))))) H1 := hP1
          have hD1 : va_D A0 ((am_w N cI cB ad I A G).set a (ad a, .inr (c0, ((List.range (am_nf c0)).map (fun j => am_co ad (am_fv I G a c0 j))).set j (Value.ref (ad x))))) := hD1
          rw [he _ hs1] at hP1 hD1
          exact kk _ _ _ _ _ _ _ rfl ls H1 locs1 hl hscr hP1 hD1 hS1
        · cases hd
      · cases hd
    · cases hd
theorem am_s_iaload (X : am_cx p R s m args c cells slots M) (hK : va_K (dC, dI) vwCl [(cI, .int), (cB, .byte)] s) (hscr : am_scr M N ad I A s H0 A0) (hl : am_ls ad (am_lg M) (am_l M) ls L) (hP : va_P (dC, dI) vwCl (am_w N cI cB ad I A G) H) (hD : va_D A0 (am_w N cI cB ad I A G)) (hS : va_S A0 H0 H locs) (kk : am_kk p l e R s m args below meth c cells slots Q dC dI cI cB ad N A0 H0 d) (hdg : decode (am_b M) pc = .ok (.iaload, 1)) (hd : am_in N M pc (.iaload) L S I A G = some (.inl d)) : W p l e R s m args below meth c H locs cells slots Q (F0 m pc ls (S.map (am_co ad))) := by
  obtain ⟨hx, hb, hml, hown, hts, hnst, hfr, hlo, hc0, hs0⟩ := X
  replace hd := am_pa_i (show am_pa S _ = some _ from hd)
  obtain ⟨a, i, S', rfl, hd⟩ := hd
  split at hd
  · rename_i hM
    split at hd
    · rename_i haN
      have haN := Nat.eq_of_beq_eq_true haN
      subst haN
      replace hd := am_ix_i hd
      obtain ⟨hin, hd⟩ := hd
      cases hd
      obtain ⟨Ls, xs, h1, h2, h3, h4, h5, h6⟩ := hscr (Nat.eq_of_beq_eq_true hM)
      rw [h5, show (Int32.ofNat Ls).toNatClampNeg = Ls from nI_clamp h4] at hin
      refine va_sld hx hb h1 h2 h3 hS hin hdg ?_
      rw [← h6]
      exact kk _ _ _ _ _ _ _ rfl ls H locs hl hscr hP hD hS
    · cases hd
  · replace hd := am_ix_i hd
    obtain ⟨hin, hd⟩ := hd
    cases hd
    obtain ⟨n, ha, hc, hin⟩ := am_len_i hin
    exact va_iald hx hb hK hP a 0 (by rw [am_w_at ha, am_ce_arr hc]; rfl) rfl hin hdg (kk _ _ _ _ _ _ _ rfl ls H locs hl hscr hP hD hS)
theorem am_s_baload (X : am_cx p R s m args c cells slots M) (hK : va_K (dC, dI) vwCl [(cI, .int), (cB, .byte)] s) (hscr : am_scr M N ad I A s H0 A0) (hl : am_ls ad (am_lg M) (am_l M) ls L) (hP : va_P (dC, dI) vwCl (am_w N cI cB ad I A G) H) (hD : va_D A0 (am_w N cI cB ad I A G)) (hS : va_S A0 H0 H locs) (kk : am_kk p l e R s m args below meth c cells slots Q dC dI cI cB ad N A0 H0 d) (hdg : decode (am_b M) pc = .ok (.baload, 1)) (hd : am_in N M pc (.baload) L S I A G = some (.inl d)) : W p l e R s m args below meth c H locs cells slots Q (F0 m pc ls (S.map (am_co ad))) := by
  obtain ⟨hx, hb, hml, hown, hts, hnst, hfr, hlo, hc0, hs0⟩ := X
  replace hd := am_pa_i (show am_pa S _ = some _ from hd)
  obtain ⟨a, i, S', rfl, hd⟩ := hd
  replace hd := am_ix_i hd
  obtain ⟨hin, hd⟩ := hd
  cases hd
  obtain ⟨n, ha, hc, hin⟩ := am_len_i hin
  exact va_bald hx hb hK hP a 1 (by rw [am_w_at ha, am_ce_arr hc]; rfl) rfl hin hdg (kk _ _ _ _ _ _ _ rfl ls H locs hl hscr hP hD hS)
theorem am_s_iastore (X : am_cx p R s m args c cells slots M) (hK : va_K (dC, dI) vwCl [(cI, .int), (cB, .byte)] s) (hscr : am_scr M N ad I A s H0 A0) (hl : am_ls ad (am_lg M) (am_l M) ls L) (hP : va_P (dC, dI) vwCl (am_w N cI cB ad I A G) H) (hD : va_D A0 (am_w N cI cB ad I A G)) (hS : va_S A0 H0 H locs) (kk : am_kk p l e R s m args below meth c cells slots Q dC dI cI cB ad N A0 H0 d) (hdg : decode (am_b M) pc = .ok (.iastore, 1)) (hd : am_in N M pc (.iastore) L S I A G = some (.inl d)) : W p l e R s m args below meth c H locs cells slots Q (F0 m pc ls (S.map (am_co ad))) := by
  obtain ⟨hx, hb, hml, hown, hts, hnst, hfr, hlo, hc0, hs0⟩ := X
  replace hd := am_ps_i (show am_ps S _ = some _ from hd)
  obtain ⟨a, i, x, S', rfl, hd⟩ := hd
  replace hd := am_ix_i hd
  obtain ⟨hin, hd⟩ := hd
  cases hd
  obtain ⟨n, ha, hc, hin⟩ := am_len_i hin
  have haN : a ≠ N := Nat.ne_of_lt ha
  refine va_iast hx hb hK hP hD hS a 0 (by rw [am_w_at ha, am_ce_arr hc]; rfl) rfl hin hdg (fun H1 locs1 hP1 hD1 hS1 => ?_)
  have he : (am_w N cI cB ad I A G).set a (ad a, .inl ((if false = true then cB else cI), n, .inl (upd (A a) i.toNatClampNeg (x)))) = am_w N cI cB ad I (am_u A a i.toNatClampNeg (x)) G := am_w_set (am_ce_row fun j hj => am_u_ne hj) (by rw [am_ce_arr hc, am_u_upd])
  have hP1 : va_P (dC, dI) vwCl ((am_w N cI cB ad I A G).set a (ad a, .inl ((if false = true then cB else cI), n, .inl (upd (A a) i.toNatClampNeg (x))))) H1 := hP1
  have hD1 : va_D A0 ((am_w N cI cB ad I A G).set a (ad a, .inl ((if false = true then cB else cI), n, .inl (upd (A a) i.toNatClampNeg (x))))) := hD1
  rw [he] at hP1 hD1
  exact kk _ _ _ _ _ _ _ rfl ls H1 locs1 hl (hscr.to rfl (am_u_ne haN.symm)) hP1 hD1 hS1
theorem am_s_bastore (X : am_cx p R s m args c cells slots M) (hK : va_K (dC, dI) vwCl [(cI, .int), (cB, .byte)] s) (hscr : am_scr M N ad I A s H0 A0) (hl : am_ls ad (am_lg M) (am_l M) ls L) (hP : va_P (dC, dI) vwCl (am_w N cI cB ad I A G) H) (hD : va_D A0 (am_w N cI cB ad I A G)) (hS : va_S A0 H0 H locs) (kk : am_kk p l e R s m args below meth c cells slots Q dC dI cI cB ad N A0 H0 d) (hdg : decode (am_b M) pc = .ok (.bastore, 1)) (hd : am_in N M pc (.bastore) L S I A G = some (.inl d)) : W p l e R s m args below meth c H locs cells slots Q (F0 m pc ls (S.map (am_co ad))) := by
  obtain ⟨hx, hb, hml, hown, hts, hnst, hfr, hlo, hc0, hs0⟩ := X
  replace hd := am_ps_i (show am_ps S _ = some _ from hd)
  obtain ⟨a, i, x, S', rfl, hd⟩ := hd
  replace hd := am_ix_i hd
  obtain ⟨hin, hd⟩ := hd
  cases hd
  obtain ⟨n, ha, hc, hin⟩ := am_len_i hin
  have haN : a ≠ N := Nat.ne_of_lt ha
  refine va_bast hx hb hK hP hD hS a 1 (by rw [am_w_at ha, am_ce_arr hc]; rfl) rfl hin hdg (fun H1 locs1 hP1 hD1 hS1 => ?_)
  have he : (am_w N cI cB ad I A G).set a (ad a, .inl ((if true = true then cB else cI), n, .inl (upd (A a) i.toNatClampNeg (x.toInt8.toInt32)))) = am_w N cI cB ad I (am_u A a i.toNatClampNeg (x.toInt8.toInt32)) G := am_w_set (am_ce_row fun j hj => am_u_ne hj) (by rw [am_ce_arr hc, am_u_upd])
  have hP1 : va_P (dC, dI) vwCl ((am_w N cI cB ad I A G).set a (ad a, .inl ((if true = true then cB else cI), n, .inl (upd (A a) i.toNatClampNeg (x.toInt8.toInt32))))) H1 := hP1
  have hD1 : va_D A0 ((am_w N cI cB ad I A G).set a (ad a, .inl ((if true = true then cB else cI), n, .inl (upd (A a) i.toNatClampNeg (x.toInt8.toInt32))))) := hD1
  rw [he] at hP1 hD1
  exact kk _ _ _ _ _ _ _ rfl ls H1 locs1 hl (hscr.to rfl (am_u_ne haN.symm)) hP1 hD1 hS1
theorem am_s_arraylength (X : am_cx p R s m args c cells slots M) (hK : va_K (dC, dI) vwCl [(cI, .int), (cB, .byte)] s) (hscr : am_scr M N ad I A s H0 A0) (hl : am_ls ad (am_lg M) (am_l M) ls L) (hP : va_P (dC, dI) vwCl (am_w N cI cB ad I A G) H) (hD : va_D A0 (am_w N cI cB ad I A G)) (hS : va_S A0 H0 H locs) (kk : am_kk p l e R s m args below meth c cells slots Q dC dI cI cB ad N A0 H0 d) (hdg : decode (am_b M) pc = .ok (.arraylength, 1)) (hd : am_in N M pc (.arraylength) L S I A G = some (.inl d)) : W p l e R s m args below meth c H locs cells slots Q (F0 m pc ls (S.map (am_co ad))) := by
  obtain ⟨hx, hb, hml, hown, hts, hnst, hfr, hlo, hc0, hs0⟩ := X
  replace hd := am_pr_i (show am_pr S _ = some _ from hd)
  obtain ⟨a, S', rfl, hd⟩ := hd
  split at hd
  · rename_i hM
    split at hd
    · rename_i haN
      have haN := Nat.eq_of_beq_eq_true haN
      subst haN
      cases hd
      obtain ⟨Ls, xs, h1, h2, h3, h4, h5, h6⟩ := hscr (Nat.eq_of_beq_eq_true hM)
      refine va_slen hx hb h1 h2 h3 hS hdg ?_
      rw [← h5]
      exact kk _ _ _ _ _ _ _ rfl ls H locs hl hscr hP hD hS
    · cases hd
  · split at hd
    · rename_i n hn
      cases hd
      obtain ⟨ha, b, hc⟩ := am_isA_i hn
      cases b with
      | false => exact va_alen (x := (n, .inl (A a))) (cA := cI) hx hb hK hP a 0 (by rw [am_w_at ha, am_ce_arr hc]; rfl) rfl rfl hdg (kk _ _ _ _ _ _ _ rfl ls H locs hl hscr hP hD hS)
      | true => exact va_alen (x := (n, .inl (A a))) (cA := cB) hx hb hK hP a 1 (by rw [am_w_at ha, am_ce_arr hc]; rfl) rfl rfl hdg (kk _ _ _ _ _ _ _ rfl ls H locs hl hscr hP hD hS)
    · cases hd
end AMS
