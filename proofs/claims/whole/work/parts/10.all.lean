/-! ===== what a step keeps: the method, and the script's cell ===== -/
def am_kp (N M : Nat) (I A : am_F) (q : am_Q) : Prop := ∀ d, q = some (.inl d) → d.1 = M ∧ d.2.2.2.2.1 N = I N ∧ d.2.2.2.2.2.1 N = A N
section KP
variable {N M : Nat} {I A : am_F}
theorem am_kp_no : am_kp N M I A none := fun _ h => by cases h
theorem am_kp_nr {x} : am_kp N M I A (some (.inr x)) := fun _ h => by cases h
theorem am_kp_go {pc : Nat} {L S : List Value} {R : am_G} : am_kp N M I A (am_go M pc L S I A R) := fun _ h => by cases h; exact ⟨rfl, rfl, rfl⟩
theorem am_kp_goI {pc : Nat} {L S : List Value} {R : am_G} {I' : am_F} (h' : I' N = I N) : am_kp N M I A (am_go M pc L S I' A R) := fun _ h => by cases h; exact ⟨rfl, h', rfl⟩
theorem am_kp_goA {pc : Nat} {L S : List Value} {R : am_G} {A' : am_F} (h' : A' N = A N) : am_kp N M I A (am_go M pc L S I A' R) := fun _ h => by cases h; exact ⟨rfl, rfl, h'⟩
theorem am_kp_p1 {S : List Value} {f : Int32 → List Value → am_Q} (h : ∀ v0 v1, am_kp N M I A (f v0 v1)) : am_kp N M I A (am_p1 S f) := by
  unfold am_p1; split
  · exact h _ _
  · exact am_kp_no
theorem am_kp_p2 {S : List Value} {f : Int32 → Int32 → List Value → am_Q} (h : ∀ v0 v1 v2, am_kp N M I A (f v0 v1 v2)) : am_kp N M I A (am_p2 S f) := by
  unfold am_p2; split
  · exact h _ _ _
  · exact am_kp_no
theorem am_kp_q1 {S : List Value} {f : Int64 → List Value → am_Q} (h : ∀ v0 v1, am_kp N M I A (f v0 v1)) : am_kp N M I A (am_q1 S f) := by
  unfold am_q1; split
  · exact h _ _
  · exact am_kp_no
theorem am_kp_q2 {S : List Value} {f : Int64 → Int64 → List Value → am_Q} (h : ∀ v0 v1 v2, am_kp N M I A (f v0 v1 v2)) : am_kp N M I A (am_q2 S f) := by
  unfold am_q2; split
  · exact h _ _ _
  · exact am_kp_no
theorem am_kp_qs {S : List Value} {f : Int64 → Int32 → List Value → am_Q} (h : ∀ v0 v1 v2, am_kp N M I A (f v0 v1 v2)) : am_kp N M I A (am_qs S f) := by
  unfold am_qs; split
  · exact h _ _ _
  · exact am_kp_no
theorem am_kp_pr {S : List Value} {f : Nat → List Value → am_Q} (h : ∀ v0 v1, am_kp N M I A (f v0 v1)) : am_kp N M I A (am_pr S f) := by
  unfold am_pr; split
  · exact h _ _
  · exact am_kp_no
theorem am_kp_pa {S : List Value} {f : Nat → Int32 → List Value → am_Q} (h : ∀ v0 v1 v2, am_kp N M I A (f v0 v1 v2)) : am_kp N M I A (am_pa S f) := by
  unfold am_pa; split
  · exact h _ _ _
  · exact am_kp_no
theorem am_kp_ps {S : List Value} {f : Nat → Int32 → Int32 → List Value → am_Q} (h : ∀ v0 v1 v2 v3, am_kp N M I A (f v0 v1 v2 v3)) : am_kp N M I A (am_ps S f) := by
  unfold am_ps; split
  · exact h _ _ _ _
  · exact am_kp_no
theorem am_kp_pf {S : List Value} {f : Nat → Value → List Value → am_Q} (h : ∀ v0 v1 v2, am_kp N M I A (f v0 v1 v2)) : am_kp N M I A (am_pf S f) := by
  unfold am_pf; split
  · exact h _ _ _
  · exact am_kp_no
theorem am_kp_gi {L : List Value} {i : Nat} {f : Int32 → am_Q} (h : ∀ x, am_kp N M I A (f x)) : am_kp N M I A (am_gi L i f) := by
  unfold am_gi; split
  · exact h _
  · exact am_kp_no
theorem am_kp_gl {L : List Value} {i : Nat} {f : Int64 → am_Q} (h : ∀ x, am_kp N M I A (f x)) : am_kp N M I A (am_gl L i f) := by
  unfold am_gl; split
  · exact h _
  · exact am_kp_no
theorem am_kp_gr {L : List Value} {i : Nat} {f : Nat → am_Q} (h : ∀ x, am_kp N M I A (f x)) : am_kp N M I A (am_gr L i f) := by
  unfold am_gr; split
  · exact h _
  · exact am_kp_no
theorem am_kp_at {pc : Nat} {off : Int} {f : Nat → am_Q} (h : ∀ t, am_kp N M I A (f t)) : am_kp N M I A (am_at pc off f) := by
  unfold am_at; split
  · exact h _
  · exact am_kp_no
theorem am_kp_br {op : Jvm.ClassFile.Cond} {x y : Int32} {t f : am_Q} (ht : am_kp N M I A t) (hf : am_kp N M I A f) : am_kp N M I A (am_br op x y t f) := by
  cases op <;> (unfold am_br; dsimp only; split <;> assumption)
theorem am_kp_ix {n : Nat} {i : Int32} {q : am_Q} (h : vp_in i n → am_kp N M I A q) : am_kp N M I A (am_ix n i q) := by
  unfold am_ix; split
  · exact am_kp_no
  · rename_i hn; exact h hn
theorem am_kp_sw {pc : Nat} {f : Nat → am_Q} {d : Int} {x : Int32} (h : ∀ t, am_kp N M I A (f t)) : ∀ (os : List Int) (lo : Int), am_kp N M I A (am_sw pc f d x lo os)
  | [], lo => am_kp_at h
  | o :: os, lo => by
    unfold am_sw; split
    · exact am_kp_at h
    · exact am_kp_sw h os _
theorem am_kp_sl {pc : Nat} {f : Nat → am_Q} {d : Int} {x : Int32} (h : ∀ t, am_kp N M I A (f t)) : ∀ (os : List (Int × Int)), am_kp N M I A (am_sl pc f d x os)
  | [] => am_kp_at h
  | (v, o) :: os => by
    unfold am_sl; split
    · exact am_kp_at h
    · exact am_kp_sl h os
theorem am_kp_put {pc : Nat} {L : List Value} {R : am_G} {a c j : Nat} {v : Value} {S : List Value} (ha : a < N) : am_kp N M I A (am_put M pc L I A R a c j v S) := by
  unfold am_put
  repeat' split
  all_goals first | exact am_kp_go | exact am_kp_no | exact am_kp_goI (am_u_ne (Nat.ne_of_gt ha))
theorem am_kp_copy {pc : Nat} {L S : List Value} {R : am_G} : am_kp N M I A (am_copy N M pc L S I A R) := by
  unfold am_copy
  split
  · split
    · rename_i hb
      simp only [Bool.and_eq_true] at hb
      split
      · split
        · exact am_kp_goA (if_neg (Nat.ne_of_gt (am_blt hb.2)))
        · exact am_kp_no
      · exact am_kp_no
    · exact am_kp_no
  · exact am_kp_no
theorem am_kp_call {M' pc : Nat} {L as rest : List Value} {R : am_G} : am_kp N M I A (am_call M M' pc L as rest I A R) := by
  unfold am_call; split
  · exact am_kp_nr
  · exact am_kp_no
theorem am_kp_cast {M' pc : Nat} {L S : List Value} {R : am_G} : am_kp N M I A (am_cast N M pc L S I A R M') := by
  unfold am_cast; split
  · exact am_kp_call
  · exact am_kp_no
theorem am_kp_cavi {M' pc : Nat} {L S : List Value} {R : am_G} : am_kp N M I A (am_cavi N M pc L S I A R M') := by
  unfold am_cavi; split
  · split
    · exact am_kp_call
    · exact am_kp_no
  · exact am_kp_no
theorem am_kp_ret {S : List Value} {R : am_G} : am_kp N M I A (am_ret M S I A R) := by
  unfold am_ret
  repeat' split
  all_goals first | exact am_kp_nr | exact am_kp_no
theorem am_kp_rtr {S : List Value} {R : am_G} : am_kp N M I A (am_rtr M S I A R) := by
  unfold am_rtr
  repeat' split
  all_goals first | exact am_kp_nr | exact am_kp_no
theorem am_kp_rtv {S : List Value} {R : am_G} : am_kp N M I A (am_rtv M S I A R) := by
  unfold am_rtv
  repeat' split
  all_goals first | exact am_kp_nr | exact am_kp_no
set_option maxHeartbeats 4000000 in
theorem am_kp_in {pc : Nat} {i : Jvm.ClassFile.Instr} {L S : List Value} {R : am_G} : am_kp N M I A (am_in N M pc i L S I A R) := by
  cases i <;> first
    | exact am_kp_no
    | exact am_kp_go
    | exact am_kp_ret
    | exact am_kp_rtr
    | exact am_kp_rtv
    | (unfold am_in; dsimp only; repeat' first
        | exact am_kp_no
        | exact am_kp_go
        | exact am_kp_copy
        | exact am_kp_cast
        | exact am_kp_cavi
        | refine am_kp_p1 fun _ _ => ?_
        | refine am_kp_p2 fun _ _ _ => ?_
        | refine am_kp_q1 fun _ _ => ?_
        | refine am_kp_q2 fun _ _ _ => ?_
        | refine am_kp_qs fun _ _ _ => ?_
        | refine am_kp_pr fun _ _ => ?_
        | refine am_kp_pa fun _ _ _ => ?_
        | refine am_kp_ps fun _ _ _ _ => ?_
        | refine am_kp_pf fun _ _ _ => ?_
        | refine am_kp_gi fun _ => ?_
        | refine am_kp_gl fun _ => ?_
        | refine am_kp_gr fun _ => ?_
        | refine am_kp_at fun _ => ?_
        | refine am_kp_br ?_ ?_
        | (refine am_kp_ix fun _ => ?_; exact am_kp_go)
        | (refine am_kp_ix fun hin => ?_; obtain ⟨n, ha, -, -⟩ := am_len_i hin; exact am_kp_goA (am_u_ne (Nat.ne_of_gt ha)))
        | refine am_kp_sw (fun _ => am_kp_go) _ _
        | refine am_kp_sl (fun _ => am_kp_go) _
        | (rename_i hq; rw [Bool.and_eq_true] at hq; exact am_kp_put (am_isO_i hq.1).1)
        | split)
end KP
theorem am_do_in {N M pc : Nat} {L S : List Value} {I A : am_F} {G : am_G} {q} (h : am_do N (M, pc, L, S, I, A, G) = some q) : ∃ i n, decode (am_b M) pc = .ok (i, n) ∧ am_ln i n = true ∧ am_in N M pc i L S I A G = some q := by
  unfold am_do at h
  dsimp only at h
  cases hdg : decode (am_b M) pc with
  | error er => rw [hdg] at h; cases h
  | ok x =>
    obtain ⟨i, n⟩ := x
    rw [hdg] at h
    dsimp only at h
    split at h
    · rename_i hn; exact ⟨i, n, rfl, hn, h⟩
    · cases h
theorem am_do_kp {N M pc : Nat} {L S : List Value} {I A : am_F} {G : am_G} {d : am_C} (h : am_do N (M, pc, L, S, I, A, G) = some (.inl d)) : d.1 = M ∧ d.2.2.2.2.1 N = I N ∧ d.2.2.2.2.2.1 N = A N := by
  obtain ⟨i, n, -, -, h⟩ := am_do_in h
  exact am_kp_in d h
theorem am_calls_i {i : Jvm.ClassFile.Instr} (h : am_calls i = true) : (∃ k, i = .invokevirtual k) ∨ (∃ k, i = .invokestatic k) ∨ i = .ireturn ∨ i = .areturn ∨ i = .return_ := by
  cases i <;> first | exact Or.inl ⟨_, rfl⟩ | exact Or.inr (Or.inl ⟨_, rfl⟩) | exact Or.inr (Or.inr (Or.inl rfl)) | exact Or.inr (Or.inr (Or.inr (Or.inl rfl))) | exact Or.inr (Or.inr (Or.inr (Or.inr rfl))) | cases h
/-- a call: of which method, with what, and by which instruction -/
theorem am_do_call {N M pc : Nat} {L S : List Value} {I A : am_F} {G : am_G} {d d2 : am_C} (h : am_do N (M, pc, L, S, I, A, G) = some (.inr (.inl (d, d2)))) :
    ∃ (M' k : Nat) (as rest : List Value), d = (M', 0, am_ent as (am_l M'), [], I, A, G) ∧ d2 = (M, pc + 3, L, rest, I, A, G) ∧ am_fit M M' as rest = true ∧
      ((decode (am_b M) pc = .ok (.invokestatic k, 3) ∧ am_cs (am_ow M) k = some M' ∧ as.length = am_np M' ∧ S = as.reverse ++ rest) ∨
       (∃ (a : Nat) (as' : List Value), decode (am_b M) pc = .ok (.invokevirtual k, 3) ∧ am_cv (am_ow M) k = some M' ∧ as = .ref a :: as' ∧ as'.length = am_np M' ∧ S = as'.reverse ++ .ref a :: rest ∧ am_isO N a (am_ow M') = true)) := by
  obtain ⟨i, n, hdg, hn, h⟩ := am_do_in h
  cases hc : am_calls i with
  | false => exact absurd h (am_nl_in hc _)
  | true =>
    rcases am_calls_i hc with ⟨k, rfl⟩ | ⟨k, rfl⟩ | rfl | rfl | rfl
    · have hn := Nat.eq_of_beq_eq_true (show Nat.beq n 3 = true from hn)
      subst hn
      unfold am_in at h
      dsimp only at h
      split at h
      · rename_i M' hcv
        obtain ⟨a, rest, h1, h2, h3⟩ := am_cavi_i h
        obtain ⟨h4, h5⟩ := am_call_i h3
        cases h5
        have hlen : am_np M' ≤ S.length := by
          have := congrArg List.length h1
          simp at this
          omega
        refine ⟨M', k, _, rest, rfl, rfl, h4, Or.inr ⟨a, (S.take (am_np M')).reverse, hdg, hcv, rfl, by simp; omega, ?_, h2⟩⟩
        rw [List.reverse_reverse, ← h1, List.take_append_drop]
      · cases h
    · have hn := Nat.eq_of_beq_eq_true (show Nat.beq n 3 = true from hn)
      subst hn
      unfold am_in at h
      dsimp only at h
      split at h
      · rename_i M' hcs
        obtain ⟨h1, h2, h3⟩ := am_cast_i h
        obtain ⟨h4, h5⟩ := am_call_i h3
        cases h5
        refine ⟨M', k, _, _, rfl, rfl, h4, Or.inl ⟨hdg, hcs, by simp; omega, ?_⟩⟩
        rw [List.reverse_reverse, List.take_append_drop]
      · split at h
        · exact absurd h (am_nl_p2 (fun x y S => by split; exact am_nl_go; exact am_nl_no) _)
        · split at h
          · exact absurd h (am_nl_copy _)
          · cases h
    · obtain ⟨v, ty, -, h1, -⟩ := am_ret_i h; cases h1
    · obtain ⟨v, n, -, h1, -⟩ := am_rtr_i h; cases h1
    · obtain ⟨-, h1, -⟩ := am_rtv_i h; cases h1
theorem am_do_end {N M pc : Nat} {L S : List Value} {I A : am_F} {G : am_G} {v : am_V} (h : am_do N (M, pc, L, S, I, A, G) = some (.inr (.inr v))) : S = am_push v.1 [] ∧ v.2 = (I, A, G) ∧ am_fi M pc v.1 := by
  obtain ⟨i, n, hdg, hn, h⟩ := am_do_in h
  cases hc : am_calls i with
  | false => exact absurd h (am_nl_in hc _)
  | true =>
    rcases am_calls_i hc with ⟨k, rfl⟩ | ⟨k, rfl⟩ | rfl | rfl | rfl
    · unfold am_in at h
      dsimp only at h
      split at h
      · obtain ⟨a, rest, h1, h2, h3⟩ := am_cavi_i h
        obtain ⟨h4, h5⟩ := am_call_i h3
        cases h5
      · cases h
    · unfold am_in at h
      dsimp only at h
      split at h
      · obtain ⟨h1, h2, h3⟩ := am_cast_i h
        obtain ⟨h4, h5⟩ := am_call_i h3
        cases h5
      · split at h
        · exact absurd h (am_nl_p2 (fun x y S => by split; exact am_nl_go; exact am_nl_no) _)
        · split at h
          · exact absurd h (am_nl_copy _)
          · cases h
    · have hn := Nat.eq_of_beq_eq_true (show Nat.beq n 1 = true from hn)
      subst hn
      obtain ⟨x, ty, rfl, h1, h2, h3⟩ := am_ret_i h; cases h1
      exact ⟨rfl, rfl, Or.inr (Or.inl ⟨x, ty, rfl, h2, h3, hdg⟩)⟩
    · have hn := Nat.eq_of_beq_eq_true (show Nat.beq n 1 = true from hn)
      subst hn
      obtain ⟨x, nm, rfl, h1, h2⟩ := am_rtr_i h; cases h1
      exact ⟨rfl, rfl, Or.inr (Or.inr ⟨x, nm, rfl, h2, hdg⟩)⟩
    · have hn := Nat.eq_of_beq_eq_true (show Nat.beq n 1 = true from hn)
      subst hn
      obtain ⟨rfl, h1, h2⟩ := am_rtv_i h; cases h1
      exact ⟨rfl, rfl, Or.inl ⟨rfl, h2, hdg⟩⟩
theorem am_x_kp {N : Nat} : ∀ (n M pc : Nat) (L S : List Value) (I A : am_F) (G : am_G) (r : am_V), am_x N n (M, pc, L, S, I, A, G) = some r → r.2.1 N = I N ∧ r.2.2.1 N = A N
  | 0, _, _, _, _, _, _, _, _, h => by cases h
  | n + 1, M, pc, L, S, I, A, G, r, h => by
    replace h : am_stp N (am_x N n) (M, pc, L, S, I, A, G) = some r := h
    unfold am_stp at h
    cases hdo : am_do N (M, pc, L, S, I, A, G) with
    | none => rw [hdo] at h; cases h
    | some q =>
      rw [hdo] at h
      rcases q with d | ⟨d, d2⟩ | v
      · obtain ⟨M', pc', L', S', I', A', G'⟩ := d
        obtain ⟨e1, e2, e3⟩ := am_do_kp hdo
        obtain ⟨f1, f2⟩ := am_x_kp n _ _ _ _ _ _ _ _ (show am_x N n (M', pc', L', S', I', A', G') = some r from h)
        exact ⟨f1.trans e2, f2.trans e3⟩
      · obtain ⟨M', k, as, rest, rfl, rfl, -, -⟩ := am_do_call hdo
        obtain ⟨v, h1, h2⟩ := Option.bind_eq_some_iff.mp (show (am_x N n _).bind _ = some r from h)
        obtain ⟨f1, f2⟩ := am_x_kp n _ _ _ _ _ _ _ _ h1
        obtain ⟨g1, g2⟩ := am_x_kp n _ _ _ _ _ _ _ _ (show am_x N n (M, pc + 3, L, am_push v.1 rest, v.2.1, v.2.2.1, v.2.2.2) = some r from h2)
        exact ⟨g1.trans f1, g2.trans f2⟩
      · obtain ⟨-, e2, -⟩ := am_do_end hdo
        cases h
        rw [e2]
        exact ⟨rfl, rfl⟩
theorem am_cv_nl {o i M : Nat} (h : am_cv o i = some M) : M ≠ am_law := by
  unfold am_cv at h
  obtain ⟨q, hq, he⟩ := Option.map_eq_some_iff.mp h
  have h1 : am_cvl.all (fun q => !Nat.beq q.2.2.1 am_law) = true := by decide +kernel
  have h2 := List.all_eq_true.mp h1 q (List.mem_of_find?_eq_some hq)
  rw [he] at h2
  intro e
  rw [e] at h2
  exact absurd h2 (by decide)
theorem am_cs_nl {o i M : Nat} (h : am_cs o i = some M) : M ≠ am_law := by
  unfold am_cs at h
  obtain ⟨q, hq, he⟩ := Option.map_eq_some_iff.mp h
  have h1 : am_csl.all (fun q => !Nat.beq q.2.2.1 am_law) = true := by decide +kernel
  have h2 := List.all_eq_true.mp h1 q (List.mem_of_find?_eq_some hq)
  rw [he] at h2
  intro e
  rw [e] at h2
  exact absurd h2 (by decide)

theorem am_preS {s : State} {H : Heap} {N : Nat} {dC : Nat → ClassId} {dI : Nat → Nat → Nat} {cI cB : ClassId} {ad : Nat → Nat} {as : List Value} {I A : am_F} {G : am_G} {A0 : Nat → Prop} (hK : va_K (dC, dI) vwCl [(cI, .int), (cB, .byte)] s) (hP : va_P (dC, dI) vwCl (am_w N cI cB ad I A G) H) (hD : va_D A0 (am_w N cI cB ad I A G)) (hN : ∀ w ∈ am_nest, va_Nw w s) : PreS s H (am_Pc N dC dI cI cB ad as I A G H.size) (as.map (am_co ad)) := by
  refine ⟨fun a U g mk q => ?_, fun U hU hW => ?_⟩
  · obtain ⟨q0, q1, qP, qK, qD, qN⟩ := q
    exact ⟨q0, q1, qP, va_K.moved (u := U) (U := U.calling g mk a) (Vm.Alike.refl U.vm) qK, qD, am_nest_same (s := U) (U := U.calling g mk a) rfl qN⟩
  · exact ⟨rfl, by rw [hU], by rw [hU]; exact hP, va_K.moved hW.alike hK, hD.weaken fun _ _ _ _ => trivial, am_nest_warm hW hN⟩
set_option maxHeartbeats 4000000 in
theorem am_all (l : Launch) (n : Nat) : am_sound l n := by
  induction n with
  | zero =>
    unfold am_sound
    intro p e R s m args below meth c cells slots Q dC dI cI cB ad N A0 H0 M pc L S I A G r ls H locs h
    cases h
  | succ n ih =>
    unfold am_sound
    intro p e R s m args below meth c cells slots Q dC dI cI cB ad N A0 H0 M pc L S I A G r ls H locs h X hK hscr hl hP hD hS hA kf
    replace h : am_stp N (am_x N n) (M, pc, L, S, I, A, G) = some r := h
    unfold am_stp at h
    cases hdo : am_do N (M, pc, L, S, I, A, G) with
    | none => rw [hdo] at h; cases h
    | some q =>
      rw [hdo] at h
      rcases q with d | ⟨d, d2⟩ | v
      · refine am_s1 X hK hscr hl hP hD hS (d := d) ?_ hdo
        intro M' pc' L' S' I' A' G' hd ls' H' locs' hl' hscr' hP' hD' hS'
        have hM : M' = M := by
          have := (am_do_kp hdo).1
          rw [hd] at this
          exact this
        subst hM
        subst hd
        exact ih h X hK hscr' hl' hP' hD' hS' hA kf
      · obtain ⟨M', k, as, rest, rfl, rfl, hfit, hcall⟩ := am_do_call hdo
        obtain ⟨v, h1, h2⟩ := Option.bind_eq_some_iff.mp (show (am_x N n _).bind _ = some r from h)
        obtain ⟨f1, f2, f3, f4, f5⟩ := am_fit_i hfit
        obtain ⟨k1, k2⟩ := am_x_kp _ _ _ _ _ _ _ _ _ h1
        have X0 := X
        obtain ⟨hx, hb, hml, hown, hts, hnst, hfr, hlo, hc0, hs0⟩ := X
        have hFA : ∀ q, va_A (am_w N cI cB ad I A G) H.size q → A0 q := by
          rintro q (⟨k, e, hk⟩ | hq)
          · exact hD.2 k (q, e) hk
          · exact hA q (Nat.le_trans hS.1 hq)
        have hgo : ∀ (H1 : Heap) (locs1 : List Loc), va_P (dC, dI) vwCl (am_w N cI cB ad v.2.1 v.2.2.1 v.2.2.2) H1 → va_D A0 (am_w N cI cB ad v.2.1 v.2.2.1 v.2.2.2) → va_S A0 H0 H1 locs1 → W p l e R s m args below meth c H1 locs1 cells slots Q (F0 m (pc + 3) ls ((am_rv ad v.1).toList ++ rest.map (am_co ad))) := by
          intro H1 locs1 hP1 hD1 hS1
          rw [← am_push_rv]
          exact ih (show am_x N n (M, pc + 3, L, am_push v.1 rest, v.2.1, v.2.2.1, v.2.2.2) = some r from h2) X0 hK (hscr.to k1 k2) hl hP1 hD1 hS1 hA kf
        rcases hcall with ⟨hdg, hcs, hlen, rfl⟩ | ⟨a, as', hdg, hcv, rfl, hlen, rfl, hO⟩
        · obtain ⟨g1, g2, g3⟩ := am_cs_ok hcs
          have hMet := am_met_of ih g3 (am_cs_nl hcs) ⟨f4, f5⟩ h1 dC dI cI cB ad H.size
          obtain ⟨m1, m2, m3, m4, m5⟩ := g3
          rcases g1 with g1 | g1
          · refine am_callgo (st0 := (as.reverse ++ rest).map (am_co ad)) (rest := rest.map (am_co ad)) (va_runS (As := as.map (am_co ad)) (Ts := lw_g) ⟨hx, hb, hml, hown, hts⟩ hMet ⟨callB_of (am_np M') hts (am_goodIn m1) rfl rfl rfl (hts _ m2) (hts _ g1) m4 ⟨Nat.le_trans f2 hfr, Nat.le_trans f3 hlo⟩, hts _ g2⟩ (am_preS hK hP hD hnst) rfl (by rw [List.length_map]; exact hlen) hl.1 ?_ ?_ hdg ⟨hc0, hs0⟩) hS hFA hFA hgo
            · show (as.reverse ++ rest).map (am_co ad) = _
              rw [List.map_append, List.map_reverse]
            · show 2 * 0 + ((rest.map (am_co ad)).map fun v => v.category).sum ≤ 8
              rw [am_cat_co]
              omega
          · refine am_callgo (st0 := (as.reverse ++ rest).map (am_co ad)) (rest := rest.map (am_co ad)) (va_runSN (As := as.map (am_co ad)) (Ts := lw_g) ⟨hx, hb, hml, hown, hts⟩ hMet ⟨va_cnB (am_np M') hts (am_goodIn m1) rfl rfl rfl (hnst _ g1) (hts _ m2) m4 ⟨Nat.le_trans f2 hfr, Nat.le_trans f3 hlo⟩, hts _ g2, trivial⟩ (am_preS hK hP hD hnst) rfl (by rw [List.length_map]; exact hlen) hl.1 ?_ ?_ hdg ⟨hc0, hs0⟩) hS hFA hFA hgo
            · show (as.reverse ++ rest).map (am_co ad) = _
              rw [List.map_append, List.map_reverse]
            · show 2 * 0 + ((rest.map (am_co ad)).map fun v => v.category).sum ≤ 8
              rw [am_cat_co]
              omega
        · obtain ⟨g1, g2, g4, g3, T0, n0, g5⟩ := am_cv_ok hcv
          have hMet := am_met_of ih g3 (am_cv_nl hcv) ⟨f4, f5⟩ h1 dC dI cI cB ad H.size
          obtain ⟨m1, m2, m3, m4, m5⟩ := g3
          obtain ⟨ha, hca⟩ := am_isO_i hO
          have hrecv := va_recv hK hP g5 (q0 := a) (by rw [am_w_at ha, am_ce_obj hca])
          have hpre := am_preS (as := .ref a :: as') hK hP hD hnst
          refine am_callgo (st0 := (as'.reverse ++ .ref a :: rest).map (am_co ad)) (rest := rest.map (am_co ad)) (va_runV (b := ad a) (C := am_cn (am_ow M')) (As := as'.map (am_co ad)) (Ts := lw_g) ⟨hx, hb, hml, hown, hts⟩ hMet ⟨callB_of (am_np M') hts (am_goodIn m1) rfl rfl rfl (hts _ m2) (hts _ g1) m4 ⟨Nat.le_trans f2 hfr, Nat.le_trans f3 hlo⟩, hts _ g2, hts _ g4⟩ ⟨hpre.1, hrecv, hpre.2⟩ rfl (by rw [List.length_map]; exact hlen) hl.1 ?_ ?_ hdg ⟨hc0, hs0⟩) hS hFA hFA hgo
          · show (as'.reverse ++ .ref a :: rest).map (am_co ad) = _
            rw [List.map_append, List.map_reverse]
            rfl
          · show 2 * 0 + ((rest.map (am_co ad)).map fun v => v.category).sum ≤ 8
            rw [am_cat_co]
            omega
      · obtain ⟨e1, e2, e3⟩ := am_do_end hdo
        cases h
        subst e1
        obtain ⟨v0, v1⟩ := r
        dsimp only at e2
        subst e2
        exact kf pc ls H locs e3 hP hD hS
