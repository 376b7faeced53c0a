/-! ===== one step; which instructions only go on ===== -/
def am_nl (q : am_Q) : Prop := ∀ x, q ≠ some (.inr x)
theorem am_nl_no : am_nl none := fun _ h => by cases h
theorem am_nl_go {M pc : Nat} {L S : List Value} {I A : am_F} {R : am_G} : am_nl (am_go M pc L S I A R) := fun _ h => by cases h
theorem am_nl_p1 {S : List Value} {f : Int32 → List Value → am_Q} (h : ∀ v0 v1, am_nl (f v0 v1)) : am_nl (am_p1 S f) := by
  unfold am_p1; split
  · exact h _ _
  · exact am_nl_no
theorem am_nl_p2 {S : List Value} {f : Int32 → Int32 → List Value → am_Q} (h : ∀ v0 v1 v2, am_nl (f v0 v1 v2)) : am_nl (am_p2 S f) := by
  unfold am_p2; split
  · exact h _ _ _
  · exact am_nl_no
theorem am_nl_q1 {S : List Value} {f : Int64 → List Value → am_Q} (h : ∀ v0 v1, am_nl (f v0 v1)) : am_nl (am_q1 S f) := by
  unfold am_q1; split
  · exact h _ _
  · exact am_nl_no
theorem am_nl_q2 {S : List Value} {f : Int64 → Int64 → List Value → am_Q} (h : ∀ v0 v1 v2, am_nl (f v0 v1 v2)) : am_nl (am_q2 S f) := by
  unfold am_q2; split
  · exact h _ _ _
  · exact am_nl_no
theorem am_nl_qs {S : List Value} {f : Int64 → Int32 → List Value → am_Q} (h : ∀ v0 v1 v2, am_nl (f v0 v1 v2)) : am_nl (am_qs S f) := by
  unfold am_qs; split
  · exact h _ _ _
  · exact am_nl_no
theorem am_nl_pr {S : List Value} {f : Nat → List Value → am_Q} (h : ∀ v0 v1, am_nl (f v0 v1)) : am_nl (am_pr S f) := by
  unfold am_pr; split
  · exact h _ _
  · exact am_nl_no
theorem am_nl_pa {S : List Value} {f : Nat → Int32 → List Value → am_Q} (h : ∀ v0 v1 v2, am_nl (f v0 v1 v2)) : am_nl (am_pa S f) := by
  unfold am_pa; split
  · exact h _ _ _
  · exact am_nl_no
theorem am_nl_ps {S : List Value} {f : Nat → Int32 → Int32 → List Value → am_Q} (h : ∀ v0 v1 v2 v3, am_nl (f v0 v1 v2 v3)) : am_nl (am_ps S f) := by
  unfold am_ps; split
  · exact h _ _ _ _
  · exact am_nl_no
theorem am_nl_pf {S : List Value} {f : Nat → Value → List Value → am_Q} (h : ∀ v0 v1 v2, am_nl (f v0 v1 v2)) : am_nl (am_pf S f) := by
  unfold am_pf; split
  · exact h _ _ _
  · exact am_nl_no
theorem am_nl_gi {L : List Value} {i : Nat} {f : Int32 → am_Q} (h : ∀ x, am_nl (f x)) : am_nl (am_gi L i f) := by
  unfold am_gi; split
  · exact h _
  · exact am_nl_no
theorem am_nl_gl {L : List Value} {i : Nat} {f : Int64 → am_Q} (h : ∀ x, am_nl (f x)) : am_nl (am_gl L i f) := by
  unfold am_gl; split
  · exact h _
  · exact am_nl_no
theorem am_nl_gr {L : List Value} {i : Nat} {f : Nat → am_Q} (h : ∀ x, am_nl (f x)) : am_nl (am_gr L i f) := by
  unfold am_gr; split
  · exact h _
  · exact am_nl_no
theorem am_nl_at {pc : Nat} {off : Int} {f : Nat → am_Q} (h : ∀ t, am_nl (f t)) : am_nl (am_at pc off f) := by
  unfold am_at; split
  · exact h _
  · exact am_nl_no
theorem am_nl_br {op : Jvm.ClassFile.Cond} {x y : Int32} {t f : am_Q} (ht : am_nl t) (hf : am_nl f) : am_nl (am_br op x y t f) := by
  cases op <;> (unfold am_br; dsimp only; split <;> assumption)
theorem am_nl_ix {n : Nat} {i : Int32} {q : am_Q} (h : am_nl q) : am_nl (am_ix n i q) := by
  unfold am_ix; split
  · exact am_nl_no
  · exact h
theorem am_nl_sw {pc : Nat} {f : Nat → am_Q} {d : Int} {x : Int32} (h : ∀ t, am_nl (f t)) : ∀ (os : List Int) (lo : Int), am_nl (am_sw pc f d x lo os)
  | [], lo => am_nl_at h
  | o :: os, lo => by
    unfold am_sw; split
    · exact am_nl_at h
    · exact am_nl_sw h os _
theorem am_nl_sl {pc : Nat} {f : Nat → am_Q} {d : Int} {x : Int32} (h : ∀ t, am_nl (f t)) : ∀ (os : List (Int × Int)), am_nl (am_sl pc f d x os)
  | [] => am_nl_at h
  | (v, o) :: os => by
    unfold am_sl; split
    · exact am_nl_at h
    · exact am_nl_sl h os
theorem am_nl_put {M pc : Nat} {L : List Value} {I A : am_F} {R : am_G} {a c j : Nat} {v : Value} {S : List Value} : am_nl (am_put M pc L I A R a c j v S) := by
  unfold am_put
  repeat' split
  all_goals first | exact am_nl_go | exact am_nl_no
theorem am_nl_copy {N M pc : Nat} {L S : List Value} {I A : am_F} {R : am_G} : am_nl (am_copy N M pc L S I A R) := by
  unfold am_copy
  repeat' split
  all_goals first | exact am_nl_go | exact am_nl_no
def am_calls (i : Jvm.ClassFile.Instr) : Bool := match i with
  | .invokevirtual _ => true
  | .invokestatic _ => true
  | .ireturn => true
  | .areturn => true
  | .return_ => true
  | _ => false
set_option maxHeartbeats 4000000 in
theorem am_nl_in {N M pc : Nat} {i : Jvm.ClassFile.Instr} {L S : List Value} {I A : am_F} {R : am_G} (hi : am_calls i = false) : am_nl (am_in N M pc i L S I A R) := by
  cases i <;> first
    | exact am_nl_no
    | exact am_nl_go
    | exact absurd hi (by decide)
    | (cases hi; done)
    | (unfold am_in; dsimp only; repeat' first
        | exact am_nl_no
        | exact am_nl_go
        | exact am_nl_put
        | refine am_nl_p1 fun _ _ => ?_
        | refine am_nl_p2 fun _ _ _ => ?_
        | refine am_nl_q1 fun _ _ => ?_
        | refine am_nl_q2 fun _ _ _ => ?_
        | refine am_nl_qs fun _ _ _ => ?_
        | refine am_nl_pr fun _ _ => ?_
        | refine am_nl_pa fun _ _ _ => ?_
        | refine am_nl_ps fun _ _ _ _ => ?_
        | refine am_nl_pf fun _ _ _ => ?_
        | refine am_nl_gi fun _ => ?_
        | refine am_nl_gl fun _ => ?_
        | refine am_nl_gr fun _ => ?_
        | refine am_nl_at fun _ => ?_
        | refine am_nl_br ?_ ?_
        | refine am_nl_ix ?_
        | refine am_nl_sw (fun _ => am_nl_go) _ _
        | refine am_nl_sl (fun _ => am_nl_go) _
        | split)
theorem am_call_i {M M' pc : Nat} {L as rest : List Value} {I A : am_F} {R : am_G} {q} (h : am_call M M' pc L as rest I A R = some q) : am_fit M M' as rest = true ∧ q = .inr (.inl ((M', 0, am_ent as (am_l M'), [], I, A, R), (M, pc + 3, L, rest, I, A, R))) := by
  unfold am_call at h
  split at h
  · rename_i hf; exact ⟨hf, (Option.some.inj h).symm⟩
  · cases h
theorem am_cast_i {N M pc : Nat} {L S : List Value} {I A : am_F} {R : am_G} {M' : Nat} {q} (h : am_cast N M pc L S I A R M' = some q) : am_sc M' = true ∧ am_np M' ≤ S.length ∧ am_call M M' pc L (S.take (am_np M')).reverse (S.drop (am_np M')) I A R = some q := by
  unfold am_cast at h
  split at h
  · rename_i hf; exact ⟨hf.1, hf.2, h⟩
  · cases h
theorem am_cavi_i {N M pc : Nat} {L S : List Value} {I A : am_F} {R : am_G} {M' : Nat} {q} (h : am_cavi N M pc L S I A R M' = some q) : ∃ a rest, S.drop (am_np M') = .ref a :: rest ∧ am_isO N a (am_ow M') = true ∧ am_call M M' pc L (.ref a :: (S.take (am_np M')).reverse) rest I A R = some q := by
  unfold am_cavi at h
  split at h
  · rename_i a rest hd
    split at h
    · rename_i hf; exact ⟨a, rest, hd, hf.2, h⟩
    · cases h
  · cases h
theorem am_ret_i {M : Nat} {S : List Value} {I A : am_F} {R : am_G} {q} (h : am_ret M S I A R = some q) : ∃ v ty, S = [.int v] ∧ q = .inr (.inr (.int v, I, A, R)) ∧ am_rt M = some ty ∧ narrow ty (.int v) = .int v := by
  unfold am_ret at h
  split at h
  · split at h
    · rename_i hr; cases h; exact ⟨_, _, rfl, rfl, hr, rfl⟩
    · rename_i hr
      split at h
      · rename_i hv
        cases h
        refine ⟨_, _, rfl, rfl, hr, ?_⟩
        rcases hv with rfl | rfl <;> rfl
      · cases h
    · cases h
  · cases h
theorem am_rtr_i {M : Nat} {S : List Value} {I A : am_F} {R : am_G} {q} (h : am_rtr M S I A R = some q) : ∃ v n, S = [.ref v] ∧ q = .inr (.inr (.ref v, I, A, R)) ∧ am_rt M = some (.object n) := by
  unfold am_rtr at h
  split at h
  · split at h
    · rename_i hr; cases h; exact ⟨_, _, rfl, rfl, hr⟩
    · cases h
  · cases h
theorem am_rtv_i {M : Nat} {S : List Value} {I A : am_F} {R : am_G} {q} (h : am_rtv M S I A R = some q) : S = [] ∧ q = .inr (.inr (.null, I, A, R)) ∧ am_rt M = none := by
  unfold am_rtv at h
  split at h
  · split at h
    · rename_i hr; cases h; exact ⟨rfl, rfl, hr⟩
    · cases h
  · cases h
section AMS2
variable {p : Program} {l : Launch} {e : Env} {R : Room} {s : State} {m : MethodId} {args : Array Value} {below : List Frame} {meth : Method} {c : Code} {cells slots : Nat} {Q : State → Prop}
variable {dC : Nat → ClassId} {dI : Nat → Nat → Nat} {cI cB : ClassId} {ad : Nat → Nat} {N : Nat} {A0 : Nat → Prop} {H0 : Heap}
variable {M pc : Nat} {L S : List Value} {I A : am_F} {G : am_G} {d : am_C} {ls : Array Slot} {H : Heap} {locs : List Loc}
theorem am_s_copy (X : am_cx p R s m args c cells slots M) (hK : va_K (dC, dI) vwCl [(cI, .int), (cB, .byte)] s) (hscr : am_scr M N ad I A s H0 A0) (hl : am_ls ad (am_lg M) (am_l M) ls L) (hP : va_P (dC, dI) vwCl (am_w N cI cB ad I A G) H) (hD : va_D A0 (am_w N cI cB ad I A G)) (hS : va_S A0 H0 H locs) (kk : am_kk p l e R s m args below meth c cells slots Q dC dI cI cB ad N A0 H0 d) {k : Nat} (hcp : am_cp (am_ow M) k = true) (hdg : decode (am_b M) pc = .ok (.invokestatic k, 3)) (hd : am_copy N M pc L S I A G = some (.inl d)) : W p l e R s m args below meth c H locs cells slots Q (F0 m pc ls (S.map (am_co ad))) := by
  obtain ⟨hx, hb, hml, hown, hts, hnst, hfr, hlo, hc0, hs0⟩ := X
  unfold am_copy at hd
  split at hd
  · rename_i n dp b sp a
    split at hd
    · rename_i hb1
      simp only [Bool.and_eq_true] at hb1
      split at hd
      · rename_i n0 n1 hca hcb
        split at hd
        · rename_i hh
          cases hd
          obtain ⟨g1, g2, g3, g4, g5⟩ := hh
          have hbN : b ≠ N := Nat.ne_of_lt (am_blt hb1.2)
          refine va_copyi (f := A a) (g := A b) (n0 := n0) (n1 := n1) (c0 := cI) (c1 := cI) (a0 := ad a) (a := ad b) (ty := .int) hx hb (by rw [hml]; exact hl.1.symm) hown (hts _ (am_cp_ok hcp)) (hts _ am_cpn.1) (hts _ am_cpn.2.1) (hts _ am_cpn.2.2) hK hP hD hS a b 0 0 (by rw [am_w_at (am_blt hb1.1.2), am_ce_arr hca]; rfl) (by rw [am_w_at (am_blt hb1.2), am_ce_arr hcb]; rfl) rfl rfl rfl g1 g2 g3 g4 g5 (fun _ _ => rfl) (Nat.le_trans (Nat.le_of_ble_eq_true hb1.1.1.1) hfr) (Nat.le_trans (Nat.le_of_ble_eq_true hb1.1.1.2) hlo) hdg (fun H1 locs1 hP1 hD1 hS1 => ?_)
          have he : (am_w N cI cB ad I A G).set b (ad b, .inl ((if false = true then cB else cI), n1, .inl (va_cpy (A a) (A b) sp.toNatClampNeg dp.toNatClampNeg n.toNatClampNeg))) = am_w N cI cB ad I (am_ur A b (va_cpy (A a) (A b) sp.toNatClampNeg dp.toNatClampNeg n.toNatClampNeg)) G := am_w_set (am_ce_row fun j hj => if_neg hj) (by rw [am_ce_arr hcb]; first | rw [if_pos rfl] | (unfold am_ur; rw [if_pos rfl]))
          have hP1 : va_P (dC, dI) vwCl ((am_w N cI cB ad I A G).set b (ad b, .inl ((if false = true then cB else cI), n1, .inl (va_cpy (A a) (A b) sp.toNatClampNeg dp.toNatClampNeg n.toNatClampNeg)))) H1 := hP1
          have hD1 : va_D A0 ((am_w N cI cB ad I A G).set b (ad b, .inl ((if false = true then cB else cI), n1, .inl (va_cpy (A a) (A b) sp.toNatClampNeg dp.toNatClampNeg n.toNatClampNeg)))) := hD1
          rw [he] at hP1 hD1
          exact kk _ _ _ _ _ _ _ rfl ls H1 locs1 hl (hscr.to rfl (if_neg hbN.symm)) hP1 hD1 hS1
        · cases hd
      · cases hd
    · cases hd
  · cases hd
set_option maxHeartbeats 4000000 in
theorem am_s1 (X : am_cx p R s m args c cells slots M) (hK : va_K (dC, dI) vwCl [(cI, .int), (cB, .byte)] s) (hscr : am_scr M N ad I A s H0 A0) (hl : am_ls ad (am_lg M) (am_l M) ls L) (hP : va_P (dC, dI) vwCl (am_w N cI cB ad I A G) H) (hD : va_D A0 (am_w N cI cB ad I A G)) (hS : va_S A0 H0 H locs) (kk : am_kk p l e R s m args below meth c cells slots Q dC dI cI cB ad N A0 H0 d) (hd : am_do N (M, pc, L, S, I, A, G) = some (.inl d)) : W p l e R s m args below meth c H locs cells slots Q (F0 m pc ls (S.map (am_co ad))) := by
  unfold am_do at hd
  dsimp only at hd
  cases hdg : decode (am_b M) pc with
  | error er => rw [hdg] at hd; cases hd
  | ok q =>
    obtain ⟨i, n⟩ := q
    rw [hdg] at hd
    dsimp only at hd
    split at hd
    · rename_i hn
      cases i <;> first
        | exact absurd (show (none : am_Q) = some (.inl d) from hd) (fun h => by cases h)
        | skip
      case iconst => have hn := Nat.eq_of_beq_eq_true (show Nat.beq n 1 = true from hn); subst hn; exact am_s_iconst X hK hscr hl hP hD hS kk hdg hd
      case lconst => have hn := Nat.eq_of_beq_eq_true (show Nat.beq n 1 = true from hn); subst hn; exact am_s_lconst X hK hscr hl hP hD hS kk hdg hd
      case iload_n => have hn := Nat.eq_of_beq_eq_true (show Nat.beq n 1 = true from hn); subst hn; exact am_s_iload_n X hK hscr hl hP hD hS kk hdg hd
      case lload_n => have hn := Nat.eq_of_beq_eq_true (show Nat.beq n 1 = true from hn); subst hn; exact am_s_lload_n X hK hscr hl hP hD hS kk hdg hd
      case aload_n => have hn := Nat.eq_of_beq_eq_true (show Nat.beq n 1 = true from hn); subst hn; exact am_s_aload_n X hK hscr hl hP hD hS kk hdg hd
      case istore_n => have hn := Nat.eq_of_beq_eq_true (show Nat.beq n 1 = true from hn); subst hn; exact am_s_istore_n X hK hscr hl hP hD hS kk hdg hd
      case astore_n => have hn := Nat.eq_of_beq_eq_true (show Nat.beq n 1 = true from hn); subst hn; exact am_s_astore_n X hK hscr hl hP hD hS kk hdg hd
      case lstore_n => have hn := Nat.eq_of_beq_eq_true (show Nat.beq n 1 = true from hn); subst hn; exact am_s_lstore_n X hK hscr hl hP hD hS kk hdg hd
      case iadd => have hn := Nat.eq_of_beq_eq_true (show Nat.beq n 1 = true from hn); subst hn; exact am_s_iadd X hK hscr hl hP hD hS kk hdg hd
      case isub => have hn := Nat.eq_of_beq_eq_true (show Nat.beq n 1 = true from hn); subst hn; exact am_s_isub X hK hscr hl hP hD hS kk hdg hd
      case imul => have hn := Nat.eq_of_beq_eq_true (show Nat.beq n 1 = true from hn); subst hn; exact am_s_imul X hK hscr hl hP hD hS kk hdg hd
      case iand => have hn := Nat.eq_of_beq_eq_true (show Nat.beq n 1 = true from hn); subst hn; exact am_s_iand X hK hscr hl hP hD hS kk hdg hd
      case ior => have hn := Nat.eq_of_beq_eq_true (show Nat.beq n 1 = true from hn); subst hn; exact am_s_ior X hK hscr hl hP hD hS kk hdg hd
      case ixor => have hn := Nat.eq_of_beq_eq_true (show Nat.beq n 1 = true from hn); subst hn; exact am_s_ixor X hK hscr hl hP hD hS kk hdg hd
      case ishl => have hn := Nat.eq_of_beq_eq_true (show Nat.beq n 1 = true from hn); subst hn; exact am_s_ishl X hK hscr hl hP hD hS kk hdg hd
      case ishr => have hn := Nat.eq_of_beq_eq_true (show Nat.beq n 1 = true from hn); subst hn; exact am_s_ishr X hK hscr hl hP hD hS kk hdg hd
      case iushr => have hn := Nat.eq_of_beq_eq_true (show Nat.beq n 1 = true from hn); subst hn; exact am_s_iushr X hK hscr hl hP hD hS kk hdg hd
      case idiv => have hn := Nat.eq_of_beq_eq_true (show Nat.beq n 1 = true from hn); subst hn; exact am_s_idiv X hK hscr hl hP hD hS kk hdg hd
      case irem => have hn := Nat.eq_of_beq_eq_true (show Nat.beq n 1 = true from hn); subst hn; exact am_s_irem X hK hscr hl hP hD hS kk hdg hd
      case ladd => have hn := Nat.eq_of_beq_eq_true (show Nat.beq n 1 = true from hn); subst hn; exact am_s_ladd X hK hscr hl hP hD hS kk hdg hd
      case lmul => have hn := Nat.eq_of_beq_eq_true (show Nat.beq n 1 = true from hn); subst hn; exact am_s_lmul X hK hscr hl hP hD hS kk hdg hd
      case land => have hn := Nat.eq_of_beq_eq_true (show Nat.beq n 1 = true from hn); subst hn; exact am_s_land X hK hscr hl hP hD hS kk hdg hd
      case lor => have hn := Nat.eq_of_beq_eq_true (show Nat.beq n 1 = true from hn); subst hn; exact am_s_lor X hK hscr hl hP hD hS kk hdg hd
      case ldiv => have hn := Nat.eq_of_beq_eq_true (show Nat.beq n 1 = true from hn); subst hn; exact am_s_ldiv X hK hscr hl hP hD hS kk hdg hd
      case lrem => have hn := Nat.eq_of_beq_eq_true (show Nat.beq n 1 = true from hn); subst hn; exact am_s_lrem X hK hscr hl hP hD hS kk hdg hd
      case lshl => have hn := Nat.eq_of_beq_eq_true (show Nat.beq n 1 = true from hn); subst hn; exact am_s_lshl X hK hscr hl hP hD hS kk hdg hd
      case lshr => have hn := Nat.eq_of_beq_eq_true (show Nat.beq n 1 = true from hn); subst hn; exact am_s_lshr X hK hscr hl hP hD hS kk hdg hd
      case lushr => have hn := Nat.eq_of_beq_eq_true (show Nat.beq n 1 = true from hn); subst hn; exact am_s_lushr X hK hscr hl hP hD hS kk hdg hd
      case i2l => have hn := Nat.eq_of_beq_eq_true (show Nat.beq n 1 = true from hn); subst hn; exact am_s_i2l X hK hscr hl hP hD hS kk hdg hd
      case l2i => have hn := Nat.eq_of_beq_eq_true (show Nat.beq n 1 = true from hn); subst hn; exact am_s_l2i X hK hscr hl hP hD hS kk hdg hd
      case i2b => have hn := Nat.eq_of_beq_eq_true (show Nat.beq n 1 = true from hn); subst hn; exact am_s_i2b X hK hscr hl hP hD hS kk hdg hd
      case dup => have hn := Nat.eq_of_beq_eq_true (show Nat.beq n 1 = true from hn); subst hn; exact am_s_dup X hK hscr hl hP hD hS kk hdg hd
      case dup2 => have hn := Nat.eq_of_beq_eq_true (show Nat.beq n 1 = true from hn); subst hn; exact am_s_dup2 X hK hscr hl hP hD hS kk hdg hd
      case pop => have hn := Nat.eq_of_beq_eq_true (show Nat.beq n 1 = true from hn); subst hn; exact am_s_pop X hK hscr hl hP hD hS kk hdg hd
      case iaload => have hn := Nat.eq_of_beq_eq_true (show Nat.beq n 1 = true from hn); subst hn; exact am_s_iaload X hK hscr hl hP hD hS kk hdg hd
      case baload => have hn := Nat.eq_of_beq_eq_true (show Nat.beq n 1 = true from hn); subst hn; exact am_s_baload X hK hscr hl hP hD hS kk hdg hd
      case iastore => have hn := Nat.eq_of_beq_eq_true (show Nat.beq n 1 = true from hn); subst hn; exact am_s_iastore X hK hscr hl hP hD hS kk hdg hd
      case bastore => have hn := Nat.eq_of_beq_eq_true (show Nat.beq n 1 = true from hn); subst hn; exact am_s_bastore X hK hscr hl hP hD hS kk hdg hd
      case arraylength => have hn := Nat.eq_of_beq_eq_true (show Nat.beq n 1 = true from hn); subst hn; exact am_s_arraylength X hK hscr hl hP hD hS kk hdg hd
      case bipush => have hn := Nat.eq_of_beq_eq_true (show Nat.beq n 2 = true from hn); subst hn; exact am_s_bipush X hK hscr hl hP hD hS kk hdg hd
      case ldc => have hn := Nat.eq_of_beq_eq_true (show Nat.beq n 2 = true from hn); subst hn; exact am_s_ldc X hK hscr hl hP hD hS kk hdg hd
      case iload => have hn := Nat.eq_of_beq_eq_true (show Nat.beq n 2 = true from hn); subst hn; exact am_s_iload X hK hscr hl hP hD hS kk hdg hd
      case lload => have hn := Nat.eq_of_beq_eq_true (show Nat.beq n 2 = true from hn); subst hn; exact am_s_lload X hK hscr hl hP hD hS kk hdg hd
      case istore => have hn := Nat.eq_of_beq_eq_true (show Nat.beq n 2 = true from hn); subst hn; exact am_s_istore X hK hscr hl hP hD hS kk hdg hd
      case lstore => have hn := Nat.eq_of_beq_eq_true (show Nat.beq n 2 = true from hn); subst hn; exact am_s_lstore X hK hscr hl hP hD hS kk hdg hd
      case sipush => have hn := Nat.eq_of_beq_eq_true (show Nat.beq n 3 = true from hn); subst hn; exact am_s_sipush X hK hscr hl hP hD hS kk hdg hd
      case ldc_w => have hn := Nat.eq_of_beq_eq_true (show Nat.beq n 3 = true from hn); subst hn; exact am_s_ldc_w X hK hscr hl hP hD hS kk hdg hd
      case ldc2_w => have hn := Nat.eq_of_beq_eq_true (show Nat.beq n 3 = true from hn); subst hn; exact am_s_ldc2_w X hK hscr hl hP hD hS kk hdg hd
      case iinc => have hn := Nat.eq_of_beq_eq_true (show Nat.beq n 3 = true from hn); subst hn; exact am_s_iinc X hK hscr hl hP hD hS kk hdg hd
      case goto => have hn := Nat.eq_of_beq_eq_true (show Nat.beq n 3 = true from hn); subst hn; exact am_s_goto X hK hscr hl hP hD hS kk hdg hd
      case ifCond => have hn := Nat.eq_of_beq_eq_true (show Nat.beq n 3 = true from hn); subst hn; exact am_s_ifCond X hK hscr hl hP hD hS kk hdg hd
      case if_icmp => have hn := Nat.eq_of_beq_eq_true (show Nat.beq n 3 = true from hn); subst hn; exact am_s_if_icmp X hK hscr hl hP hD hS kk hdg hd
      case getfield => have hn := Nat.eq_of_beq_eq_true (show Nat.beq n 3 = true from hn); subst hn; exact am_s_getfield X hK hscr hl hP hD hS kk hdg hd
      case putfield => have hn := Nat.eq_of_beq_eq_true (show Nat.beq n 3 = true from hn); subst hn; exact am_s_putfield X hK hscr hl hP hD hS kk hdg hd
      case tableswitch => exact am_s_tableswitch X hK hscr hl hP hD hS kk hdg hd
      case lookupswitch => exact am_s_lookupswitch X hK hscr hl hP hD hS kk hdg hd
      case invokevirtual k =>
        unfold am_in at hd
        dsimp only at hd
        split at hd
        · obtain ⟨a, rest, -, -, h⟩ := am_cavi_i hd
          exact absurd (am_call_i h).2 (fun h => by cases h)
        · cases hd
      case invokestatic k =>
        have hn := Nat.eq_of_beq_eq_true (show Nat.beq n 3 = true from hn)
        subst hn
        unfold am_in at hd
        dsimp only at hd
        split at hd
        · obtain ⟨-, -, h⟩ := am_cast_i hd
          exact absurd (am_call_i h).2 (fun h => by cases h)
        · split at hd
          · rename_i hmn
            replace hd := am_p2_i hd
            obtain ⟨x, y, S', rfl, hd⟩ := hd
            split at hd
            · rename_i hr
              rw [Bool.and_eq_true] at hr
              cases hd
              obtain ⟨hx, hb, hml, hown, hts, hnst, hfr, hlo, hc0, hs0⟩ := X
              exact va_mmin hx hb (by rw [hml]; exact hl.1.symm) hown (hts _ (am_mn_ok hmn)) (hts _ am_mnn.1) (hts _ am_mnn.2.1) (hts _ am_mnn.2.2) (Nat.le_trans (Nat.le_of_ble_eq_true hr.1) hfr) (by
                have h1 := Nat.le_of_ble_eq_true hr.2
                have h2 : ((S'.map (am_co ad)).map fun v => v.category).sum = am_cat S' := by
                  unfold am_cat
                  rw [List.map_map]
                  congr 1
                  exact List.map_congr_left fun v _ => am_co_cat ad v
                rw [h2]
                exact Nat.le_trans h1 hlo) hc0 hs0 hdg (kk _ _ _ _ _ _ _ rfl ls H locs hl hscr hP hD hS)
            · cases hd
          · split at hd
            · rename_i hcp
              exact am_s_copy X hK hscr hl hP hD hS kk hcp hdg hd
            · cases hd
      case ireturn => obtain ⟨v, ty, -, h, -⟩ := am_ret_i hd; cases h
      case areturn => obtain ⟨v, n, -, h, -⟩ := am_rtr_i hd; cases h
      case return_ => obtain ⟨-, h, -⟩ := am_rtv_i hd; cases h
    · cases hd
end AMS2
