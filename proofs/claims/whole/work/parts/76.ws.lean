/-! THE CLAIM OUT OF ONE WALK OF THE LAW'S BODY. Your part is whole_start (and what it stands on); all else here is the same for every law, but numbers. -/
def R_law : String := "CaveBreathLaw"
def lw_P (b : Addr) (xs : List Int32) (args : Array Value) (s : State) : Prop := args = #[.ref b] ∧ s.IntsAt b xs ∧ xs.length ≤ 2048 ∧ (Jvm.Cond.and given_1 narrow_1).before args s = true
def lw_Q (_ : Array Value) (s : State) (o : Outcome) (t : State) : Prop := o = .returned (some (.int 1)) ∧ Framed s o t [] 86 1703
def lw_Z (below : List Frame) (a : Array Value) (s : State) : State → Prop := fun t => ∃ o, t.status = .running ∧ Ended t below o ∧ lw_Q a s o t
/-- the law's own end, with 1 on the stack, nothing written that was there before, its room as the claim has it -/
theorem lw_ret {p : Program} {l : Launch} {e : Env} {s : State} {m : MethodId} {below : List Frame} {meth : Method} {c : Code} {b : Nat} (hx : p.tables.exec = Jvm.exec) (hb : c.code = code) (hr : meth.sig.returnType = ret) (hlocks : meth.locks = false) {pc : Nat} {H : Heap} {ls : Array Slot} (hdg : decode code pc = .ok (.ireturn, 1)) : W p l e room_1 s m #[Value.ref b] below meth c H [] 86 1703 (lw_Z below #[Value.ref b] s) (F0 m pc ls [.int 1]) := by
  intro T hT X
  obtain ⟨fs, hret, hrun, hended, hW, hframe⟩ := X.leave (v := some (.int 1)) (hlocks := hlocks) (fun h => by rw [hr] at h; cases h)
  have hmeth' : T.vm.method? m = some meth := X.method'
  refine ⟨T.setFrames fs, ?_, .returned (some (.int 1)), hrun, hended, rfl, ⟨_, rfl⟩, hW, hframe⟩
  jvm_step X.here [X.here.top, hx, hb, hdg, hmeth', hr, ret, narrow_b1]
  (try refine ⟨rfl, ?_⟩); (try refine ⟨rfl, ?_⟩)
  first | (intro acts; rw [hret _ acts rfl rfl rfl]) | rw [hret _ _ rfl rfl rfl]
  exact Steps.refl _
/-- what holds at the law's entry: the machine, the code, the tables' words (any of lw_tbl by 'hts w (by decide +kernel)'), the script of L ints xs at the cell b, what the Statement gives of the start (any of its parts by flat_of_before) -/
def lw_At (p : Program) (s : State) (m : MethodId) (meth : Method) (c : Code) (b L : Nat) (xs : Nat → Int32) : Prop :=
  p.tables.exec = Jvm.exec ∧ c.code = code ∧ meth.sig.returnType = ret ∧ c.maxLocals = 4 ∧ s.vm.findClass R_law = some m.cls ∧ (∀ w ∈ lw_tbl, w.before #[Value.ref b] s = true) ∧ va_X b L xs s s.heap ∧ b < s.heap.size ∧ meth.locks = false ∧ (Jvm.Cond.and given_1 narrow_1).before #[Value.ref b] s = true
theorem lwd_0 : decode code 0 = .ok (.new 7, 3) := by decide +kernel
theorem lwd_3 : decode code 3 = .ok (.dup, 1) := by decide +kernel
theorem lwd_4 : decode code 4 = .ok (.invokespecial 9, 3) := by decide +kernel
theorem lwd_7 : decode code 7 = .ok (.astore_n 1, 1) := by decide +kernel
theorem lwd_8 : decode code 8 = .ok (.new 10, 3) := by decide +kernel
theorem lwd_11 : decode code 11 = .ok (.dup, 1) := by decide +kernel
theorem lwd_12 : decode code 12 = .ok (.invokespecial 12, 3) := by decide +kernel
theorem lwd_15 : decode code 15 = .ok (.astore_n 2, 1) := by decide +kernel
theorem lwd_16 : decode code 16 = .ok (.iconst 0, 1) := by decide +kernel
theorem lwd_17 : decode code 17 = .ok (.istore_n 3, 1) := by decide +kernel
theorem lw_nestin : ∀ w ∈ am_nest, w ∈ lw_tbl := by decide +kernel
theorem lw_neston : am_nest.all (fun w => w.onTables) = true := by decide +kernel
theorem lw_w6 : Cond.code yX6_init cX6_init 1 none ∈ lw_g := am_gw 54 (by decide +kernel) (by decide +kernel)
theorem lw_w7 : Cond.code yX7_init cX7_init 1 none ∈ lw_g := am_gw 653 (by decide +kernel) (by decide +kernel)
theorem lw_l6 : Cond.methodLink RL 9 yX6_init ∈ lw_g := am_gw 52 (by decide +kernel) (by decide +kernel)
theorem lw_l7 : Cond.methodLink RL 12 yX7_init ∈ lw_g := am_gw 651 (by decide +kernel) (by decide +kernel)
theorem lw_c6 : Cond.classLink RL 7 RX6 ∈ lw_g := am_gw 50 (by decide +kernel) (by decide +kernel)
theorem lw_c7 : Cond.classLink RL 10 RX7 ∈ lw_g := am_gw 649 (by decide +kernel) (by decide +kernel)
theorem lw_i6 : Cond.instanceMethod yX6_init ∈ lw_g := am_gw 53 (by decide +kernel) (by decide +kernel)
theorem lw_i7 : Cond.instanceMethod yX7_init ∈ lw_g := am_gw 652 (by decide +kernel) (by decide +kernel)
theorem lw_z6 : Cond.initialized RX6 ∈ lw_g := am_gw 38 (by decide +kernel) (by decide +kernel)
theorem lw_z7 : Cond.initialized RX7 ∈ lw_g := am_gw 46 (by decide +kernel) (by decide +kernel)
theorem lw_n0 : Cond.instantiable RX0 5 ∈ lw_g := am_gw 255 (by decide +kernel) (by decide +kernel)
theorem lw_n1 : Cond.instantiable RX1 4 ∈ lw_g := am_gw 232 (by decide +kernel) (by decide +kernel)
theorem lw_n2 : Cond.instantiable RX2 18 ∈ lw_g := am_gw 80 (by decide +kernel) (by decide +kernel)
theorem lw_n3 : Cond.instantiable RX3 4 ∈ lw_g := am_gw 59 (by decide +kernel) (by decide +kernel)
theorem lw_n4 : Cond.instantiable RX4 5 ∈ lw_g := am_gw 206 (by decide +kernel) (by decide +kernel)
theorem lw_n5 : Cond.instantiable RX5 7 ∈ lw_g := am_gw 86 (by decide +kernel) (by decide +kernel)
theorem lw_n6 : Cond.instantiable RX6 11 ∈ lw_g := am_gw 51 (by decide +kernel) (by decide +kernel)
theorem lw_n7 : Cond.instantiable RX7 33 ∈ lw_g := am_gw 650 (by decide +kernel) (by decide +kernel)
theorem lw_good {y : MethodName} {b : ByteArray} (h : Cond.code y b 1 none ∈ lw_g) : GoodIn lw_g (ct_ws y b) := by
  intro w hw
  rcases List.mem_cons.mp hw with rfl | hw
  · exact ⟨h, am_good _ h⟩
  · exact ⟨hw, am_good _ hw⟩
theorem ct_f6 : ∀ j, j < 11 → defaultValue (tyX6 j) = vp_V [.null, .int 0, .null, .null, .null, .null, .null, .null, .int 0, .null, .null] j := fun j hj => match j, hj with
  | 0, _ => rfl
  | 1, _ => rfl
  | 2, _ => rfl
  | 3, _ => rfl
  | 4, _ => rfl
  | 5, _ => rfl
  | 6, _ => rfl
  | 7, _ => rfl
  | 8, _ => rfl
  | 9, _ => rfl
  | 10, _ => rfl
  | _ + 11, h => absurd h (by omega)
theorem ct_f7 : ∀ j, j < 33 → defaultValue (tyX7 j) = vp_V [.int 0, .null, .int 0, .int 0, .int 0, .int 0, .null, .null, .null, .int 0, .int 0, .null, .null, .null, .int 0, .int 0, .null, .int 0, .int 0, .int 0, .null, .int 0, .null, .int 0, .int 0, .int 0, .int 0, .null, .null, .null, .null, .null, .null] j := fun j hj => match j, hj with
  | 0, _ => rfl
  | 1, _ => rfl
  | 2, _ => rfl
  | 3, _ => rfl
  | 4, _ => rfl
  | 5, _ => rfl
  | 6, _ => rfl
  | 7, _ => rfl
  | 8, _ => rfl
  | 9, _ => rfl
  | 10, _ => rfl
  | 11, _ => rfl
  | 12, _ => rfl
  | 13, _ => rfl
  | 14, _ => rfl
  | 15, _ => rfl
  | 16, _ => rfl
  | 17, _ => rfl
  | 18, _ => rfl
  | 19, _ => rfl
  | 20, _ => rfl
  | 21, _ => rfl
  | 22, _ => rfl
  | 23, _ => rfl
  | 24, _ => rfl
  | 25, _ => rfl
  | 26, _ => rfl
  | 27, _ => rfl
  | 28, _ => rfl
  | 29, _ => rfl
  | 30, _ => rfl
  | 31, _ => rfl
  | 32, _ => rfl
  | _ + 33, h => absurd h (by omega)
theorem lw_kn {s : State} {args : Array Value} (hg : ∀ w ∈ lw_g, w.before args s = true) : ∃ (dC : Nat → ClassId) (dI : Nat → Nat → Nat), ∀ (k : Nat) (q : vw_C), vwCl[k]? = some q → u_Kn s q.1 q.2.1 q.2.2 (dC k) (dI k) := by
  obtain ⟨c0, i0, h0⟩ := u_known (n := 5) hg am_cl_0.1 (hg _ lw_n0)
  obtain ⟨c1, i1, h1⟩ := u_known (n := 4) hg am_cl_1.1 (hg _ lw_n1)
  obtain ⟨c2, i2, h2⟩ := u_known (n := 18) hg am_cl_2.1 (hg _ lw_n2)
  obtain ⟨c3, i3, h3⟩ := u_known (n := 4) hg am_cl_3.1 (hg _ lw_n3)
  obtain ⟨c4, i4, h4⟩ := u_known (n := 5) hg am_cl_4.1 (hg _ lw_n4)
  obtain ⟨c5, i5, h5⟩ := u_known (n := 7) hg am_cl_5.1 (hg _ lw_n5)
  obtain ⟨c6, i6, h6⟩ := u_known (n := 11) hg am_cl_6.1 (hg _ lw_n6)
  obtain ⟨c7, i7, h7⟩ := u_known (n := 33) hg am_cl_7.1 (hg _ lw_n7)
  refine ⟨fun k => match k with
    | 0 => c0
    | 1 => c1
    | 2 => c2
    | 3 => c3
    | 4 => c4
    | 5 => c5
    | 6 => c6
    | _ => c7, fun k => match k with
    | 0 => i0
    | 1 => i1
    | 2 => i2
    | 3 => i3
    | 4 => i4
    | 5 => i5
    | 6 => i6
    | _ => i7, fun k q hq => ?_⟩
  match k, hq with
  | 0, hq => cases hq; exact h0
  | 1, hq => cases hq; exact h1
  | 2, hq => cases hq; exact h2
  | 3, hq => cases hq; exact h3
  | 4, hq => cases hq; exact h4
  | 5, hq => cases hq; exact h5
  | 6, hq => cases hq; exact h6
  | 7, hq => cases hq; exact h7
  | k + 8, hq => cases hq
theorem lw_arI {s : State} {args : Array Value} (h : (Cond.arrayClass .int).before args s = true) : ∃ cA, ArrOfT s cA .int ∧ va_RA s cA .int := by
  obtain ⟨cA, kA, comp, h1, h2, h3⟩ := Cond.arrayClass_spec h
  exact ⟨cA, fun n z => ⟨fun k h => (by cases h), kA, h2, comp, h3⟩, h1⟩
theorem lw_arB {s : State} {args : Array Value} (h : (Cond.arrayClass .byte).before args s = true) : ∃ cA, ArrOfT s cA .byte ∧ va_RA s cA .byte := by
  obtain ⟨cA, kA, comp, h1, h2, h3⟩ := Cond.arrayClass_spec h
  exact ⟨cA, fun n z => ⟨fun k h => (by cases h), kA, h2, comp, h3⟩, h1⟩
theorem lw_wl {cI cB : ClassId} {ad : Nat → Nat} {I A : am_F} {G : am_G} : (am_w 69 cI cB ad I A G).length = 69 := by unfold am_w; rw [List.length_map, List.length_range]
set_option maxHeartbeats 4000000 in
set_option maxRecDepth 100000 in
/-- from the law's loop on -/
theorem lw_end {p : Program} {e : Env} {s : State} {m : MethodId} {below : List Frame} {meth : Method} {c : Code} {l : Launch} {b L : Nat} {xs : Nat → Int32} {dC : Nat → ClassId} {dI : Nat → Nat → Nat} {cI cB : ClassId} {ad : Nat → Nat} {v : am_V} {H : Heap} {locs : List Loc} {ls : Array Slot} (hF : x6_F v) (hL : L ≤ 2048) (C0 : lw_At p s m meth c b L xs) (hnst : ∀ w ∈ am_nest, va_Nw w s) (hK : va_K (dC, dI) vwCl [(cI, .int), (cB, .byte)] s) (hab : ad 86 = b) (hP : va_P (dC, dI) vwCl (am_w 86 cI cB ad (IM v L) (AM v xs) v.2.2.2) H) (hD : va_D (fun q : Nat => s.heap.size ≤ q) (am_w 86 cI cB ad (IM v L) (AM v xs) v.2.2.2)) (hS : va_S (fun q : Nat => s.heap.size ≤ q) s.heap H locs) (hl : lv_has ls 4 [(3, .int 0), (2, .ref (ad 69)), (1, .ref (ad 0)), (0, .ref b)]) : W p l e room_1 s m #[Value.ref b] below meth c H locs 86 1703 (lw_Z below #[Value.ref b] s) (F0 m 18 ls []) := by
  obtain ⟨hx, hb, hr, hml, hown, hts, hX, hbl, hlocks, hgv⟩ := C0
  have hi86 : IM v L 86 0 = nI L := by unfold IM; rw [if_neg (by decide), if_pos rfl, if_pos rfl]
  have ha86 : AM v xs 86 = xs := by unfold AM; rw [if_neg (by decide), if_pos rfl]
  obtain ⟨I', A', G', he⟩ := law_loop hL 513 0 0 (IM v L) (AM v xs) v.2.2.2 (by omega) (by omega) (by omega) hi86 (li_0 hF L xs)
  obtain ⟨n, hn⟩ := am_ev_iff.mp (show am_ev 86 (133, 18, [.ref 86, .ref 0, .ref 69, .int (nI 0)], [], IM v L, AM v xs, v.2.2.2) = some (.int 1, I', A', G') from he)
  refine am_all l n (S := []) (ad := ad) (A0 := fun q : Nat => s.heap.size ≤ q) (H0 := s.heap) hn ⟨hx, hb, hml, hown, fun w h => hts w (List.mem_filter.mp h).1, hnst, Nat.le_of_ble_eq_true rfl, Nat.le_of_ble_eq_true rfl, Nat.le_refl _, Nat.le_refl _⟩ hK (fun _ => ⟨L, xs, by rw [hab]; exact hX, by rw [hab]; exact hbl, by rw [hab]; exact Nat.not_le.mpr hbl, by omega, hi86, fun j => by rw [ha86]⟩) ?_ hP hD hS (fun _ h => h) ?_
  · refine ⟨hl.1, hl.2.1, fun i w h1 h2 => ?_, fun _ w hw => ?_⟩
    · match i, h1 with
      | 0, h1 => cases h1; show _ = some (Slot.val (.ref (ad 86))); rw [hab]; exact lv_at hl 3 rfl
      | 1, h1 => cases h1; exact lv_at hl 2 rfl
      | 2, h1 => cases h1; exact lv_at hl 1 rfl
      | 3, h1 => cases h1; exact lv_at hl 0 rfl
      | i + 4, h1 => cases h1
    · simp only [List.mem_cons, List.not_mem_nil, or_false] at hw
      rcases hw with rfl | rfl | rfl | rfl <;> rfl
  · intro pc' ls' H' locs' hfi hP' hD' hS'
    refine va_forget (fun q hq => hS'.2.2 q hq) ?_
    rcases hfi with ⟨h1, -⟩ | ⟨x, ty, h1, h2, h3, h4⟩ | ⟨a, n, h1, -⟩
    · cases h1
    · exact lw_ret hx hb hr hlocks h4
    · cases h1
set_option maxHeartbeats 4000000 in
set_option maxRecDepth 100000 in
/-- from the entry, for every script of at most 2048 ints, the law comes to its end with true -/
theorem whole_start {p : Program} {e : Env} {s : State} {m : MethodId} {below : List Frame} {meth : Method} {c : Code} (l : Launch) (hflags : l.flags = flags0) {b L : Nat} {xs : Nat → Int32} (hL : L ≤ 2048) (C0 : lw_At p s m meth c b L xs) : W p l e room_1 s m #[Value.ref b] below meth c s.heap [] 0 0 (lw_Z below #[Value.ref b] s) (entryFrame m ([Value.ref b] : List Value).toArray 4) := by
  obtain ⟨hx, hb, hr, hml, hown, hts, hX, hbl, hlocks, hgv⟩ := id C0
  have hg : ∀ w ∈ lw_g, w.before #[Value.ref b] s = true := fun w h => hts w (List.mem_filter.mp h).1
  have hnst : ∀ w ∈ am_nest, va_Nw w s := fun w h => va_Nw.of (List.all_eq_true.mp lw_neston w h) (hts w (lw_nestin w h))
  have hA : ∀ q : Nat, s.heap.size ≤ q → (fun q : Nat => s.heap.size ≤ q) q := fun _ h => h
  obtain ⟨dC, dI, hKc⟩ := lw_kn hg
  obtain ⟨cI, hI1, hI2⟩ := lw_arI (hg _ ct_aI)
  obtain ⟨cB, hB1, hB2⟩ := lw_arB (hg _ ct_aB)
  have hK : va_K (dC, dI) vwCl [(cI, .int), (cB, .byte)] s := ⟨hKc, fun k q h => by
    match k, h with
    | 0, h => cases h; exact ⟨hI1, hI2⟩
    | 1, h => cases h; exact ⟨hB1, hB2⟩
    | k + 2, h => cases h⟩
  have hS : va_S (fun q : Nat => s.heap.size ≤ q) s.heap s.heap [] := va_S.rf
  have hP : va_P (dC, dI) vwCl [] s.heap := fun k q h => by simp at h
  have hD : va_D (fun q : Nat => s.heap.size ≤ q) [] := ⟨fun i j p q h => by simp at h, fun k q h => by simp at h⟩
  have hl := lv_entry ([.ref b]) (n := 4) (Nat.le_of_ble_eq_true rfl)
  rw [lg_entry_eq]
  generalize (lg_sl ([.ref b]) ++ List.replicate (4 - (lg_sl ([.ref b])).length) Slot.unset).toArray = ls at hl ⊢
  have hl : lv_has ls 4 [(0, .ref b)] := hl
  have hF := x6_F4
  have hM6 := fun q z => ct_X6 l dC dI cI cB q z
  generalize x6_4 = v at hF hM6
  refine va_new (ci := 6) (fs := [.null, .int 0, .null, .null, .null, .null, .null, .null, .int 0, .null, .null]) (C := RX6) (T := TX6) (N := 11) hx hb hg am_cl_6.1 tyX6 tyX6_ok hown (hg _ lw_c6) (hg _ lw_n6) (hg _ lw_z6) hK hP hD hS hA rfl ct_f6 (Nat.le_of_ble_eq_true rfl) (Nat.le_of_ble_eq_true rfl) lwd_0 (fun q6 H hP hD hS => ?_)
  have hP : va_P (dC, dI) vwCl [(q6, .inr (6, [.null, .int 0, .null, .null, .null, .null, .null, .null, .int 0, .null, .null]))] H := hP
  have hD : va_D (fun q : Nat => s.heap.size ≤ q) [(q6, .inr (6, [.null, .int 0, .null, .null, .null, .null, .null, .null, .int 0, .null, .null]))] := hD
  refine lv_dup hx hb lwd_3 rfl ?_
  have hFc := va_free (wc := [(q6, .inr (6, [.null, .int 0, .null, .null, .null, .null, .null, .null, .int 0, .null, .null]))]) hD hS hA [0] rfl
  refine va_callv (va_runI (As := []) (rest := [.ref q6]) (b := q6) (Ts := lw_g) ⟨hx, hb, hml, hown, hg⟩ (hM6 q6 H.size) (cwI 0 hg (lw_good lw_w6) rfl rfl rfl (hg _ lw_z6) (hg _ lw_l6) (hg _ lw_i6) rfl ⟨by decide +kernel, by decide +kernel, by decide +kernel⟩ ⟨Nat.le_of_ble_eq_true rfl, Nat.le_of_ble_eq_true rfl⟩) (ct_pre hK hP hD hnst) rfl rfl hl.1 rfl (lv_room (Nat.le_of_ble_eq_true rfl)) lwd_4 ⟨Nat.le_of_ble_eq_true rfl, Nat.le_of_ble_eq_true rfl⟩) hS (fun q _ h => hFc q h) hFc (fun ad6 t H1 locs ht hvm hw6 hB hz1 hk1 hS => ?_)
  obtain ⟨hP1, hK1, hD1⟩ := hB
  rw [ht] at hP1
  obtain ⟨hP, hD⟩ := va_join (wr := []) (w1 := am_w 69 cI cB ad6 v.2.1 v.2.2.1 v.2.2.2) hP hD [0] [] rfl rfl (by decide) (by decide) hk1 hFc hP1 hD1
  replace hP : va_P (dC, dI) vwCl (am_w 69 cI cB ad6 v.2.1 v.2.2.1 v.2.2.2) H1 := hP
  replace hD : va_D (fun q : Nat => s.heap.size ≤ q) (am_w 69 cI cB ad6 v.2.1 v.2.2.1 v.2.2.2) := hD
  clear hP1 hD1 hFc hM6
  refine W.widen (k := 69) (n := 1004) (Nat.le_of_ble_eq_true rfl) (Nat.le_of_ble_eq_true rfl) ?_
  refine lv_astore_n (lv' := [(1, .ref q6), (0, .ref b)]) hx hb lwd_7 rfl hl (by decide) rfl (fun ls hl => ?_)
  refine va_new (ci := 7) (fs := [.int 0, .null, .int 0, .int 0, .int 0, .int 0, .null, .null, .null, .int 0, .int 0, .null, .null, .null, .int 0, .int 0, .null, .int 0, .int 0, .int 0, .null, .int 0, .null, .int 0, .int 0, .int 0, .int 0, .null, .null, .null, .null, .null, .null]) (C := RX7) (T := TX7) (N := 33) hx hb hg am_cl_7.1 tyX7 tyX7_ok hown (hg _ lw_c7) (hg _ lw_n7) (hg _ lw_z7) hK hP hD hS hA rfl ct_f7 (Nat.le_of_ble_eq_true rfl) (Nat.le_of_ble_eq_true rfl) lwd_8 (fun q7 H2 hP hD hS => ?_)
  refine lv_dup hx hb lwd_11 rfl ?_
  have hPc : va_P (dC, dI) vwCl [(q7, .inr (7, [.int 0, .null, .int 0, .int 0, .int 0, .int 0, .null, .null, .null, .int 0, .int 0, .null, .null, .null, .int 0, .int 0, .null, .int 0, .int 0, .int 0, .null, .int 0, .null, .int 0, .int 0, .int 0, .int 0, .null, .null, .null, .null, .null, .null]))] H2 := hP.sub [(am_w 69 cI cB ad6 v.2.1 v.2.2.1 v.2.2.2).length] (by
    show List.filterMap _ [_] = _
    rw [List.filterMap_cons, List.getElem?_append_right (Nat.le_refl _), Nat.sub_self]
    rfl)
  have hDc : va_D (fun q : Nat => s.heap.size ≤ q) [(q7, .inr (7, [.int 0, .null, .int 0, .int 0, .int 0, .int 0, .null, .null, .null, .int 0, .int 0, .null, .null, .null, .int 0, .int 0, .null, .int 0, .int 0, .int 0, .null, .int 0, .null, .int 0, .int 0, .int 0, .int 0, .null, .null, .null, .null, .null, .null]))] := hD.sub [(am_w 69 cI cB ad6 v.2.1 v.2.2.1 v.2.2.2).length] rfl ct_l
  have hFc := va_free (wc := [(q7, .inr (7, [.int 0, .null, .int 0, .int 0, .int 0, .int 0, .null, .null, .null, .int 0, .int 0, .null, .null, .null, .int 0, .int 0, .null, .int 0, .int 0, .int 0, .null, .int 0, .null, .int 0, .int 0, .int 0, .int 0, .null, .null, .null, .null, .null, .null]))]) hD hS hA [(am_w 69 cI cB ad6 v.2.1 v.2.2.1 v.2.2.2).length] ct_l
  refine va_callv (va_runI (As := []) (rest := [.ref q7]) (b := q7) (Ts := lw_g) ⟨hx, hb, hml, hown, hg⟩ (ct_X7 l dC dI cI cB q7 H2.size) (cwI 0 hg (lw_good lw_w7) rfl rfl rfl (hg _ lw_z7) (hg _ lw_l7) (hg _ lw_i7) rfl ⟨by decide +kernel, by decide +kernel, by decide +kernel⟩ ⟨Nat.le_of_ble_eq_true rfl, Nat.le_of_ble_eq_true rfl⟩) (ct_pre hK hPc hDc hnst) rfl rfl hl.1 rfl (lv_room (Nat.le_of_ble_eq_true rfl)) lwd_12 ⟨Nat.le_of_ble_eq_true rfl, Nat.le_of_ble_eq_true rfl⟩) hS (fun q _ h => hFc q h) hFc (fun ad7 t2 H3 locs3 ht2 hvm2 hw7 hB2 hz2 hk2 hS => ?_)
  obtain ⟨hP1, hK1, hD1⟩ := hB2
  rw [ht2] at hP1
  obtain ⟨hPz, hDz⟩ := va_join (wr := am_w 69 cI cB ad6 v.2.1 v.2.2.1 v.2.2.2) (w1 := mw cI cB ad7 I7 A7 G00) hP hD [(am_w 69 cI cB ad6 v.2.1 v.2.2.1 v.2.2.2).length] (List.range (am_w 69 cI cB ad6 v.2.1 v.2.2.1 v.2.2.2).length) ct_l ct_r (ct_nd _) (fun i hi hi2 => by
    have h1 := List.mem_range.mp hi
    have h2 := List.mem_singleton.mp hi2
    omega) hk2 hFc hP1 hD1
  rw [x67_w hF cI cB ad6 ad7 b L xs] at hPz hDz
  clear hP1 hD1 hFc hPc hDc
  have e0 : (fun x => if x < 69 then ad6 x else if x = 86 then b else ad7 x) 0 = q6 := hw6
  have e69 : (fun x => if x < 69 then ad6 x else if x = 86 then b else ad7 x) 69 = q7 := hw7
  have e86 : (fun x => if x < 69 then ad6 x else if x = 86 then b else ad7 x) 86 = b := rfl
  generalize (fun x => if x < 69 then ad6 x else if x = 86 then b else ad7 x) = ad at hPz hDz e0 e69 e86
  refine W.widen (k := 86) (n := 1703) (Nat.le_of_ble_eq_true rfl) (Nat.le_of_ble_eq_true rfl) ?_
  refine lv_astore_n (lv' := [(2, .ref q7), (1, .ref q6), (0, .ref b)]) hx hb lwd_15 rfl hl (by decide) rfl (fun ls hl => ?_)
  refine lv_iconst (v := 0) hx hb lwd_16 (by decide) ?_
  refine lv_istore_n (lv' := [(3, .int 0), (2, .ref q7), (1, .ref q6), (0, .ref b)]) hx hb lwd_17 rfl hl (by decide) rfl (fun ls hl => ?_)
  subst e0 e69
  exact lw_end hF hL C0 hnst hK e86 hPz hDz hS hl
