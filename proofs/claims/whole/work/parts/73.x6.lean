/-! ===== CaveBreath's constructor: the runs of its tail, over its own 69 cells ===== -/
def x6_go (M : Nat) (as : List Value) (d : am_V) : Option am_V := am_x 69 4000 (M, 0, am_ent as (am_l M), [], d.2.1, d.2.2.1, d.2.2.2)
def x6_0 : am_V := (.null, I00, I00, G00)
def x6_1 : am_V := (x6_go 5 [.ref 5] x6_0).getD x6_0
def x6_2 : am_V := (x6_go 9 [.ref 5, .int 10, .int 0, .int 0] x6_1).getD x6_0
def x6_3 : am_V := (x6_go 14 [.ref 5] x6_2).getD x6_0
def x6_4 : am_V := (x6_go 24 [.ref 45, .int 0] x6_3).getD x6_0
theorem x6_sm {α : Type} {o : Option α} {d : α} (h : o.isSome = true) : o = some (o.getD d) := by
  cases o with
  | none => cases h
  | some x => rfl
theorem x6_e1 : x6_go 5 [.ref 5] x6_0 = some x6_1 := x6_sm (by decide +kernel)
theorem x6_e2 : x6_go 9 [.ref 5, .int 10, .int 0, .int 0] x6_1 = some x6_2 := x6_sm (by decide +kernel)
theorem x6_e3 : x6_go 14 [.ref 5] x6_2 = some x6_3 := x6_sm (by decide +kernel)
theorem x6_e4 : x6_go 24 [.ref 45, .int 0] x6_3 = some x6_4 := x6_sm (by decide +kernel)
theorem x6_g1 : x6_1.2.2.2 0 3 = 5 := by decide +kernel
theorem x6_g2 : x6_2.2.2.2 0 3 = 5 := by decide +kernel
theorem x6_g3 : x6_3.2.2.2 0 3 = 5 := by decide +kernel
theorem x6_v1 : am_rv (fun x => x) x6_1.1 = none := by decide +kernel
theorem x6_v2 : am_rv (fun x => x) x6_2.1 = some (.int 1) := by decide +kernel
theorem x6_v3 : am_rv (fun x => x) x6_3.1 = none := by decide +kernel
theorem x6_v4 : am_rv (fun x => x) x6_4.1 = none := by decide +kernel
theorem x6_d3 : x6_3.2.1 5 10 = 0 := by decide +kernel
theorem x6_rn {v : Value} {ad : Nat → Nat} (h : am_rv (fun x => x) v = none) : am_rv ad v = none := by
  cases v <;> first | rfl | cases h
theorem x6_ri {v : Value} {ad : Nat → Nat} {x : Int32} (h : am_rv (fun x => x) v = some (.int x)) : am_rv ad v = some (.int x) := by
  cases v <;> first | exact h | cases h
section CV
variable {p : Program} {l : Launch} {e : Env} {R : Room} {s : State} {m : MethodId} {args : Array Value} {below : List Frame} {meth : Method} {c : Code} {H : Heap} {locs : List Loc} {cells slots : Nat} {Q : State → Prop} {pc : Nat} {ls : Array Slot} {rest : List Value} {cc : ByteArray}
variable {dC : Nat → ClassId} {dI : Nat → Nat → Nat} {cI cB : ClassId} {A0 : Nat → Prop} {H0 : Heap} {ad : Nat → Nat} {N : Nat} {I A : am_F} {G : am_G}
theorem ct_get (hexec : p.tables.exec = Jvm.exec) (hb : c.code = cc) {o ix c0 j a w : Nat} {own : String} {v : Value} (hcn : am_cn o = own) (hown : s.vm.findClass own = some m.cls) (hts : ∀ w ∈ lw_g, w.before args s = true) (ha : a < N) (hO : am_cell a = .inr c0) (hfd : am_fdP (o, ix, c0, j, w)) (hK : va_K (dC, dI) vwCl [(cI, .int), (cB, .byte)] s) (hP : va_P (dC, dI) vwCl (am_w N cI cB ad I A G) H) (hv : am_co ad (am_fv I G a c0 j) = v) (hdg : decode cc pc = .ok (.getfield ix, 3))
    (kk : W p l e R s m args below meth c H locs cells slots Q (F0 m (pc + 3) ls (v :: rest))) : W p l e R s m args below meth c H locs cells slots Q (F0 m pc ls (.ref (ad a) :: rest)) := by
  obtain ⟨C, T, n, h1, h2, h3⟩ := hfd
  dsimp only at h1 h2 h3
  rw [hcn] at h3
  have hn : am_nf c0 = n := by unfold am_nf; rw [h1]
  exact va_get (D := (dC, dI)) hexec hb hts (am_cl_ok h1).1 hown hK hP a (by rw [am_w_at ha, am_ce_obj hO]) h1 j h2 (hts _ h3) (fun _ h => h) (v := v) (by rw [List.getElem?_map, List.getElem?_range (by rw [hn]; exact h2), ← hv]; rfl) hdg kk
/-- a call of a machine's method over the cells made so far -/
theorem ct_cv (hexec : p.tables.exec = Jvm.exec) (hb : c.code = cc) (hml : c.maxLocals = 1) {n o k M' a : Nat} {own : String} {as' : List Value} {v : am_V} (hcn : am_cn o = own) (hown : s.vm.findClass own = some m.cls) (hts : ∀ w ∈ lw_g, w.before args s = true) (hnst : ∀ w ∈ am_nest, va_Nw w s) (hcv : am_cvP (o, k, M', 0, 0, 0, 0, 0)) (hnl : M' ≠ am_law) (hO : am_isO N a (am_ow M') = true) (hlen : as'.length = am_np M') (f1 : (rest.map fun v => v.category).sum ≤ 8) (f2 : am_fr M' + 1 ≤ R.frames) (f3 : 8 + (am_l M' + 11) + am_lo M' ≤ R.locals) (f4 : (am_lay (.ref a :: as')).length ≤ am_l M') (f5 : (am_lg M' || (Value.ref a :: as').all (fun v => Nat.beq v.category 1)) = true) (h1 : am_x N n (M', 0, am_ent (.ref a :: as') (am_l M'), [], I, A, G) = some v)
    (hK : va_K (dC, dI) vwCl [(cI, .int), (cB, .byte)] s) (hP : va_P (dC, dI) vwCl (am_w N cI cB ad I A G) H) (hD : va_D A0 (am_w N cI cB ad I A G)) (hS : va_S A0 H0 H locs) (hA : ∀ q, H0.size ≤ q → A0 q) (hls : ls.size = 1) (hc0 : cells ≤ R.cells) (hs0 : slots ≤ R.slots) (hdg : decode cc pc = .ok (.invokevirtual k, 3)) {st : List Value} (hst : st = (as'.map (am_co ad)).reverse ++ .ref (ad a) :: rest)
    (kk : ∀ (H1 : Heap) (locs1 : List Loc), va_P (dC, dI) vwCl (am_w N cI cB ad v.2.1 v.2.2.1 v.2.2.2) H1 → va_D A0 (am_w N cI cB ad v.2.1 v.2.2.1 v.2.2.2) → va_S A0 H0 H1 locs1 → W p l e R s m args below meth c H1 locs1 cells slots Q (F0 m (pc + 3) ls ((am_rv ad v.1).toList ++ rest))) : W p l e R s m args below meth c H locs cells slots Q (F0 m pc ls st) := by
  obtain ⟨g1, g2, g4, g3, T0, n0, g5⟩ := hcv
  dsimp only at g1 g2 g3 g4 g5
  rw [hcn] at g1
  have hMet := am_met_of (am_all l n) g3 hnl ⟨f4, fun hg v hv => by
    rw [hg, Bool.false_or] at f5
    exact Nat.eq_of_beq_eq_true (List.all_eq_true.mp f5 v hv)⟩ h1 dC dI cI cB ad H.size
  obtain ⟨m1, m2, m3, m4, m5⟩ := g3
  obtain ⟨ha, hca⟩ := am_isO_i hO
  have hFA : ∀ q, va_A (am_w N cI cB ad I A G) H.size q → A0 q := by
    rintro q (⟨k, e, hk⟩ | hq)
    · exact hD.2 k (q, e) hk
    · exact hA q (Nat.le_trans hS.1 hq)
  have hrecv := va_recv hK hP g5 (q0 := a) (by rw [am_w_at ha, am_ce_obj hca])
  have hpre := am_preS (as := .ref a :: as') hK hP hD hnst
  refine am_callgo (st0 := st) (rest := rest) (va_runV (b := ad a) (C := am_cn (am_ow M')) (As := as'.map (am_co ad)) (Ts := lw_g) ⟨hexec, hb, hml, hown, hts⟩ hMet ⟨callB_of (am_np M') hts (am_goodIn m1) rfl rfl rfl (hts _ m2) (hts _ g1) m4 ⟨f2, f3⟩, hts _ g2, hts _ g4⟩ ⟨hpre.1, hrecv, hpre.2⟩ rfl (by rw [List.length_map]; exact hlen) hls hst ?_ hdg ⟨hc0, hs0⟩) hS hFA hFA kk
  show 2 * 0 + (rest.map fun v => v.category).sum ≤ 8
  omega
end CV
theorem x6_cv57 : am_cvP (6, 57, 5, 0, 0, 0, 0, 0) := ⟨am_gw 283 (by decide +kernel) (by decide +kernel), am_gw 284 (by decide +kernel) (by decide +kernel), am_gw 285 (by decide +kernel) (by decide +kernel), am_m_5, TX2, 18, rfl⟩
theorem x6_cv60 : am_cvP (6, 60, 9, 0, 0, 0, 0, 0) := ⟨am_gw 287 (by decide +kernel) (by decide +kernel), am_gw 288 (by decide +kernel) (by decide +kernel), am_gw 289 (by decide +kernel) (by decide +kernel), am_m_9, TX2, 18, rfl⟩
theorem x6_cv64 : am_cvP (6, 64, 14, 0, 0, 0, 0, 0) := am_cv_6_64
theorem x6_cv71 : am_cvP (6, 71, 24, 0, 0, 0, 0, 0) := am_cv_6_71
def x6_Q (dC : Nat → ClassId) (dI : Nat → Nat → Nat) (cI cB : ClassId) (fs : List Value) (h0 sz : Nat) (v : am_V) : Array Value → State → Outcome → State → Prop := va_Qv (fun ad : Nat → Nat => ad 0 = h0) (fun ad t => va_P (dC, dI) vwCl (am_w 69 cI cB ad v.2.1 v.2.2.1 v.2.2.2) t.heap ∧ va_K (dC, dI) vwCl [(cI, .int), (cB, .byte)] t ∧ va_D (va_A [(h0, .inr (6, fs))] sz) (am_w 69 cI cB ad v.2.1 v.2.2.1 v.2.2.2)) (va_A [(h0, .inr (6, fs))] sz)
theorem x6_w (cI cB : ClassId) (ad : Nat → Nat) : cw cI cB 0 69 ad = am_w 69 cI cB ad I00 I00 G00 := by
  unfold cw am_w
  refine List.map_congr_left (fun j _ => ?_)
  rw [Nat.zero_add]
  rfl
set_option maxHeartbeats 4000000 in
set_option maxRecDepth 100000 in
theorem ct_X6 (l : Launch) (dC : Nat → ClassId) (dI : Nat → Nat → Nat) (cI cB : ClassId) (h0 sz : Nat) : Met l yX6_init (ct_ws yX6_init cX6_init) (ct_rm 4 91 68 993) (ct_P dC dI cI cB 6 [.null, .int 0, .null, .null, .null, .null, .null, .null, .int 0, .null, .null] h0 sz) (x6_Q dC dI cI cB [.null, .int 0, .null, .null, .null, .null, .null, .null, .int 0, .null, .null] h0 sz x6_4) 68 993 (va_A [(h0, .inr (6, [.null, .int 0, .null, .null, .null, .null, .null, .null, .int 0, .null, .null]))] sz) := by
  refine Met.ofW (cc := cX6_init) (maxL := 1) (ret := none) (by decide) rfl ?_
  intro p e s m args below meth c s₁ B hml hv
  obtain ⟨rfl, hsz, hP, hK, hD0, hnst⟩ := hv
  have hx := B.exec
  have hb := B.bytes
  have hr := B.returns
  have hts0 := atoms_spec (ws := ct_ws yX6_init cX6_init) B.pre
  have hts : ∀ w ∈ lw_g, w.before _ _ = true := fun w h => hts0 w (List.mem_cons_of_mem _ h)
  have hown : s.vm.findClass RX6 = some m.cls := findClass_of_methodNamed B.named
  have hin : meth.name = "<init>" := (name_of_methodNamed B.named B.method).1
  subst hsz
  unfold x6_Q
  have hD := hD0.self (sz := s.heap.size)
  generalize hAe : va_A [(h0, .inr (6, [.null, .int 0, .null, .null, .null, .null, .null, .null, .int 0, .null, .null]))] s.heap.size = A at hD ⊢
  have hA : ∀ q : Nat, s.heap.size ≤ q → A q := fun q h => by rw [← hAe]; exact Or.inr h
  have hS : va_S A s.heap s.heap [] := va_S.rf
  have hl := lv_entry ([.ref h0]) (n := 1) (Nat.le_of_ble_eq_true rfl)
  rw [lg_entry_eq]
  generalize (lg_sl ([.ref h0]) ++ List.replicate (1 - (lg_sl ([.ref h0])).length) Slot.unset).toArray = ls at hl ⊢
  have hl : lv_has ls 1 [(0, .ref h0)] := hl
  obtain ⟨ad0, -⟩ : ∃ ad0 : Nat → Nat, True := ⟨fun _ => 0, trivial⟩
  replace hP : va_P (dC, dI) vwCl ((h0, .inr (6, [.null, .int 0, .null, .null, .null, .null, .null, .null, .int 0, .null, .null])) :: cw cI cB 1 0 ad0) s.heap := hP
  replace hD : va_D A ((h0, .inr (6, [.null, .int 0, .null, .null, .null, .null, .null, .null, .int 0, .null, .null])) :: cw cI cB 1 0 ad0) := hD
  have hH0 : s.heap = s.heap := rfl
  refine lv_aload_n hx hb dX6_init_0 rfl (lv_at hl 0 rfl) ?_
  refine W.objInit hx hb hown (hts _ (am_gw 55 (by decide +kernel) (by decide +kernel))) (hts _ ct_oi) (hts _ ct_oc) rfl (by rw [hml]; exact hl.1) rfl dX6_init_1 (Nat.le_of_ble_eq_true rfl) (Nat.le_of_ble_eq_true rfl) ?_
  refine W.eq (g2 := F0 m 4 ls []) rfl ?_
  refine lv_aload_n hx hb dX6_init_4 rfl (lv_at hl 0 rfl) ?_
  refine lv_sipush (v := 400) hx hb dX6_init_5 (by decide) ?_
  refine ct_nB (a := 1) (t := 0) (N := 400) hx hb (hts _ ct_aB) (by decide +kernel) (by decide +kernel) hK hP hD hS hA (by decide) (by decide) (by decide) (Nat.le_of_ble_eq_true rfl) (Nat.le_of_ble_eq_true rfl) dX6_init_8 (fun q1 ad1 H hw1 hq1 hP hD hS => ?_)
  refine ct_put (v := .ref q1) (ty := .array .byte) hx hb (o := 6) (C := RX6) (T := TX6) (N := 11) (k := 0) rfl rfl hown hts (am_fd_6_9) rfl hin (by decide +kernel) rfl rfl (Nat.le_of_ble_eq_true rfl) hK hP hD hS dX6_init_10 (fun H locs hP hD hS => ?_)
  replace hP : va_P (dC, dI) vwCl ((h0, .inr (6, [.ref q1, .int 0, .null, .null, .null, .null, .null, .null, .int 0, .null, .null])) :: cw cI cB 1 1 ad1) H := hP
  replace hD : va_D A ((h0, .inr (6, [.ref q1, .int 0, .null, .null, .null, .null, .null, .null, .int 0, .null, .null])) :: cw cI cB 1 1 ad1) := hD
  refine lv_aload_n hx hb dX6_init_13 rfl (lv_at hl 0 rfl) ?_
  refine ct_nO (a := 1) (t := 1) (r := 3) (ci := 3) (own := RX6) (C := RX3) (T := TX3) (N := 4) (ty := tyX3) (fs := [.null, .null, .int 0, .int 0]) (y := yX3_init) (b := cX3_init) (host := "CaveBreath") (ix := 13) (ic := 15) hx hb hml hown hts hnst rfl tyX3_ok (am_gw 58 (by decide +kernel) (by decide +kernel)) (am_gw 59 (by decide +kernel) (by decide +kernel)) (am_gw 39 (by decide +kernel) (by decide +kernel)) ct_f3 (by decide +kernel) (by decide +kernel) (fun h0 sz => ct_X3_2 l dC dI cI cB h0 sz) (am_gw 62 (by decide +kernel) (by decide +kernel)) (am_gw 61 (by decide +kernel) (by decide +kernel)) rfl rfl (by decide) ⟨by decide +kernel, by decide +kernel, by decide +kernel⟩ ⟨(Nat.le_of_ble_eq_true rfl), (Nat.le_of_ble_eq_true rfl)⟩ hK hP hD hS hA hl.1 (Nat.le_of_ble_eq_true rfl) (Nat.le_of_ble_eq_true rfl) (Nat.le_of_ble_eq_true rfl) dX6_init_14 dX6_init_17 dX6_init_18 (fun q2 ad2 H locs hw2 hq2 hP hD hS => ?_)
  refine ct_put (v := .ref q2) (ty := .object "CaveBreath$Reader") hx hb (o := 6) (C := RX6) (T := TX6) (N := 11) (k := 2) rfl rfl hown hts (am_fd_6_16) rfl hin (by decide +kernel) rfl rfl (Nat.le_of_ble_eq_true rfl) hK hP hD hS dX6_init_21 (fun H locs hP hD hS => ?_)
  replace hP : va_P (dC, dI) vwCl ((h0, .inr (6, [.ref q1, .int 0, .ref q2, .null, .null, .null, .null, .null, .int 0, .null, .null])) :: cw cI cB 1 4 ad2) H := hP
  replace hD : va_D A ((h0, .inr (6, [.ref q1, .int 0, .ref q2, .null, .null, .null, .null, .null, .int 0, .null, .null])) :: cw cI cB 1 4 ad2) := hD
  refine lv_aload_n hx hb dX6_init_24 rfl (lv_at hl 0 rfl) ?_
  refine ct_nO (a := 1) (t := 4) (r := 20) (ci := 2) (own := RX6) (C := RX2) (T := TX2) (N := 18) (ty := tyX2) (fs := [.null, .null, .null, .null, .null, .null, .null, .null, .null, .int 0, .int 0, .int 0, .int 0, .int 0, .int 0, .int 0, .int 0, .int 0]) (y := yX2_init) (b := cX2_init) (host := "CaveBreath") (ix := 20) (ic := 22) hx hb hml hown hts hnst rfl tyX2_ok (am_gw 79 (by decide +kernel) (by decide +kernel)) (am_gw 80 (by decide +kernel) (by decide +kernel)) (am_gw 40 (by decide +kernel) (by decide +kernel)) ct_f2 (by decide +kernel) (by decide +kernel) (fun h0 sz => ct_X2_5 l dC dI cI cB h0 sz) (am_gw 83 (by decide +kernel) (by decide +kernel)) (am_gw 82 (by decide +kernel) (by decide +kernel)) rfl rfl (by decide) ⟨by decide +kernel, by decide +kernel, by decide +kernel⟩ ⟨(Nat.le_of_ble_eq_true rfl), (Nat.le_of_ble_eq_true rfl)⟩ hK hP hD hS hA hl.1 (Nat.le_of_ble_eq_true rfl) (Nat.le_of_ble_eq_true rfl) (Nat.le_of_ble_eq_true rfl) dX6_init_25 dX6_init_28 dX6_init_29 (fun q3 ad3 H locs hw3 hq3 hP hD hS => ?_)
  refine ct_put (v := .ref q3) (ty := .object "CaveBreath$Plan") hx hb (o := 6) (C := RX6) (T := TX6) (N := 11) (k := 3) rfl rfl hown hts (am_fd_6_23) rfl hin (by decide +kernel) rfl rfl (Nat.le_of_ble_eq_true rfl) hK hP hD hS dX6_init_32 (fun H locs hP hD hS => ?_)
  replace hP : va_P (dC, dI) vwCl ((h0, .inr (6, [.ref q1, .int 0, .ref q2, .ref q3, .null, .null, .null, .null, .int 0, .null, .null])) :: cw cI cB 1 24 ad3) H := hP
  replace hD : va_D A ((h0, .inr (6, [.ref q1, .int 0, .ref q2, .ref q3, .null, .null, .null, .null, .int 0, .null, .null])) :: cw cI cB 1 24 ad3) := hD
  refine lv_aload_n hx hb dX6_init_35 rfl (lv_at hl 0 rfl) ?_
  refine ct_nO (a := 1) (t := 24) (r := 20) (ci := 2) (own := RX6) (C := RX2) (T := TX2) (N := 18) (ty := tyX2) (fs := [.null, .null, .null, .null, .null, .null, .null, .null, .null, .int 0, .int 0, .int 0, .int 0, .int 0, .int 0, .int 0, .int 0, .int 0]) (y := yX2_init) (b := cX2_init) (host := "CaveBreath") (ix := 20) (ic := 22) hx hb hml hown hts hnst rfl tyX2_ok (am_gw 79 (by decide +kernel) (by decide +kernel)) (am_gw 80 (by decide +kernel) (by decide +kernel)) (am_gw 40 (by decide +kernel) (by decide +kernel)) ct_f2 (by decide +kernel) (by decide +kernel) (fun h0 sz => ct_X2_25 l dC dI cI cB h0 sz) (am_gw 83 (by decide +kernel) (by decide +kernel)) (am_gw 82 (by decide +kernel) (by decide +kernel)) rfl rfl (by decide) ⟨by decide +kernel, by decide +kernel, by decide +kernel⟩ ⟨(Nat.le_of_ble_eq_true rfl), (Nat.le_of_ble_eq_true rfl)⟩ hK hP hD hS hA hl.1 (Nat.le_of_ble_eq_true rfl) (Nat.le_of_ble_eq_true rfl) (Nat.le_of_ble_eq_true rfl) dX6_init_36 dX6_init_39 dX6_init_40 (fun q4 ad4 H locs hw4 hq4 hP hD hS => ?_)
  refine ct_put (v := .ref q4) (ty := .object "CaveBreath$Plan") hx hb (o := 6) (C := RX6) (T := TX6) (N := 11) (k := 4) rfl rfl hown hts (am_fd_6_27) rfl hin (by decide +kernel) rfl rfl (Nat.le_of_ble_eq_true rfl) hK hP hD hS dX6_init_43 (fun H locs hP hD hS => ?_)
  replace hP : va_P (dC, dI) vwCl ((h0, .inr (6, [.ref q1, .int 0, .ref q2, .ref q3, .ref q4, .null, .null, .null, .int 0, .null, .null])) :: cw cI cB 1 44 ad4) H := hP
  replace hD : va_D A ((h0, .inr (6, [.ref q1, .int 0, .ref q2, .ref q3, .ref q4, .null, .null, .null, .int 0, .null, .null])) :: cw cI cB 1 44 ad4) := hD
  refine lv_aload_n hx hb dX6_init_46 rfl (lv_at hl 0 rfl) ?_
  refine ct_nO (a := 1) (t := 44) (r := 3) (ci := 4) (own := RX6) (C := RX4) (T := TX4) (N := 5) (ty := tyX4) (fs := [.int 0, .int 0, .int 0, .null, .null]) (y := yX4_init) (b := cX4_init) (host := "CaveBreath") (ix := 30) (ic := 32) hx hb hml hown hts hnst rfl tyX4_ok (am_gw 205 (by decide +kernel) (by decide +kernel)) (am_gw 206 (by decide +kernel) (by decide +kernel)) (am_gw 42 (by decide +kernel) (by decide +kernel)) ct_f4 (by decide +kernel) (by decide +kernel) (fun h0 sz => ct_X4_45 l dC dI cI cB h0 sz) (am_gw 209 (by decide +kernel) (by decide +kernel)) (am_gw 208 (by decide +kernel) (by decide +kernel)) rfl rfl (by decide) ⟨by decide +kernel, by decide +kernel, by decide +kernel⟩ ⟨(Nat.le_of_ble_eq_true rfl), (Nat.le_of_ble_eq_true rfl)⟩ hK hP hD hS hA hl.1 (Nat.le_of_ble_eq_true rfl) (Nat.le_of_ble_eq_true rfl) (Nat.le_of_ble_eq_true rfl) dX6_init_47 dX6_init_50 dX6_init_51 (fun q5 ad5 H locs hw5 hq5 hP hD hS => ?_)
  refine ct_put (v := .ref q5) (ty := .object "CaveBreath$State") hx hb (o := 6) (C := RX6) (T := TX6) (N := 11) (k := 5) rfl rfl hown hts (am_fd_6_33) rfl hin (by decide +kernel) rfl rfl (Nat.le_of_ble_eq_true rfl) hK hP hD hS dX6_init_54 (fun H locs hP hD hS => ?_)
  replace hP : va_P (dC, dI) vwCl ((h0, .inr (6, [.ref q1, .int 0, .ref q2, .ref q3, .ref q4, .ref q5, .null, .null, .int 0, .null, .null])) :: cw cI cB 1 47 ad5) H := hP
  replace hD : va_D A ((h0, .inr (6, [.ref q1, .int 0, .ref q2, .ref q3, .ref q4, .ref q5, .null, .null, .int 0, .null, .null])) :: cw cI cB 1 47 ad5) := hD
  refine lv_aload_n hx hb dX6_init_57 rfl (lv_at hl 0 rfl) ?_
  refine ct_nO (a := 1) (t := 47) (r := 3) (ci := 4) (own := RX6) (C := RX4) (T := TX4) (N := 5) (ty := tyX4) (fs := [.int 0, .int 0, .int 0, .null, .null]) (y := yX4_init) (b := cX4_init) (host := "CaveBreath") (ix := 30) (ic := 32) hx hb hml hown hts hnst rfl tyX4_ok (am_gw 205 (by decide +kernel) (by decide +kernel)) (am_gw 206 (by decide +kernel) (by decide +kernel)) (am_gw 42 (by decide +kernel) (by decide +kernel)) ct_f4 (by decide +kernel) (by decide +kernel) (fun h0 sz => ct_X4_48 l dC dI cI cB h0 sz) (am_gw 209 (by decide +kernel) (by decide +kernel)) (am_gw 208 (by decide +kernel) (by decide +kernel)) rfl rfl (by decide) ⟨by decide +kernel, by decide +kernel, by decide +kernel⟩ ⟨(Nat.le_of_ble_eq_true rfl), (Nat.le_of_ble_eq_true rfl)⟩ hK hP hD hS hA hl.1 (Nat.le_of_ble_eq_true rfl) (Nat.le_of_ble_eq_true rfl) (Nat.le_of_ble_eq_true rfl) dX6_init_58 dX6_init_61 dX6_init_62 (fun q6 ad6 H locs hw6 hq6 hP hD hS => ?_)
  refine ct_put (v := .ref q6) (ty := .object "CaveBreath$State") hx hb (o := 6) (C := RX6) (T := TX6) (N := 11) (k := 6) rfl rfl hown hts (am_fd_6_37) rfl hin (by decide +kernel) rfl rfl (Nat.le_of_ble_eq_true rfl) hK hP hD hS dX6_init_65 (fun H locs hP hD hS => ?_)
  replace hP : va_P (dC, dI) vwCl ((h0, .inr (6, [.ref q1, .int 0, .ref q2, .ref q3, .ref q4, .ref q5, .ref q6, .null, .int 0, .null, .null])) :: cw cI cB 1 50 ad6) H := hP
  replace hD : va_D A ((h0, .inr (6, [.ref q1, .int 0, .ref q2, .ref q3, .ref q4, .ref q5, .ref q6, .null, .int 0, .null, .null])) :: cw cI cB 1 50 ad6) := hD
  refine lv_aload_n hx hb dX6_init_68 rfl (lv_at hl 0 rfl) ?_
  refine ct_nO (a := 1) (t := 50) (r := 3) (ci := 4) (own := RX6) (C := RX4) (T := TX4) (N := 5) (ty := tyX4) (fs := [.int 0, .int 0, .int 0, .null, .null]) (y := yX4_init) (b := cX4_init) (host := "CaveBreath") (ix := 30) (ic := 32) hx hb hml hown hts hnst rfl tyX4_ok (am_gw 205 (by decide +kernel) (by decide +kernel)) (am_gw 206 (by decide +kernel) (by decide +kernel)) (am_gw 42 (by decide +kernel) (by decide +kernel)) ct_f4 (by decide +kernel) (by decide +kernel) (fun h0 sz => ct_X4_51 l dC dI cI cB h0 sz) (am_gw 209 (by decide +kernel) (by decide +kernel)) (am_gw 208 (by decide +kernel) (by decide +kernel)) rfl rfl (by decide) ⟨by decide +kernel, by decide +kernel, by decide +kernel⟩ ⟨(Nat.le_of_ble_eq_true rfl), (Nat.le_of_ble_eq_true rfl)⟩ hK hP hD hS hA hl.1 (Nat.le_of_ble_eq_true rfl) (Nat.le_of_ble_eq_true rfl) (Nat.le_of_ble_eq_true rfl) dX6_init_69 dX6_init_72 dX6_init_73 (fun q7 ad7 H locs hw7 hq7 hP hD hS => ?_)
  refine ct_put (v := .ref q7) (ty := .object "CaveBreath$State") hx hb (o := 6) (C := RX6) (T := TX6) (N := 11) (k := 7) rfl rfl hown hts (am_fd_6_40) rfl hin (by decide +kernel) rfl rfl (Nat.le_of_ble_eq_true rfl) hK hP hD hS dX6_init_76 (fun H locs hP hD hS => ?_)
  replace hP : va_P (dC, dI) vwCl ((h0, .inr (6, [.ref q1, .int 0, .ref q2, .ref q3, .ref q4, .ref q5, .ref q6, .ref q7, .int 0, .null, .null])) :: cw cI cB 1 53 ad7) H := hP
  replace hD : va_D A ((h0, .inr (6, [.ref q1, .int 0, .ref q2, .ref q3, .ref q4, .ref q5, .ref q6, .ref q7, .int 0, .null, .null])) :: cw cI cB 1 53 ad7) := hD
  refine lv_aload_n hx hb dX6_init_79 rfl (lv_at hl 0 rfl) ?_
  refine ct_nO (a := 1) (t := 53) (r := 4) (ci := 1) (own := RX6) (C := RX1) (T := TX1) (N := 4) (ty := tyX1) (fs := [.null, .null, .null, .int 0]) (y := yX1_init) (b := cX1_init) (host := "CaveBreath") (ix := 43) (ic := 45) hx hb hml hown hts hnst rfl tyX1_ok (am_gw 231 (by decide +kernel) (by decide +kernel)) (am_gw 232 (by decide +kernel) (by decide +kernel)) (am_gw 43 (by decide +kernel) (by decide +kernel)) ct_f1 (by decide +kernel) (by decide +kernel) (fun h0 sz => ct_X1_54 l dC dI cI cB h0 sz) (am_gw 235 (by decide +kernel) (by decide +kernel)) (am_gw 234 (by decide +kernel) (by decide +kernel)) rfl rfl (by decide) ⟨by decide +kernel, by decide +kernel, by decide +kernel⟩ ⟨(Nat.le_of_ble_eq_true rfl), (Nat.le_of_ble_eq_true rfl)⟩ hK hP hD hS hA hl.1 (Nat.le_of_ble_eq_true rfl) (Nat.le_of_ble_eq_true rfl) (Nat.le_of_ble_eq_true rfl) dX6_init_80 dX6_init_83 dX6_init_84 (fun q8 ad8 H locs hw8 hq8 hP hD hS => ?_)
  refine ct_put (v := .ref q8) (ty := .object "CaveBreath$Noses") hx hb (o := 6) (C := RX6) (T := TX6) (N := 11) (k := 9) rfl rfl hown hts (am_fd_6_46) rfl hin (by decide +kernel) rfl rfl (Nat.le_of_ble_eq_true rfl) hK hP hD hS dX6_init_87 (fun H locs hP hD hS => ?_)
  replace hP : va_P (dC, dI) vwCl ((h0, .inr (6, [.ref q1, .int 0, .ref q2, .ref q3, .ref q4, .ref q5, .ref q6, .ref q7, .int 0, .ref q8, .null])) :: cw cI cB 1 57 ad8) H := hP
  replace hD : va_D A ((h0, .inr (6, [.ref q1, .int 0, .ref q2, .ref q3, .ref q4, .ref q5, .ref q6, .ref q7, .int 0, .ref q8, .null])) :: cw cI cB 1 57 ad8) := hD
  refine lv_aload_n hx hb dX6_init_90 rfl (lv_at hl 0 rfl) ?_
  refine ct_nO (a := 1) (t := 57) (r := 11) (ci := 0) (own := RX6) (C := RX0) (T := TX0) (N := 5) (ty := tyX0) (fs := [.null, .null, .null, .null, .null]) (y := yX0_init) (b := cX0_init) (host := "CaveBreath") (ix := 50) (ic := 52) hx hb hml hown hts hnst rfl tyX0_ok (am_gw 254 (by decide +kernel) (by decide +kernel)) (am_gw 255 (by decide +kernel) (by decide +kernel)) (am_gw 44 (by decide +kernel) (by decide +kernel)) ct_f0 (by decide +kernel) (by decide +kernel) (fun h0 sz => ct_X0_58 l dC dI cI cB h0 sz) (am_gw 258 (by decide +kernel) (by decide +kernel)) (am_gw 257 (by decide +kernel) (by decide +kernel)) rfl rfl (by decide) ⟨by decide +kernel, by decide +kernel, by decide +kernel⟩ ⟨(Nat.le_of_ble_eq_true rfl), (Nat.le_of_ble_eq_true rfl)⟩ hK hP hD hS hA hl.1 (Nat.le_of_ble_eq_true rfl) (Nat.le_of_ble_eq_true rfl) (Nat.le_of_ble_eq_true rfl) dX6_init_91 dX6_init_94 dX6_init_95 (fun q9 ad9 H locs hw9 hq9 hP hD hS => ?_)
  refine ct_put (v := .ref q9) (ty := .object "CaveBreath$Breath") hx hb (o := 6) (C := RX6) (T := TX6) (N := 11) (k := 10) rfl rfl hown hts (am_fd_6_53) rfl hin (by decide +kernel) rfl rfl (Nat.le_of_ble_eq_true rfl) hK hP hD hS dX6_init_98 (fun H locs hP hD hS => ?_)
  replace hP : va_P (dC, dI) vwCl ((h0, .inr (6, [.ref q1, .int 0, .ref q2, .ref q3, .ref q4, .ref q5, .ref q6, .ref q7, .int 0, .ref q8, .ref q9])) :: cw cI cB 1 68 ad9) H := hP
  replace hD : va_D A ((h0, .inr (6, [.ref q1, .int 0, .ref q2, .ref q3, .ref q4, .ref q5, .ref q6, .ref q7, .int 0, .ref q8, .ref q9])) :: cw cI cB 1 68 ad9) := hD
  have e1 : ad9 1 = q1 := (hw9 1 (by decide)).trans ((hw8 1 (by decide)).trans ((hw7 1 (by decide)).trans ((hw6 1 (by decide)).trans ((hw5 1 (by decide)).trans ((hw4 1 (by decide)).trans ((hw3 1 (by decide)).trans ((hw2 1 (by decide)).trans (hq1))))))))
  have e2 : ad9 2 = q2 := (hw9 2 (by decide)).trans ((hw8 2 (by decide)).trans ((hw7 2 (by decide)).trans ((hw6 2 (by decide)).trans ((hw5 2 (by decide)).trans ((hw4 2 (by decide)).trans ((hw3 2 (by decide)).trans (hq2)))))))
  have e3 : ad9 5 = q3 := (hw9 5 (by decide)).trans ((hw8 5 (by decide)).trans ((hw7 5 (by decide)).trans ((hw6 5 (by decide)).trans ((hw5 5 (by decide)).trans ((hw4 5 (by decide)).trans (hq3))))))
  have e4 : ad9 25 = q4 := (hw9 25 (by decide)).trans ((hw8 25 (by decide)).trans ((hw7 25 (by decide)).trans ((hw6 25 (by decide)).trans ((hw5 25 (by decide)).trans (hq4)))))
  have e5 : ad9 45 = q5 := (hw9 45 (by decide)).trans ((hw8 45 (by decide)).trans ((hw7 45 (by decide)).trans ((hw6 45 (by decide)).trans (hq5))))
  have e6 : ad9 48 = q6 := (hw9 48 (by decide)).trans ((hw8 48 (by decide)).trans ((hw7 48 (by decide)).trans (hq6)))
  have e7 : ad9 51 = q7 := (hw9 51 (by decide)).trans ((hw8 51 (by decide)).trans (hq7))
  have e8 : ad9 54 = q8 := (hw9 54 (by decide)).trans (hq8)
  have e9 : ad9 58 = q9 := hq9
  have hw9 : (h0, (.inr (6, [.ref q1, .int 0, .ref q2, .ref q3, .ref q4, .ref q5, .ref q6, .ref q7, .int 0, .ref q8, .ref q9]) : va_E)) :: cw cI cB 1 68 ad9 = am_w 69 cI cB (ct_up ad9 0 h0) I00 I00 G00 := by
    rw [← x6_w, cw_1 cI cB 0 68, cw_c (a := 0 + 1) (r := 68) (ad := ct_up ad9 0 h0) (ad' := ad9) (by decide +kernel) (fun x h _ => ct_up_ne (by omega))]
    subst e1 e2 e3 e4 e5 e6 e7 e8 e9
    rfl
  rw [hw9] at hP hD
  refine W.widen (k := 68) (n := 993) (Nat.le_of_ble_eq_true rfl) (Nat.le_of_ble_eq_true rfl) ?_
  have ha0 : ct_up ad9 0 h0 0 = h0 := ct_up_eq _ _ _
  generalize ct_up ad9 0 h0 = ad at hP hD ha0
  clear hw9
  have hl : lv_has ls 1 [(0, .ref (ad 0))] := by rw [ha0]; exact hl
  refine lv_aload_n hx hb dX6_init_101 rfl (lv_at hl 0 rfl) ?_
  refine ct_get (o := 6) (a := 0) (c0 := 6) (v := .ref (ad 5)) hx hb rfl hown hts (by decide) rfl am_fd_6_23 hK hP (rfl) dX6_init_102 ?_
  refine ct_cv (N := 69) (n := 4000) (o := 6) (a := 5) (as' := []) (rest := []) (v := x6_1) hx hb hml rfl hown hts hnst x6_cv57 (by decide) (by decide +kernel) (by decide +kernel) (by decide) (Nat.le_of_ble_eq_true rfl) (Nat.le_of_ble_eq_true rfl) (by decide +kernel) (by decide +kernel) x6_e1 hK hP hD hS hA hl.1 (Nat.le_of_ble_eq_true rfl) (Nat.le_of_ble_eq_true rfl) dX6_init_105 rfl (fun H locs hP hD hS => ?_)
  rw [x6_rn x6_v1]
  refine W.eq (g2 := F0 m 108 ls []) rfl ?_
  refine lv_aload_n hx hb dX6_init_108 rfl (lv_at hl 0 rfl) ?_
  refine ct_get (o := 6) (a := 0) (c0 := 6) (v := .ref (ad 5)) hx hb rfl hown hts (by decide) rfl am_fd_6_23 hK hP (by show Value.ref (ad (x6_1.2.2.2 0 3)) = _; rw [x6_g1]) dX6_init_109 ?_
  refine lv_bipush (v := 10) hx hb dX6_init_112 (by decide) ?_
  refine lv_iconst (v := 0) hx hb dX6_init_114 (by decide) ?_
  refine lv_iconst (v := 0) hx hb dX6_init_115 (by decide) ?_
  refine ct_cv (N := 69) (n := 4000) (o := 6) (a := 5) (as' := [.int 10, .int 0, .int 0]) (rest := []) (v := x6_2) hx hb hml rfl hown hts hnst x6_cv60 (by decide) (by decide +kernel) (by decide +kernel) (by decide) (Nat.le_of_ble_eq_true rfl) (Nat.le_of_ble_eq_true rfl) (by decide +kernel) (by decide +kernel) x6_e2 hK hP hD hS hA hl.1 (Nat.le_of_ble_eq_true rfl) (Nat.le_of_ble_eq_true rfl) dX6_init_116 rfl (fun H locs hP hD hS => ?_)
  rw [x6_ri x6_v2]
  refine W.eq (g2 := F0 m 119 ls [.int 1]) rfl ?_
  refine lv_pop hx hb dX6_init_119 rfl ?_
  refine lv_aload_n hx hb dX6_init_120 rfl (lv_at hl 0 rfl) ?_
  refine ct_get (o := 6) (a := 0) (c0 := 6) (v := .ref (ad 5)) hx hb rfl hown hts (by decide) rfl am_fd_6_23 hK hP (by show Value.ref (ad (x6_2.2.2.2 0 3)) = _; rw [x6_g2]) dX6_init_121 ?_
  refine ct_cv (N := 69) (n := 4000) (o := 6) (a := 5) (as' := []) (rest := []) (v := x6_3) hx hb hml rfl hown hts hnst x6_cv64 (by decide) (by decide +kernel) (by decide +kernel) (by decide) (Nat.le_of_ble_eq_true rfl) (Nat.le_of_ble_eq_true rfl) (by decide +kernel) (by decide +kernel) x6_e3 hK hP hD hS hA hl.1 (Nat.le_of_ble_eq_true rfl) (Nat.le_of_ble_eq_true rfl) dX6_init_124 rfl (fun H locs hP hD hS => ?_)
  rw [x6_rn x6_v3]
  refine W.eq (g2 := F0 m 127 ls []) rfl ?_
  refine lv_aload_n hx hb dX6_init_127 rfl (lv_at hl 0 rfl) ?_
  refine ct_get (o := 6) (a := 0) (c0 := 6) (v := .ref (ad 45)) hx hb rfl hown hts (by decide) rfl am_fd_6_33 hK hP rfl dX6_init_128 ?_
  refine lv_aload_n hx hb dX6_init_131 rfl (lv_at hl 0 rfl) ?_
  refine ct_get (o := 6) (a := 0) (c0 := 6) (v := .ref (ad 5)) hx hb rfl hown hts (by decide) rfl am_fd_6_23 hK hP (by show Value.ref (ad (x6_3.2.2.2 0 3)) = _; rw [x6_g3]) dX6_init_132 ?_
  refine ct_get (o := 6) (a := 5) (c0 := 2) (v := .int 0) hx hb rfl hown hts (by decide) rfl am_fd_6_67 hK hP (by show Value.int (x6_3.2.1 5 10) = _; rw [x6_d3]) dX6_init_135 ?_
  refine ct_cv (N := 69) (n := 4000) (o := 6) (a := 45) (as' := [.int 0]) (rest := []) (v := x6_4) hx hb hml rfl hown hts hnst x6_cv71 (by decide) (by decide +kernel) (by decide +kernel) (by decide) (Nat.le_of_ble_eq_true rfl) (Nat.le_of_ble_eq_true rfl) (by decide +kernel) (by decide +kernel) x6_e4 hK hP hD hS hA hl.1 (Nat.le_of_ble_eq_true rfl) (Nat.le_of_ble_eq_true rfl) dX6_init_138 rfl (fun H locs hP hD hS => ?_)
  rw [x6_rn x6_v4]
  refine W.eq (g2 := F0 m 141 ls []) rfl ?_
  exact W.vret hx hb hr (fun t ht hW => ⟨⟨ad, rfl, ha0, by rw [ht]; exact hP, va_K.moved hW.alike hK, hD⟩, hS.F ht⟩) hS.2.2 dX6_init_141
