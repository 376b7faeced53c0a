/-! ===== the constructors ===== -/
theorem ct_aI : Cond.arrayClass .int ∈ lw_g := am_gw 78 (by decide +kernel) (by decide +kernel)
theorem ct_aB : Cond.arrayClass .byte ∈ lw_g := am_gw 77 (by decide +kernel) (by decide +kernel)
theorem ct_oi : Cond.instanceMethod objectInit ∈ lw_g := am_gw 56 (by decide +kernel) (by decide +kernel)
theorem ct_oc : Cond.code objectInit ⟨#[0xb1]⟩ 1 none ∈ lw_g := am_gw 57 (by decide +kernel) (by decide +kernel)
section CP
variable {p : Program} {l : Launch} {e : Env} {R : Room} {s : State} {m : MethodId} {args : Array Value} {below : List Frame} {meth : Method} {c : Code} {H : Heap} {locs : List Loc} {cells slots : Nat} {Q : State → Prop} {pc : Nat} {ls : Array Slot} {rest : List Value} {cc : ByteArray}
variable {dC : Nat → ClassId} {dI : Nat → Nat → Nat} {cI cB : ClassId} {A : Nat → Prop} {H0 : Heap}
/-- a field of this, in its own constructor -/
theorem ct_put (hexec : p.tables.exec = Jvm.exec) (hb : c.code = cc) {o ix k N w h0 : Nat} {C : String} {T : u_T} {ty : FieldType} {v : Value} {fs : List Value} {W0 : va_W} (hcl : vwCl[o]? = some (C, T, N)) (hcn : am_cn o = C) (hown : s.vm.findClass C = some m.cls) (hts : ∀ w ∈ lw_g, w.before args s = true) (hfd : am_fdP (o, ix, o, k, w)) (hdecl : (T k).1 = C) (hin : meth.name = "<init>") (hd : parseFieldDescriptor (T k).2.2.1 = some ty) (hn : narrow ty v = v) (hfit : fits ty v = true) (hl : k < fs.length) (hK : va_K (dC, dI) vwCl [(cI, .int), (cB, .byte)] s) (hP : va_P (dC, dI) vwCl ((h0, .inr (o, fs)) :: W0) H) (hD : va_D A ((h0, .inr (o, fs)) :: W0)) (hS : va_S A H0 H locs) (hdg : decode cc pc = .ok (.putfield ix, 3))
    (kk : ∀ (H1 : Heap) (locs1 : List Loc), va_P (dC, dI) vwCl ((h0, .inr (o, fs.set k v)) :: W0) H1 → va_D A ((h0, .inr (o, fs.set k v)) :: W0) → va_S A H0 H1 locs1 → W p l e R s m args below meth c H1 locs1 cells slots Q (F0 m (pc + 3) ls rest)) : W p l e R s m args below meth c H locs cells slots Q (F0 m pc ls (v :: .ref h0 :: rest)) := by
  obtain ⟨hin2, ty0, hty, hnm, -⟩ := am_cl_ok hcl
  obtain ⟨C', T', n', h1, h2, h3⟩ := hfd
  dsimp only at h1 h2 h3
  cases Option.some.inj (hcl.symm.trans h1)
  rw [hcn] at h3
  cases hf : (T k).2.2.2 with
  | false => exact va_put (D := (dC, dI)) hexec hb hts hin2 ty0 hty hnm hown hK hP hD hS 0 rfl hcl k h2 (hts _ h3) (fun _ h => h) hf hd hn hfit hl hdg kk
  | true => exact va_putF (D := (dC, dI)) hexec hb hts hin2 ty0 hty hnm hown hK hP hD hS 0 rfl hcl k h2 (hts _ h3) (fun _ h => h) hf hin hdecl hd hn hfit hl hdg kk
end CP
theorem ct_f0 : ∀ j, j < 5 → defaultValue (tyX0 j) = vp_V [.null, .null, .null, .null, .null] j := fun j hj => match j, hj with
  | 0, _ => rfl
  | 1, _ => rfl
  | 2, _ => rfl
  | 3, _ => rfl
  | 4, _ => rfl
  | _ + 5, h => absurd h (by omega)
theorem ct_f1 : ∀ j, j < 4 → defaultValue (tyX1 j) = vp_V [.null, .null, .null, .int 0] j := fun j hj => match j, hj with
  | 0, _ => rfl
  | 1, _ => rfl
  | 2, _ => rfl
  | 3, _ => rfl
  | _ + 4, h => absurd h (by omega)
theorem ct_f2 : ∀ j, j < 18 → defaultValue (tyX2 j) = vp_V [.null, .null, .null, .null, .null, .null, .null, .null, .null, .int 0, .int 0, .int 0, .int 0, .int 0, .int 0, .int 0, .int 0, .int 0] j := fun j hj => match j, hj with
  | 0, _ => rfl
  | 1, _ => rfl
  | 2, _ => rfl
  | 3, _ => rfl
  | 4, _ => rfl
  | 5, _ => rfl
  | 6, _ => rfl
  | 7, _ => rfl
  | 8, _ => rfl
  | 9, _ => rfl
  | 10, _ => rfl
  | 11, _ => rfl
  | 12, _ => rfl
  | 13, _ => rfl
  | 14, _ => rfl
  | 15, _ => rfl
  | 16, _ => rfl
  | 17, _ => rfl
  | _ + 18, h => absurd h (by omega)
theorem ct_f3 : ∀ j, j < 4 → defaultValue (tyX3 j) = vp_V [.null, .null, .int 0, .int 0] j := fun j hj => match j, hj with
  | 0, _ => rfl
  | 1, _ => rfl
  | 2, _ => rfl
  | 3, _ => rfl
  | _ + 4, h => absurd h (by omega)
theorem ct_f4 : ∀ j, j < 5 → defaultValue (tyX4 j) = vp_V [.int 0, .int 0, .int 0, .null, .null] j := fun j hj => match j, hj with
  | 0, _ => rfl
  | 1, _ => rfl
  | 2, _ => rfl
  | 3, _ => rfl
  | 4, _ => rfl
  | _ + 5, h => absurd h (by omega)
theorem ct_f5 : ∀ j, j < 7 → defaultValue (tyX5 j) = vp_V [.null, .null, .null, .int 0, .null, .null, .int 0] j := fun j hj => match j, hj with
  | 0, _ => rfl
  | 1, _ => rfl
  | 2, _ => rfl
  | 3, _ => rfl
  | 4, _ => rfl
  | 5, _ => rfl
  | 6, _ => rfl
  | _ + 7, h => absurd h (by omega)
set_option maxHeartbeats 4000000 in
set_option maxRecDepth 100000 in
theorem ct_X5_13 (l : Launch) (dC : Nat → ClassId) (dI : Nat → Nat → Nat) (cI cB : ClassId) (h0 sz : Nat) : Met l yX5_init (ct_ws yX5_init cX5_init) (ct_rm 1 20 5 48) (ct_P dC dI cI cB 5 [.null, .null, .null, .int 0, .null, .null, .int 0] h0 sz) (ct_Q dC dI cI cB 5 [.null, .null, .null, .int 0, .null, .null, .int 0] h0 sz 13 6) 5 48 (va_A [(h0, .inr (5, [.null, .null, .null, .int 0, .null, .null, .int 0]))] sz) := by
  refine Met.ofW (cc := cX5_init) (maxL := 1) (ret := none) (by decide) rfl ?_
  intro p e s m args below meth c s₁ B hml hv
  obtain ⟨rfl, hsz, hP, hK, hD0, hnst⟩ := hv
  have hx := B.exec
  have hb := B.bytes
  have hr := B.returns
  have hts0 := atoms_spec (ws := ct_ws yX5_init cX5_init) B.pre
  have hts : ∀ w ∈ lw_g, w.before _ _ = true := fun w h => hts0 w (List.mem_cons_of_mem _ h)
  have hown : s.vm.findClass RX5 = some m.cls := findClass_of_methodNamed B.named
  have hin : meth.name = "<init>" := (name_of_methodNamed B.named B.method).1
  subst hsz
  unfold ct_Q
  have hD := hD0.self (sz := s.heap.size)
  generalize hAe : va_A [(h0, .inr (5, [.null, .null, .null, .int 0, .null, .null, .int 0]))] s.heap.size = A at hD ⊢
  have hA : ∀ q : Nat, s.heap.size ≤ q → A q := fun q h => by rw [← hAe]; exact Or.inr h
  have hS : va_S A s.heap s.heap [] := va_S.rf
  have hl := lv_entry ([.ref h0]) (n := 1) (Nat.le_of_ble_eq_true rfl)
  rw [lg_entry_eq]
  generalize (lg_sl ([.ref h0]) ++ List.replicate (1 - (lg_sl ([.ref h0])).length) Slot.unset).toArray = ls at hl ⊢
  have hl : lv_has ls 1 [(0, .ref h0)] := hl
  obtain ⟨ad0, -⟩ : ∃ ad0 : Nat → Nat, True := ⟨fun _ => 0, trivial⟩
  replace hP : va_P (dC, dI) vwCl ((h0, .inr (5, [.null, .null, .null, .int 0, .null, .null, .int 0])) :: cw cI cB 14 0 ad0) s.heap := hP
  replace hD : va_D A ((h0, .inr (5, [.null, .null, .null, .int 0, .null, .null, .int 0])) :: cw cI cB 14 0 ad0) := hD
  have hH0 : s.heap = s.heap := rfl
  refine lv_aload_n hx hb dX5_init_0 rfl (lv_at hl 0 rfl) ?_
  refine W.objInit hx hb hown (hts _ (am_gw 90 (by decide +kernel) (by decide +kernel))) (hts _ ct_oi) (hts _ ct_oc) rfl (by rw [hml]; exact hl.1) rfl dX5_init_1 (Nat.le_of_ble_eq_true rfl) (Nat.le_of_ble_eq_true rfl) ?_
  refine W.eq (g2 := F0 m 4 ls []) rfl ?_
  refine lv_aload_n hx hb dX5_init_4 rfl (lv_at hl 0 rfl) ?_
  refine lv_bipush (v := 10) hx hb dX5_init_5 (by decide) ?_
  refine ct_nI (a := 14) (t := 0) (N := 10) hx hb (hts _ ct_aI) (by decide +kernel) (by decide +kernel) hK hP hD hS hA (by decide) (by decide) (by decide) (Nat.le_of_ble_eq_true rfl) (Nat.le_of_ble_eq_true rfl) dX5_init_7 (fun q1 ad1 H hw1 hq1 hP hD hS => ?_)
  refine ct_put (v := .ref q1) (ty := .array .int) hx hb (o := 5) (C := RX5) (T := TX5) (N := 7) (k := 0) rfl rfl hown hts (am_fd_5_9) rfl hin (by decide +kernel) rfl rfl (Nat.le_of_ble_eq_true rfl) hK hP hD hS dX5_init_9 (fun H locs hP hD hS => ?_)
  replace hP : va_P (dC, dI) vwCl ((h0, .inr (5, [.ref q1, .null, .null, .int 0, .null, .null, .int 0])) :: cw cI cB 14 1 ad1) H := hP
  replace hD : va_D A ((h0, .inr (5, [.ref q1, .null, .null, .int 0, .null, .null, .int 0])) :: cw cI cB 14 1 ad1) := hD
  refine lv_aload_n hx hb dX5_init_12 rfl (lv_at hl 0 rfl) ?_
  refine lv_bipush (v := 10) hx hb dX5_init_13 (by decide) ?_
  refine ct_nI (a := 14) (t := 1) (N := 10) hx hb (hts _ ct_aI) (by decide +kernel) (by decide +kernel) hK hP hD hS hA (by decide) (by decide) (by decide) (Nat.le_of_ble_eq_true rfl) (Nat.le_of_ble_eq_true rfl) dX5_init_15 (fun q2 ad2 H hw2 hq2 hP hD hS => ?_)
  refine ct_put (v := .ref q2) (ty := .array .int) hx hb (o := 5) (C := RX5) (T := TX5) (N := 7) (k := 1) rfl rfl hown hts (am_fd_5_15) rfl hin (by decide +kernel) rfl rfl (Nat.le_of_ble_eq_true rfl) hK hP hD hS dX5_init_17 (fun H locs hP hD hS => ?_)
  replace hP : va_P (dC, dI) vwCl ((h0, .inr (5, [.ref q1, .ref q2, .null, .int 0, .null, .null, .int 0])) :: cw cI cB 14 2 ad2) H := hP
  replace hD : va_D A ((h0, .inr (5, [.ref q1, .ref q2, .null, .int 0, .null, .null, .int 0])) :: cw cI cB 14 2 ad2) := hD
  refine lv_aload_n hx hb dX5_init_20 rfl (lv_at hl 0 rfl) ?_
  refine lv_bipush (v := 9) hx hb dX5_init_21 (by decide) ?_
  refine ct_nI (a := 14) (t := 2) (N := 9) hx hb (hts _ ct_aI) (by decide +kernel) (by decide +kernel) hK hP hD hS hA (by decide) (by decide) (by decide) (Nat.le_of_ble_eq_true rfl) (Nat.le_of_ble_eq_true rfl) dX5_init_23 (fun q3 ad3 H hw3 hq3 hP hD hS => ?_)
  refine ct_put (v := .ref q3) (ty := .array .int) hx hb (o := 5) (C := RX5) (T := TX5) (N := 7) (k := 2) rfl rfl hown hts (am_fd_5_18) rfl hin (by decide +kernel) rfl rfl (Nat.le_of_ble_eq_true rfl) hK hP hD hS dX5_init_25 (fun H locs hP hD hS => ?_)
  replace hP : va_P (dC, dI) vwCl ((h0, .inr (5, [.ref q1, .ref q2, .ref q3, .int 0, .null, .null, .int 0])) :: cw cI cB 14 3 ad3) H := hP
  replace hD : va_D A ((h0, .inr (5, [.ref q1, .ref q2, .ref q3, .int 0, .null, .null, .int 0])) :: cw cI cB 14 3 ad3) := hD
  refine lv_aload_n hx hb dX5_init_28 rfl (lv_at hl 0 rfl) ?_
  refine lv_bipush (v := 10) hx hb dX5_init_29 (by decide) ?_
  refine ct_nI (a := 14) (t := 3) (N := 10) hx hb (hts _ ct_aI) (by decide +kernel) (by decide +kernel) hK hP hD hS hA (by decide) (by decide) (by decide) (Nat.le_of_ble_eq_true rfl) (Nat.le_of_ble_eq_true rfl) dX5_init_31 (fun q4 ad4 H hw4 hq4 hP hD hS => ?_)
  refine ct_put (v := .ref q4) (ty := .array .int) hx hb (o := 5) (C := RX5) (T := TX5) (N := 7) (k := 4) rfl rfl hown hts (am_fd_5_21) rfl hin (by decide +kernel) rfl rfl (Nat.le_of_ble_eq_true rfl) hK hP hD hS dX5_init_33 (fun H locs hP hD hS => ?_)
  replace hP : va_P (dC, dI) vwCl ((h0, .inr (5, [.ref q1, .ref q2, .ref q3, .int 0, .ref q4, .null, .int 0])) :: cw cI cB 14 4 ad4) H := hP
  replace hD : va_D A ((h0, .inr (5, [.ref q1, .ref q2, .ref q3, .int 0, .ref q4, .null, .int 0])) :: cw cI cB 14 4 ad4) := hD
  refine lv_aload_n hx hb dX5_init_36 rfl (lv_at hl 0 rfl) ?_
  refine lv_bipush (v := 9) hx hb dX5_init_37 (by decide) ?_
  refine ct_nI (a := 14) (t := 4) (N := 9) hx hb (hts _ ct_aI) (by decide +kernel) (by decide +kernel) hK hP hD hS hA (by decide) (by decide) (by decide) (Nat.le_of_ble_eq_true rfl) (Nat.le_of_ble_eq_true rfl) dX5_init_39 (fun q5 ad5 H hw5 hq5 hP hD hS => ?_)
  refine ct_put (v := .ref q5) (ty := .array .int) hx hb (o := 5) (C := RX5) (T := TX5) (N := 7) (k := 5) rfl rfl hown hts (am_fd_5_24) rfl hin (by decide +kernel) rfl rfl (Nat.le_of_ble_eq_true rfl) hK hP hD hS dX5_init_41 (fun H locs hP hD hS => ?_)
  replace hP : va_P (dC, dI) vwCl ((h0, .inr (5, [.ref q1, .ref q2, .ref q3, .int 0, .ref q4, .ref q5, .int 0])) :: cw cI cB 14 5 ad5) H := hP
  replace hD : va_D A ((h0, .inr (5, [.ref q1, .ref q2, .ref q3, .int 0, .ref q4, .ref q5, .int 0])) :: cw cI cB 14 5 ad5) := hD
  have e1 : ad5 14 = q1 := (hw5 14 (by decide)).trans ((hw4 14 (by decide)).trans ((hw3 14 (by decide)).trans ((hw2 14 (by decide)).trans (hq1))))
  have e2 : ad5 15 = q2 := (hw5 15 (by decide)).trans ((hw4 15 (by decide)).trans ((hw3 15 (by decide)).trans (hq2)))
  have e3 : ad5 16 = q3 := (hw5 16 (by decide)).trans ((hw4 16 (by decide)).trans (hq3))
  have e4 : ad5 17 = q4 := (hw5 17 (by decide)).trans (hq4)
  have e5 : ad5 18 = q5 := hq5
  have hP9 : va_P (dC, dI) vwCl (cw cI cB 13 6 (ct_up ad5 13 h0)) H := by
    rw [cw_1, cw_c (ad := ct_up ad5 13 h0) (ad' := ad5) (by decide +kernel) (fun x h _ => ct_up_ne (by omega))]
    subst e1 e2 e3 e4 e5
    exact hP
  have hD9 : va_D A (cw cI cB 13 6 (ct_up ad5 13 h0)) := by
    rw [cw_1, cw_c (ad := ct_up ad5 13 h0) (ad' := ad5) (by decide +kernel) (fun x h _ => ct_up_ne (by omega))]
    subst e1 e2 e3 e4 e5
    exact hD
  refine W.widen (k := 5) (n := 48) (Nat.le_of_ble_eq_true rfl) (Nat.le_of_ble_eq_true rfl) ?_
  exact W.vret hx hb hr (fun t ht hW => ⟨⟨ct_up ad5 13 h0, rfl, ct_up_eq _ _ _, by rw [ht]; exact hP9, va_K.moved hW.alike hK, hD9⟩, hS.F ht⟩) hS.2.2 dX5_init_44
set_option maxHeartbeats 4000000 in
set_option maxRecDepth 100000 in
theorem ct_X5_19 (l : Launch) (dC : Nat → ClassId) (dI : Nat → Nat → Nat) (cI cB : ClassId) (h0 sz : Nat) : Met l yX5_init (ct_ws yX5_init cX5_init) (ct_rm 1 20 5 48) (ct_P dC dI cI cB 5 [.null, .null, .null, .int 0, .null, .null, .int 0] h0 sz) (ct_Q dC dI cI cB 5 [.null, .null, .null, .int 0, .null, .null, .int 0] h0 sz 19 6) 5 48 (va_A [(h0, .inr (5, [.null, .null, .null, .int 0, .null, .null, .int 0]))] sz) := by
  refine Met.ofW (cc := cX5_init) (maxL := 1) (ret := none) (by decide) rfl ?_
  intro p e s m args below meth c s₁ B hml hv
  obtain ⟨rfl, hsz, hP, hK, hD0, hnst⟩ := hv
  have hx := B.exec
  have hb := B.bytes
  have hr := B.returns
  have hts0 := atoms_spec (ws := ct_ws yX5_init cX5_init) B.pre
  have hts : ∀ w ∈ lw_g, w.before _ _ = true := fun w h => hts0 w (List.mem_cons_of_mem _ h)
  have hown : s.vm.findClass RX5 = some m.cls := findClass_of_methodNamed B.named
  have hin : meth.name = "<init>" := (name_of_methodNamed B.named B.method).1
  subst hsz
  unfold ct_Q
  have hD := hD0.self (sz := s.heap.size)
  generalize hAe : va_A [(h0, .inr (5, [.null, .null, .null, .int 0, .null, .null, .int 0]))] s.heap.size = A at hD ⊢
  have hA : ∀ q : Nat, s.heap.size ≤ q → A q := fun q h => by rw [← hAe]; exact Or.inr h
  have hS : va_S A s.heap s.heap [] := va_S.rf
  have hl := lv_entry ([.ref h0]) (n := 1) (Nat.le_of_ble_eq_true rfl)
  rw [lg_entry_eq]
  generalize (lg_sl ([.ref h0]) ++ List.replicate (1 - (lg_sl ([.ref h0])).length) Slot.unset).toArray = ls at hl ⊢
  have hl : lv_has ls 1 [(0, .ref h0)] := hl
  obtain ⟨ad0, -⟩ : ∃ ad0 : Nat → Nat, True := ⟨fun _ => 0, trivial⟩
  replace hP : va_P (dC, dI) vwCl ((h0, .inr (5, [.null, .null, .null, .int 0, .null, .null, .int 0])) :: cw cI cB 20 0 ad0) s.heap := hP
  replace hD : va_D A ((h0, .inr (5, [.null, .null, .null, .int 0, .null, .null, .int 0])) :: cw cI cB 20 0 ad0) := hD
  have hH0 : s.heap = s.heap := rfl
  refine lv_aload_n hx hb dX5_init_0 rfl (lv_at hl 0 rfl) ?_
  refine W.objInit hx hb hown (hts _ (am_gw 90 (by decide +kernel) (by decide +kernel))) (hts _ ct_oi) (hts _ ct_oc) rfl (by rw [hml]; exact hl.1) rfl dX5_init_1 (Nat.le_of_ble_eq_true rfl) (Nat.le_of_ble_eq_true rfl) ?_
  refine W.eq (g2 := F0 m 4 ls []) rfl ?_
  refine lv_aload_n hx hb dX5_init_4 rfl (lv_at hl 0 rfl) ?_
  refine lv_bipush (v := 10) hx hb dX5_init_5 (by decide) ?_
  refine ct_nI (a := 20) (t := 0) (N := 10) hx hb (hts _ ct_aI) (by decide +kernel) (by decide +kernel) hK hP hD hS hA (by decide) (by decide) (by decide) (Nat.le_of_ble_eq_true rfl) (Nat.le_of_ble_eq_true rfl) dX5_init_7 (fun q1 ad1 H hw1 hq1 hP hD hS => ?_)
  refine ct_put (v := .ref q1) (ty := .array .int) hx hb (o := 5) (C := RX5) (T := TX5) (N := 7) (k := 0) rfl rfl hown hts (am_fd_5_9) rfl hin (by decide +kernel) rfl rfl (Nat.le_of_ble_eq_true rfl) hK hP hD hS dX5_init_9 (fun H locs hP hD hS => ?_)
  replace hP : va_P (dC, dI) vwCl ((h0, .inr (5, [.ref q1, .null, .null, .int 0, .null, .null, .int 0])) :: cw cI cB 20 1 ad1) H := hP
  replace hD : va_D A ((h0, .inr (5, [.ref q1, .null, .null, .int 0, .null, .null, .int 0])) :: cw cI cB 20 1 ad1) := hD
  refine lv_aload_n hx hb dX5_init_12 rfl (lv_at hl 0 rfl) ?_
  refine lv_bipush (v := 10) hx hb dX5_init_13 (by decide) ?_
  refine ct_nI (a := 20) (t := 1) (N := 10) hx hb (hts _ ct_aI) (by decide +kernel) (by decide +kernel) hK hP hD hS hA (by decide) (by decide) (by decide) (Nat.le_of_ble_eq_true rfl) (Nat.le_of_ble_eq_true rfl) dX5_init_15 (fun q2 ad2 H hw2 hq2 hP hD hS => ?_)
  refine ct_put (v := .ref q2) (ty := .array .int) hx hb (o := 5) (C := RX5) (T := TX5) (N := 7) (k := 1) rfl rfl hown hts (am_fd_5_15) rfl hin (by decide +kernel) rfl rfl (Nat.le_of_ble_eq_true rfl) hK hP hD hS dX5_init_17 (fun H locs hP hD hS => ?_)
  replace hP : va_P (dC, dI) vwCl ((h0, .inr (5, [.ref q1, .ref q2, .null, .int 0, .null, .null, .int 0])) :: cw cI cB 20 2 ad2) H := hP
  replace hD : va_D A ((h0, .inr (5, [.ref q1, .ref q2, .null, .int 0, .null, .null, .int 0])) :: cw cI cB 20 2 ad2) := hD
  refine lv_aload_n hx hb dX5_init_20 rfl (lv_at hl 0 rfl) ?_
  refine lv_bipush (v := 9) hx hb dX5_init_21 (by decide) ?_
  refine ct_nI (a := 20) (t := 2) (N := 9) hx hb (hts _ ct_aI) (by decide +kernel) (by decide +kernel) hK hP hD hS hA (by decide) (by decide) (by decide) (Nat.le_of_ble_eq_true rfl) (Nat.le_of_ble_eq_true rfl) dX5_init_23 (fun q3 ad3 H hw3 hq3 hP hD hS => ?_)
  refine ct_put (v := .ref q3) (ty := .array .int) hx hb (o := 5) (C := RX5) (T := TX5) (N := 7) (k := 2) rfl rfl hown hts (am_fd_5_18) rfl hin (by decide +kernel) rfl rfl (Nat.le_of_ble_eq_true rfl) hK hP hD hS dX5_init_25 (fun H locs hP hD hS => ?_)
  replace hP : va_P (dC, dI) vwCl ((h0, .inr (5, [.ref q1, .ref q2, .ref q3, .int 0, .null, .null, .int 0])) :: cw cI cB 20 3 ad3) H := hP
  replace hD : va_D A ((h0, .inr (5, [.ref q1, .ref q2, .ref q3, .int 0, .null, .null, .int 0])) :: cw cI cB 20 3 ad3) := hD
  refine lv_aload_n hx hb dX5_init_28 rfl (lv_at hl 0 rfl) ?_
  refine lv_bipush (v := 10) hx hb dX5_init_29 (by decide) ?_
  refine ct_nI (a := 20) (t := 3) (N := 10) hx hb (hts _ ct_aI) (by decide +kernel) (by decide +kernel) hK hP hD hS hA (by decide) (by decide) (by decide) (Nat.le_of_ble_eq_true rfl) (Nat.le_of_ble_eq_true rfl) dX5_init_31 (fun q4 ad4 H hw4 hq4 hP hD hS => ?_)
  refine ct_put (v := .ref q4) (ty := .array .int) hx hb (o := 5) (C := RX5) (T := TX5) (N := 7) (k := 4) rfl rfl hown hts (am_fd_5_21) rfl hin (by decide +kernel) rfl rfl (Nat.le_of_ble_eq_true rfl) hK hP hD hS dX5_init_33 (fun H locs hP hD hS => ?_)
  replace hP : va_P (dC, dI) vwCl ((h0, .inr (5, [.ref q1, .ref q2, .ref q3, .int 0, .ref q4, .null, .int 0])) :: cw cI cB 20 4 ad4) H := hP
  replace hD : va_D A ((h0, .inr (5, [.ref q1, .ref q2, .ref q3, .int 0, .ref q4, .null, .int 0])) :: cw cI cB 20 4 ad4) := hD
  refine lv_aload_n hx hb dX5_init_36 rfl (lv_at hl 0 rfl) ?_
  refine lv_bipush (v := 9) hx hb dX5_init_37 (by decide) ?_
  refine ct_nI (a := 20) (t := 4) (N := 9) hx hb (hts _ ct_aI) (by decide +kernel) (by decide +kernel) hK hP hD hS hA (by decide) (by decide) (by decide) (Nat.le_of_ble_eq_true rfl) (Nat.le_of_ble_eq_true rfl) dX5_init_39 (fun q5 ad5 H hw5 hq5 hP hD hS => ?_)
  refine ct_put (v := .ref q5) (ty := .array .int) hx hb (o := 5) (C := RX5) (T := TX5) (N := 7) (k := 5) rfl rfl hown hts (am_fd_5_24) rfl hin (by decide +kernel) rfl rfl (Nat.le_of_ble_eq_true rfl) hK hP hD hS dX5_init_41 (fun H locs hP hD hS => ?_)
  replace hP : va_P (dC, dI) vwCl ((h0, .inr (5, [.ref q1, .ref q2, .ref q3, .int 0, .ref q4, .ref q5, .int 0])) :: cw cI cB 20 5 ad5) H := hP
  replace hD : va_D A ((h0, .inr (5, [.ref q1, .ref q2, .ref q3, .int 0, .ref q4, .ref q5, .int 0])) :: cw cI cB 20 5 ad5) := hD
  have e1 : ad5 20 = q1 := (hw5 20 (by decide)).trans ((hw4 20 (by decide)).trans ((hw3 20 (by decide)).trans ((hw2 20 (by decide)).trans (hq1))))
  have e2 : ad5 21 = q2 := (hw5 21 (by decide)).trans ((hw4 21 (by decide)).trans ((hw3 21 (by decide)).trans (hq2)))
  have e3 : ad5 22 = q3 := (hw5 22 (by decide)).trans ((hw4 22 (by decide)).trans (hq3))
  have e4 : ad5 23 = q4 := (hw5 23 (by decide)).trans (hq4)
  have e5 : ad5 24 = q5 := hq5
  have hP9 : va_P (dC, dI) vwCl (cw cI cB 19 6 (ct_up ad5 19 h0)) H := by
    rw [cw_1, cw_c (ad := ct_up ad5 19 h0) (ad' := ad5) (by decide +kernel) (fun x h _ => ct_up_ne (by omega))]
    subst e1 e2 e3 e4 e5
    exact hP
  have hD9 : va_D A (cw cI cB 19 6 (ct_up ad5 19 h0)) := by
    rw [cw_1, cw_c (ad := ct_up ad5 19 h0) (ad' := ad5) (by decide +kernel) (fun x h _ => ct_up_ne (by omega))]
    subst e1 e2 e3 e4 e5
    exact hD
  refine W.widen (k := 5) (n := 48) (Nat.le_of_ble_eq_true rfl) (Nat.le_of_ble_eq_true rfl) ?_
  exact W.vret hx hb hr (fun t ht hW => ⟨⟨ct_up ad5 19 h0, rfl, ct_up_eq _ _ _, by rw [ht]; exact hP9, va_K.moved hW.alike hK, hD9⟩, hS.F ht⟩) hS.2.2 dX5_init_44
set_option maxHeartbeats 4000000 in
set_option maxRecDepth 100000 in
theorem ct_X5_33 (l : Launch) (dC : Nat → ClassId) (dI : Nat → Nat → Nat) (cI cB : ClassId) (h0 sz : Nat) : Met l yX5_init (ct_ws yX5_init cX5_init) (ct_rm 1 20 5 48) (ct_P dC dI cI cB 5 [.null, .null, .null, .int 0, .null, .null, .int 0] h0 sz) (ct_Q dC dI cI cB 5 [.null, .null, .null, .int 0, .null, .null, .int 0] h0 sz 33 6) 5 48 (va_A [(h0, .inr (5, [.null, .null, .null, .int 0, .null, .null, .int 0]))] sz) := by
  refine Met.ofW (cc := cX5_init) (maxL := 1) (ret := none) (by decide) rfl ?_
  intro p e s m args below meth c s₁ B hml hv
  obtain ⟨rfl, hsz, hP, hK, hD0, hnst⟩ := hv
  have hx := B.exec
  have hb := B.bytes
  have hr := B.returns
  have hts0 := atoms_spec (ws := ct_ws yX5_init cX5_init) B.pre
  have hts : ∀ w ∈ lw_g, w.before _ _ = true := fun w h => hts0 w (List.mem_cons_of_mem _ h)
  have hown : s.vm.findClass RX5 = some m.cls := findClass_of_methodNamed B.named
  have hin : meth.name = "<init>" := (name_of_methodNamed B.named B.method).1
  subst hsz
  unfold ct_Q
  have hD := hD0.self (sz := s.heap.size)
  generalize hAe : va_A [(h0, .inr (5, [.null, .null, .null, .int 0, .null, .null, .int 0]))] s.heap.size = A at hD ⊢
  have hA : ∀ q : Nat, s.heap.size ≤ q → A q := fun q h => by rw [← hAe]; exact Or.inr h
  have hS : va_S A s.heap s.heap [] := va_S.rf
  have hl := lv_entry ([.ref h0]) (n := 1) (Nat.le_of_ble_eq_true rfl)
  rw [lg_entry_eq]
  generalize (lg_sl ([.ref h0]) ++ List.replicate (1 - (lg_sl ([.ref h0])).length) Slot.unset).toArray = ls at hl ⊢
  have hl : lv_has ls 1 [(0, .ref h0)] := hl
  obtain ⟨ad0, -⟩ : ∃ ad0 : Nat → Nat, True := ⟨fun _ => 0, trivial⟩
  replace hP : va_P (dC, dI) vwCl ((h0, .inr (5, [.null, .null, .null, .int 0, .null, .null, .int 0])) :: cw cI cB 34 0 ad0) s.heap := hP
  replace hD : va_D A ((h0, .inr (5, [.null, .null, .null, .int 0, .null, .null, .int 0])) :: cw cI cB 34 0 ad0) := hD
  have hH0 : s.heap = s.heap := rfl
  refine lv_aload_n hx hb dX5_init_0 rfl (lv_at hl 0 rfl) ?_
  refine W.objInit hx hb hown (hts _ (am_gw 90 (by decide +kernel) (by decide +kernel))) (hts _ ct_oi) (hts _ ct_oc) rfl (by rw [hml]; exact hl.1) rfl dX5_init_1 (Nat.le_of_ble_eq_true rfl) (Nat.le_of_ble_eq_true rfl) ?_
  refine W.eq (g2 := F0 m 4 ls []) rfl ?_
  refine lv_aload_n hx hb dX5_init_4 rfl (lv_at hl 0 rfl) ?_
  refine lv_bipush (v := 10) hx hb dX5_init_5 (by decide) ?_
  refine ct_nI (a := 34) (t := 0) (N := 10) hx hb (hts _ ct_aI) (by decide +kernel) (by decide +kernel) hK hP hD hS hA (by decide) (by decide) (by decide) (Nat.le_of_ble_eq_true rfl) (Nat.le_of_ble_eq_true rfl) dX5_init_7 (fun q1 ad1 H hw1 hq1 hP hD hS => ?_)
  refine ct_put (v := .ref q1) (ty := .array .int) hx hb (o := 5) (C := RX5) (T := TX5) (N := 7) (k := 0) rfl rfl hown hts (am_fd_5_9) rfl hin (by decide +kernel) rfl rfl (Nat.le_of_ble_eq_true rfl) hK hP hD hS dX5_init_9 (fun H locs hP hD hS => ?_)
  replace hP : va_P (dC, dI) vwCl ((h0, .inr (5, [.ref q1, .null, .null, .int 0, .null, .null, .int 0])) :: cw cI cB 34 1 ad1) H := hP
  replace hD : va_D A ((h0, .inr (5, [.ref q1, .null, .null, .int 0, .null, .null, .int 0])) :: cw cI cB 34 1 ad1) := hD
  refine lv_aload_n hx hb dX5_init_12 rfl (lv_at hl 0 rfl) ?_
  refine lv_bipush (v := 10) hx hb dX5_init_13 (by decide) ?_
  refine ct_nI (a := 34) (t := 1) (N := 10) hx hb (hts _ ct_aI) (by decide +kernel) (by decide +kernel) hK hP hD hS hA (by decide) (by decide) (by decide) (Nat.le_of_ble_eq_true rfl) (Nat.le_of_ble_eq_true rfl) dX5_init_15 (fun q2 ad2 H hw2 hq2 hP hD hS => ?_)
  refine ct_put (v := .ref q2) (ty := .array .int) hx hb (o := 5) (C := RX5) (T := TX5) (N := 7) (k := 1) rfl rfl hown hts (am_fd_5_15) rfl hin (by decide +kernel) rfl rfl (Nat.le_of_ble_eq_true rfl) hK hP hD hS dX5_init_17 (fun H locs hP hD hS => ?_)
  replace hP : va_P (dC, dI) vwCl ((h0, .inr (5, [.ref q1, .ref q2, .null, .int 0, .null, .null, .int 0])) :: cw cI cB 34 2 ad2) H := hP
  replace hD : va_D A ((h0, .inr (5, [.ref q1, .ref q2, .null, .int 0, .null, .null, .int 0])) :: cw cI cB 34 2 ad2) := hD
  refine lv_aload_n hx hb dX5_init_20 rfl (lv_at hl 0 rfl) ?_
  refine lv_bipush (v := 9) hx hb dX5_init_21 (by decide) ?_
  refine ct_nI (a := 34) (t := 2) (N := 9) hx hb (hts _ ct_aI) (by decide +kernel) (by decide +kernel) hK hP hD hS hA (by decide) (by decide) (by decide) (Nat.le_of_ble_eq_true rfl) (Nat.le_of_ble_eq_true rfl) dX5_init_23 (fun q3 ad3 H hw3 hq3 hP hD hS => ?_)
  refine ct_put (v := .ref q3) (ty := .array .int) hx hb (o := 5) (C := RX5) (T := TX5) (N := 7) (k := 2) rfl rfl hown hts (am_fd_5_18) rfl hin (by decide +kernel) rfl rfl (Nat.le_of_ble_eq_true rfl) hK hP hD hS dX5_init_25 (fun H locs hP hD hS => ?_)
  replace hP : va_P (dC, dI) vwCl ((h0, .inr (5, [.ref q1, .ref q2, .ref q3, .int 0, .null, .null, .int 0])) :: cw cI cB 34 3 ad3) H := hP
  replace hD : va_D A ((h0, .inr (5, [.ref q1, .ref q2, .ref q3, .int 0, .null, .null, .int 0])) :: cw cI cB 34 3 ad3) := hD
  refine lv_aload_n hx hb dX5_init_28 rfl (lv_at hl 0 rfl) ?_
  refine lv_bipush (v := 10) hx hb dX5_init_29 (by decide) ?_
  refine ct_nI (a := 34) (t := 3) (N := 10) hx hb (hts _ ct_aI) (by decide +kernel) (by decide +kernel) hK hP hD hS hA (by decide) (by decide) (by decide) (Nat.le_of_ble_eq_true rfl) (Nat.le_of_ble_eq_true rfl) dX5_init_31 (fun q4 ad4 H hw4 hq4 hP hD hS => ?_)
  refine ct_put (v := .ref q4) (ty := .array .int) hx hb (o := 5) (C := RX5) (T := TX5) (N := 7) (k := 4) rfl rfl hown hts (am_fd_5_21) rfl hin (by decide +kernel) rfl rfl (Nat.le_of_ble_eq_true rfl) hK hP hD hS dX5_init_33 (fun H locs hP hD hS => ?_)
  replace hP : va_P (dC, dI) vwCl ((h0, .inr (5, [.ref q1, .ref q2, .ref q3, .int 0, .ref q4, .null, .int 0])) :: cw cI cB 34 4 ad4) H := hP
  replace hD : va_D A ((h0, .inr (5, [.ref q1, .ref q2, .ref q3, .int 0, .ref q4, .null, .int 0])) :: cw cI cB 34 4 ad4) := hD
  refine lv_aload_n hx hb dX5_init_36 rfl (lv_at hl 0 rfl) ?_
  refine lv_bipush (v := 9) hx hb dX5_init_37 (by decide) ?_
  refine ct_nI (a := 34) (t := 4) (N := 9) hx hb (hts _ ct_aI) (by decide +kernel) (by decide +kernel) hK hP hD hS hA (by decide) (by decide) (by decide) (Nat.le_of_ble_eq_true rfl) (Nat.le_of_ble_eq_true rfl) dX5_init_39 (fun q5 ad5 H hw5 hq5 hP hD hS => ?_)
  refine ct_put (v := .ref q5) (ty := .array .int) hx hb (o := 5) (C := RX5) (T := TX5) (N := 7) (k := 5) rfl rfl hown hts (am_fd_5_24) rfl hin (by decide +kernel) rfl rfl (Nat.le_of_ble_eq_true rfl) hK hP hD hS dX5_init_41 (fun H locs hP hD hS => ?_)
  replace hP : va_P (dC, dI) vwCl ((h0, .inr (5, [.ref q1, .ref q2, .ref q3, .int 0, .ref q4, .ref q5, .int 0])) :: cw cI cB 34 5 ad5) H := hP
  replace hD : va_D A ((h0, .inr (5, [.ref q1, .ref q2, .ref q3, .int 0, .ref q4, .ref q5, .int 0])) :: cw cI cB 34 5 ad5) := hD
  have e1 : ad5 34 = q1 := (hw5 34 (by decide)).trans ((hw4 34 (by decide)).trans ((hw3 34 (by decide)).trans ((hw2 34 (by decide)).trans (hq1))))
  have e2 : ad5 35 = q2 := (hw5 35 (by decide)).trans ((hw4 35 (by decide)).trans ((hw3 35 (by decide)).trans (hq2)))
  have e3 : ad5 36 = q3 := (hw5 36 (by decide)).trans ((hw4 36 (by decide)).trans (hq3))
  have e4 : ad5 37 = q4 := (hw5 37 (by decide)).trans (hq4)
  have e5 : ad5 38 = q5 := hq5
  have hP9 : va_P (dC, dI) vwCl (cw cI cB 33 6 (ct_up ad5 33 h0)) H := by
    rw [cw_1, cw_c (ad := ct_up ad5 33 h0) (ad' := ad5) (by decide +kernel) (fun x h _ => ct_up_ne (by omega))]
    subst e1 e2 e3 e4 e5
    exact hP
  have hD9 : va_D A (cw cI cB 33 6 (ct_up ad5 33 h0)) := by
    rw [cw_1, cw_c (ad := ct_up ad5 33 h0) (ad' := ad5) (by decide +kernel) (fun x h _ => ct_up_ne (by omega))]
    subst e1 e2 e3 e4 e5
    exact hD
  refine W.widen (k := 5) (n := 48) (Nat.le_of_ble_eq_true rfl) (Nat.le_of_ble_eq_true rfl) ?_
  exact W.vret hx hb hr (fun t ht hW => ⟨⟨ct_up ad5 33 h0, rfl, ct_up_eq _ _ _, by rw [ht]; exact hP9, va_K.moved hW.alike hK, hD9⟩, hS.F ht⟩) hS.2.2 dX5_init_44
set_option maxHeartbeats 4000000 in
set_option maxRecDepth 100000 in
theorem ct_X5_39 (l : Launch) (dC : Nat → ClassId) (dI : Nat → Nat → Nat) (cI cB : ClassId) (h0 sz : Nat) : Met l yX5_init (ct_ws yX5_init cX5_init) (ct_rm 1 20 5 48) (ct_P dC dI cI cB 5 [.null, .null, .null, .int 0, .null, .null, .int 0] h0 sz) (ct_Q dC dI cI cB 5 [.null, .null, .null, .int 0, .null, .null, .int 0] h0 sz 39 6) 5 48 (va_A [(h0, .inr (5, [.null, .null, .null, .int 0, .null, .null, .int 0]))] sz) := by
  refine Met.ofW (cc := cX5_init) (maxL := 1) (ret := none) (by decide) rfl ?_
  intro p e s m args below meth c s₁ B hml hv
  obtain ⟨rfl, hsz, hP, hK, hD0, hnst⟩ := hv
  have hx := B.exec
  have hb := B.bytes
  have hr := B.returns
  have hts0 := atoms_spec (ws := ct_ws yX5_init cX5_init) B.pre
  have hts : ∀ w ∈ lw_g, w.before _ _ = true := fun w h => hts0 w (List.mem_cons_of_mem _ h)
  have hown : s.vm.findClass RX5 = some m.cls := findClass_of_methodNamed B.named
  have hin : meth.name = "<init>" := (name_of_methodNamed B.named B.method).1
  subst hsz
  unfold ct_Q
  have hD := hD0.self (sz := s.heap.size)
  generalize hAe : va_A [(h0, .inr (5, [.null, .null, .null, .int 0, .null, .null, .int 0]))] s.heap.size = A at hD ⊢
  have hA : ∀ q : Nat, s.heap.size ≤ q → A q := fun q h => by rw [← hAe]; exact Or.inr h
  have hS : va_S A s.heap s.heap [] := va_S.rf
  have hl := lv_entry ([.ref h0]) (n := 1) (Nat.le_of_ble_eq_true rfl)
  rw [lg_entry_eq]
  generalize (lg_sl ([.ref h0]) ++ List.replicate (1 - (lg_sl ([.ref h0])).length) Slot.unset).toArray = ls at hl ⊢
  have hl : lv_has ls 1 [(0, .ref h0)] := hl
  obtain ⟨ad0, -⟩ : ∃ ad0 : Nat → Nat, True := ⟨fun _ => 0, trivial⟩
  replace hP : va_P (dC, dI) vwCl ((h0, .inr (5, [.null, .null, .null, .int 0, .null, .null, .int 0])) :: cw cI cB 40 0 ad0) s.heap := hP
  replace hD : va_D A ((h0, .inr (5, [.null, .null, .null, .int 0, .null, .null, .int 0])) :: cw cI cB 40 0 ad0) := hD
  have hH0 : s.heap = s.heap := rfl
  refine lv_aload_n hx hb dX5_init_0 rfl (lv_at hl 0 rfl) ?_
  refine W.objInit hx hb hown (hts _ (am_gw 90 (by decide +kernel) (by decide +kernel))) (hts _ ct_oi) (hts _ ct_oc) rfl (by rw [hml]; exact hl.1) rfl dX5_init_1 (Nat.le_of_ble_eq_true rfl) (Nat.le_of_ble_eq_true rfl) ?_
  refine W.eq (g2 := F0 m 4 ls []) rfl ?_
  refine lv_aload_n hx hb dX5_init_4 rfl (lv_at hl 0 rfl) ?_
  refine lv_bipush (v := 10) hx hb dX5_init_5 (by decide) ?_
  refine ct_nI (a := 40) (t := 0) (N := 10) hx hb (hts _ ct_aI) (by decide +kernel) (by decide +kernel) hK hP hD hS hA (by decide) (by decide) (by decide) (Nat.le_of_ble_eq_true rfl) (Nat.le_of_ble_eq_true rfl) dX5_init_7 (fun q1 ad1 H hw1 hq1 hP hD hS => ?_)
  refine ct_put (v := .ref q1) (ty := .array .int) hx hb (o := 5) (C := RX5) (T := TX5) (N := 7) (k := 0) rfl rfl hown hts (am_fd_5_9) rfl hin (by decide +kernel) rfl rfl (Nat.le_of_ble_eq_true rfl) hK hP hD hS dX5_init_9 (fun H locs hP hD hS => ?_)
  replace hP : va_P (dC, dI) vwCl ((h0, .inr (5, [.ref q1, .null, .null, .int 0, .null, .null, .int 0])) :: cw cI cB 40 1 ad1) H := hP
  replace hD : va_D A ((h0, .inr (5, [.ref q1, .null, .null, .int 0, .null, .null, .int 0])) :: cw cI cB 40 1 ad1) := hD
  refine lv_aload_n hx hb dX5_init_12 rfl (lv_at hl 0 rfl) ?_
  refine lv_bipush (v := 10) hx hb dX5_init_13 (by decide) ?_
  refine ct_nI (a := 40) (t := 1) (N := 10) hx hb (hts _ ct_aI) (by decide +kernel) (by decide +kernel) hK hP hD hS hA (by decide) (by decide) (by decide) (Nat.le_of_ble_eq_true rfl) (Nat.le_of_ble_eq_true rfl) dX5_init_15 (fun q2 ad2 H hw2 hq2 hP hD hS => ?_)
  refine ct_put (v := .ref q2) (ty := .array .int) hx hb (o := 5) (C := RX5) (T := TX5) (N := 7) (k := 1) rfl rfl hown hts (am_fd_5_15) rfl hin (by decide +kernel) rfl rfl (Nat.le_of_ble_eq_true rfl) hK hP hD hS dX5_init_17 (fun H locs hP hD hS => ?_)
  replace hP : va_P (dC, dI) vwCl ((h0, .inr (5, [.ref q1, .ref q2, .null, .int 0, .null, .null, .int 0])) :: cw cI cB 40 2 ad2) H := hP
  replace hD : va_D A ((h0, .inr (5, [.ref q1, .ref q2, .null, .int 0, .null, .null, .int 0])) :: cw cI cB 40 2 ad2) := hD
  refine lv_aload_n hx hb dX5_init_20 rfl (lv_at hl 0 rfl) ?_
  refine lv_bipush (v := 9) hx hb dX5_init_21 (by decide) ?_
  refine ct_nI (a := 40) (t := 2) (N := 9) hx hb (hts _ ct_aI) (by decide +kernel) (by decide +kernel) hK hP hD hS hA (by decide) (by decide) (by decide) (Nat.le_of_ble_eq_true rfl) (Nat.le_of_ble_eq_true rfl) dX5_init_23 (fun q3 ad3 H hw3 hq3 hP hD hS => ?_)
  refine ct_put (v := .ref q3) (ty := .array .int) hx hb (o := 5) (C := RX5) (T := TX5) (N := 7) (k := 2) rfl rfl hown hts (am_fd_5_18) rfl hin (by decide +kernel) rfl rfl (Nat.le_of_ble_eq_true rfl) hK hP hD hS dX5_init_25 (fun H locs hP hD hS => ?_)
  replace hP : va_P (dC, dI) vwCl ((h0, .inr (5, [.ref q1, .ref q2, .ref q3, .int 0, .null, .null, .int 0])) :: cw cI cB 40 3 ad3) H := hP
  replace hD : va_D A ((h0, .inr (5, [.ref q1, .ref q2, .ref q3, .int 0, .null, .null, .int 0])) :: cw cI cB 40 3 ad3) := hD
  refine lv_aload_n hx hb dX5_init_28 rfl (lv_at hl 0 rfl) ?_
  refine lv_bipush (v := 10) hx hb dX5_init_29 (by decide) ?_
  refine ct_nI (a := 40) (t := 3) (N := 10) hx hb (hts _ ct_aI) (by decide +kernel) (by decide +kernel) hK hP hD hS hA (by decide) (by decide) (by decide) (Nat.le_of_ble_eq_true rfl) (Nat.le_of_ble_eq_true rfl) dX5_init_31 (fun q4 ad4 H hw4 hq4 hP hD hS => ?_)
  refine ct_put (v := .ref q4) (ty := .array .int) hx hb (o := 5) (C := RX5) (T := TX5) (N := 7) (k := 4) rfl rfl hown hts (am_fd_5_21) rfl hin (by decide +kernel) rfl rfl (Nat.le_of_ble_eq_true rfl) hK hP hD hS dX5_init_33 (fun H locs hP hD hS => ?_)
  replace hP : va_P (dC, dI) vwCl ((h0, .inr (5, [.ref q1, .ref q2, .ref q3, .int 0, .ref q4, .null, .int 0])) :: cw cI cB 40 4 ad4) H := hP
  replace hD : va_D A ((h0, .inr (5, [.ref q1, .ref q2, .ref q3, .int 0, .ref q4, .null, .int 0])) :: cw cI cB 40 4 ad4) := hD
  refine lv_aload_n hx hb dX5_init_36 rfl (lv_at hl 0 rfl) ?_
  refine lv_bipush (v := 9) hx hb dX5_init_37 (by decide) ?_
  refine ct_nI (a := 40) (t := 4) (N := 9) hx hb (hts _ ct_aI) (by decide +kernel) (by decide +kernel) hK hP hD hS hA (by decide) (by decide) (by decide) (Nat.le_of_ble_eq_true rfl) (Nat.le_of_ble_eq_true rfl) dX5_init_39 (fun q5 ad5 H hw5 hq5 hP hD hS => ?_)
  refine ct_put (v := .ref q5) (ty := .array .int) hx hb (o := 5) (C := RX5) (T := TX5) (N := 7) (k := 5) rfl rfl hown hts (am_fd_5_24) rfl hin (by decide +kernel) rfl rfl (Nat.le_of_ble_eq_true rfl) hK hP hD hS dX5_init_41 (fun H locs hP hD hS => ?_)
  replace hP : va_P (dC, dI) vwCl ((h0, .inr (5, [.ref q1, .ref q2, .ref q3, .int 0, .ref q4, .ref q5, .int 0])) :: cw cI cB 40 5 ad5) H := hP
  replace hD : va_D A ((h0, .inr (5, [.ref q1, .ref q2, .ref q3, .int 0, .ref q4, .ref q5, .int 0])) :: cw cI cB 40 5 ad5) := hD
  have e1 : ad5 40 = q1 := (hw5 40 (by decide)).trans ((hw4 40 (by decide)).trans ((hw3 40 (by decide)).trans ((hw2 40 (by decide)).trans (hq1))))
  have e2 : ad5 41 = q2 := (hw5 41 (by decide)).trans ((hw4 41 (by decide)).trans ((hw3 41 (by decide)).trans (hq2)))
  have e3 : ad5 42 = q3 := (hw5 42 (by decide)).trans ((hw4 42 (by decide)).trans (hq3))
  have e4 : ad5 43 = q4 := (hw5 43 (by decide)).trans (hq4)
  have e5 : ad5 44 = q5 := hq5
  have hP9 : va_P (dC, dI) vwCl (cw cI cB 39 6 (ct_up ad5 39 h0)) H := by
    rw [cw_1, cw_c (ad := ct_up ad5 39 h0) (ad' := ad5) (by decide +kernel) (fun x h _ => ct_up_ne (by omega))]
    subst e1 e2 e3 e4 e5
    exact hP
  have hD9 : va_D A (cw cI cB 39 6 (ct_up ad5 39 h0)) := by
    rw [cw_1, cw_c (ad := ct_up ad5 39 h0) (ad' := ad5) (by decide +kernel) (fun x h _ => ct_up_ne (by omega))]
    subst e1 e2 e3 e4 e5
    exact hD
  refine W.widen (k := 5) (n := 48) (Nat.le_of_ble_eq_true rfl) (Nat.le_of_ble_eq_true rfl) ?_
  exact W.vret hx hb hr (fun t ht hW => ⟨⟨ct_up ad5 39 h0, rfl, ct_up_eq _ _ _, by rw [ht]; exact hP9, va_K.moved hW.alike hK, hD9⟩, hS.F ht⟩) hS.2.2 dX5_init_44
set_option maxHeartbeats 4000000 in
set_option maxRecDepth 100000 in
theorem ct_X5_63 (l : Launch) (dC : Nat → ClassId) (dI : Nat → Nat → Nat) (cI cB : ClassId) (h0 sz : Nat) : Met l yX5_init (ct_ws yX5_init cX5_init) (ct_rm 1 20 5 48) (ct_P dC dI cI cB 5 [.null, .null, .null, .int 0, .null, .null, .int 0] h0 sz) (ct_Q dC dI cI cB 5 [.null, .null, .null, .int 0, .null, .null, .int 0] h0 sz 63 6) 5 48 (va_A [(h0, .inr (5, [.null, .null, .null, .int 0, .null, .null, .int 0]))] sz) := by
  refine Met.ofW (cc := cX5_init) (maxL := 1) (ret := none) (by decide) rfl ?_
  intro p e s m args below meth c s₁ B hml hv
  obtain ⟨rfl, hsz, hP, hK, hD0, hnst⟩ := hv
  have hx := B.exec
  have hb := B.bytes
  have hr := B.returns
  have hts0 := atoms_spec (ws := ct_ws yX5_init cX5_init) B.pre
  have hts : ∀ w ∈ lw_g, w.before _ _ = true := fun w h => hts0 w (List.mem_cons_of_mem _ h)
  have hown : s.vm.findClass RX5 = some m.cls := findClass_of_methodNamed B.named
  have hin : meth.name = "<init>" := (name_of_methodNamed B.named B.method).1
  subst hsz
  unfold ct_Q
  have hD := hD0.self (sz := s.heap.size)
  generalize hAe : va_A [(h0, .inr (5, [.null, .null, .null, .int 0, .null, .null, .int 0]))] s.heap.size = A at hD ⊢
  have hA : ∀ q : Nat, s.heap.size ≤ q → A q := fun q h => by rw [← hAe]; exact Or.inr h
  have hS : va_S A s.heap s.heap [] := va_S.rf
  have hl := lv_entry ([.ref h0]) (n := 1) (Nat.le_of_ble_eq_true rfl)
  rw [lg_entry_eq]
  generalize (lg_sl ([.ref h0]) ++ List.replicate (1 - (lg_sl ([.ref h0])).length) Slot.unset).toArray = ls at hl ⊢
  have hl : lv_has ls 1 [(0, .ref h0)] := hl
  obtain ⟨ad0, -⟩ : ∃ ad0 : Nat → Nat, True := ⟨fun _ => 0, trivial⟩
  replace hP : va_P (dC, dI) vwCl ((h0, .inr (5, [.null, .null, .null, .int 0, .null, .null, .int 0])) :: cw cI cB 64 0 ad0) s.heap := hP
  replace hD : va_D A ((h0, .inr (5, [.null, .null, .null, .int 0, .null, .null, .int 0])) :: cw cI cB 64 0 ad0) := hD
  have hH0 : s.heap = s.heap := rfl
  refine lv_aload_n hx hb dX5_init_0 rfl (lv_at hl 0 rfl) ?_
  refine W.objInit hx hb hown (hts _ (am_gw 90 (by decide +kernel) (by decide +kernel))) (hts _ ct_oi) (hts _ ct_oc) rfl (by rw [hml]; exact hl.1) rfl dX5_init_1 (Nat.le_of_ble_eq_true rfl) (Nat.le_of_ble_eq_true rfl) ?_
  refine W.eq (g2 := F0 m 4 ls []) rfl ?_
  refine lv_aload_n hx hb dX5_init_4 rfl (lv_at hl 0 rfl) ?_
  refine lv_bipush (v := 10) hx hb dX5_init_5 (by decide) ?_
  refine ct_nI (a := 64) (t := 0) (N := 10) hx hb (hts _ ct_aI) (by decide +kernel) (by decide +kernel) hK hP hD hS hA (by decide) (by decide) (by decide) (Nat.le_of_ble_eq_true rfl) (Nat.le_of_ble_eq_true rfl) dX5_init_7 (fun q1 ad1 H hw1 hq1 hP hD hS => ?_)
  refine ct_put (v := .ref q1) (ty := .array .int) hx hb (o := 5) (C := RX5) (T := TX5) (N := 7) (k := 0) rfl rfl hown hts (am_fd_5_9) rfl hin (by decide +kernel) rfl rfl (Nat.le_of_ble_eq_true rfl) hK hP hD hS dX5_init_9 (fun H locs hP hD hS => ?_)
  replace hP : va_P (dC, dI) vwCl ((h0, .inr (5, [.ref q1, .null, .null, .int 0, .null, .null, .int 0])) :: cw cI cB 64 1 ad1) H := hP
  replace hD : va_D A ((h0, .inr (5, [.ref q1, .null, .null, .int 0, .null, .null, .int 0])) :: cw cI cB 64 1 ad1) := hD
  refine lv_aload_n hx hb dX5_init_12 rfl (lv_at hl 0 rfl) ?_
  refine lv_bipush (v := 10) hx hb dX5_init_13 (by decide) ?_
  refine ct_nI (a := 64) (t := 1) (N := 10) hx hb (hts _ ct_aI) (by decide +kernel) (by decide +kernel) hK hP hD hS hA (by decide) (by decide) (by decide) (Nat.le_of_ble_eq_true rfl) (Nat.le_of_ble_eq_true rfl) dX5_init_15 (fun q2 ad2 H hw2 hq2 hP hD hS => ?_)
  refine ct_put (v := .ref q2) (ty := .array .int) hx hb (o := 5) (C := RX5) (T := TX5) (N := 7) (k := 1) rfl rfl hown hts (am_fd_5_15) rfl hin (by decide +kernel) rfl rfl (Nat.le_of_ble_eq_true rfl) hK hP hD hS dX5_init_17 (fun H locs hP hD hS => ?_)
  replace hP : va_P (dC, dI) vwCl ((h0, .inr (5, [.ref q1, .ref q2, .null, .int 0, .null, .null, .int 0])) :: cw cI cB 64 2 ad2) H := hP
  replace hD : va_D A ((h0, .inr (5, [.ref q1, .ref q2, .null, .int 0, .null, .null, .int 0])) :: cw cI cB 64 2 ad2) := hD
  refine lv_aload_n hx hb dX5_init_20 rfl (lv_at hl 0 rfl) ?_
  refine lv_bipush (v := 9) hx hb dX5_init_21 (by decide) ?_
  refine ct_nI (a := 64) (t := 2) (N := 9) hx hb (hts _ ct_aI) (by decide +kernel) (by decide +kernel) hK hP hD hS hA (by decide) (by decide) (by decide) (Nat.le_of_ble_eq_true rfl) (Nat.le_of_ble_eq_true rfl) dX5_init_23 (fun q3 ad3 H hw3 hq3 hP hD hS => ?_)
  refine ct_put (v := .ref q3) (ty := .array .int) hx hb (o := 5) (C := RX5) (T := TX5) (N := 7) (k := 2) rfl rfl hown hts (am_fd_5_18) rfl hin (by decide +kernel) rfl rfl (Nat.le_of_ble_eq_true rfl) hK hP hD hS dX5_init_25 (fun H locs hP hD hS => ?_)
  replace hP : va_P (dC, dI) vwCl ((h0, .inr (5, [.ref q1, .ref q2, .ref q3, .int 0, .null, .null, .int 0])) :: cw cI cB 64 3 ad3) H := hP
  replace hD : va_D A ((h0, .inr (5, [.ref q1, .ref q2, .ref q3, .int 0, .null, .null, .int 0])) :: cw cI cB 64 3 ad3) := hD
  refine lv_aload_n hx hb dX5_init_28 rfl (lv_at hl 0 rfl) ?_
  refine lv_bipush (v := 10) hx hb dX5_init_29 (by decide) ?_
  refine ct_nI (a := 64) (t := 3) (N := 10) hx hb (hts _ ct_aI) (by decide +kernel) (by decide +kernel) hK hP hD hS hA (by decide) (by decide) (by decide) (Nat.le_of_ble_eq_true rfl) (Nat.le_of_ble_eq_true rfl) dX5_init_31 (fun q4 ad4 H hw4 hq4 hP hD hS => ?_)
  refine ct_put (v := .ref q4) (ty := .array .int) hx hb (o := 5) (C := RX5) (T := TX5) (N := 7) (k := 4) rfl rfl hown hts (am_fd_5_21) rfl hin (by decide +kernel) rfl rfl (Nat.le_of_ble_eq_true rfl) hK hP hD hS dX5_init_33 (fun H locs hP hD hS => ?_)
  replace hP : va_P (dC, dI) vwCl ((h0, .inr (5, [.ref q1, .ref q2, .ref q3, .int 0, .ref q4, .null, .int 0])) :: cw cI cB 64 4 ad4) H := hP
  replace hD : va_D A ((h0, .inr (5, [.ref q1, .ref q2, .ref q3, .int 0, .ref q4, .null, .int 0])) :: cw cI cB 64 4 ad4) := hD
  refine lv_aload_n hx hb dX5_init_36 rfl (lv_at hl 0 rfl) ?_
  refine lv_bipush (v := 9) hx hb dX5_init_37 (by decide) ?_
  refine ct_nI (a := 64) (t := 4) (N := 9) hx hb (hts _ ct_aI) (by decide +kernel) (by decide +kernel) hK hP hD hS hA (by decide) (by decide) (by decide) (Nat.le_of_ble_eq_true rfl) (Nat.le_of_ble_eq_true rfl) dX5_init_39 (fun q5 ad5 H hw5 hq5 hP hD hS => ?_)
  refine ct_put (v := .ref q5) (ty := .array .int) hx hb (o := 5) (C := RX5) (T := TX5) (N := 7) (k := 5) rfl rfl hown hts (am_fd_5_24) rfl hin (by decide +kernel) rfl rfl (Nat.le_of_ble_eq_true rfl) hK hP hD hS dX5_init_41 (fun H locs hP hD hS => ?_)
  replace hP : va_P (dC, dI) vwCl ((h0, .inr (5, [.ref q1, .ref q2, .ref q3, .int 0, .ref q4, .ref q5, .int 0])) :: cw cI cB 64 5 ad5) H := hP
  replace hD : va_D A ((h0, .inr (5, [.ref q1, .ref q2, .ref q3, .int 0, .ref q4, .ref q5, .int 0])) :: cw cI cB 64 5 ad5) := hD
  have e1 : ad5 64 = q1 := (hw5 64 (by decide)).trans ((hw4 64 (by decide)).trans ((hw3 64 (by decide)).trans ((hw2 64 (by decide)).trans (hq1))))
  have e2 : ad5 65 = q2 := (hw5 65 (by decide)).trans ((hw4 65 (by decide)).trans ((hw3 65 (by decide)).trans (hq2)))
  have e3 : ad5 66 = q3 := (hw5 66 (by decide)).trans ((hw4 66 (by decide)).trans (hq3))
  have e4 : ad5 67 = q4 := (hw5 67 (by decide)).trans (hq4)
  have e5 : ad5 68 = q5 := hq5
  have hP9 : va_P (dC, dI) vwCl (cw cI cB 63 6 (ct_up ad5 63 h0)) H := by
    rw [cw_1, cw_c (ad := ct_up ad5 63 h0) (ad' := ad5) (by decide +kernel) (fun x h _ => ct_up_ne (by omega))]
    subst e1 e2 e3 e4 e5
    exact hP
  have hD9 : va_D A (cw cI cB 63 6 (ct_up ad5 63 h0)) := by
    rw [cw_1, cw_c (ad := ct_up ad5 63 h0) (ad' := ad5) (by decide +kernel) (fun x h _ => ct_up_ne (by omega))]
    subst e1 e2 e3 e4 e5
    exact hD
  refine W.widen (k := 5) (n := 48) (Nat.le_of_ble_eq_true rfl) (Nat.le_of_ble_eq_true rfl) ?_
  exact W.vret hx hb hr (fun t ht hW => ⟨⟨ct_up ad5 63 h0, rfl, ct_up_eq _ _ _, by rw [ht]; exact hP9, va_K.moved hW.alike hK, hD9⟩, hS.F ht⟩) hS.2.2 dX5_init_44
set_option maxHeartbeats 4000000 in
set_option maxRecDepth 100000 in
theorem ct_X4_45 (l : Launch) (dC : Nat → ClassId) (dI : Nat → Nat → Nat) (cI cB : ClassId) (h0 sz : Nat) : Met l yX4_init (ct_ws yX4_init cX4_init) (ct_rm 1 20 2 18) (ct_P dC dI cI cB 4 [.int 0, .int 0, .int 0, .null, .null] h0 sz) (ct_Q dC dI cI cB 4 [.int 0, .int 0, .int 0, .null, .null] h0 sz 45 3) 2 18 (va_A [(h0, .inr (4, [.int 0, .int 0, .int 0, .null, .null]))] sz) := by
  refine Met.ofW (cc := cX4_init) (maxL := 1) (ret := none) (by decide) rfl ?_
  intro p e s m args below meth c s₁ B hml hv
  obtain ⟨rfl, hsz, hP, hK, hD0, hnst⟩ := hv
  have hx := B.exec
  have hb := B.bytes
  have hr := B.returns
  have hts0 := atoms_spec (ws := ct_ws yX4_init cX4_init) B.pre
  have hts : ∀ w ∈ lw_g, w.before _ _ = true := fun w h => hts0 w (List.mem_cons_of_mem _ h)
  have hown : s.vm.findClass RX4 = some m.cls := findClass_of_methodNamed B.named
  have hin : meth.name = "<init>" := (name_of_methodNamed B.named B.method).1
  subst hsz
  unfold ct_Q
  have hD := hD0.self (sz := s.heap.size)
  generalize hAe : va_A [(h0, .inr (4, [.int 0, .int 0, .int 0, .null, .null]))] s.heap.size = A at hD ⊢
  have hA : ∀ q : Nat, s.heap.size ≤ q → A q := fun q h => by rw [← hAe]; exact Or.inr h
  have hS : va_S A s.heap s.heap [] := va_S.rf
  have hl := lv_entry ([.ref h0]) (n := 1) (Nat.le_of_ble_eq_true rfl)
  rw [lg_entry_eq]
  generalize (lg_sl ([.ref h0]) ++ List.replicate (1 - (lg_sl ([.ref h0])).length) Slot.unset).toArray = ls at hl ⊢
  have hl : lv_has ls 1 [(0, .ref h0)] := hl
  obtain ⟨ad0, -⟩ : ∃ ad0 : Nat → Nat, True := ⟨fun _ => 0, trivial⟩
  replace hP : va_P (dC, dI) vwCl ((h0, .inr (4, [.int 0, .int 0, .int 0, .null, .null])) :: cw cI cB 46 0 ad0) s.heap := hP
  replace hD : va_D A ((h0, .inr (4, [.int 0, .int 0, .int 0, .null, .null])) :: cw cI cB 46 0 ad0) := hD
  have hH0 : s.heap = s.heap := rfl
  refine lv_aload_n hx hb dX4_init_0 rfl (lv_at hl 0 rfl) ?_
  refine W.objInit hx hb hown (hts _ (am_gw 210 (by decide +kernel) (by decide +kernel))) (hts _ ct_oi) (hts _ ct_oc) rfl (by rw [hml]; exact hl.1) rfl dX4_init_1 (Nat.le_of_ble_eq_true rfl) (Nat.le_of_ble_eq_true rfl) ?_
  refine W.eq (g2 := F0 m 4 ls []) rfl ?_
  refine lv_aload_n hx hb dX4_init_4 rfl (lv_at hl 0 rfl) ?_
  refine lv_bipush (v := 9) hx hb dX4_init_5 (by decide) ?_
  refine ct_nI (a := 46) (t := 0) (N := 9) hx hb (hts _ ct_aI) (by decide +kernel) (by decide +kernel) hK hP hD hS hA (by decide) (by decide) (by decide) (Nat.le_of_ble_eq_true rfl) (Nat.le_of_ble_eq_true rfl) dX4_init_7 (fun q1 ad1 H hw1 hq1 hP hD hS => ?_)
  refine ct_put (v := .ref q1) (ty := .array .int) hx hb (o := 4) (C := RX4) (T := TX4) (N := 5) (k := 3) rfl rfl hown hts (am_fd_4_9) rfl hin (by decide +kernel) rfl rfl (Nat.le_of_ble_eq_true rfl) hK hP hD hS dX4_init_9 (fun H locs hP hD hS => ?_)
  replace hP : va_P (dC, dI) vwCl ((h0, .inr (4, [.int 0, .int 0, .int 0, .ref q1, .null])) :: cw cI cB 46 1 ad1) H := hP
  replace hD : va_D A ((h0, .inr (4, [.int 0, .int 0, .int 0, .ref q1, .null])) :: cw cI cB 46 1 ad1) := hD
  refine lv_aload_n hx hb dX4_init_12 rfl (lv_at hl 0 rfl) ?_
  refine lv_bipush (v := 9) hx hb dX4_init_13 (by decide) ?_
  refine ct_nI (a := 46) (t := 1) (N := 9) hx hb (hts _ ct_aI) (by decide +kernel) (by decide +kernel) hK hP hD hS hA (by decide) (by decide) (by decide) (Nat.le_of_ble_eq_true rfl) (Nat.le_of_ble_eq_true rfl) dX4_init_15 (fun q2 ad2 H hw2 hq2 hP hD hS => ?_)
  refine ct_put (v := .ref q2) (ty := .array .int) hx hb (o := 4) (C := RX4) (T := TX4) (N := 5) (k := 4) rfl rfl hown hts (am_fd_4_15) rfl hin (by decide +kernel) rfl rfl (Nat.le_of_ble_eq_true rfl) hK hP hD hS dX4_init_17 (fun H locs hP hD hS => ?_)
  replace hP : va_P (dC, dI) vwCl ((h0, .inr (4, [.int 0, .int 0, .int 0, .ref q1, .ref q2])) :: cw cI cB 46 2 ad2) H := hP
  replace hD : va_D A ((h0, .inr (4, [.int 0, .int 0, .int 0, .ref q1, .ref q2])) :: cw cI cB 46 2 ad2) := hD
  have e1 : ad2 46 = q1 := (hw2 46 (by decide)).trans (hq1)
  have e2 : ad2 47 = q2 := hq2
  have hP9 : va_P (dC, dI) vwCl (cw cI cB 45 3 (ct_up ad2 45 h0)) H := by
    rw [cw_1, cw_c (ad := ct_up ad2 45 h0) (ad' := ad2) (by decide +kernel) (fun x h _ => ct_up_ne (by omega))]
    subst e1 e2
    exact hP
  have hD9 : va_D A (cw cI cB 45 3 (ct_up ad2 45 h0)) := by
    rw [cw_1, cw_c (ad := ct_up ad2 45 h0) (ad' := ad2) (by decide +kernel) (fun x h _ => ct_up_ne (by omega))]
    subst e1 e2
    exact hD
  refine W.widen (k := 2) (n := 18) (Nat.le_of_ble_eq_true rfl) (Nat.le_of_ble_eq_true rfl) ?_
  exact W.vret hx hb hr (fun t ht hW => ⟨⟨ct_up ad2 45 h0, rfl, ct_up_eq _ _ _, by rw [ht]; exact hP9, va_K.moved hW.alike hK, hD9⟩, hS.F ht⟩) hS.2.2 dX4_init_20
set_option maxHeartbeats 4000000 in
set_option maxRecDepth 100000 in
theorem ct_X4_48 (l : Launch) (dC : Nat → ClassId) (dI : Nat → Nat → Nat) (cI cB : ClassId) (h0 sz : Nat) : Met l yX4_init (ct_ws yX4_init cX4_init) (ct_rm 1 20 2 18) (ct_P dC dI cI cB 4 [.int 0, .int 0, .int 0, .null, .null] h0 sz) (ct_Q dC dI cI cB 4 [.int 0, .int 0, .int 0, .null, .null] h0 sz 48 3) 2 18 (va_A [(h0, .inr (4, [.int 0, .int 0, .int 0, .null, .null]))] sz) := by
  refine Met.ofW (cc := cX4_init) (maxL := 1) (ret := none) (by decide) rfl ?_
  intro p e s m args below meth c s₁ B hml hv
  obtain ⟨rfl, hsz, hP, hK, hD0, hnst⟩ := hv
  have hx := B.exec
  have hb := B.bytes
  have hr := B.returns
  have hts0 := atoms_spec (ws := ct_ws yX4_init cX4_init) B.pre
  have hts : ∀ w ∈ lw_g, w.before _ _ = true := fun w h => hts0 w (List.mem_cons_of_mem _ h)
  have hown : s.vm.findClass RX4 = some m.cls := findClass_of_methodNamed B.named
  have hin : meth.name = "<init>" := (name_of_methodNamed B.named B.method).1
  subst hsz
  unfold ct_Q
  have hD := hD0.self (sz := s.heap.size)
  generalize hAe : va_A [(h0, .inr (4, [.int 0, .int 0, .int 0, .null, .null]))] s.heap.size = A at hD ⊢
  have hA : ∀ q : Nat, s.heap.size ≤ q → A q := fun q h => by rw [← hAe]; exact Or.inr h
  have hS : va_S A s.heap s.heap [] := va_S.rf
  have hl := lv_entry ([.ref h0]) (n := 1) (Nat.le_of_ble_eq_true rfl)
  rw [lg_entry_eq]
  generalize (lg_sl ([.ref h0]) ++ List.replicate (1 - (lg_sl ([.ref h0])).length) Slot.unset).toArray = ls at hl ⊢
  have hl : lv_has ls 1 [(0, .ref h0)] := hl
  obtain ⟨ad0, -⟩ : ∃ ad0 : Nat → Nat, True := ⟨fun _ => 0, trivial⟩
  replace hP : va_P (dC, dI) vwCl ((h0, .inr (4, [.int 0, .int 0, .int 0, .null, .null])) :: cw cI cB 49 0 ad0) s.heap := hP
  replace hD : va_D A ((h0, .inr (4, [.int 0, .int 0, .int 0, .null, .null])) :: cw cI cB 49 0 ad0) := hD
  have hH0 : s.heap = s.heap := rfl
  refine lv_aload_n hx hb dX4_init_0 rfl (lv_at hl 0 rfl) ?_
  refine W.objInit hx hb hown (hts _ (am_gw 210 (by decide +kernel) (by decide +kernel))) (hts _ ct_oi) (hts _ ct_oc) rfl (by rw [hml]; exact hl.1) rfl dX4_init_1 (Nat.le_of_ble_eq_true rfl) (Nat.le_of_ble_eq_true rfl) ?_
  refine W.eq (g2 := F0 m 4 ls []) rfl ?_
  refine lv_aload_n hx hb dX4_init_4 rfl (lv_at hl 0 rfl) ?_
  refine lv_bipush (v := 9) hx hb dX4_init_5 (by decide) ?_
  refine ct_nI (a := 49) (t := 0) (N := 9) hx hb (hts _ ct_aI) (by decide +kernel) (by decide +kernel) hK hP hD hS hA (by decide) (by decide) (by decide) (Nat.le_of_ble_eq_true rfl) (Nat.le_of_ble_eq_true rfl) dX4_init_7 (fun q1 ad1 H hw1 hq1 hP hD hS => ?_)
  refine ct_put (v := .ref q1) (ty := .array .int) hx hb (o := 4) (C := RX4) (T := TX4) (N := 5) (k := 3) rfl rfl hown hts (am_fd_4_9) rfl hin (by decide +kernel) rfl rfl (Nat.le_of_ble_eq_true rfl) hK hP hD hS dX4_init_9 (fun H locs hP hD hS => ?_)
  replace hP : va_P (dC, dI) vwCl ((h0, .inr (4, [.int 0, .int 0, .int 0, .ref q1, .null])) :: cw cI cB 49 1 ad1) H := hP
  replace hD : va_D A ((h0, .inr (4, [.int 0, .int 0, .int 0, .ref q1, .null])) :: cw cI cB 49 1 ad1) := hD
  refine lv_aload_n hx hb dX4_init_12 rfl (lv_at hl 0 rfl) ?_
  refine lv_bipush (v := 9) hx hb dX4_init_13 (by decide) ?_
  refine ct_nI (a := 49) (t := 1) (N := 9) hx hb (hts _ ct_aI) (by decide +kernel) (by decide +kernel) hK hP hD hS hA (by decide) (by decide) (by decide) (Nat.le_of_ble_eq_true rfl) (Nat.le_of_ble_eq_true rfl) dX4_init_15 (fun q2 ad2 H hw2 hq2 hP hD hS => ?_)
  refine ct_put (v := .ref q2) (ty := .array .int) hx hb (o := 4) (C := RX4) (T := TX4) (N := 5) (k := 4) rfl rfl hown hts (am_fd_4_15) rfl hin (by decide +kernel) rfl rfl (Nat.le_of_ble_eq_true rfl) hK hP hD hS dX4_init_17 (fun H locs hP hD hS => ?_)
  replace hP : va_P (dC, dI) vwCl ((h0, .inr (4, [.int 0, .int 0, .int 0, .ref q1, .ref q2])) :: cw cI cB 49 2 ad2) H := hP
  replace hD : va_D A ((h0, .inr (4, [.int 0, .int 0, .int 0, .ref q1, .ref q2])) :: cw cI cB 49 2 ad2) := hD
  have e1 : ad2 49 = q1 := (hw2 49 (by decide)).trans (hq1)
  have e2 : ad2 50 = q2 := hq2
  have hP9 : va_P (dC, dI) vwCl (cw cI cB 48 3 (ct_up ad2 48 h0)) H := by
    rw [cw_1, cw_c (ad := ct_up ad2 48 h0) (ad' := ad2) (by decide +kernel) (fun x h _ => ct_up_ne (by omega))]
    subst e1 e2
    exact hP
  have hD9 : va_D A (cw cI cB 48 3 (ct_up ad2 48 h0)) := by
    rw [cw_1, cw_c (ad := ct_up ad2 48 h0) (ad' := ad2) (by decide +kernel) (fun x h _ => ct_up_ne (by omega))]
    subst e1 e2
    exact hD
  refine W.widen (k := 2) (n := 18) (Nat.le_of_ble_eq_true rfl) (Nat.le_of_ble_eq_true rfl) ?_
  exact W.vret hx hb hr (fun t ht hW => ⟨⟨ct_up ad2 48 h0, rfl, ct_up_eq _ _ _, by rw [ht]; exact hP9, va_K.moved hW.alike hK, hD9⟩, hS.F ht⟩) hS.2.2 dX4_init_20
set_option maxHeartbeats 4000000 in
set_option maxRecDepth 100000 in
theorem ct_X4_51 (l : Launch) (dC : Nat → ClassId) (dI : Nat → Nat → Nat) (cI cB : ClassId) (h0 sz : Nat) : Met l yX4_init (ct_ws yX4_init cX4_init) (ct_rm 1 20 2 18) (ct_P dC dI cI cB 4 [.int 0, .int 0, .int 0, .null, .null] h0 sz) (ct_Q dC dI cI cB 4 [.int 0, .int 0, .int 0, .null, .null] h0 sz 51 3) 2 18 (va_A [(h0, .inr (4, [.int 0, .int 0, .int 0, .null, .null]))] sz) := by
  refine Met.ofW (cc := cX4_init) (maxL := 1) (ret := none) (by decide) rfl ?_
  intro p e s m args below meth c s₁ B hml hv
  obtain ⟨rfl, hsz, hP, hK, hD0, hnst⟩ := hv
  have hx := B.exec
  have hb := B.bytes
  have hr := B.returns
  have hts0 := atoms_spec (ws := ct_ws yX4_init cX4_init) B.pre
  have hts : ∀ w ∈ lw_g, w.before _ _ = true := fun w h => hts0 w (List.mem_cons_of_mem _ h)
  have hown : s.vm.findClass RX4 = some m.cls := findClass_of_methodNamed B.named
  have hin : meth.name = "<init>" := (name_of_methodNamed B.named B.method).1
  subst hsz
  unfold ct_Q
  have hD := hD0.self (sz := s.heap.size)
  generalize hAe : va_A [(h0, .inr (4, [.int 0, .int 0, .int 0, .null, .null]))] s.heap.size = A at hD ⊢
  have hA : ∀ q : Nat, s.heap.size ≤ q → A q := fun q h => by rw [← hAe]; exact Or.inr h
  have hS : va_S A s.heap s.heap [] := va_S.rf
  have hl := lv_entry ([.ref h0]) (n := 1) (Nat.le_of_ble_eq_true rfl)
  rw [lg_entry_eq]
  generalize (lg_sl ([.ref h0]) ++ List.replicate (1 - (lg_sl ([.ref h0])).length) Slot.unset).toArray = ls at hl ⊢
  have hl : lv_has ls 1 [(0, .ref h0)] := hl
  obtain ⟨ad0, -⟩ : ∃ ad0 : Nat → Nat, True := ⟨fun _ => 0, trivial⟩
  replace hP : va_P (dC, dI) vwCl ((h0, .inr (4, [.int 0, .int 0, .int 0, .null, .null])) :: cw cI cB 52 0 ad0) s.heap := hP
  replace hD : va_D A ((h0, .inr (4, [.int 0, .int 0, .int 0, .null, .null])) :: cw cI cB 52 0 ad0) := hD
  have hH0 : s.heap = s.heap := rfl
  refine lv_aload_n hx hb dX4_init_0 rfl (lv_at hl 0 rfl) ?_
  refine W.objInit hx hb hown (hts _ (am_gw 210 (by decide +kernel) (by decide +kernel))) (hts _ ct_oi) (hts _ ct_oc) rfl (by rw [hml]; exact hl.1) rfl dX4_init_1 (Nat.le_of_ble_eq_true rfl) (Nat.le_of_ble_eq_true rfl) ?_
  refine W.eq (g2 := F0 m 4 ls []) rfl ?_
  refine lv_aload_n hx hb dX4_init_4 rfl (lv_at hl 0 rfl) ?_
  refine lv_bipush (v := 9) hx hb dX4_init_5 (by decide) ?_
  refine ct_nI (a := 52) (t := 0) (N := 9) hx hb (hts _ ct_aI) (by decide +kernel) (by decide +kernel) hK hP hD hS hA (by decide) (by decide) (by decide) (Nat.le_of_ble_eq_true rfl) (Nat.le_of_ble_eq_true rfl) dX4_init_7 (fun q1 ad1 H hw1 hq1 hP hD hS => ?_)
  refine ct_put (v := .ref q1) (ty := .array .int) hx hb (o := 4) (C := RX4) (T := TX4) (N := 5) (k := 3) rfl rfl hown hts (am_fd_4_9) rfl hin (by decide +kernel) rfl rfl (Nat.le_of_ble_eq_true rfl) hK hP hD hS dX4_init_9 (fun H locs hP hD hS => ?_)
  replace hP : va_P (dC, dI) vwCl ((h0, .inr (4, [.int 0, .int 0, .int 0, .ref q1, .null])) :: cw cI cB 52 1 ad1) H := hP
  replace hD : va_D A ((h0, .inr (4, [.int 0, .int 0, .int 0, .ref q1, .null])) :: cw cI cB 52 1 ad1) := hD
  refine lv_aload_n hx hb dX4_init_12 rfl (lv_at hl 0 rfl) ?_
  refine lv_bipush (v := 9) hx hb dX4_init_13 (by decide) ?_
  refine ct_nI (a := 52) (t := 1) (N := 9) hx hb (hts _ ct_aI) (by decide +kernel) (by decide +kernel) hK hP hD hS hA (by decide) (by decide) (by decide) (Nat.le_of_ble_eq_true rfl) (Nat.le_of_ble_eq_true rfl) dX4_init_15 (fun q2 ad2 H hw2 hq2 hP hD hS => ?_)
  refine ct_put (v := .ref q2) (ty := .array .int) hx hb (o := 4) (C := RX4) (T := TX4) (N := 5) (k := 4) rfl rfl hown hts (am_fd_4_15) rfl hin (by decide +kernel) rfl rfl (Nat.le_of_ble_eq_true rfl) hK hP hD hS dX4_init_17 (fun H locs hP hD hS => ?_)
  replace hP : va_P (dC, dI) vwCl ((h0, .inr (4, [.int 0, .int 0, .int 0, .ref q1, .ref q2])) :: cw cI cB 52 2 ad2) H := hP
  replace hD : va_D A ((h0, .inr (4, [.int 0, .int 0, .int 0, .ref q1, .ref q2])) :: cw cI cB 52 2 ad2) := hD
  have e1 : ad2 52 = q1 := (hw2 52 (by decide)).trans (hq1)
  have e2 : ad2 53 = q2 := hq2
  have hP9 : va_P (dC, dI) vwCl (cw cI cB 51 3 (ct_up ad2 51 h0)) H := by
    rw [cw_1, cw_c (ad := ct_up ad2 51 h0) (ad' := ad2) (by decide +kernel) (fun x h _ => ct_up_ne (by omega))]
    subst e1 e2
    exact hP
  have hD9 : va_D A (cw cI cB 51 3 (ct_up ad2 51 h0)) := by
    rw [cw_1, cw_c (ad := ct_up ad2 51 h0) (ad' := ad2) (by decide +kernel) (fun x h _ => ct_up_ne (by omega))]
    subst e1 e2
    exact hD
  refine W.widen (k := 2) (n := 18) (Nat.le_of_ble_eq_true rfl) (Nat.le_of_ble_eq_true rfl) ?_
  exact W.vret hx hb hr (fun t ht hW => ⟨⟨ct_up ad2 51 h0, rfl, ct_up_eq _ _ _, by rw [ht]; exact hP9, va_K.moved hW.alike hK, hD9⟩, hS.F ht⟩) hS.2.2 dX4_init_20
set_option maxHeartbeats 4000000 in
set_option maxRecDepth 100000 in
theorem ct_X1_54 (l : Launch) (dC : Nat → ClassId) (dI : Nat → Nat → Nat) (cI cB : ClassId) (h0 sz : Nat) : Met l yX1_init (ct_ws yX1_init cX1_init) (ct_rm 1 20 3 30) (ct_P dC dI cI cB 1 [.null, .null, .null, .int 0] h0 sz) (ct_Q dC dI cI cB 1 [.null, .null, .null, .int 0] h0 sz 54 4) 3 30 (va_A [(h0, .inr (1, [.null, .null, .null, .int 0]))] sz) := by
  refine Met.ofW (cc := cX1_init) (maxL := 1) (ret := none) (by decide) rfl ?_
  intro p e s m args below meth c s₁ B hml hv
  obtain ⟨rfl, hsz, hP, hK, hD0, hnst⟩ := hv
  have hx := B.exec
  have hb := B.bytes
  have hr := B.returns
  have hts0 := atoms_spec (ws := ct_ws yX1_init cX1_init) B.pre
  have hts : ∀ w ∈ lw_g, w.before _ _ = true := fun w h => hts0 w (List.mem_cons_of_mem _ h)
  have hown : s.vm.findClass RX1 = some m.cls := findClass_of_methodNamed B.named
  have hin : meth.name = "<init>" := (name_of_methodNamed B.named B.method).1
  subst hsz
  unfold ct_Q
  have hD := hD0.self (sz := s.heap.size)
  generalize hAe : va_A [(h0, .inr (1, [.null, .null, .null, .int 0]))] s.heap.size = A at hD ⊢
  have hA : ∀ q : Nat, s.heap.size ≤ q → A q := fun q h => by rw [← hAe]; exact Or.inr h
  have hS : va_S A s.heap s.heap [] := va_S.rf
  have hl := lv_entry ([.ref h0]) (n := 1) (Nat.le_of_ble_eq_true rfl)
  rw [lg_entry_eq]
  generalize (lg_sl ([.ref h0]) ++ List.replicate (1 - (lg_sl ([.ref h0])).length) Slot.unset).toArray = ls at hl ⊢
  have hl : lv_has ls 1 [(0, .ref h0)] := hl
  obtain ⟨ad0, -⟩ : ∃ ad0 : Nat → Nat, True := ⟨fun _ => 0, trivial⟩
  replace hP : va_P (dC, dI) vwCl ((h0, .inr (1, [.null, .null, .null, .int 0])) :: cw cI cB 55 0 ad0) s.heap := hP
  replace hD : va_D A ((h0, .inr (1, [.null, .null, .null, .int 0])) :: cw cI cB 55 0 ad0) := hD
  have hH0 : s.heap = s.heap := rfl
  refine lv_aload_n hx hb dX1_init_0 rfl (lv_at hl 0 rfl) ?_
  refine W.objInit hx hb hown (hts _ (am_gw 236 (by decide +kernel) (by decide +kernel))) (hts _ ct_oi) (hts _ ct_oc) rfl (by rw [hml]; exact hl.1) rfl dX1_init_1 (Nat.le_of_ble_eq_true rfl) (Nat.le_of_ble_eq_true rfl) ?_
  refine W.eq (g2 := F0 m 4 ls []) rfl ?_
  refine lv_aload_n hx hb dX1_init_4 rfl (lv_at hl 0 rfl) ?_
  refine lv_bipush (v := 10) hx hb dX1_init_5 (by decide) ?_
  refine ct_nI (a := 55) (t := 0) (N := 10) hx hb (hts _ ct_aI) (by decide +kernel) (by decide +kernel) hK hP hD hS hA (by decide) (by decide) (by decide) (Nat.le_of_ble_eq_true rfl) (Nat.le_of_ble_eq_true rfl) dX1_init_7 (fun q1 ad1 H hw1 hq1 hP hD hS => ?_)
  refine ct_put (v := .ref q1) (ty := .array .int) hx hb (o := 1) (C := RX1) (T := TX1) (N := 4) (k := 0) rfl rfl hown hts (am_fd_1_9) rfl hin (by decide +kernel) rfl rfl (Nat.le_of_ble_eq_true rfl) hK hP hD hS dX1_init_9 (fun H locs hP hD hS => ?_)
  replace hP : va_P (dC, dI) vwCl ((h0, .inr (1, [.ref q1, .null, .null, .int 0])) :: cw cI cB 55 1 ad1) H := hP
  replace hD : va_D A ((h0, .inr (1, [.ref q1, .null, .null, .int 0])) :: cw cI cB 55 1 ad1) := hD
  refine lv_aload_n hx hb dX1_init_12 rfl (lv_at hl 0 rfl) ?_
  refine lv_bipush (v := 10) hx hb dX1_init_13 (by decide) ?_
  refine ct_nI (a := 55) (t := 1) (N := 10) hx hb (hts _ ct_aI) (by decide +kernel) (by decide +kernel) hK hP hD hS hA (by decide) (by decide) (by decide) (Nat.le_of_ble_eq_true rfl) (Nat.le_of_ble_eq_true rfl) dX1_init_15 (fun q2 ad2 H hw2 hq2 hP hD hS => ?_)
  refine ct_put (v := .ref q2) (ty := .array .int) hx hb (o := 1) (C := RX1) (T := TX1) (N := 4) (k := 1) rfl rfl hown hts (am_fd_1_15) rfl hin (by decide +kernel) rfl rfl (Nat.le_of_ble_eq_true rfl) hK hP hD hS dX1_init_17 (fun H locs hP hD hS => ?_)
  replace hP : va_P (dC, dI) vwCl ((h0, .inr (1, [.ref q1, .ref q2, .null, .int 0])) :: cw cI cB 55 2 ad2) H := hP
  replace hD : va_D A ((h0, .inr (1, [.ref q1, .ref q2, .null, .int 0])) :: cw cI cB 55 2 ad2) := hD
  refine lv_aload_n hx hb dX1_init_20 rfl (lv_at hl 0 rfl) ?_
  refine lv_bipush (v := 10) hx hb dX1_init_21 (by decide) ?_
  refine ct_nI (a := 55) (t := 2) (N := 10) hx hb (hts _ ct_aI) (by decide +kernel) (by decide +kernel) hK hP hD hS hA (by decide) (by decide) (by decide) (Nat.le_of_ble_eq_true rfl) (Nat.le_of_ble_eq_true rfl) dX1_init_23 (fun q3 ad3 H hw3 hq3 hP hD hS => ?_)
  refine ct_put (v := .ref q3) (ty := .array .int) hx hb (o := 1) (C := RX1) (T := TX1) (N := 4) (k := 2) rfl rfl hown hts (am_fd_1_18) rfl hin (by decide +kernel) rfl rfl (Nat.le_of_ble_eq_true rfl) hK hP hD hS dX1_init_25 (fun H locs hP hD hS => ?_)
  replace hP : va_P (dC, dI) vwCl ((h0, .inr (1, [.ref q1, .ref q2, .ref q3, .int 0])) :: cw cI cB 55 3 ad3) H := hP
  replace hD : va_D A ((h0, .inr (1, [.ref q1, .ref q2, .ref q3, .int 0])) :: cw cI cB 55 3 ad3) := hD
  have e1 : ad3 55 = q1 := (hw3 55 (by decide)).trans ((hw2 55 (by decide)).trans (hq1))
  have e2 : ad3 56 = q2 := (hw3 56 (by decide)).trans (hq2)
  have e3 : ad3 57 = q3 := hq3
  have hP9 : va_P (dC, dI) vwCl (cw cI cB 54 4 (ct_up ad3 54 h0)) H := by
    rw [cw_1, cw_c (ad := ct_up ad3 54 h0) (ad' := ad3) (by decide +kernel) (fun x h _ => ct_up_ne (by omega))]
    subst e1 e2 e3
    exact hP
  have hD9 : va_D A (cw cI cB 54 4 (ct_up ad3 54 h0)) := by
    rw [cw_1, cw_c (ad := ct_up ad3 54 h0) (ad' := ad3) (by decide +kernel) (fun x h _ => ct_up_ne (by omega))]
    subst e1 e2 e3
    exact hD
  refine W.widen (k := 3) (n := 30) (Nat.le_of_ble_eq_true rfl) (Nat.le_of_ble_eq_true rfl) ?_
  exact W.vret hx hb hr (fun t ht hW => ⟨⟨ct_up ad3 54 h0, rfl, ct_up_eq _ _ _, by rw [ht]; exact hP9, va_K.moved hW.alike hK, hD9⟩, hS.F ht⟩) hS.2.2 dX1_init_28
set_option maxHeartbeats 4000000 in
set_option maxRecDepth 100000 in
theorem ct_X3_2 (l : Launch) (dC : Nat → ClassId) (dI : Nat → Nat → Nat) (cI cB : ClassId) (h0 sz : Nat) : Met l yX3_init (ct_ws yX3_init cX3_init) (ct_rm 1 20 2 4) (ct_P dC dI cI cB 3 [.null, .null, .int 0, .int 0] h0 sz) (ct_Q dC dI cI cB 3 [.null, .null, .int 0, .int 0] h0 sz 2 3) 2 4 (va_A [(h0, .inr (3, [.null, .null, .int 0, .int 0]))] sz) := by
  refine Met.ofW (cc := cX3_init) (maxL := 1) (ret := none) (by decide) rfl ?_
  intro p e s m args below meth c s₁ B hml hv
  obtain ⟨rfl, hsz, hP, hK, hD0, hnst⟩ := hv
  have hx := B.exec
  have hb := B.bytes
  have hr := B.returns
  have hts0 := atoms_spec (ws := ct_ws yX3_init cX3_init) B.pre
  have hts : ∀ w ∈ lw_g, w.before _ _ = true := fun w h => hts0 w (List.mem_cons_of_mem _ h)
  have hown : s.vm.findClass RX3 = some m.cls := findClass_of_methodNamed B.named
  have hin : meth.name = "<init>" := (name_of_methodNamed B.named B.method).1
  subst hsz
  unfold ct_Q
  have hD := hD0.self (sz := s.heap.size)
  generalize hAe : va_A [(h0, .inr (3, [.null, .null, .int 0, .int 0]))] s.heap.size = A at hD ⊢
  have hA : ∀ q : Nat, s.heap.size ≤ q → A q := fun q h => by rw [← hAe]; exact Or.inr h
  have hS : va_S A s.heap s.heap [] := va_S.rf
  have hl := lv_entry ([.ref h0]) (n := 1) (Nat.le_of_ble_eq_true rfl)
  rw [lg_entry_eq]
  generalize (lg_sl ([.ref h0]) ++ List.replicate (1 - (lg_sl ([.ref h0])).length) Slot.unset).toArray = ls at hl ⊢
  have hl : lv_has ls 1 [(0, .ref h0)] := hl
  obtain ⟨ad0, -⟩ : ∃ ad0 : Nat → Nat, True := ⟨fun _ => 0, trivial⟩
  replace hP : va_P (dC, dI) vwCl ((h0, .inr (3, [.null, .null, .int 0, .int 0])) :: cw cI cB 3 0 ad0) s.heap := hP
  replace hD : va_D A ((h0, .inr (3, [.null, .null, .int 0, .int 0])) :: cw cI cB 3 0 ad0) := hD
  have hH0 : s.heap = s.heap := rfl
  refine lv_aload_n hx hb dX3_init_0 rfl (lv_at hl 0 rfl) ?_
  refine W.objInit hx hb hown (hts _ (am_gw 63 (by decide +kernel) (by decide +kernel))) (hts _ ct_oi) (hts _ ct_oc) rfl (by rw [hml]; exact hl.1) rfl dX3_init_1 (Nat.le_of_ble_eq_true rfl) (Nat.le_of_ble_eq_true rfl) ?_
  refine W.eq (g2 := F0 m 4 ls []) rfl ?_
  refine lv_aload_n hx hb dX3_init_4 rfl (lv_at hl 0 rfl) ?_
  refine lv_iconst (v := 4) hx hb dX3_init_5 (by decide) ?_
  refine ct_nI (a := 3) (t := 0) (N := 4) hx hb (hts _ ct_aI) (by decide +kernel) (by decide +kernel) hK hP hD hS hA (by decide) (by decide) (by decide) (Nat.le_of_ble_eq_true rfl) (Nat.le_of_ble_eq_true rfl) dX3_init_6 (fun q1 ad1 H hw1 hq1 hP hD hS => ?_)
  refine ct_put (v := .ref q1) (ty := .array .int) hx hb (o := 3) (C := RX3) (T := TX3) (N := 4) (k := 0) rfl rfl hown hts (am_fd_3_9) rfl hin (by decide +kernel) rfl rfl (Nat.le_of_ble_eq_true rfl) hK hP hD hS dX3_init_8 (fun H locs hP hD hS => ?_)
  replace hP : va_P (dC, dI) vwCl ((h0, .inr (3, [.ref q1, .null, .int 0, .int 0])) :: cw cI cB 3 1 ad1) H := hP
  replace hD : va_D A ((h0, .inr (3, [.ref q1, .null, .int 0, .int 0])) :: cw cI cB 3 1 ad1) := hD
  refine lv_aload_n hx hb dX3_init_11 rfl (lv_at hl 0 rfl) ?_
  refine lv_iconst (v := 0) hx hb dX3_init_12 (by decide) ?_
  refine ct_nB (a := 3) (t := 1) (N := 0) hx hb (hts _ ct_aB) (by decide +kernel) (by decide +kernel) hK hP hD hS hA (by decide) (by decide) (by decide) (Nat.le_of_ble_eq_true rfl) (Nat.le_of_ble_eq_true rfl) dX3_init_13 (fun q2 ad2 H hw2 hq2 hP hD hS => ?_)
  refine ct_put (v := .ref q2) (ty := .array .byte) hx hb (o := 3) (C := RX3) (T := TX3) (N := 4) (k := 1) rfl rfl hown hts (am_fd_3_15) rfl hin (by decide +kernel) rfl rfl (Nat.le_of_ble_eq_true rfl) hK hP hD hS dX3_init_15 (fun H locs hP hD hS => ?_)
  replace hP : va_P (dC, dI) vwCl ((h0, .inr (3, [.ref q1, .ref q2, .int 0, .int 0])) :: cw cI cB 3 2 ad2) H := hP
  replace hD : va_D A ((h0, .inr (3, [.ref q1, .ref q2, .int 0, .int 0])) :: cw cI cB 3 2 ad2) := hD
  have e1 : ad2 3 = q1 := (hw2 3 (by decide)).trans (hq1)
  have e2 : ad2 4 = q2 := hq2
  have hP9 : va_P (dC, dI) vwCl (cw cI cB 2 3 (ct_up ad2 2 h0)) H := by
    rw [cw_1, cw_c (ad := ct_up ad2 2 h0) (ad' := ad2) (by decide +kernel) (fun x h _ => ct_up_ne (by omega))]
    subst e1 e2
    exact hP
  have hD9 : va_D A (cw cI cB 2 3 (ct_up ad2 2 h0)) := by
    rw [cw_1, cw_c (ad := ct_up ad2 2 h0) (ad' := ad2) (by decide +kernel) (fun x h _ => ct_up_ne (by omega))]
    subst e1 e2
    exact hD
  refine W.widen (k := 2) (n := 4) (Nat.le_of_ble_eq_true rfl) (Nat.le_of_ble_eq_true rfl) ?_
  exact W.vret hx hb hr (fun t ht hW => ⟨⟨ct_up ad2 2 h0, rfl, ct_up_eq _ _ _, by rw [ht]; exact hP9, va_K.moved hW.alike hK, hD9⟩, hS.F ht⟩) hS.2.2 dX3_init_18
set_option maxHeartbeats 4000000 in
set_option maxRecDepth 100000 in
theorem ct_X2_5 (l : Launch) (dC : Nat → ClassId) (dI : Nat → Nat → Nat) (cI cB : ClassId) (h0 sz : Nat) : Met l yX2_init (ct_ws yX2_init cX2_init) (ct_rm 2 40 19 174) (ct_P dC dI cI cB 2 [.null, .null, .null, .null, .null, .null, .null, .null, .null, .int 0, .int 0, .int 0, .int 0, .int 0, .int 0, .int 0, .int 0, .int 0] h0 sz) (ct_Q dC dI cI cB 2 [.null, .null, .null, .null, .null, .null, .null, .null, .null, .int 0, .int 0, .int 0, .int 0, .int 0, .int 0, .int 0, .int 0, .int 0] h0 sz 5 20) 19 174 (va_A [(h0, .inr (2, [.null, .null, .null, .null, .null, .null, .null, .null, .null, .int 0, .int 0, .int 0, .int 0, .int 0, .int 0, .int 0, .int 0, .int 0]))] sz) := by
  refine Met.ofW (cc := cX2_init) (maxL := 1) (ret := none) (by decide) rfl ?_
  intro p e s m args below meth c s₁ B hml hv
  obtain ⟨rfl, hsz, hP, hK, hD0, hnst⟩ := hv
  have hx := B.exec
  have hb := B.bytes
  have hr := B.returns
  have hts0 := atoms_spec (ws := ct_ws yX2_init cX2_init) B.pre
  have hts : ∀ w ∈ lw_g, w.before _ _ = true := fun w h => hts0 w (List.mem_cons_of_mem _ h)
  have hown : s.vm.findClass RX2 = some m.cls := findClass_of_methodNamed B.named
  have hin : meth.name = "<init>" := (name_of_methodNamed B.named B.method).1
  subst hsz
  unfold ct_Q
  have hD := hD0.self (sz := s.heap.size)
  generalize hAe : va_A [(h0, .inr (2, [.null, .null, .null, .null, .null, .null, .null, .null, .null, .int 0, .int 0, .int 0, .int 0, .int 0, .int 0, .int 0, .int 0, .int 0]))] s.heap.size = A at hD ⊢
  have hA : ∀ q : Nat, s.heap.size ≤ q → A q := fun q h => by rw [← hAe]; exact Or.inr h
  have hS : va_S A s.heap s.heap [] := va_S.rf
  have hl := lv_entry ([.ref h0]) (n := 1) (Nat.le_of_ble_eq_true rfl)
  rw [lg_entry_eq]
  generalize (lg_sl ([.ref h0]) ++ List.replicate (1 - (lg_sl ([.ref h0])).length) Slot.unset).toArray = ls at hl ⊢
  have hl : lv_has ls 1 [(0, .ref h0)] := hl
  obtain ⟨ad0, -⟩ : ∃ ad0 : Nat → Nat, True := ⟨fun _ => 0, trivial⟩
  replace hP : va_P (dC, dI) vwCl ((h0, .inr (2, [.null, .null, .null, .null, .null, .null, .null, .null, .null, .int 0, .int 0, .int 0, .int 0, .int 0, .int 0, .int 0, .int 0, .int 0])) :: cw cI cB 6 0 ad0) s.heap := hP
  replace hD : va_D A ((h0, .inr (2, [.null, .null, .null, .null, .null, .null, .null, .null, .null, .int 0, .int 0, .int 0, .int 0, .int 0, .int 0, .int 0, .int 0, .int 0])) :: cw cI cB 6 0 ad0) := hD
  have hH0 : s.heap = s.heap := rfl
  refine lv_aload_n hx hb dX2_init_0 rfl (lv_at hl 0 rfl) ?_
  refine W.objInit hx hb hown (hts _ (am_gw 84 (by decide +kernel) (by decide +kernel))) (hts _ ct_oi) (hts _ ct_oc) rfl (by rw [hml]; exact hl.1) rfl dX2_init_1 (Nat.le_of_ble_eq_true rfl) (Nat.le_of_ble_eq_true rfl) ?_
  refine W.eq (g2 := F0 m 4 ls []) rfl ?_
  refine lv_aload_n hx hb dX2_init_4 rfl (lv_at hl 0 rfl) ?_
  refine lv_bipush (v := 8) hx hb dX2_init_5 (by decide) ?_
  refine ct_nI (a := 6) (t := 0) (N := 8) hx hb (hts _ ct_aI) (by decide +kernel) (by decide +kernel) hK hP hD hS hA (by decide) (by decide) (by decide) (Nat.le_of_ble_eq_true rfl) (Nat.le_of_ble_eq_true rfl) dX2_init_7 (fun q1 ad1 H hw1 hq1 hP hD hS => ?_)
  refine ct_put (v := .ref q1) (ty := .array .int) hx hb (o := 2) (C := RX2) (T := TX2) (N := 18) (k := 0) rfl rfl hown hts (am_fd_2_9) rfl hin (by decide +kernel) rfl rfl (Nat.le_of_ble_eq_true rfl) hK hP hD hS dX2_init_9 (fun H locs hP hD hS => ?_)
  replace hP : va_P (dC, dI) vwCl ((h0, .inr (2, [.ref q1, .null, .null, .null, .null, .null, .null, .null, .null, .int 0, .int 0, .int 0, .int 0, .int 0, .int 0, .int 0, .int 0, .int 0])) :: cw cI cB 6 1 ad1) H := hP
  replace hD : va_D A ((h0, .inr (2, [.ref q1, .null, .null, .null, .null, .null, .null, .null, .null, .int 0, .int 0, .int 0, .int 0, .int 0, .int 0, .int 0, .int 0, .int 0])) :: cw cI cB 6 1 ad1) := hD
  refine lv_aload_n hx hb dX2_init_12 rfl (lv_at hl 0 rfl) ?_
  refine lv_bipush (v := 8) hx hb dX2_init_13 (by decide) ?_
  refine ct_nI (a := 6) (t := 1) (N := 8) hx hb (hts _ ct_aI) (by decide +kernel) (by decide +kernel) hK hP hD hS hA (by decide) (by decide) (by decide) (Nat.le_of_ble_eq_true rfl) (Nat.le_of_ble_eq_true rfl) dX2_init_15 (fun q2 ad2 H hw2 hq2 hP hD hS => ?_)
  refine ct_put (v := .ref q2) (ty := .array .int) hx hb (o := 2) (C := RX2) (T := TX2) (N := 18) (k := 1) rfl rfl hown hts (am_fd_2_15) rfl hin (by decide +kernel) rfl rfl (Nat.le_of_ble_eq_true rfl) hK hP hD hS dX2_init_17 (fun H locs hP hD hS => ?_)
  replace hP : va_P (dC, dI) vwCl ((h0, .inr (2, [.ref q1, .ref q2, .null, .null, .null, .null, .null, .null, .null, .int 0, .int 0, .int 0, .int 0, .int 0, .int 0, .int 0, .int 0, .int 0])) :: cw cI cB 6 2 ad2) H := hP
  replace hD : va_D A ((h0, .inr (2, [.ref q1, .ref q2, .null, .null, .null, .null, .null, .null, .null, .int 0, .int 0, .int 0, .int 0, .int 0, .int 0, .int 0, .int 0, .int 0])) :: cw cI cB 6 2 ad2) := hD
  refine lv_aload_n hx hb dX2_init_20 rfl (lv_at hl 0 rfl) ?_
  refine lv_bipush (v := 8) hx hb dX2_init_21 (by decide) ?_
  refine ct_nI (a := 6) (t := 2) (N := 8) hx hb (hts _ ct_aI) (by decide +kernel) (by decide +kernel) hK hP hD hS hA (by decide) (by decide) (by decide) (Nat.le_of_ble_eq_true rfl) (Nat.le_of_ble_eq_true rfl) dX2_init_23 (fun q3 ad3 H hw3 hq3 hP hD hS => ?_)
  refine ct_put (v := .ref q3) (ty := .array .int) hx hb (o := 2) (C := RX2) (T := TX2) (N := 18) (k := 2) rfl rfl hown hts (am_fd_2_18) rfl hin (by decide +kernel) rfl rfl (Nat.le_of_ble_eq_true rfl) hK hP hD hS dX2_init_25 (fun H locs hP hD hS => ?_)
  replace hP : va_P (dC, dI) vwCl ((h0, .inr (2, [.ref q1, .ref q2, .ref q3, .null, .null, .null, .null, .null, .null, .int 0, .int 0, .int 0, .int 0, .int 0, .int 0, .int 0, .int 0, .int 0])) :: cw cI cB 6 3 ad3) H := hP
  replace hD : va_D A ((h0, .inr (2, [.ref q1, .ref q2, .ref q3, .null, .null, .null, .null, .null, .null, .int 0, .int 0, .int 0, .int 0, .int 0, .int 0, .int 0, .int 0, .int 0])) :: cw cI cB 6 3 ad3) := hD
  refine lv_aload_n hx hb dX2_init_28 rfl (lv_at hl 0 rfl) ?_
  refine lv_bipush (v := 10) hx hb dX2_init_29 (by decide) ?_
  refine ct_nI (a := 6) (t := 3) (N := 10) hx hb (hts _ ct_aI) (by decide +kernel) (by decide +kernel) hK hP hD hS hA (by decide) (by decide) (by decide) (Nat.le_of_ble_eq_true rfl) (Nat.le_of_ble_eq_true rfl) dX2_init_31 (fun q4 ad4 H hw4 hq4 hP hD hS => ?_)
  refine ct_put (v := .ref q4) (ty := .array .int) hx hb (o := 2) (C := RX2) (T := TX2) (N := 18) (k := 3) rfl rfl hown hts (am_fd_2_21) rfl hin (by decide +kernel) rfl rfl (Nat.le_of_ble_eq_true rfl) hK hP hD hS dX2_init_33 (fun H locs hP hD hS => ?_)
  replace hP : va_P (dC, dI) vwCl ((h0, .inr (2, [.ref q1, .ref q2, .ref q3, .ref q4, .null, .null, .null, .null, .null, .int 0, .int 0, .int 0, .int 0, .int 0, .int 0, .int 0, .int 0, .int 0])) :: cw cI cB 6 4 ad4) H := hP
  replace hD : va_D A ((h0, .inr (2, [.ref q1, .ref q2, .ref q3, .ref q4, .null, .null, .null, .null, .null, .int 0, .int 0, .int 0, .int 0, .int 0, .int 0, .int 0, .int 0, .int 0])) :: cw cI cB 6 4 ad4) := hD
  refine lv_aload_n hx hb dX2_init_36 rfl (lv_at hl 0 rfl) ?_
  refine lv_bipush (v := 10) hx hb dX2_init_37 (by decide) ?_
  refine ct_nI (a := 6) (t := 4) (N := 10) hx hb (hts _ ct_aI) (by decide +kernel) (by decide +kernel) hK hP hD hS hA (by decide) (by decide) (by decide) (Nat.le_of_ble_eq_true rfl) (Nat.le_of_ble_eq_true rfl) dX2_init_39 (fun q5 ad5 H hw5 hq5 hP hD hS => ?_)
  refine ct_put (v := .ref q5) (ty := .array .int) hx hb (o := 2) (C := RX2) (T := TX2) (N := 18) (k := 4) rfl rfl hown hts (am_fd_2_24) rfl hin (by decide +kernel) rfl rfl (Nat.le_of_ble_eq_true rfl) hK hP hD hS dX2_init_41 (fun H locs hP hD hS => ?_)
  replace hP : va_P (dC, dI) vwCl ((h0, .inr (2, [.ref q1, .ref q2, .ref q3, .ref q4, .ref q5, .null, .null, .null, .null, .int 0, .int 0, .int 0, .int 0, .int 0, .int 0, .int 0, .int 0, .int 0])) :: cw cI cB 6 5 ad5) H := hP
  replace hD : va_D A ((h0, .inr (2, [.ref q1, .ref q2, .ref q3, .ref q4, .ref q5, .null, .null, .null, .null, .int 0, .int 0, .int 0, .int 0, .int 0, .int 0, .int 0, .int 0, .int 0])) :: cw cI cB 6 5 ad5) := hD
  refine lv_aload_n hx hb dX2_init_44 rfl (lv_at hl 0 rfl) ?_
  refine lv_bipush (v := 10) hx hb dX2_init_45 (by decide) ?_
  refine ct_nI (a := 6) (t := 5) (N := 10) hx hb (hts _ ct_aI) (by decide +kernel) (by decide +kernel) hK hP hD hS hA (by decide) (by decide) (by decide) (Nat.le_of_ble_eq_true rfl) (Nat.le_of_ble_eq_true rfl) dX2_init_47 (fun q6 ad6 H hw6 hq6 hP hD hS => ?_)
  refine ct_put (v := .ref q6) (ty := .array .int) hx hb (o := 2) (C := RX2) (T := TX2) (N := 18) (k := 5) rfl rfl hown hts (am_fd_2_27) rfl hin (by decide +kernel) rfl rfl (Nat.le_of_ble_eq_true rfl) hK hP hD hS dX2_init_49 (fun H locs hP hD hS => ?_)
  replace hP : va_P (dC, dI) vwCl ((h0, .inr (2, [.ref q1, .ref q2, .ref q3, .ref q4, .ref q5, .ref q6, .null, .null, .null, .int 0, .int 0, .int 0, .int 0, .int 0, .int 0, .int 0, .int 0, .int 0])) :: cw cI cB 6 6 ad6) H := hP
  replace hD : va_D A ((h0, .inr (2, [.ref q1, .ref q2, .ref q3, .ref q4, .ref q5, .ref q6, .null, .null, .null, .int 0, .int 0, .int 0, .int 0, .int 0, .int 0, .int 0, .int 0, .int 0])) :: cw cI cB 6 6 ad6) := hD
  refine lv_aload_n hx hb dX2_init_52 rfl (lv_at hl 0 rfl) ?_
  refine lv_bipush (v := 10) hx hb dX2_init_53 (by decide) ?_
  refine ct_nI (a := 6) (t := 6) (N := 10) hx hb (hts _ ct_aI) (by decide +kernel) (by decide +kernel) hK hP hD hS hA (by decide) (by decide) (by decide) (Nat.le_of_ble_eq_true rfl) (Nat.le_of_ble_eq_true rfl) dX2_init_55 (fun q7 ad7 H hw7 hq7 hP hD hS => ?_)
  refine ct_put (v := .ref q7) (ty := .array .int) hx hb (o := 2) (C := RX2) (T := TX2) (N := 18) (k := 6) rfl rfl hown hts (am_fd_2_30) rfl hin (by decide +kernel) rfl rfl (Nat.le_of_ble_eq_true rfl) hK hP hD hS dX2_init_57 (fun H locs hP hD hS => ?_)
  replace hP : va_P (dC, dI) vwCl ((h0, .inr (2, [.ref q1, .ref q2, .ref q3, .ref q4, .ref q5, .ref q6, .ref q7, .null, .null, .int 0, .int 0, .int 0, .int 0, .int 0, .int 0, .int 0, .int 0, .int 0])) :: cw cI cB 6 7 ad7) H := hP
  replace hD : va_D A ((h0, .inr (2, [.ref q1, .ref q2, .ref q3, .ref q4, .ref q5, .ref q6, .ref q7, .null, .null, .int 0, .int 0, .int 0, .int 0, .int 0, .int 0, .int 0, .int 0, .int 0])) :: cw cI cB 6 7 ad7) := hD
  refine lv_aload_n hx hb dX2_init_60 rfl (lv_at hl 0 rfl) ?_
  refine ct_nO (a := 6) (t := 7) (r := 6) (ci := 5) (own := RX2) (C := RX5) (T := TX5) (N := 7) (ty := tyX5) (fs := [.null, .null, .null, .int 0, .null, .null, .int 0]) (y := yX5_init) (b := cX5_init) (host := "CaveBreath") (ix := 33) (ic := 35) hx hb hml hown hts hnst rfl tyX5_ok (am_gw 85 (by decide +kernel) (by decide +kernel)) (am_gw 86 (by decide +kernel) (by decide +kernel)) (am_gw 41 (by decide +kernel) (by decide +kernel)) ct_f5 (by decide +kernel) (by decide +kernel) (fun h0 sz => ct_X5_13 l dC dI cI cB h0 sz) (am_gw 89 (by decide +kernel) (by decide +kernel)) (am_gw 88 (by decide +kernel) (by decide +kernel)) rfl rfl (by decide) ⟨by decide +kernel, by decide +kernel, by decide +kernel⟩ ⟨(Nat.le_of_ble_eq_true rfl), (Nat.le_of_ble_eq_true rfl)⟩ hK hP hD hS hA hl.1 (Nat.le_of_ble_eq_true rfl) (Nat.le_of_ble_eq_true rfl) (Nat.le_of_ble_eq_true rfl) dX2_init_61 dX2_init_64 dX2_init_65 (fun q8 ad8 H locs hw8 hq8 hP hD hS => ?_)
  refine ct_put (v := .ref q8) (ty := .object "CaveBreath$Wind") hx hb (o := 2) (C := RX2) (T := TX2) (N := 18) (k := 7) rfl rfl hown hts (am_fd_2_36) rfl hin (by decide +kernel) rfl rfl (Nat.le_of_ble_eq_true rfl) hK hP hD hS dX2_init_68 (fun H locs hP hD hS => ?_)
  replace hP : va_P (dC, dI) vwCl ((h0, .inr (2, [.ref q1, .ref q2, .ref q3, .ref q4, .ref q5, .ref q6, .ref q7, .ref q8, .null, .int 0, .int 0, .int 0, .int 0, .int 0, .int 0, .int 0, .int 0, .int 0])) :: cw cI cB 6 13 ad8) H := hP
  replace hD : va_D A ((h0, .inr (2, [.ref q1, .ref q2, .ref q3, .ref q4, .ref q5, .ref q6, .ref q7, .ref q8, .null, .int 0, .int 0, .int 0, .int 0, .int 0, .int 0, .int 0, .int 0, .int 0])) :: cw cI cB 6 13 ad8) := hD
  refine lv_aload_n hx hb dX2_init_71 rfl (lv_at hl 0 rfl) ?_
  refine ct_nO (a := 6) (t := 13) (r := 6) (ci := 5) (own := RX2) (C := RX5) (T := TX5) (N := 7) (ty := tyX5) (fs := [.null, .null, .null, .int 0, .null, .null, .int 0]) (y := yX5_init) (b := cX5_init) (host := "CaveBreath") (ix := 33) (ic := 35) hx hb hml hown hts hnst rfl tyX5_ok (am_gw 85 (by decide +kernel) (by decide +kernel)) (am_gw 86 (by decide +kernel) (by decide +kernel)) (am_gw 41 (by decide +kernel) (by decide +kernel)) ct_f5 (by decide +kernel) (by decide +kernel) (fun h0 sz => ct_X5_19 l dC dI cI cB h0 sz) (am_gw 89 (by decide +kernel) (by decide +kernel)) (am_gw 88 (by decide +kernel) (by decide +kernel)) rfl rfl (by decide) ⟨by decide +kernel, by decide +kernel, by decide +kernel⟩ ⟨(Nat.le_of_ble_eq_true rfl), (Nat.le_of_ble_eq_true rfl)⟩ hK hP hD hS hA hl.1 (Nat.le_of_ble_eq_true rfl) (Nat.le_of_ble_eq_true rfl) (Nat.le_of_ble_eq_true rfl) dX2_init_72 dX2_init_75 dX2_init_76 (fun q9 ad9 H locs hw9 hq9 hP hD hS => ?_)
  refine ct_put (v := .ref q9) (ty := .object "CaveBreath$Wind") hx hb (o := 2) (C := RX2) (T := TX2) (N := 18) (k := 8) rfl rfl hown hts (am_fd_2_40) rfl hin (by decide +kernel) rfl rfl (Nat.le_of_ble_eq_true rfl) hK hP hD hS dX2_init_79 (fun H locs hP hD hS => ?_)
  replace hP : va_P (dC, dI) vwCl ((h0, .inr (2, [.ref q1, .ref q2, .ref q3, .ref q4, .ref q5, .ref q6, .ref q7, .ref q8, .ref q9, .int 0, .int 0, .int 0, .int 0, .int 0, .int 0, .int 0, .int 0, .int 0])) :: cw cI cB 6 19 ad9) H := hP
  replace hD : va_D A ((h0, .inr (2, [.ref q1, .ref q2, .ref q3, .ref q4, .ref q5, .ref q6, .ref q7, .ref q8, .ref q9, .int 0, .int 0, .int 0, .int 0, .int 0, .int 0, .int 0, .int 0, .int 0])) :: cw cI cB 6 19 ad9) := hD
  have e1 : ad9 6 = q1 := (hw9 6 (by decide)).trans ((hw8 6 (by decide)).trans ((hw7 6 (by decide)).trans ((hw6 6 (by decide)).trans ((hw5 6 (by decide)).trans ((hw4 6 (by decide)).trans ((hw3 6 (by decide)).trans ((hw2 6 (by decide)).trans (hq1))))))))
  have e2 : ad9 7 = q2 := (hw9 7 (by decide)).trans ((hw8 7 (by decide)).trans ((hw7 7 (by decide)).trans ((hw6 7 (by decide)).trans ((hw5 7 (by decide)).trans ((hw4 7 (by decide)).trans ((hw3 7 (by decide)).trans (hq2)))))))
  have e3 : ad9 8 = q3 := (hw9 8 (by decide)).trans ((hw8 8 (by decide)).trans ((hw7 8 (by decide)).trans ((hw6 8 (by decide)).trans ((hw5 8 (by decide)).trans ((hw4 8 (by decide)).trans (hq3))))))
  have e4 : ad9 9 = q4 := (hw9 9 (by decide)).trans ((hw8 9 (by decide)).trans ((hw7 9 (by decide)).trans ((hw6 9 (by decide)).trans ((hw5 9 (by decide)).trans (hq4)))))
  have e5 : ad9 10 = q5 := (hw9 10 (by decide)).trans ((hw8 10 (by decide)).trans ((hw7 10 (by decide)).trans ((hw6 10 (by decide)).trans (hq5))))
  have e6 : ad9 11 = q6 := (hw9 11 (by decide)).trans ((hw8 11 (by decide)).trans ((hw7 11 (by decide)).trans (hq6)))
  have e7 : ad9 12 = q7 := (hw9 12 (by decide)).trans ((hw8 12 (by decide)).trans (hq7))
  have e8 : ad9 13 = q8 := (hw9 13 (by decide)).trans (hq8)
  have e9 : ad9 19 = q9 := hq9
  have hP9 : va_P (dC, dI) vwCl (cw cI cB 5 20 (ct_up ad9 5 h0)) H := by
    rw [cw_1, cw_c (ad := ct_up ad9 5 h0) (ad' := ad9) (by decide +kernel) (fun x h _ => ct_up_ne (by omega))]
    subst e1 e2 e3 e4 e5 e6 e7 e8 e9
    exact hP
  have hD9 : va_D A (cw cI cB 5 20 (ct_up ad9 5 h0)) := by
    rw [cw_1, cw_c (ad := ct_up ad9 5 h0) (ad' := ad9) (by decide +kernel) (fun x h _ => ct_up_ne (by omega))]
    subst e1 e2 e3 e4 e5 e6 e7 e8 e9
    exact hD
  refine W.widen (k := 19) (n := 174) (Nat.le_of_ble_eq_true rfl) (Nat.le_of_ble_eq_true rfl) ?_
  exact W.vret hx hb hr (fun t ht hW => ⟨⟨ct_up ad9 5 h0, rfl, ct_up_eq _ _ _, by rw [ht]; exact hP9, va_K.moved hW.alike hK, hD9⟩, hS.F ht⟩) hS.2.2 dX2_init_82
set_option maxHeartbeats 4000000 in
set_option maxRecDepth 100000 in
theorem ct_X2_25 (l : Launch) (dC : Nat → ClassId) (dI : Nat → Nat → Nat) (cI cB : ClassId) (h0 sz : Nat) : Met l yX2_init (ct_ws yX2_init cX2_init) (ct_rm 2 40 19 174) (ct_P dC dI cI cB 2 [.null, .null, .null, .null, .null, .null, .null, .null, .null, .int 0, .int 0, .int 0, .int 0, .int 0, .int 0, .int 0, .int 0, .int 0] h0 sz) (ct_Q dC dI cI cB 2 [.null, .null, .null, .null, .null, .null, .null, .null, .null, .int 0, .int 0, .int 0, .int 0, .int 0, .int 0, .int 0, .int 0, .int 0] h0 sz 25 20) 19 174 (va_A [(h0, .inr (2, [.null, .null, .null, .null, .null, .null, .null, .null, .null, .int 0, .int 0, .int 0, .int 0, .int 0, .int 0, .int 0, .int 0, .int 0]))] sz) := by
  refine Met.ofW (cc := cX2_init) (maxL := 1) (ret := none) (by decide) rfl ?_
  intro p e s m args below meth c s₁ B hml hv
  obtain ⟨rfl, hsz, hP, hK, hD0, hnst⟩ := hv
  have hx := B.exec
  have hb := B.bytes
  have hr := B.returns
  have hts0 := atoms_spec (ws := ct_ws yX2_init cX2_init) B.pre
  have hts : ∀ w ∈ lw_g, w.before _ _ = true := fun w h => hts0 w (List.mem_cons_of_mem _ h)
  have hown : s.vm.findClass RX2 = some m.cls := findClass_of_methodNamed B.named
  have hin : meth.name = "<init>" := (name_of_methodNamed B.named B.method).1
  subst hsz
  unfold ct_Q
  have hD := hD0.self (sz := s.heap.size)
  generalize hAe : va_A [(h0, .inr (2, [.null, .null, .null, .null, .null, .null, .null, .null, .null, .int 0, .int 0, .int 0, .int 0, .int 0, .int 0, .int 0, .int 0, .int 0]))] s.heap.size = A at hD ⊢
  have hA : ∀ q : Nat, s.heap.size ≤ q → A q := fun q h => by rw [← hAe]; exact Or.inr h
  have hS : va_S A s.heap s.heap [] := va_S.rf
  have hl := lv_entry ([.ref h0]) (n := 1) (Nat.le_of_ble_eq_true rfl)
  rw [lg_entry_eq]
  generalize (lg_sl ([.ref h0]) ++ List.replicate (1 - (lg_sl ([.ref h0])).length) Slot.unset).toArray = ls at hl ⊢
  have hl : lv_has ls 1 [(0, .ref h0)] := hl
  obtain ⟨ad0, -⟩ : ∃ ad0 : Nat → Nat, True := ⟨fun _ => 0, trivial⟩
  replace hP : va_P (dC, dI) vwCl ((h0, .inr (2, [.null, .null, .null, .null, .null, .null, .null, .null, .null, .int 0, .int 0, .int 0, .int 0, .int 0, .int 0, .int 0, .int 0, .int 0])) :: cw cI cB 26 0 ad0) s.heap := hP
  replace hD : va_D A ((h0, .inr (2, [.null, .null, .null, .null, .null, .null, .null, .null, .null, .int 0, .int 0, .int 0, .int 0, .int 0, .int 0, .int 0, .int 0, .int 0])) :: cw cI cB 26 0 ad0) := hD
  have hH0 : s.heap = s.heap := rfl
  refine lv_aload_n hx hb dX2_init_0 rfl (lv_at hl 0 rfl) ?_
  refine W.objInit hx hb hown (hts _ (am_gw 84 (by decide +kernel) (by decide +kernel))) (hts _ ct_oi) (hts _ ct_oc) rfl (by rw [hml]; exact hl.1) rfl dX2_init_1 (Nat.le_of_ble_eq_true rfl) (Nat.le_of_ble_eq_true rfl) ?_
  refine W.eq (g2 := F0 m 4 ls []) rfl ?_
  refine lv_aload_n hx hb dX2_init_4 rfl (lv_at hl 0 rfl) ?_
  refine lv_bipush (v := 8) hx hb dX2_init_5 (by decide) ?_
  refine ct_nI (a := 26) (t := 0) (N := 8) hx hb (hts _ ct_aI) (by decide +kernel) (by decide +kernel) hK hP hD hS hA (by decide) (by decide) (by decide) (Nat.le_of_ble_eq_true rfl) (Nat.le_of_ble_eq_true rfl) dX2_init_7 (fun q1 ad1 H hw1 hq1 hP hD hS => ?_)
  refine ct_put (v := .ref q1) (ty := .array .int) hx hb (o := 2) (C := RX2) (T := TX2) (N := 18) (k := 0) rfl rfl hown hts (am_fd_2_9) rfl hin (by decide +kernel) rfl rfl (Nat.le_of_ble_eq_true rfl) hK hP hD hS dX2_init_9 (fun H locs hP hD hS => ?_)
  replace hP : va_P (dC, dI) vwCl ((h0, .inr (2, [.ref q1, .null, .null, .null, .null, .null, .null, .null, .null, .int 0, .int 0, .int 0, .int 0, .int 0, .int 0, .int 0, .int 0, .int 0])) :: cw cI cB 26 1 ad1) H := hP
  replace hD : va_D A ((h0, .inr (2, [.ref q1, .null, .null, .null, .null, .null, .null, .null, .null, .int 0, .int 0, .int 0, .int 0, .int 0, .int 0, .int 0, .int 0, .int 0])) :: cw cI cB 26 1 ad1) := hD
  refine lv_aload_n hx hb dX2_init_12 rfl (lv_at hl 0 rfl) ?_
  refine lv_bipush (v := 8) hx hb dX2_init_13 (by decide) ?_
  refine ct_nI (a := 26) (t := 1) (N := 8) hx hb (hts _ ct_aI) (by decide +kernel) (by decide +kernel) hK hP hD hS hA (by decide) (by decide) (by decide) (Nat.le_of_ble_eq_true rfl) (Nat.le_of_ble_eq_true rfl) dX2_init_15 (fun q2 ad2 H hw2 hq2 hP hD hS => ?_)
  refine ct_put (v := .ref q2) (ty := .array .int) hx hb (o := 2) (C := RX2) (T := TX2) (N := 18) (k := 1) rfl rfl hown hts (am_fd_2_15) rfl hin (by decide +kernel) rfl rfl (Nat.le_of_ble_eq_true rfl) hK hP hD hS dX2_init_17 (fun H locs hP hD hS => ?_)
  replace hP : va_P (dC, dI) vwCl ((h0, .inr (2, [.ref q1, .ref q2, .null, .null, .null, .null, .null, .null, .null, .int 0, .int 0, .int 0, .int 0, .int 0, .int 0, .int 0, .int 0, .int 0])) :: cw cI cB 26 2 ad2) H := hP
  replace hD : va_D A ((h0, .inr (2, [.ref q1, .ref q2, .null, .null, .null, .null, .null, .null, .null, .int 0, .int 0, .int 0, .int 0, .int 0, .int 0, .int 0, .int 0, .int 0])) :: cw cI cB 26 2 ad2) := hD
  refine lv_aload_n hx hb dX2_init_20 rfl (lv_at hl 0 rfl) ?_
  refine lv_bipush (v := 8) hx hb dX2_init_21 (by decide) ?_
  refine ct_nI (a := 26) (t := 2) (N := 8) hx hb (hts _ ct_aI) (by decide +kernel) (by decide +kernel) hK hP hD hS hA (by decide) (by decide) (by decide) (Nat.le_of_ble_eq_true rfl) (Nat.le_of_ble_eq_true rfl) dX2_init_23 (fun q3 ad3 H hw3 hq3 hP hD hS => ?_)
  refine ct_put (v := .ref q3) (ty := .array .int) hx hb (o := 2) (C := RX2) (T := TX2) (N := 18) (k := 2) rfl rfl hown hts (am_fd_2_18) rfl hin (by decide +kernel) rfl rfl (Nat.le_of_ble_eq_true rfl) hK hP hD hS dX2_init_25 (fun H locs hP hD hS => ?_)
  replace hP : va_P (dC, dI) vwCl ((h0, .inr (2, [.ref q1, .ref q2, .ref q3, .null, .null, .null, .null, .null, .null, .int 0, .int 0, .int 0, .int 0, .int 0, .int 0, .int 0, .int 0, .int 0])) :: cw cI cB 26 3 ad3) H := hP
  replace hD : va_D A ((h0, .inr (2, [.ref q1, .ref q2, .ref q3, .null, .null, .null, .null, .null, .null, .int 0, .int 0, .int 0, .int 0, .int 0, .int 0, .int 0, .int 0, .int 0])) :: cw cI cB 26 3 ad3) := hD
  refine lv_aload_n hx hb dX2_init_28 rfl (lv_at hl 0 rfl) ?_
  refine lv_bipush (v := 10) hx hb dX2_init_29 (by decide) ?_
  refine ct_nI (a := 26) (t := 3) (N := 10) hx hb (hts _ ct_aI) (by decide +kernel) (by decide +kernel) hK hP hD hS hA (by decide) (by decide) (by decide) (Nat.le_of_ble_eq_true rfl) (Nat.le_of_ble_eq_true rfl) dX2_init_31 (fun q4 ad4 H hw4 hq4 hP hD hS => ?_)
  refine ct_put (v := .ref q4) (ty := .array .int) hx hb (o := 2) (C := RX2) (T := TX2) (N := 18) (k := 3) rfl rfl hown hts (am_fd_2_21) rfl hin (by decide +kernel) rfl rfl (Nat.le_of_ble_eq_true rfl) hK hP hD hS dX2_init_33 (fun H locs hP hD hS => ?_)
  replace hP : va_P (dC, dI) vwCl ((h0, .inr (2, [.ref q1, .ref q2, .ref q3, .ref q4, .null, .null, .null, .null, .null, .int 0, .int 0, .int 0, .int 0, .int 0, .int 0, .int 0, .int 0, .int 0])) :: cw cI cB 26 4 ad4) H := hP
  replace hD : va_D A ((h0, .inr (2, [.ref q1, .ref q2, .ref q3, .ref q4, .null, .null, .null, .null, .null, .int 0, .int 0, .int 0, .int 0, .int 0, .int 0, .int 0, .int 0, .int 0])) :: cw cI cB 26 4 ad4) := hD
  refine lv_aload_n hx hb dX2_init_36 rfl (lv_at hl 0 rfl) ?_
  refine lv_bipush (v := 10) hx hb dX2_init_37 (by decide) ?_
  refine ct_nI (a := 26) (t := 4) (N := 10) hx hb (hts _ ct_aI) (by decide +kernel) (by decide +kernel) hK hP hD hS hA (by decide) (by decide) (by decide) (Nat.le_of_ble_eq_true rfl) (Nat.le_of_ble_eq_true rfl) dX2_init_39 (fun q5 ad5 H hw5 hq5 hP hD hS => ?_)
  refine ct_put (v := .ref q5) (ty := .array .int) hx hb (o := 2) (C := RX2) (T := TX2) (N := 18) (k := 4) rfl rfl hown hts (am_fd_2_24) rfl hin (by decide +kernel) rfl rfl (Nat.le_of_ble_eq_true rfl) hK hP hD hS dX2_init_41 (fun H locs hP hD hS => ?_)
  replace hP : va_P (dC, dI) vwCl ((h0, .inr (2, [.ref q1, .ref q2, .ref q3, .ref q4, .ref q5, .null, .null, .null, .null, .int 0, .int 0, .int 0, .int 0, .int 0, .int 0, .int 0, .int 0, .int 0])) :: cw cI cB 26 5 ad5) H := hP
  replace hD : va_D A ((h0, .inr (2, [.ref q1, .ref q2, .ref q3, .ref q4, .ref q5, .null, .null, .null, .null, .int 0, .int 0, .int 0, .int 0, .int 0, .int 0, .int 0, .int 0, .int 0])) :: cw cI cB 26 5 ad5) := hD
  refine lv_aload_n hx hb dX2_init_44 rfl (lv_at hl 0 rfl) ?_
  refine lv_bipush (v := 10) hx hb dX2_init_45 (by decide) ?_
  refine ct_nI (a := 26) (t := 5) (N := 10) hx hb (hts _ ct_aI) (by decide +kernel) (by decide +kernel) hK hP hD hS hA (by decide) (by decide) (by decide) (Nat.le_of_ble_eq_true rfl) (Nat.le_of_ble_eq_true rfl) dX2_init_47 (fun q6 ad6 H hw6 hq6 hP hD hS => ?_)
  refine ct_put (v := .ref q6) (ty := .array .int) hx hb (o := 2) (C := RX2) (T := TX2) (N := 18) (k := 5) rfl rfl hown hts (am_fd_2_27) rfl hin (by decide +kernel) rfl rfl (Nat.le_of_ble_eq_true rfl) hK hP hD hS dX2_init_49 (fun H locs hP hD hS => ?_)
  replace hP : va_P (dC, dI) vwCl ((h0, .inr (2, [.ref q1, .ref q2, .ref q3, .ref q4, .ref q5, .ref q6, .null, .null, .null, .int 0, .int 0, .int 0, .int 0, .int 0, .int 0, .int 0, .int 0, .int 0])) :: cw cI cB 26 6 ad6) H := hP
  replace hD : va_D A ((h0, .inr (2, [.ref q1, .ref q2, .ref q3, .ref q4, .ref q5, .ref q6, .null, .null, .null, .int 0, .int 0, .int 0, .int 0, .int 0, .int 0, .int 0, .int 0, .int 0])) :: cw cI cB 26 6 ad6) := hD
  refine lv_aload_n hx hb dX2_init_52 rfl (lv_at hl 0 rfl) ?_
  refine lv_bipush (v := 10) hx hb dX2_init_53 (by decide) ?_
  refine ct_nI (a := 26) (t := 6) (N := 10) hx hb (hts _ ct_aI) (by decide +kernel) (by decide +kernel) hK hP hD hS hA (by decide) (by decide) (by decide) (Nat.le_of_ble_eq_true rfl) (Nat.le_of_ble_eq_true rfl) dX2_init_55 (fun q7 ad7 H hw7 hq7 hP hD hS => ?_)
  refine ct_put (v := .ref q7) (ty := .array .int) hx hb (o := 2) (C := RX2) (T := TX2) (N := 18) (k := 6) rfl rfl hown hts (am_fd_2_30) rfl hin (by decide +kernel) rfl rfl (Nat.le_of_ble_eq_true rfl) hK hP hD hS dX2_init_57 (fun H locs hP hD hS => ?_)
  replace hP : va_P (dC, dI) vwCl ((h0, .inr (2, [.ref q1, .ref q2, .ref q3, .ref q4, .ref q5, .ref q6, .ref q7, .null, .null, .int 0, .int 0, .int 0, .int 0, .int 0, .int 0, .int 0, .int 0, .int 0])) :: cw cI cB 26 7 ad7) H := hP
  replace hD : va_D A ((h0, .inr (2, [.ref q1, .ref q2, .ref q3, .ref q4, .ref q5, .ref q6, .ref q7, .null, .null, .int 0, .int 0, .int 0, .int 0, .int 0, .int 0, .int 0, .int 0, .int 0])) :: cw cI cB 26 7 ad7) := hD
  refine lv_aload_n hx hb dX2_init_60 rfl (lv_at hl 0 rfl) ?_
  refine ct_nO (a := 26) (t := 7) (r := 6) (ci := 5) (own := RX2) (C := RX5) (T := TX5) (N := 7) (ty := tyX5) (fs := [.null, .null, .null, .int 0, .null, .null, .int 0]) (y := yX5_init) (b := cX5_init) (host := "CaveBreath") (ix := 33) (ic := 35) hx hb hml hown hts hnst rfl tyX5_ok (am_gw 85 (by decide +kernel) (by decide +kernel)) (am_gw 86 (by decide +kernel) (by decide +kernel)) (am_gw 41 (by decide +kernel) (by decide +kernel)) ct_f5 (by decide +kernel) (by decide +kernel) (fun h0 sz => ct_X5_33 l dC dI cI cB h0 sz) (am_gw 89 (by decide +kernel) (by decide +kernel)) (am_gw 88 (by decide +kernel) (by decide +kernel)) rfl rfl (by decide) ⟨by decide +kernel, by decide +kernel, by decide +kernel⟩ ⟨(Nat.le_of_ble_eq_true rfl), (Nat.le_of_ble_eq_true rfl)⟩ hK hP hD hS hA hl.1 (Nat.le_of_ble_eq_true rfl) (Nat.le_of_ble_eq_true rfl) (Nat.le_of_ble_eq_true rfl) dX2_init_61 dX2_init_64 dX2_init_65 (fun q8 ad8 H locs hw8 hq8 hP hD hS => ?_)
  refine ct_put (v := .ref q8) (ty := .object "CaveBreath$Wind") hx hb (o := 2) (C := RX2) (T := TX2) (N := 18) (k := 7) rfl rfl hown hts (am_fd_2_36) rfl hin (by decide +kernel) rfl rfl (Nat.le_of_ble_eq_true rfl) hK hP hD hS dX2_init_68 (fun H locs hP hD hS => ?_)
  replace hP : va_P (dC, dI) vwCl ((h0, .inr (2, [.ref q1, .ref q2, .ref q3, .ref q4, .ref q5, .ref q6, .ref q7, .ref q8, .null, .int 0, .int 0, .int 0, .int 0, .int 0, .int 0, .int 0, .int 0, .int 0])) :: cw cI cB 26 13 ad8) H := hP
  replace hD : va_D A ((h0, .inr (2, [.ref q1, .ref q2, .ref q3, .ref q4, .ref q5, .ref q6, .ref q7, .ref q8, .null, .int 0, .int 0, .int 0, .int 0, .int 0, .int 0, .int 0, .int 0, .int 0])) :: cw cI cB 26 13 ad8) := hD
  refine lv_aload_n hx hb dX2_init_71 rfl (lv_at hl 0 rfl) ?_
  refine ct_nO (a := 26) (t := 13) (r := 6) (ci := 5) (own := RX2) (C := RX5) (T := TX5) (N := 7) (ty := tyX5) (fs := [.null, .null, .null, .int 0, .null, .null, .int 0]) (y := yX5_init) (b := cX5_init) (host := "CaveBreath") (ix := 33) (ic := 35) hx hb hml hown hts hnst rfl tyX5_ok (am_gw 85 (by decide +kernel) (by decide +kernel)) (am_gw 86 (by decide +kernel) (by decide +kernel)) (am_gw 41 (by decide +kernel) (by decide +kernel)) ct_f5 (by decide +kernel) (by decide +kernel) (fun h0 sz => ct_X5_39 l dC dI cI cB h0 sz) (am_gw 89 (by decide +kernel) (by decide +kernel)) (am_gw 88 (by decide +kernel) (by decide +kernel)) rfl rfl (by decide) ⟨by decide +kernel, by decide +kernel, by decide +kernel⟩ ⟨(Nat.le_of_ble_eq_true rfl), (Nat.le_of_ble_eq_true rfl)⟩ hK hP hD hS hA hl.1 (Nat.le_of_ble_eq_true rfl) (Nat.le_of_ble_eq_true rfl) (Nat.le_of_ble_eq_true rfl) dX2_init_72 dX2_init_75 dX2_init_76 (fun q9 ad9 H locs hw9 hq9 hP hD hS => ?_)
  refine ct_put (v := .ref q9) (ty := .object "CaveBreath$Wind") hx hb (o := 2) (C := RX2) (T := TX2) (N := 18) (k := 8) rfl rfl hown hts (am_fd_2_40) rfl hin (by decide +kernel) rfl rfl (Nat.le_of_ble_eq_true rfl) hK hP hD hS dX2_init_79 (fun H locs hP hD hS => ?_)
  replace hP : va_P (dC, dI) vwCl ((h0, .inr (2, [.ref q1, .ref q2, .ref q3, .ref q4, .ref q5, .ref q6, .ref q7, .ref q8, .ref q9, .int 0, .int 0, .int 0, .int 0, .int 0, .int 0, .int 0, .int 0, .int 0])) :: cw cI cB 26 19 ad9) H := hP
  replace hD : va_D A ((h0, .inr (2, [.ref q1, .ref q2, .ref q3, .ref q4, .ref q5, .ref q6, .ref q7, .ref q8, .ref q9, .int 0, .int 0, .int 0, .int 0, .int 0, .int 0, .int 0, .int 0, .int 0])) :: cw cI cB 26 19 ad9) := hD
  have e1 : ad9 26 = q1 := (hw9 26 (by decide)).trans ((hw8 26 (by decide)).trans ((hw7 26 (by decide)).trans ((hw6 26 (by decide)).trans ((hw5 26 (by decide)).trans ((hw4 26 (by decide)).trans ((hw3 26 (by decide)).trans ((hw2 26 (by decide)).trans (hq1))))))))
  have e2 : ad9 27 = q2 := (hw9 27 (by decide)).trans ((hw8 27 (by decide)).trans ((hw7 27 (by decide)).trans ((hw6 27 (by decide)).trans ((hw5 27 (by decide)).trans ((hw4 27 (by decide)).trans ((hw3 27 (by decide)).trans (hq2)))))))
  have e3 : ad9 28 = q3 := (hw9 28 (by decide)).trans ((hw8 28 (by decide)).trans ((hw7 28 (by decide)).trans ((hw6 28 (by decide)).trans ((hw5 28 (by decide)).trans ((hw4 28 (by decide)).trans (hq3))))))
  have e4 : ad9 29 = q4 := (hw9 29 (by decide)).trans ((hw8 29 (by decide)).trans ((hw7 29 (by decide)).trans ((hw6 29 (by decide)).trans ((hw5 29 (by decide)).trans (hq4)))))
  have e5 : ad9 30 = q5 := (hw9 30 (by decide)).trans ((hw8 30 (by decide)).trans ((hw7 30 (by decide)).trans ((hw6 30 (by decide)).trans (hq5))))
  have e6 : ad9 31 = q6 := (hw9 31 (by decide)).trans ((hw8 31 (by decide)).trans ((hw7 31 (by decide)).trans (hq6)))
  have e7 : ad9 32 = q7 := (hw9 32 (by decide)).trans ((hw8 32 (by decide)).trans (hq7))
  have e8 : ad9 33 = q8 := (hw9 33 (by decide)).trans (hq8)
  have e9 : ad9 39 = q9 := hq9
  have hP9 : va_P (dC, dI) vwCl (cw cI cB 25 20 (ct_up ad9 25 h0)) H := by
    rw [cw_1, cw_c (ad := ct_up ad9 25 h0) (ad' := ad9) (by decide +kernel) (fun x h _ => ct_up_ne (by omega))]
    subst e1 e2 e3 e4 e5 e6 e7 e8 e9
    exact hP
  have hD9 : va_D A (cw cI cB 25 20 (ct_up ad9 25 h0)) := by
    rw [cw_1, cw_c (ad := ct_up ad9 25 h0) (ad' := ad9) (by decide +kernel) (fun x h _ => ct_up_ne (by omega))]
    subst e1 e2 e3 e4 e5 e6 e7 e8 e9
    exact hD
  refine W.widen (k := 19) (n := 174) (Nat.le_of_ble_eq_true rfl) (Nat.le_of_ble_eq_true rfl) ?_
  exact W.vret hx hb hr (fun t ht hW => ⟨⟨ct_up ad9 25 h0, rfl, ct_up_eq _ _ _, by rw [ht]; exact hP9, va_K.moved hW.alike hK, hD9⟩, hS.F ht⟩) hS.2.2 dX2_init_82
set_option maxHeartbeats 4000000 in
set_option maxRecDepth 100000 in
theorem ct_X0_58 (l : Launch) (dC : Nat → ClassId) (dI : Nat → Nat → Nat) (cI cB : ClassId) (h0 sz : Nat) : Met l yX0_init (ct_ws yX0_init cX0_init) (ct_rm 2 40 10 93) (ct_P dC dI cI cB 0 [.null, .null, .null, .null, .null] h0 sz) (ct_Q dC dI cI cB 0 [.null, .null, .null, .null, .null] h0 sz 58 11) 10 93 (va_A [(h0, .inr (0, [.null, .null, .null, .null, .null]))] sz) := by
  refine Met.ofW (cc := cX0_init) (maxL := 1) (ret := none) (by decide) rfl ?_
  intro p e s m args below meth c s₁ B hml hv
  obtain ⟨rfl, hsz, hP, hK, hD0, hnst⟩ := hv
  have hx := B.exec
  have hb := B.bytes
  have hr := B.returns
  have hts0 := atoms_spec (ws := ct_ws yX0_init cX0_init) B.pre
  have hts : ∀ w ∈ lw_g, w.before _ _ = true := fun w h => hts0 w (List.mem_cons_of_mem _ h)
  have hown : s.vm.findClass RX0 = some m.cls := findClass_of_methodNamed B.named
  have hin : meth.name = "<init>" := (name_of_methodNamed B.named B.method).1
  subst hsz
  unfold ct_Q
  have hD := hD0.self (sz := s.heap.size)
  generalize hAe : va_A [(h0, .inr (0, [.null, .null, .null, .null, .null]))] s.heap.size = A at hD ⊢
  have hA : ∀ q : Nat, s.heap.size ≤ q → A q := fun q h => by rw [← hAe]; exact Or.inr h
  have hS : va_S A s.heap s.heap [] := va_S.rf
  have hl := lv_entry ([.ref h0]) (n := 1) (Nat.le_of_ble_eq_true rfl)
  rw [lg_entry_eq]
  generalize (lg_sl ([.ref h0]) ++ List.replicate (1 - (lg_sl ([.ref h0])).length) Slot.unset).toArray = ls at hl ⊢
  have hl : lv_has ls 1 [(0, .ref h0)] := hl
  obtain ⟨ad0, -⟩ : ∃ ad0 : Nat → Nat, True := ⟨fun _ => 0, trivial⟩
  replace hP : va_P (dC, dI) vwCl ((h0, .inr (0, [.null, .null, .null, .null, .null])) :: cw cI cB 59 0 ad0) s.heap := hP
  replace hD : va_D A ((h0, .inr (0, [.null, .null, .null, .null, .null])) :: cw cI cB 59 0 ad0) := hD
  have hH0 : s.heap = s.heap := rfl
  refine lv_aload_n hx hb dX0_init_0 rfl (lv_at hl 0 rfl) ?_
  refine W.objInit hx hb hown (hts _ (am_gw 259 (by decide +kernel) (by decide +kernel))) (hts _ ct_oi) (hts _ ct_oc) rfl (by rw [hml]; exact hl.1) rfl dX0_init_1 (Nat.le_of_ble_eq_true rfl) (Nat.le_of_ble_eq_true rfl) ?_
  refine W.eq (g2 := F0 m 4 ls []) rfl ?_
  refine lv_aload_n hx hb dX0_init_4 rfl (lv_at hl 0 rfl) ?_
  refine lv_bipush (v := 9) hx hb dX0_init_5 (by decide) ?_
  refine ct_nI (a := 59) (t := 0) (N := 9) hx hb (hts _ ct_aI) (by decide +kernel) (by decide +kernel) hK hP hD hS hA (by decide) (by decide) (by decide) (Nat.le_of_ble_eq_true rfl) (Nat.le_of_ble_eq_true rfl) dX0_init_7 (fun q1 ad1 H hw1 hq1 hP hD hS => ?_)
  refine ct_put (v := .ref q1) (ty := .array .int) hx hb (o := 0) (C := RX0) (T := TX0) (N := 5) (k := 0) rfl rfl hown hts (am_fd_0_9) rfl hin (by decide +kernel) rfl rfl (Nat.le_of_ble_eq_true rfl) hK hP hD hS dX0_init_9 (fun H locs hP hD hS => ?_)
  replace hP : va_P (dC, dI) vwCl ((h0, .inr (0, [.ref q1, .null, .null, .null, .null])) :: cw cI cB 59 1 ad1) H := hP
  replace hD : va_D A ((h0, .inr (0, [.ref q1, .null, .null, .null, .null])) :: cw cI cB 59 1 ad1) := hD
  refine lv_aload_n hx hb dX0_init_12 rfl (lv_at hl 0 rfl) ?_
  refine lv_bipush (v := 10) hx hb dX0_init_13 (by decide) ?_
  refine ct_nI (a := 59) (t := 1) (N := 10) hx hb (hts _ ct_aI) (by decide +kernel) (by decide +kernel) hK hP hD hS hA (by decide) (by decide) (by decide) (Nat.le_of_ble_eq_true rfl) (Nat.le_of_ble_eq_true rfl) dX0_init_15 (fun q2 ad2 H hw2 hq2 hP hD hS => ?_)
  refine ct_put (v := .ref q2) (ty := .array .int) hx hb (o := 0) (C := RX0) (T := TX0) (N := 5) (k := 1) rfl rfl hown hts (am_fd_0_15) rfl hin (by decide +kernel) rfl rfl (Nat.le_of_ble_eq_true rfl) hK hP hD hS dX0_init_17 (fun H locs hP hD hS => ?_)
  replace hP : va_P (dC, dI) vwCl ((h0, .inr (0, [.ref q1, .ref q2, .null, .null, .null])) :: cw cI cB 59 2 ad2) H := hP
  replace hD : va_D A ((h0, .inr (0, [.ref q1, .ref q2, .null, .null, .null])) :: cw cI cB 59 2 ad2) := hD
  refine lv_aload_n hx hb dX0_init_20 rfl (lv_at hl 0 rfl) ?_
  refine lv_bipush (v := 10) hx hb dX0_init_21 (by decide) ?_
  refine ct_nI (a := 59) (t := 2) (N := 10) hx hb (hts _ ct_aI) (by decide +kernel) (by decide +kernel) hK hP hD hS hA (by decide) (by decide) (by decide) (Nat.le_of_ble_eq_true rfl) (Nat.le_of_ble_eq_true rfl) dX0_init_23 (fun q3 ad3 H hw3 hq3 hP hD hS => ?_)
  refine ct_put (v := .ref q3) (ty := .array .int) hx hb (o := 0) (C := RX0) (T := TX0) (N := 5) (k := 2) rfl rfl hown hts (am_fd_0_18) rfl hin (by decide +kernel) rfl rfl (Nat.le_of_ble_eq_true rfl) hK hP hD hS dX0_init_25 (fun H locs hP hD hS => ?_)
  replace hP : va_P (dC, dI) vwCl ((h0, .inr (0, [.ref q1, .ref q2, .ref q3, .null, .null])) :: cw cI cB 59 3 ad3) H := hP
  replace hD : va_D A ((h0, .inr (0, [.ref q1, .ref q2, .ref q3, .null, .null])) :: cw cI cB 59 3 ad3) := hD
  refine lv_aload_n hx hb dX0_init_28 rfl (lv_at hl 0 rfl) ?_
  refine lv_bipush (v := 9) hx hb dX0_init_29 (by decide) ?_
  refine ct_nI (a := 59) (t := 3) (N := 9) hx hb (hts _ ct_aI) (by decide +kernel) (by decide +kernel) hK hP hD hS hA (by decide) (by decide) (by decide) (Nat.le_of_ble_eq_true rfl) (Nat.le_of_ble_eq_true rfl) dX0_init_31 (fun q4 ad4 H hw4 hq4 hP hD hS => ?_)
  refine ct_put (v := .ref q4) (ty := .array .int) hx hb (o := 0) (C := RX0) (T := TX0) (N := 5) (k := 3) rfl rfl hown hts (am_fd_0_21) rfl hin (by decide +kernel) rfl rfl (Nat.le_of_ble_eq_true rfl) hK hP hD hS dX0_init_33 (fun H locs hP hD hS => ?_)
  replace hP : va_P (dC, dI) vwCl ((h0, .inr (0, [.ref q1, .ref q2, .ref q3, .ref q4, .null])) :: cw cI cB 59 4 ad4) H := hP
  replace hD : va_D A ((h0, .inr (0, [.ref q1, .ref q2, .ref q3, .ref q4, .null])) :: cw cI cB 59 4 ad4) := hD
  refine lv_aload_n hx hb dX0_init_36 rfl (lv_at hl 0 rfl) ?_
  refine ct_nO (a := 59) (t := 4) (r := 6) (ci := 5) (own := RX0) (C := RX5) (T := TX5) (N := 7) (ty := tyX5) (fs := [.null, .null, .null, .int 0, .null, .null, .int 0]) (y := yX5_init) (b := cX5_init) (host := "CaveBreath") (ix := 24) (ic := 26) hx hb hml hown hts hnst rfl tyX5_ok (am_gw 260 (by decide +kernel) (by decide +kernel)) (am_gw 86 (by decide +kernel) (by decide +kernel)) (am_gw 41 (by decide +kernel) (by decide +kernel)) ct_f5 (by decide +kernel) (by decide +kernel) (fun h0 sz => ct_X5_63 l dC dI cI cB h0 sz) (am_gw 89 (by decide +kernel) (by decide +kernel)) (am_gw 88 (by decide +kernel) (by decide +kernel)) rfl rfl (by decide) ⟨by decide +kernel, by decide +kernel, by decide +kernel⟩ ⟨(Nat.le_of_ble_eq_true rfl), (Nat.le_of_ble_eq_true rfl)⟩ hK hP hD hS hA hl.1 (Nat.le_of_ble_eq_true rfl) (Nat.le_of_ble_eq_true rfl) (Nat.le_of_ble_eq_true rfl) dX0_init_37 dX0_init_40 dX0_init_41 (fun q5 ad5 H locs hw5 hq5 hP hD hS => ?_)
  refine ct_put (v := .ref q5) (ty := .object "CaveBreath$Wind") hx hb (o := 0) (C := RX0) (T := TX0) (N := 5) (k := 4) rfl rfl hown hts (am_fd_0_27) rfl hin (by decide +kernel) rfl rfl (Nat.le_of_ble_eq_true rfl) hK hP hD hS dX0_init_44 (fun H locs hP hD hS => ?_)
  replace hP : va_P (dC, dI) vwCl ((h0, .inr (0, [.ref q1, .ref q2, .ref q3, .ref q4, .ref q5])) :: cw cI cB 59 10 ad5) H := hP
  replace hD : va_D A ((h0, .inr (0, [.ref q1, .ref q2, .ref q3, .ref q4, .ref q5])) :: cw cI cB 59 10 ad5) := hD
  have e1 : ad5 59 = q1 := (hw5 59 (by decide)).trans ((hw4 59 (by decide)).trans ((hw3 59 (by decide)).trans ((hw2 59 (by decide)).trans (hq1))))
  have e2 : ad5 60 = q2 := (hw5 60 (by decide)).trans ((hw4 60 (by decide)).trans ((hw3 60 (by decide)).trans (hq2)))
  have e3 : ad5 61 = q3 := (hw5 61 (by decide)).trans ((hw4 61 (by decide)).trans (hq3))
  have e4 : ad5 62 = q4 := (hw5 62 (by decide)).trans (hq4)
  have e5 : ad5 63 = q5 := hq5
  have hP9 : va_P (dC, dI) vwCl (cw cI cB 58 11 (ct_up ad5 58 h0)) H := by
    rw [cw_1, cw_c (ad := ct_up ad5 58 h0) (ad' := ad5) (by decide +kernel) (fun x h _ => ct_up_ne (by omega))]
    subst e1 e2 e3 e4 e5
    exact hP
  have hD9 : va_D A (cw cI cB 58 11 (ct_up ad5 58 h0)) := by
    rw [cw_1, cw_c (ad := ct_up ad5 58 h0) (ad' := ad5) (by decide +kernel) (fun x h _ => ct_up_ne (by omega))]
    subst e1 e2 e3 e4 e5
    exact hD
  refine W.widen (k := 10) (n := 93) (Nat.le_of_ble_eq_true rfl) (Nat.le_of_ble_eq_true rfl) ?_
  exact W.vret hx hb hr (fun t ht hW => ⟨⟨ct_up ad5 58 h0, rfl, ct_up_eq _ _ _, by rw [ht]; exact hP9, va_K.moved hW.alike hK, hD9⟩, hS.F ht⟩) hS.2.2 dX0_init_47
