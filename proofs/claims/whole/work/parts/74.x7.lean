/-! ===== the model's constructor ===== -/
theorem st_d0 : decode cX7_standard 0 = .ok (.aload_n 0, 1) := by decide +kernel
theorem st_d1 : decode cX7_standard 1 = .ok (.iconst 0, 1) := by decide +kernel
theorem st_d2 : decode cX7_standard 2 = .ok (.bipush 50, 2) := by decide +kernel
theorem st_d4 : decode cX7_standard 4 = .ok (.iastore, 1) := by decide +kernel
theorem st_d5 : decode cX7_standard 5 = .ok (.aload_n 0, 1) := by decide +kernel
theorem st_d6 : decode cX7_standard 6 = .ok (.iconst 1, 1) := by decide +kernel
theorem st_d7 : decode cX7_standard 7 = .ok (.bipush 12, 2) := by decide +kernel
theorem st_d9 : decode cX7_standard 9 = .ok (.iastore, 1) := by decide +kernel
theorem st_d10 : decode cX7_standard 10 = .ok (.aload_n 0, 1) := by decide +kernel
theorem st_d11 : decode cX7_standard 11 = .ok (.iconst 2, 1) := by decide +kernel
theorem st_d12 : decode cX7_standard 12 = .ok (.iconst 5, 1) := by decide +kernel
theorem st_d13 : decode cX7_standard 13 = .ok (.iastore, 1) := by decide +kernel
theorem st_d14 : decode cX7_standard 14 = .ok (.aload_n 0, 1) := by decide +kernel
theorem st_d15 : decode cX7_standard 15 = .ok (.iconst 3, 1) := by decide +kernel
theorem st_d16 : decode cX7_standard 16 = .ok (.bipush 20, 2) := by decide +kernel
theorem st_d18 : decode cX7_standard 18 = .ok (.iastore, 1) := by decide +kernel
theorem st_d19 : decode cX7_standard 19 = .ok (.aload_n 0, 1) := by decide +kernel
theorem st_d20 : decode cX7_standard 20 = .ok (.iconst 4, 1) := by decide +kernel
theorem st_d21 : decode cX7_standard 21 = .ok (.iconst 0, 1) := by decide +kernel
theorem st_d22 : decode cX7_standard 22 = .ok (.iastore, 1) := by decide +kernel
theorem st_d23 : decode cX7_standard 23 = .ok (.aload_n 0, 1) := by decide +kernel
theorem st_d24 : decode cX7_standard 24 = .ok (.iconst 5, 1) := by decide +kernel
theorem st_d25 : decode cX7_standard 25 = .ok (.iconst 0, 1) := by decide +kernel
theorem st_d26 : decode cX7_standard 26 = .ok (.iastore, 1) := by decide +kernel
theorem st_d27 : decode cX7_standard 27 = .ok (.return_, 1) := by decide +kernel
def mu (A : am_F) (a k : Nat) (x : Int32) : am_F := am_ur A a (upd (A a) k x)
/-- the model's cells -/
def mw (cI cB : ClassId) (ad : Nat → Nat) (I A : am_F) (G : am_G) : va_W := (List.range 17).map (fun j => (ad (69 + j), am_ce cI cB ad I A G (69 + j)))
theorem mw_at {k : Nat} (h : k < 17) (cI cB : ClassId) (ad : Nat → Nat) (I A : am_F) (G : am_G) : (mw cI cB ad I A G)[k]? = some (ad (69 + k), am_ce cI cB ad I A G (69 + k)) := by
  unfold mw
  rw [List.getElem?_map, List.getElem?_range h]
  rfl
theorem mw_no {k : Nat} (h : ¬ k < 17) (cI cB : ClassId) (ad : Nat → Nat) (I A : am_F) (G : am_G) : (mw cI cB ad I A G)[k]? = none := by
  unfold mw
  rw [List.getElem?_map, List.getElem?_eq_none (by rw [List.length_range]; omega)]
  rfl
theorem mw_len (cI cB : ClassId) (ad : Nat → Nat) (I A : am_F) (G : am_G) : (mw cI cB ad I A G).length = 17 := by
  unfold mw; rw [List.length_map, List.length_range]
theorem mw_all {cI cB : ClassId} {ad : Nat → Nat} {I A : am_F} {G : am_G} : (List.range 17).map (fun i => (mw cI cB ad I A G)[i]?) = (mw cI cB ad I A G).map some := by
  apply List.ext_getElem?
  intro i
  by_cases h : i < 17
  · rw [List.getElem?_map, List.getElem?_range h, List.getElem?_map, mw_at h]
    show some ((mw cI cB ad I A G)[i]?) = _
    rw [mw_at h]
    rfl
  · rw [List.getElem?_map, List.getElem?_map, mw_no h, List.getElem?_eq_none (by rw [List.length_range]; omega)]
    rfl
theorem mw_set {k n x : Nat} {v : Int32} (hk : k < 17) {b : Bool} (hc : am_cell (69 + k) = .inl (b, n)) (cI cB : ClassId) (ad : Nat → Nat) (I A : am_F) (G : am_G) : (mw cI cB ad I A G).set k (ad (69 + k), .inl ((if b = true then cB else cI), n, .inl (upd (A (69 + k)) x v))) = mw cI cB ad I (mu A (69 + k) x v) G := by
  apply List.ext_getElem?
  intro j
  rw [List.getElem?_set, mw_len]
  by_cases hj : j < 17
  · rw [mw_at hj, mw_at hj]
    by_cases h : k = j
    · subst h
      rw [if_pos rfl, if_pos hk]
      unfold am_ce
      rw [hc]
      dsimp only
      rw [show mu A (69 + k) x v (69 + k) = upd (A (69 + k)) x v from if_pos rfl]
    · rw [if_neg h, am_ce_row (A := A) (A' := mu A (69 + k) x v) (k := 69 + k) (fun q hq => if_neg hq) (69 + j) (by omega)]
  · rw [mw_no hj, mw_no hj, if_neg (show ¬ k = j by omega)]
section MW
variable {p : Program} {l : Launch} {e : Env} {R : Room} {s : State} {m : MethodId} {args : Array Value} {below : List Frame} {meth : Method} {c : Code} {H : Heap} {locs : List Loc} {cells slots : Nat} {Q : State → Prop} {pc : Nat} {ls : Array Slot} {rest : List Value} {cc : ByteArray}
variable {dC : Nat → ClassId} {dI : Nat → Nat → Nat} {cI cB : ClassId} {A0 : Nat → Prop} {H0 : Heap} {ad : Nat → Nat} {I A : am_F} {G : am_G}
theorem mw_ist (hexec : p.tables.exec = Jvm.exec) (hb : c.code = cc) (hK : va_K (dC, dI) vwCl [(cI, .int), (cB, .byte)] s) (hP : va_P (dC, dI) vwCl (mw cI cB ad I A G) H) (hD : va_D A0 (mw cI cB ad I A G)) (hS : va_S A0 H0 H locs) {k n j : Nat} {x i : Int32} (hk : k < 17) (hc : am_cell (69 + k) = .inl (false, n)) (hin : vp_in i n) (hj : i.toNatClampNeg = j) (hdg : decode cc pc = .ok (.iastore, 1))
    (kk : ∀ (H1 : Heap) (locs1 : List Loc), va_P (dC, dI) vwCl (mw cI cB ad I (mu A (69 + k) j x) G) H1 → va_D A0 (mw cI cB ad I (mu A (69 + k) j x) G) → va_S A0 H0 H1 locs1 → W p l e R s m args below meth c H1 locs1 cells slots Q (F0 m (pc + 1) ls rest)) : W p l e R s m args below meth c H locs cells slots Q (F0 m pc ls (.int x :: .int i :: .ref (ad (69 + k)) :: rest)) := by
  subst hj
  refine va_iast (D := (dC, dI)) hexec hb hK hP hD hS k 0 (cA := cI) (n := n) (f := A (69 + k)) (by rw [mw_at hk]; unfold am_ce; rw [hc]; rfl) rfl hin hdg (fun H1 locs1 hP1 hD1 hS1 => ?_)
  have hw := mw_set (x := i.toNatClampNeg) (v := x) hk hc cI cB ad I A G
  rw [if_neg (by decide)] at hw
  rw [hw] at hP1 hD1
  exact kk H1 locs1 hP1 hD1 hS1
theorem mw_get (hexec : p.tables.exec = Jvm.exec) (hb : c.code = cc) (hown : s.vm.findClass RX7 = some m.cls) (hts : ∀ w ∈ lw_g, w.before args s = true) (hK : va_K (dC, dI) vwCl [(cI, .int), (cB, .byte)] s) (hP : va_P (dC, dI) vwCl (mw cI cB ad I A G) H) {ix j w : Nat} {v : Value} (hfd : am_fdP (7, ix, 7, j, w)) (hv : am_co ad (am_fv I G 69 7 j) = v) (hdg : decode cc pc = .ok (.getfield ix, 3))
    (kk : W p l e R s m args below meth c H locs cells slots Q (F0 m (pc + 3) ls (v :: rest))) : W p l e R s m args below meth c H locs cells slots Q (F0 m pc ls (.ref (ad 69) :: rest)) := by
  obtain ⟨C, T, n, h1, h2, h3⟩ := hfd
  dsimp only at h1 h2 h3
  have hn : am_nf 7 = n := by unfold am_nf; rw [h1]
  exact va_get (D := (dC, dI)) hexec hb hts (am_cl_ok h1).1 hown hK hP 0 (by rw [mw_at (by decide), am_ce_obj (c := 7) rfl]) h1 j h2 (hts _ h3) (fun _ h => h) (v := v) (by rw [List.getElem?_map, List.getElem?_range (by rw [hn]; exact h2), ← hv]; rfl) hdg kk
end MW
def st_A (A : am_F) : am_F := mu (mu (mu (mu (mu (mu (A) 76 0 50) 76 1 12) 76 2 5) 76 3 20) 76 4 0) 76 5 0
set_option maxHeartbeats 4000000 in
set_option maxRecDepth 100000 in
theorem st_X7 (l : Launch) (dC : Nat → ClassId) (dI : Nat → Nat → Nat) (cI cB : ClassId) (ad : Nat → Nat) (sz : Nat) (I A : am_F) (G : am_G) : Met l yX7_standard (am_ws 80) (am_rm 80) (va_Pc [.ref (ad 76)] (fun U => U.heap.size = sz ∧ va_P (dC, dI) vwCl (mw cI cB ad I A G) U.heap ∧ va_K (dC, dI) vwCl [(cI, .int), (cB, .byte)] U ∧ va_D (fun _ => True) (mw cI cB ad I A G))) (va_Qv (fun u : am_F => u = st_A A) (fun u t => va_P (dC, dI) vwCl (mw cI cB ad I u G) t.heap ∧ va_K (dC, dI) vwCl [(cI, .int), (cB, .byte)] t ∧ va_D (va_A (mw cI cB ad I A G) sz) (mw cI cB ad I u G)) (va_A (mw cI cB ad I A G) sz)) 0 0 (va_A (mw cI cB ad I A G) sz) := by
  refine Met.ofW (cc := cX7_standard) (maxL := 1) (ret := none) (by decide) rfl ?_
  intro p e s m args below meth c s₁ B hml hv
  obtain ⟨rfl, hsz, hP, hK, hD0⟩ := hv
  have hx := B.exec
  have hb := B.bytes
  have hr := B.returns
  subst hsz
  have hD := hD0.self (sz := s.heap.size)
  generalize hAe : va_A (mw cI cB ad I A G) s.heap.size = A0 at hD ⊢
  have hS : va_S A0 s.heap s.heap [] := va_S.rf
  have hl := lv_entry ([.ref (ad 76)]) (n := 1) (Nat.le_of_ble_eq_true rfl)
  rw [lg_entry_eq]
  generalize (lg_sl ([.ref (ad 76)]) ++ List.replicate (1 - (lg_sl ([.ref (ad 76)])).length) Slot.unset).toArray = ls at hl ⊢
  have hl : lv_has ls 1 [(0, .ref (ad 76))] := hl
  refine lv_aload_n hx hb st_d0 rfl (lv_at hl 0 rfl) ?_
  refine lv_iconst (v := 0) hx hb st_d1 (by decide) ?_
  refine lv_bipush (v := 50) hx hb st_d2 (by decide) ?_
  refine mw_ist (k := 7) (n := 6) (j := 0) hx hb hK hP hD hS (by decide) (by decide +kernel) (by unfold vp_in; decide) (by decide) st_d4 (fun H locs hP hD hS => ?_)
  refine lv_aload_n hx hb st_d5 rfl (lv_at hl 0 rfl) ?_
  refine lv_iconst (v := 1) hx hb st_d6 (by decide) ?_
  refine lv_bipush (v := 12) hx hb st_d7 (by decide) ?_
  refine mw_ist (k := 7) (n := 6) (j := 1) hx hb hK hP hD hS (by decide) (by decide +kernel) (by unfold vp_in; decide) (by decide) st_d9 (fun H locs hP hD hS => ?_)
  refine lv_aload_n hx hb st_d10 rfl (lv_at hl 0 rfl) ?_
  refine lv_iconst (v := 2) hx hb st_d11 (by decide) ?_
  refine lv_iconst (v := 5) hx hb st_d12 (by decide) ?_
  refine mw_ist (k := 7) (n := 6) (j := 2) hx hb hK hP hD hS (by decide) (by decide +kernel) (by unfold vp_in; decide) (by decide) st_d13 (fun H locs hP hD hS => ?_)
  refine lv_aload_n hx hb st_d14 rfl (lv_at hl 0 rfl) ?_
  refine lv_iconst (v := 3) hx hb st_d15 (by decide) ?_
  refine lv_bipush (v := 20) hx hb st_d16 (by decide) ?_
  refine mw_ist (k := 7) (n := 6) (j := 3) hx hb hK hP hD hS (by decide) (by decide +kernel) (by unfold vp_in; decide) (by decide) st_d18 (fun H locs hP hD hS => ?_)
  refine lv_aload_n hx hb st_d19 rfl (lv_at hl 0 rfl) ?_
  refine lv_iconst (v := 4) hx hb st_d20 (by decide) ?_
  refine lv_iconst (v := 0) hx hb st_d21 (by decide) ?_
  refine mw_ist (k := 7) (n := 6) (j := 4) hx hb hK hP hD hS (by decide) (by decide +kernel) (by unfold vp_in; decide) (by decide) st_d22 (fun H locs hP hD hS => ?_)
  refine lv_aload_n hx hb st_d23 rfl (lv_at hl 0 rfl) ?_
  refine lv_iconst (v := 5) hx hb st_d24 (by decide) ?_
  refine lv_iconst (v := 0) hx hb st_d25 (by decide) ?_
  refine mw_ist (k := 7) (n := 6) (j := 5) hx hb hK hP hD hS (by decide) (by decide +kernel) (by unfold vp_in; decide) (by decide) st_d26 (fun H locs hP hD hS => ?_)
  exact W.vret hx hb hr (fun t ht hW => ⟨⟨st_A A, rfl, rfl, by rw [ht]; exact hP, va_K.moved hW.alike hK, hD⟩, hS.F ht⟩) hS.2.2 st_d27
def I7 : am_F := fun a j => if a = 69 ∧ j = 9 then 1 else 0
def A7 : am_F := st_A (mu I00 74 0 10)
theorem mw_i {k : Nat} {cI cB : ClassId} {ad : Nat → Nat} {I I' A : am_F} {G : am_G} {q : Bool × Nat} (h : am_cell k = .inl q) : am_ce cI cB ad I A G k = am_ce cI cB ad I' A G k := by
  unfold am_ce; rw [h]
theorem mw_1 (cI cB : ClassId) (ad : Nat → Nat) : mw cI cB ad I7 I00 G00 = (ad 69, am_ce cI cB ad I7 I00 G00 69) :: cw cI cB 70 16 ad := by
  unfold mw cw
  rw [show (17 : Nat) = 16 + 1 from rfl, List.range_succ_eq_map, List.map_cons, List.map_map]
  refine congrArg (List.cons _) (List.map_congr_left (fun j hj => ?_))
  have hj := List.mem_range.mp hj
  show (ad (69 + (j + 1)), am_ce cI cB ad I7 I00 G00 (69 + (j + 1))) = (ad (70 + j), am_ce cI cB ad I00 I00 G00 (70 + j))
  rw [show 69 + (j + 1) = 70 + j by omega]
  have h1 : (List.range 16).all (fun j => (am_cell (70 + j)).isLeft) = true := by decide +kernel
  have h2 := List.all_eq_true.mp h1 j (List.mem_range.mpr hj)
  cases hc : am_cell (70 + j) with
  | inl q => rw [mw_i hc]
  | inr q => rw [hc] at h2; cases h2
def x7_Q (dC : Nat → ClassId) (dI : Nat → Nat → Nat) (cI cB : ClassId) (fs : List Value) (h0 sz : Nat) : Array Value → State → Outcome → State → Prop := va_Qv (fun ad : Nat → Nat => ad 69 = h0) (fun ad t => va_P (dC, dI) vwCl (mw cI cB ad I7 A7 G00) t.heap ∧ va_K (dC, dI) vwCl [(cI, .int), (cB, .byte)] t ∧ va_D (va_A [(h0, .inr (7, fs))] sz) (mw cI cB ad I7 A7 G00)) (va_A [(h0, .inr (7, fs))] sz)
theorem x7_ml : Cond.methodLink RX7 62 yX7_standard ∈ lw_g := am_gw 655 (by decide +kernel) (by decide +kernel)
set_option maxHeartbeats 4000000 in
set_option maxRecDepth 100000 in
theorem x7_tail {p : Program} {l : Launch} {e : Env} {s : State} {m : MethodId} {args : Array Value} {below : List Frame} {meth : Method} {c : Code} {H : Heap} {locs : List Loc} {Q : State → Prop} {ls : Array Slot} {dC : Nat → ClassId} {dI : Nat → Nat → Nat} {cI cB : ClassId} {A : Nat → Prop} {H0 : Heap} {ad : Nat → Nat} (hx : p.tables.exec = Jvm.exec) (hb : c.code = cX7_init) (hml : c.maxLocals = 1) (hown : s.vm.findClass RX7 = some m.cls) (hts : ∀ w ∈ lw_g, w.before args s = true) (hK : va_K (dC, dI) vwCl [(cI, .int), (cB, .byte)] s) (hP : va_P (dC, dI) vwCl (mw cI cB ad I7 I00 G00) H) (hD : va_D A (mw cI cB ad I7 I00 G00)) (hS : va_S A H0 H locs) (hA : ∀ q, H0.size ≤ q → A q) (hl : lv_has ls 1 [(0, .ref (ad 69))])
    (kk : ∀ (H1 : Heap) (locs1 : List Loc), va_P (dC, dI) vwCl (mw cI cB ad I7 A7 G00) H1 → va_D A (mw cI cB ad I7 A7 G00) → va_S A H0 H1 locs1 → W p l e (ct_rm 1 20 16 666) s m args below meth c H1 locs1 16 666 Q (F0 m 153 ls [])) : W p l e (ct_rm 1 20 16 666) s m args below meth c H locs 16 666 Q (F0 m 138 ls []) := by
  refine lv_aload_n hx hb dX7_init_138 rfl (lv_at hl 0 rfl) ?_
  refine mw_get (v := .ref (ad 74)) hx hb hown hts hK hP am_fd_7_26 rfl dX7_init_139 ?_
  refine lv_iconst (v := 0) hx hb dX7_init_142 (by decide) ?_
  refine lv_bipush (v := 10) hx hb dX7_init_143 (by decide) ?_
  refine mw_ist (k := 5) (n := 24) (j := 0) hx hb hK hP hD hS (by decide) (by decide +kernel) (by unfold vp_in; decide) (by decide) dX7_init_145 (fun H locs hP hD hS => ?_)
  refine lv_aload_n hx hb dX7_init_146 rfl (lv_at hl 0 rfl) ?_
  refine mw_get (v := .ref (ad 76)) hx hb hown hts hK hP am_fd_7_32 rfl dX7_init_147 ?_
  have hFc := va_free (wc := mw cI cB ad I7 (mu I00 74 0 10) G00) hD hS hA (List.range 17) mw_all
  obtain ⟨m1, m2, m3, m4, m5⟩ := am_m_80
  have g2 : Cond.static yX7_standard ∈ lw_g := am_cs_7_62.2.1
  refine va_callv (va_runS (As := [.ref (ad 76)]) (rest := []) (Ts := lw_g) ⟨hx, hb, hml, hown, hts⟩ (st_X7 l dC dI cI cB ad H.size I7 (mu I00 74 0 10) G00) ⟨callB_of 1 hts (am_goodIn m1) rfl rfl rfl (hts _ m2) (hts _ x7_ml) m4 ⟨Nat.le_of_ble_eq_true rfl, Nat.le_of_ble_eq_true rfl⟩, hts _ g2⟩ ⟨fun a U g mk q => by obtain ⟨q0, q1, qP, qK, qD⟩ := q; exact ⟨q0, q1, qP, va_K.moved (u := U) (U := U.calling g mk a) (Vm.Alike.refl U.vm) qK, qD⟩, fun U hU hW => ⟨rfl, by rw [hU], by rw [hU]; exact hP, va_K.moved hW.alike hK, hD.weaken (fun _ _ _ _ => trivial)⟩⟩ rfl rfl hl.1 rfl (Nat.le_of_ble_eq_true rfl) dX7_init_150 ⟨Nat.le_refl _, Nat.le_refl _⟩) hS (fun q _ h => hFc q h) hFc (fun u t H1 locs ht hvm hw hB hz1 hk1 hS => ?_)
  obtain ⟨hP1, hK1, hD1⟩ := hB
  rw [ht] at hP1
  subst hw
  exact kk H1 locs hP1 (hD1.weaken (fun _ _ _ h => hFc _ h)) hS
set_option maxHeartbeats 4000000 in
set_option maxRecDepth 100000 in
theorem ct_X7 (l : Launch) (dC : Nat → ClassId) (dI : Nat → Nat → Nat) (cI cB : ClassId) (h0 sz : Nat) : Met l yX7_init (ct_ws yX7_init cX7_init) (ct_rm 1 20 16 666) (ct_P dC dI cI cB 7 [.int 0, .null, .int 0, .int 0, .int 0, .int 0, .null, .null, .null, .int 0, .int 0, .null, .null, .null, .int 0, .int 0, .null, .int 0, .int 0, .int 0, .null, .int 0, .null, .int 0, .int 0, .int 0, .int 0, .null, .null, .null, .null, .null, .null] h0 sz) (x7_Q dC dI cI cB [.int 0, .null, .int 0, .int 0, .int 0, .int 0, .null, .null, .null, .int 0, .int 0, .null, .null, .null, .int 0, .int 0, .null, .int 0, .int 0, .int 0, .null, .int 0, .null, .int 0, .int 0, .int 0, .int 0, .null, .null, .null, .null, .null, .null] h0 sz) 16 666 (va_A [(h0, .inr (7, [.int 0, .null, .int 0, .int 0, .int 0, .int 0, .null, .null, .null, .int 0, .int 0, .null, .null, .null, .int 0, .int 0, .null, .int 0, .int 0, .int 0, .null, .int 0, .null, .int 0, .int 0, .int 0, .int 0, .null, .null, .null, .null, .null, .null]))] sz) := by
  refine Met.ofW (cc := cX7_init) (maxL := 1) (ret := none) (by decide) rfl ?_
  intro p e s m args below meth c s₁ B hml hv
  obtain ⟨rfl, hsz, hP, hK, hD0, hnst⟩ := hv
  have hx := B.exec
  have hb := B.bytes
  have hr := B.returns
  have hts0 := atoms_spec (ws := ct_ws yX7_init cX7_init) B.pre
  have hts : ∀ w ∈ lw_g, w.before _ _ = true := fun w h => hts0 w (List.mem_cons_of_mem _ h)
  have hown : s.vm.findClass RX7 = some m.cls := findClass_of_methodNamed B.named
  have hin : meth.name = "<init>" := (name_of_methodNamed B.named B.method).1
  subst hsz
  unfold x7_Q
  have hD := hD0.self (sz := s.heap.size)
  generalize hAe : va_A [(h0, .inr (7, [.int 0, .null, .int 0, .int 0, .int 0, .int 0, .null, .null, .null, .int 0, .int 0, .null, .null, .null, .int 0, .int 0, .null, .int 0, .int 0, .int 0, .null, .int 0, .null, .int 0, .int 0, .int 0, .int 0, .null, .null, .null, .null, .null, .null]))] s.heap.size = A at hD ⊢
  have hA : ∀ q : Nat, s.heap.size ≤ q → A q := fun q h => by rw [← hAe]; exact Or.inr h
  have hS : va_S A s.heap s.heap [] := va_S.rf
  have hl := lv_entry ([.ref h0]) (n := 1) (Nat.le_of_ble_eq_true rfl)
  rw [lg_entry_eq]
  generalize (lg_sl ([.ref h0]) ++ List.replicate (1 - (lg_sl ([.ref h0])).length) Slot.unset).toArray = ls at hl ⊢
  have hl : lv_has ls 1 [(0, .ref h0)] := hl
  obtain ⟨ad0, -⟩ : ∃ ad0 : Nat → Nat, True := ⟨fun _ => 0, trivial⟩
  replace hP : va_P (dC, dI) vwCl ((h0, .inr (7, [.int 0, .null, .int 0, .int 0, .int 0, .int 0, .null, .null, .null, .int 0, .int 0, .null, .null, .null, .int 0, .int 0, .null, .int 0, .int 0, .int 0, .null, .int 0, .null, .int 0, .int 0, .int 0, .int 0, .null, .null, .null, .null, .null, .null])) :: cw cI cB 70 0 ad0) s.heap := hP
  replace hD : va_D A ((h0, .inr (7, [.int 0, .null, .int 0, .int 0, .int 0, .int 0, .null, .null, .null, .int 0, .int 0, .null, .null, .null, .int 0, .int 0, .null, .int 0, .int 0, .int 0, .null, .int 0, .null, .int 0, .int 0, .int 0, .int 0, .null, .null, .null, .null, .null, .null])) :: cw cI cB 70 0 ad0) := hD
  have hH0 : s.heap = s.heap := rfl
  refine lv_aload_n hx hb dX7_init_0 rfl (lv_at hl 0 rfl) ?_
  refine W.objInit hx hb hown (hts _ (am_gw 654 (by decide +kernel) (by decide +kernel))) (hts _ ct_oi) (hts _ ct_oc) rfl (by rw [hml]; exact hl.1) rfl dX7_init_1 (Nat.le_of_ble_eq_true rfl) (Nat.le_of_ble_eq_true rfl) ?_
  refine W.eq (g2 := F0 m 4 ls []) rfl ?_
  refine lv_aload_n hx hb dX7_init_4 rfl (lv_at hl 0 rfl) ?_
  refine lv_sipush (v := 400) hx hb dX7_init_5 (by decide) ?_
  refine ct_nI (a := 70) (t := 0) (N := 400) hx hb (hts _ ct_aI) (by decide +kernel) (by decide +kernel) hK hP hD hS hA (by decide) (by decide) (by decide) (Nat.le_of_ble_eq_true rfl) (Nat.le_of_ble_eq_true rfl) dX7_init_8 (fun q1 ad1 H hw1 hq1 hP hD hS => ?_)
  refine ct_put (v := .ref q1) (ty := .array .int) hx hb (o := 7) (C := RX7) (T := TX7) (N := 33) (k := 1) rfl rfl hown hts (am_fd_7_7) rfl hin (by decide +kernel) rfl rfl (Nat.le_of_ble_eq_true rfl) hK hP hD hS dX7_init_10 (fun H locs hP hD hS => ?_)
  replace hP : va_P (dC, dI) vwCl ((h0, .inr (7, [.int 0, .ref q1, .int 0, .int 0, .int 0, .int 0, .null, .null, .null, .int 0, .int 0, .null, .null, .null, .int 0, .int 0, .null, .int 0, .int 0, .int 0, .null, .int 0, .null, .int 0, .int 0, .int 0, .int 0, .null, .null, .null, .null, .null, .null])) :: cw cI cB 70 1 ad1) H := hP
  replace hD : va_D A ((h0, .inr (7, [.int 0, .ref q1, .int 0, .int 0, .int 0, .int 0, .null, .null, .null, .int 0, .int 0, .null, .null, .null, .int 0, .int 0, .null, .int 0, .int 0, .int 0, .null, .int 0, .null, .int 0, .int 0, .int 0, .int 0, .null, .null, .null, .null, .null, .null])) :: cw cI cB 70 1 ad1) := hD
  refine lv_aload_n hx hb dX7_init_13 rfl (lv_at hl 0 rfl) ?_
  refine lv_bipush (v := 24) hx hb dX7_init_14 (by decide) ?_
  refine ct_nI (a := 70) (t := 1) (N := 24) hx hb (hts _ ct_aI) (by decide +kernel) (by decide +kernel) hK hP hD hS hA (by decide) (by decide) (by decide) (Nat.le_of_ble_eq_true rfl) (Nat.le_of_ble_eq_true rfl) dX7_init_16 (fun q2 ad2 H hw2 hq2 hP hD hS => ?_)
  refine ct_put (v := .ref q2) (ty := .array .int) hx hb (o := 7) (C := RX7) (T := TX7) (N := 33) (k := 6) rfl rfl hown hts (am_fd_7_13) rfl hin (by decide +kernel) rfl rfl (Nat.le_of_ble_eq_true rfl) hK hP hD hS dX7_init_18 (fun H locs hP hD hS => ?_)
  replace hP : va_P (dC, dI) vwCl ((h0, .inr (7, [.int 0, .ref q1, .int 0, .int 0, .int 0, .int 0, .ref q2, .null, .null, .int 0, .int 0, .null, .null, .null, .int 0, .int 0, .null, .int 0, .int 0, .int 0, .null, .int 0, .null, .int 0, .int 0, .int 0, .int 0, .null, .null, .null, .null, .null, .null])) :: cw cI cB 70 2 ad2) H := hP
  replace hD : va_D A ((h0, .inr (7, [.int 0, .ref q1, .int 0, .int 0, .int 0, .int 0, .ref q2, .null, .null, .int 0, .int 0, .null, .null, .null, .int 0, .int 0, .null, .int 0, .int 0, .int 0, .null, .int 0, .null, .int 0, .int 0, .int 0, .int 0, .null, .null, .null, .null, .null, .null])) :: cw cI cB 70 2 ad2) := hD
  refine lv_aload_n hx hb dX7_init_21 rfl (lv_at hl 0 rfl) ?_
  refine lv_bipush (v := 40) hx hb dX7_init_22 (by decide) ?_
  refine ct_nI (a := 70) (t := 2) (N := 40) hx hb (hts _ ct_aI) (by decide +kernel) (by decide +kernel) hK hP hD hS hA (by decide) (by decide) (by decide) (Nat.le_of_ble_eq_true rfl) (Nat.le_of_ble_eq_true rfl) dX7_init_24 (fun q3 ad3 H hw3 hq3 hP hD hS => ?_)
  refine ct_put (v := .ref q3) (ty := .array .int) hx hb (o := 7) (C := RX7) (T := TX7) (N := 33) (k := 7) rfl rfl hown hts (am_fd_7_16) rfl hin (by decide +kernel) rfl rfl (Nat.le_of_ble_eq_true rfl) hK hP hD hS dX7_init_26 (fun H locs hP hD hS => ?_)
  replace hP : va_P (dC, dI) vwCl ((h0, .inr (7, [.int 0, .ref q1, .int 0, .int 0, .int 0, .int 0, .ref q2, .ref q3, .null, .int 0, .int 0, .null, .null, .null, .int 0, .int 0, .null, .int 0, .int 0, .int 0, .null, .int 0, .null, .int 0, .int 0, .int 0, .int 0, .null, .null, .null, .null, .null, .null])) :: cw cI cB 70 3 ad3) H := hP
  replace hD : va_D A ((h0, .inr (7, [.int 0, .ref q1, .int 0, .int 0, .int 0, .int 0, .ref q2, .ref q3, .null, .int 0, .int 0, .null, .null, .null, .int 0, .int 0, .null, .int 0, .int 0, .int 0, .null, .int 0, .null, .int 0, .int 0, .int 0, .int 0, .null, .null, .null, .null, .null, .null])) :: cw cI cB 70 3 ad3) := hD
  refine lv_aload_n hx hb dX7_init_29 rfl (lv_at hl 0 rfl) ?_
  refine lv_bipush (v := 6) hx hb dX7_init_30 (by decide) ?_
  refine ct_nI (a := 70) (t := 3) (N := 6) hx hb (hts _ ct_aI) (by decide +kernel) (by decide +kernel) hK hP hD hS hA (by decide) (by decide) (by decide) (Nat.le_of_ble_eq_true rfl) (Nat.le_of_ble_eq_true rfl) dX7_init_32 (fun q4 ad4 H hw4 hq4 hP hD hS => ?_)
  refine ct_put (v := .ref q4) (ty := .array .int) hx hb (o := 7) (C := RX7) (T := TX7) (N := 33) (k := 8) rfl rfl hown hts (am_fd_7_19) rfl hin (by decide +kernel) rfl rfl (Nat.le_of_ble_eq_true rfl) hK hP hD hS dX7_init_34 (fun H locs hP hD hS => ?_)
  replace hP : va_P (dC, dI) vwCl ((h0, .inr (7, [.int 0, .ref q1, .int 0, .int 0, .int 0, .int 0, .ref q2, .ref q3, .ref q4, .int 0, .int 0, .null, .null, .null, .int 0, .int 0, .null, .int 0, .int 0, .int 0, .null, .int 0, .null, .int 0, .int 0, .int 0, .int 0, .null, .null, .null, .null, .null, .null])) :: cw cI cB 70 4 ad4) H := hP
  replace hD : va_D A ((h0, .inr (7, [.int 0, .ref q1, .int 0, .int 0, .int 0, .int 0, .ref q2, .ref q3, .ref q4, .int 0, .int 0, .null, .null, .null, .int 0, .int 0, .null, .int 0, .int 0, .int 0, .null, .int 0, .null, .int 0, .int 0, .int 0, .int 0, .null, .null, .null, .null, .null, .null])) :: cw cI cB 70 4 ad4) := hD
  refine lv_aload_n hx hb dX7_init_37 rfl (lv_at hl 0 rfl) ?_
  refine lv_iconst (v := 1) hx hb dX7_init_38 (by decide) ?_
  refine ct_put (v := .int 1) (ty := .int) hx hb (o := 7) (C := RX7) (T := TX7) (N := 33) (k := 9) rfl rfl hown hts (am_fd_7_22) rfl hin (by decide +kernel) rfl rfl (Nat.le_of_ble_eq_true rfl) hK hP hD hS dX7_init_39 (fun H locs hP hD hS => ?_)
  replace hP : va_P (dC, dI) vwCl ((h0, .inr (7, [.int 0, .ref q1, .int 0, .int 0, .int 0, .int 0, .ref q2, .ref q3, .ref q4, .int 1, .int 0, .null, .null, .null, .int 0, .int 0, .null, .int 0, .int 0, .int 0, .null, .int 0, .null, .int 0, .int 0, .int 0, .int 0, .null, .null, .null, .null, .null, .null])) :: cw cI cB 70 4 ad4) H := hP
  replace hD : va_D A ((h0, .inr (7, [.int 0, .ref q1, .int 0, .int 0, .int 0, .int 0, .ref q2, .ref q3, .ref q4, .int 1, .int 0, .null, .null, .null, .int 0, .int 0, .null, .int 0, .int 0, .int 0, .null, .int 0, .null, .int 0, .int 0, .int 0, .int 0, .null, .null, .null, .null, .null, .null])) :: cw cI cB 70 4 ad4) := hD
  refine lv_aload_n hx hb dX7_init_42 rfl (lv_at hl 0 rfl) ?_
  refine lv_bipush (v := 24) hx hb dX7_init_43 (by decide) ?_
  refine ct_nI (a := 70) (t := 4) (N := 24) hx hb (hts _ ct_aI) (by decide +kernel) (by decide +kernel) hK hP hD hS hA (by decide) (by decide) (by decide) (Nat.le_of_ble_eq_true rfl) (Nat.le_of_ble_eq_true rfl) dX7_init_45 (fun q5 ad5 H hw5 hq5 hP hD hS => ?_)
  refine ct_put (v := .ref q5) (ty := .array .int) hx hb (o := 7) (C := RX7) (T := TX7) (N := 33) (k := 11) rfl rfl hown hts (am_fd_7_26) rfl hin (by decide +kernel) rfl rfl (Nat.le_of_ble_eq_true rfl) hK hP hD hS dX7_init_47 (fun H locs hP hD hS => ?_)
  replace hP : va_P (dC, dI) vwCl ((h0, .inr (7, [.int 0, .ref q1, .int 0, .int 0, .int 0, .int 0, .ref q2, .ref q3, .ref q4, .int 1, .int 0, .ref q5, .null, .null, .int 0, .int 0, .null, .int 0, .int 0, .int 0, .null, .int 0, .null, .int 0, .int 0, .int 0, .int 0, .null, .null, .null, .null, .null, .null])) :: cw cI cB 70 5 ad5) H := hP
  replace hD : va_D A ((h0, .inr (7, [.int 0, .ref q1, .int 0, .int 0, .int 0, .int 0, .ref q2, .ref q3, .ref q4, .int 1, .int 0, .ref q5, .null, .null, .int 0, .int 0, .null, .int 0, .int 0, .int 0, .null, .int 0, .null, .int 0, .int 0, .int 0, .int 0, .null, .null, .null, .null, .null, .null])) :: cw cI cB 70 5 ad5) := hD
  refine lv_aload_n hx hb dX7_init_50 rfl (lv_at hl 0 rfl) ?_
  refine lv_bipush (v := 44) hx hb dX7_init_51 (by decide) ?_
  refine ct_nI (a := 70) (t := 5) (N := 44) hx hb (hts _ ct_aI) (by decide +kernel) (by decide +kernel) hK hP hD hS hA (by decide) (by decide) (by decide) (Nat.le_of_ble_eq_true rfl) (Nat.le_of_ble_eq_true rfl) dX7_init_53 (fun q6 ad6 H hw6 hq6 hP hD hS => ?_)
  refine ct_put (v := .ref q6) (ty := .array .int) hx hb (o := 7) (C := RX7) (T := TX7) (N := 33) (k := 12) rfl rfl hown hts (am_fd_7_29) rfl hin (by decide +kernel) rfl rfl (Nat.le_of_ble_eq_true rfl) hK hP hD hS dX7_init_55 (fun H locs hP hD hS => ?_)
  replace hP : va_P (dC, dI) vwCl ((h0, .inr (7, [.int 0, .ref q1, .int 0, .int 0, .int 0, .int 0, .ref q2, .ref q3, .ref q4, .int 1, .int 0, .ref q5, .ref q6, .null, .int 0, .int 0, .null, .int 0, .int 0, .int 0, .null, .int 0, .null, .int 0, .int 0, .int 0, .int 0, .null, .null, .null, .null, .null, .null])) :: cw cI cB 70 6 ad6) H := hP
  replace hD : va_D A ((h0, .inr (7, [.int 0, .ref q1, .int 0, .int 0, .int 0, .int 0, .ref q2, .ref q3, .ref q4, .int 1, .int 0, .ref q5, .ref q6, .null, .int 0, .int 0, .null, .int 0, .int 0, .int 0, .null, .int 0, .null, .int 0, .int 0, .int 0, .int 0, .null, .null, .null, .null, .null, .null])) :: cw cI cB 70 6 ad6) := hD
  refine lv_aload_n hx hb dX7_init_58 rfl (lv_at hl 0 rfl) ?_
  refine lv_bipush (v := 6) hx hb dX7_init_59 (by decide) ?_
  refine ct_nI (a := 70) (t := 6) (N := 6) hx hb (hts _ ct_aI) (by decide +kernel) (by decide +kernel) hK hP hD hS hA (by decide) (by decide) (by decide) (Nat.le_of_ble_eq_true rfl) (Nat.le_of_ble_eq_true rfl) dX7_init_61 (fun q7 ad7 H hw7 hq7 hP hD hS => ?_)
  refine ct_put (v := .ref q7) (ty := .array .int) hx hb (o := 7) (C := RX7) (T := TX7) (N := 33) (k := 13) rfl rfl hown hts (am_fd_7_32) rfl hin (by decide +kernel) rfl rfl (Nat.le_of_ble_eq_true rfl) hK hP hD hS dX7_init_63 (fun H locs hP hD hS => ?_)
  replace hP : va_P (dC, dI) vwCl ((h0, .inr (7, [.int 0, .ref q1, .int 0, .int 0, .int 0, .int 0, .ref q2, .ref q3, .ref q4, .int 1, .int 0, .ref q5, .ref q6, .ref q7, .int 0, .int 0, .null, .int 0, .int 0, .int 0, .null, .int 0, .null, .int 0, .int 0, .int 0, .int 0, .null, .null, .null, .null, .null, .null])) :: cw cI cB 70 7 ad7) H := hP
  replace hD : va_D A ((h0, .inr (7, [.int 0, .ref q1, .int 0, .int 0, .int 0, .int 0, .ref q2, .ref q3, .ref q4, .int 1, .int 0, .ref q5, .ref q6, .ref q7, .int 0, .int 0, .null, .int 0, .int 0, .int 0, .null, .int 0, .null, .int 0, .int 0, .int 0, .int 0, .null, .null, .null, .null, .null, .null])) :: cw cI cB 70 7 ad7) := hD
  refine lv_aload_n hx hb dX7_init_66 rfl (lv_at hl 0 rfl) ?_
  refine lv_bipush (v := 8) hx hb dX7_init_67 (by decide) ?_
  refine ct_nI (a := 70) (t := 7) (N := 8) hx hb (hts _ ct_aI) (by decide +kernel) (by decide +kernel) hK hP hD hS hA (by decide) (by decide) (by decide) (Nat.le_of_ble_eq_true rfl) (Nat.le_of_ble_eq_true rfl) dX7_init_69 (fun q8 ad8 H hw8 hq8 hP hD hS => ?_)
  refine ct_put (v := .ref q8) (ty := .array .int) hx hb (o := 7) (C := RX7) (T := TX7) (N := 33) (k := 16) rfl rfl hown hts (am_fd_7_35) rfl hin (by decide +kernel) rfl rfl (Nat.le_of_ble_eq_true rfl) hK hP hD hS dX7_init_71 (fun H locs hP hD hS => ?_)
  replace hP : va_P (dC, dI) vwCl ((h0, .inr (7, [.int 0, .ref q1, .int 0, .int 0, .int 0, .int 0, .ref q2, .ref q3, .ref q4, .int 1, .int 0, .ref q5, .ref q6, .ref q7, .int 0, .int 0, .ref q8, .int 0, .int 0, .int 0, .null, .int 0, .null, .int 0, .int 0, .int 0, .int 0, .null, .null, .null, .null, .null, .null])) :: cw cI cB 70 8 ad8) H := hP
  replace hD : va_D A ((h0, .inr (7, [.int 0, .ref q1, .int 0, .int 0, .int 0, .int 0, .ref q2, .ref q3, .ref q4, .int 1, .int 0, .ref q5, .ref q6, .ref q7, .int 0, .int 0, .ref q8, .int 0, .int 0, .int 0, .null, .int 0, .null, .int 0, .int 0, .int 0, .int 0, .null, .null, .null, .null, .null, .null])) :: cw cI cB 70 8 ad8) := hD
  refine lv_aload_n hx hb dX7_init_74 rfl (lv_at hl 0 rfl) ?_
  refine lv_bipush (v := 24) hx hb dX7_init_75 (by decide) ?_
  refine ct_nI (a := 70) (t := 8) (N := 24) hx hb (hts _ ct_aI) (by decide +kernel) (by decide +kernel) hK hP hD hS hA (by decide) (by decide) (by decide) (Nat.le_of_ble_eq_true rfl) (Nat.le_of_ble_eq_true rfl) dX7_init_77 (fun q9 ad9 H hw9 hq9 hP hD hS => ?_)
  refine ct_put (v := .ref q9) (ty := .array .int) hx hb (o := 7) (C := RX7) (T := TX7) (N := 33) (k := 20) rfl rfl hown hts (am_fd_7_38) rfl hin (by decide +kernel) rfl rfl (Nat.le_of_ble_eq_true rfl) hK hP hD hS dX7_init_79 (fun H locs hP hD hS => ?_)
  replace hP : va_P (dC, dI) vwCl ((h0, .inr (7, [.int 0, .ref q1, .int 0, .int 0, .int 0, .int 0, .ref q2, .ref q3, .ref q4, .int 1, .int 0, .ref q5, .ref q6, .ref q7, .int 0, .int 0, .ref q8, .int 0, .int 0, .int 0, .ref q9, .int 0, .null, .int 0, .int 0, .int 0, .int 0, .null, .null, .null, .null, .null, .null])) :: cw cI cB 70 9 ad9) H := hP
  replace hD : va_D A ((h0, .inr (7, [.int 0, .ref q1, .int 0, .int 0, .int 0, .int 0, .ref q2, .ref q3, .ref q4, .int 1, .int 0, .ref q5, .ref q6, .ref q7, .int 0, .int 0, .ref q8, .int 0, .int 0, .int 0, .ref q9, .int 0, .null, .int 0, .int 0, .int 0, .int 0, .null, .null, .null, .null, .null, .null])) :: cw cI cB 70 9 ad9) := hD
  refine lv_aload_n hx hb dX7_init_82 rfl (lv_at hl 0 rfl) ?_
  refine lv_bipush (v := 30) hx hb dX7_init_83 (by decide) ?_
  refine ct_nI (a := 70) (t := 9) (N := 30) hx hb (hts _ ct_aI) (by decide +kernel) (by decide +kernel) hK hP hD hS hA (by decide) (by decide) (by decide) (Nat.le_of_ble_eq_true rfl) (Nat.le_of_ble_eq_true rfl) dX7_init_85 (fun q10 ad10 H hw10 hq10 hP hD hS => ?_)
  refine ct_put (v := .ref q10) (ty := .array .int) hx hb (o := 7) (C := RX7) (T := TX7) (N := 33) (k := 22) rfl rfl hown hts (am_fd_7_41) rfl hin (by decide +kernel) rfl rfl (Nat.le_of_ble_eq_true rfl) hK hP hD hS dX7_init_87 (fun H locs hP hD hS => ?_)
  replace hP : va_P (dC, dI) vwCl ((h0, .inr (7, [.int 0, .ref q1, .int 0, .int 0, .int 0, .int 0, .ref q2, .ref q3, .ref q4, .int 1, .int 0, .ref q5, .ref q6, .ref q7, .int 0, .int 0, .ref q8, .int 0, .int 0, .int 0, .ref q9, .int 0, .ref q10, .int 0, .int 0, .int 0, .int 0, .null, .null, .null, .null, .null, .null])) :: cw cI cB 70 10 ad10) H := hP
  replace hD : va_D A ((h0, .inr (7, [.int 0, .ref q1, .int 0, .int 0, .int 0, .int 0, .ref q2, .ref q3, .ref q4, .int 1, .int 0, .ref q5, .ref q6, .ref q7, .int 0, .int 0, .ref q8, .int 0, .int 0, .int 0, .ref q9, .int 0, .ref q10, .int 0, .int 0, .int 0, .int 0, .null, .null, .null, .null, .null, .null])) :: cw cI cB 70 10 ad10) := hD
  refine lv_aload_n hx hb dX7_init_90 rfl (lv_at hl 0 rfl) ?_
  refine lv_bipush (v := 8) hx hb dX7_init_91 (by decide) ?_
  refine ct_nI (a := 70) (t := 10) (N := 8) hx hb (hts _ ct_aI) (by decide +kernel) (by decide +kernel) hK hP hD hS hA (by decide) (by decide) (by decide) (Nat.le_of_ble_eq_true rfl) (Nat.le_of_ble_eq_true rfl) dX7_init_93 (fun q11 ad11 H hw11 hq11 hP hD hS => ?_)
  refine ct_put (v := .ref q11) (ty := .array .int) hx hb (o := 7) (C := RX7) (T := TX7) (N := 33) (k := 27) rfl rfl hown hts (am_fd_7_44) rfl hin (by decide +kernel) rfl rfl (Nat.le_of_ble_eq_true rfl) hK hP hD hS dX7_init_95 (fun H locs hP hD hS => ?_)
  replace hP : va_P (dC, dI) vwCl ((h0, .inr (7, [.int 0, .ref q1, .int 0, .int 0, .int 0, .int 0, .ref q2, .ref q3, .ref q4, .int 1, .int 0, .ref q5, .ref q6, .ref q7, .int 0, .int 0, .ref q8, .int 0, .int 0, .int 0, .ref q9, .int 0, .ref q10, .int 0, .int 0, .int 0, .int 0, .ref q11, .null, .null, .null, .null, .null])) :: cw cI cB 70 11 ad11) H := hP
  replace hD : va_D A ((h0, .inr (7, [.int 0, .ref q1, .int 0, .int 0, .int 0, .int 0, .ref q2, .ref q3, .ref q4, .int 1, .int 0, .ref q5, .ref q6, .ref q7, .int 0, .int 0, .ref q8, .int 0, .int 0, .int 0, .ref q9, .int 0, .ref q10, .int 0, .int 0, .int 0, .int 0, .ref q11, .null, .null, .null, .null, .null])) :: cw cI cB 70 11 ad11) := hD
  refine lv_aload_n hx hb dX7_init_98 rfl (lv_at hl 0 rfl) ?_
  refine lv_bipush (v := 11) hx hb dX7_init_99 (by decide) ?_
  refine ct_nI (a := 70) (t := 11) (N := 11) hx hb (hts _ ct_aI) (by decide +kernel) (by decide +kernel) hK hP hD hS hA (by decide) (by decide) (by decide) (Nat.le_of_ble_eq_true rfl) (Nat.le_of_ble_eq_true rfl) dX7_init_101 (fun q12 ad12 H hw12 hq12 hP hD hS => ?_)
  refine ct_put (v := .ref q12) (ty := .array .int) hx hb (o := 7) (C := RX7) (T := TX7) (N := 33) (k := 28) rfl rfl hown hts (am_fd_7_47) rfl hin (by decide +kernel) rfl rfl (Nat.le_of_ble_eq_true rfl) hK hP hD hS dX7_init_103 (fun H locs hP hD hS => ?_)
  replace hP : va_P (dC, dI) vwCl ((h0, .inr (7, [.int 0, .ref q1, .int 0, .int 0, .int 0, .int 0, .ref q2, .ref q3, .ref q4, .int 1, .int 0, .ref q5, .ref q6, .ref q7, .int 0, .int 0, .ref q8, .int 0, .int 0, .int 0, .ref q9, .int 0, .ref q10, .int 0, .int 0, .int 0, .int 0, .ref q11, .ref q12, .null, .null, .null, .null])) :: cw cI cB 70 12 ad12) H := hP
  replace hD : va_D A ((h0, .inr (7, [.int 0, .ref q1, .int 0, .int 0, .int 0, .int 0, .ref q2, .ref q3, .ref q4, .int 1, .int 0, .ref q5, .ref q6, .ref q7, .int 0, .int 0, .ref q8, .int 0, .int 0, .int 0, .ref q9, .int 0, .ref q10, .int 0, .int 0, .int 0, .int 0, .ref q11, .ref q12, .null, .null, .null, .null])) :: cw cI cB 70 12 ad12) := hD
  refine lv_aload_n hx hb dX7_init_106 rfl (lv_at hl 0 rfl) ?_
  refine lv_bipush (v := 11) hx hb dX7_init_107 (by decide) ?_
  refine ct_nI (a := 70) (t := 12) (N := 11) hx hb (hts _ ct_aI) (by decide +kernel) (by decide +kernel) hK hP hD hS hA (by decide) (by decide) (by decide) (Nat.le_of_ble_eq_true rfl) (Nat.le_of_ble_eq_true rfl) dX7_init_109 (fun q13 ad13 H hw13 hq13 hP hD hS => ?_)
  refine ct_put (v := .ref q13) (ty := .array .int) hx hb (o := 7) (C := RX7) (T := TX7) (N := 33) (k := 29) rfl rfl hown hts (am_fd_7_50) rfl hin (by decide +kernel) rfl rfl (Nat.le_of_ble_eq_true rfl) hK hP hD hS dX7_init_111 (fun H locs hP hD hS => ?_)
  replace hP : va_P (dC, dI) vwCl ((h0, .inr (7, [.int 0, .ref q1, .int 0, .int 0, .int 0, .int 0, .ref q2, .ref q3, .ref q4, .int 1, .int 0, .ref q5, .ref q6, .ref q7, .int 0, .int 0, .ref q8, .int 0, .int 0, .int 0, .ref q9, .int 0, .ref q10, .int 0, .int 0, .int 0, .int 0, .ref q11, .ref q12, .ref q13, .null, .null, .null])) :: cw cI cB 70 13 ad13) H := hP
  replace hD : va_D A ((h0, .inr (7, [.int 0, .ref q1, .int 0, .int 0, .int 0, .int 0, .ref q2, .ref q3, .ref q4, .int 1, .int 0, .ref q5, .ref q6, .ref q7, .int 0, .int 0, .ref q8, .int 0, .int 0, .int 0, .ref q9, .int 0, .ref q10, .int 0, .int 0, .int 0, .int 0, .ref q11, .ref q12, .ref q13, .null, .null, .null])) :: cw cI cB 70 13 ad13) := hD
  refine lv_aload_n hx hb dX7_init_114 rfl (lv_at hl 0 rfl) ?_
  refine lv_bipush (v := 11) hx hb dX7_init_115 (by decide) ?_
  refine ct_nI (a := 70) (t := 13) (N := 11) hx hb (hts _ ct_aI) (by decide +kernel) (by decide +kernel) hK hP hD hS hA (by decide) (by decide) (by decide) (Nat.le_of_ble_eq_true rfl) (Nat.le_of_ble_eq_true rfl) dX7_init_117 (fun q14 ad14 H hw14 hq14 hP hD hS => ?_)
  refine ct_put (v := .ref q14) (ty := .array .int) hx hb (o := 7) (C := RX7) (T := TX7) (N := 33) (k := 30) rfl rfl hown hts (am_fd_7_53) rfl hin (by decide +kernel) rfl rfl (Nat.le_of_ble_eq_true rfl) hK hP hD hS dX7_init_119 (fun H locs hP hD hS => ?_)
  replace hP : va_P (dC, dI) vwCl ((h0, .inr (7, [.int 0, .ref q1, .int 0, .int 0, .int 0, .int 0, .ref q2, .ref q3, .ref q4, .int 1, .int 0, .ref q5, .ref q6, .ref q7, .int 0, .int 0, .ref q8, .int 0, .int 0, .int 0, .ref q9, .int 0, .ref q10, .int 0, .int 0, .int 0, .int 0, .ref q11, .ref q12, .ref q13, .ref q14, .null, .null])) :: cw cI cB 70 14 ad14) H := hP
  replace hD : va_D A ((h0, .inr (7, [.int 0, .ref q1, .int 0, .int 0, .int 0, .int 0, .ref q2, .ref q3, .ref q4, .int 1, .int 0, .ref q5, .ref q6, .ref q7, .int 0, .int 0, .ref q8, .int 0, .int 0, .int 0, .ref q9, .int 0, .ref q10, .int 0, .int 0, .int 0, .int 0, .ref q11, .ref q12, .ref q13, .ref q14, .null, .null])) :: cw cI cB 70 14 ad14) := hD
  refine lv_aload_n hx hb dX7_init_122 rfl (lv_at hl 0 rfl) ?_
  refine lv_bipush (v := 11) hx hb dX7_init_123 (by decide) ?_
  refine ct_nI (a := 70) (t := 14) (N := 11) hx hb (hts _ ct_aI) (by decide +kernel) (by decide +kernel) hK hP hD hS hA (by decide) (by decide) (by decide) (Nat.le_of_ble_eq_true rfl) (Nat.le_of_ble_eq_true rfl) dX7_init_125 (fun q15 ad15 H hw15 hq15 hP hD hS => ?_)
  refine ct_put (v := .ref q15) (ty := .array .int) hx hb (o := 7) (C := RX7) (T := TX7) (N := 33) (k := 31) rfl rfl hown hts (am_fd_7_56) rfl hin (by decide +kernel) rfl rfl (Nat.le_of_ble_eq_true rfl) hK hP hD hS dX7_init_127 (fun H locs hP hD hS => ?_)
  replace hP : va_P (dC, dI) vwCl ((h0, .inr (7, [.int 0, .ref q1, .int 0, .int 0, .int 0, .int 0, .ref q2, .ref q3, .ref q4, .int 1, .int 0, .ref q5, .ref q6, .ref q7, .int 0, .int 0, .ref q8, .int 0, .int 0, .int 0, .ref q9, .int 0, .ref q10, .int 0, .int 0, .int 0, .int 0, .ref q11, .ref q12, .ref q13, .ref q14, .ref q15, .null])) :: cw cI cB 70 15 ad15) H := hP
  replace hD : va_D A ((h0, .inr (7, [.int 0, .ref q1, .int 0, .int 0, .int 0, .int 0, .ref q2, .ref q3, .ref q4, .int 1, .int 0, .ref q5, .ref q6, .ref q7, .int 0, .int 0, .ref q8, .int 0, .int 0, .int 0, .ref q9, .int 0, .ref q10, .int 0, .int 0, .int 0, .int 0, .ref q11, .ref q12, .ref q13, .ref q14, .ref q15, .null])) :: cw cI cB 70 15 ad15) := hD
  refine lv_aload_n hx hb dX7_init_130 rfl (lv_at hl 0 rfl) ?_
  refine lv_bipush (v := 8) hx hb dX7_init_131 (by decide) ?_
  refine ct_nI (a := 70) (t := 15) (N := 8) hx hb (hts _ ct_aI) (by decide +kernel) (by decide +kernel) hK hP hD hS hA (by decide) (by decide) (by decide) (Nat.le_of_ble_eq_true rfl) (Nat.le_of_ble_eq_true rfl) dX7_init_133 (fun q16 ad16 H hw16 hq16 hP hD hS => ?_)
  refine ct_put (v := .ref q16) (ty := .array .int) hx hb (o := 7) (C := RX7) (T := TX7) (N := 33) (k := 32) rfl rfl hown hts (am_fd_7_59) rfl hin (by decide +kernel) rfl rfl (Nat.le_of_ble_eq_true rfl) hK hP hD hS dX7_init_135 (fun H locs hP hD hS => ?_)
  replace hP : va_P (dC, dI) vwCl ((h0, .inr (7, [.int 0, .ref q1, .int 0, .int 0, .int 0, .int 0, .ref q2, .ref q3, .ref q4, .int 1, .int 0, .ref q5, .ref q6, .ref q7, .int 0, .int 0, .ref q8, .int 0, .int 0, .int 0, .ref q9, .int 0, .ref q10, .int 0, .int 0, .int 0, .int 0, .ref q11, .ref q12, .ref q13, .ref q14, .ref q15, .ref q16])) :: cw cI cB 70 16 ad16) H := hP
  replace hD : va_D A ((h0, .inr (7, [.int 0, .ref q1, .int 0, .int 0, .int 0, .int 0, .ref q2, .ref q3, .ref q4, .int 1, .int 0, .ref q5, .ref q6, .ref q7, .int 0, .int 0, .ref q8, .int 0, .int 0, .int 0, .ref q9, .int 0, .ref q10, .int 0, .int 0, .int 0, .int 0, .ref q11, .ref q12, .ref q13, .ref q14, .ref q15, .ref q16])) :: cw cI cB 70 16 ad16) := hD
  have e1 : ad16 70 = q1 := (hw16 70 (by decide)).trans ((hw15 70 (by decide)).trans ((hw14 70 (by decide)).trans ((hw13 70 (by decide)).trans ((hw12 70 (by decide)).trans ((hw11 70 (by decide)).trans ((hw10 70 (by decide)).trans ((hw9 70 (by decide)).trans ((hw8 70 (by decide)).trans ((hw7 70 (by decide)).trans ((hw6 70 (by decide)).trans ((hw5 70 (by decide)).trans ((hw4 70 (by decide)).trans ((hw3 70 (by decide)).trans ((hw2 70 (by decide)).trans (hq1)))))))))))))))
  have e2 : ad16 71 = q2 := (hw16 71 (by decide)).trans ((hw15 71 (by decide)).trans ((hw14 71 (by decide)).trans ((hw13 71 (by decide)).trans ((hw12 71 (by decide)).trans ((hw11 71 (by decide)).trans ((hw10 71 (by decide)).trans ((hw9 71 (by decide)).trans ((hw8 71 (by decide)).trans ((hw7 71 (by decide)).trans ((hw6 71 (by decide)).trans ((hw5 71 (by decide)).trans ((hw4 71 (by decide)).trans ((hw3 71 (by decide)).trans (hq2))))))))))))))
  have e3 : ad16 72 = q3 := (hw16 72 (by decide)).trans ((hw15 72 (by decide)).trans ((hw14 72 (by decide)).trans ((hw13 72 (by decide)).trans ((hw12 72 (by decide)).trans ((hw11 72 (by decide)).trans ((hw10 72 (by decide)).trans ((hw9 72 (by decide)).trans ((hw8 72 (by decide)).trans ((hw7 72 (by decide)).trans ((hw6 72 (by decide)).trans ((hw5 72 (by decide)).trans ((hw4 72 (by decide)).trans (hq3)))))))))))))
  have e4 : ad16 73 = q4 := (hw16 73 (by decide)).trans ((hw15 73 (by decide)).trans ((hw14 73 (by decide)).trans ((hw13 73 (by decide)).trans ((hw12 73 (by decide)).trans ((hw11 73 (by decide)).trans ((hw10 73 (by decide)).trans ((hw9 73 (by decide)).trans ((hw8 73 (by decide)).trans ((hw7 73 (by decide)).trans ((hw6 73 (by decide)).trans ((hw5 73 (by decide)).trans (hq4))))))))))))
  have e5 : ad16 74 = q5 := (hw16 74 (by decide)).trans ((hw15 74 (by decide)).trans ((hw14 74 (by decide)).trans ((hw13 74 (by decide)).trans ((hw12 74 (by decide)).trans ((hw11 74 (by decide)).trans ((hw10 74 (by decide)).trans ((hw9 74 (by decide)).trans ((hw8 74 (by decide)).trans ((hw7 74 (by decide)).trans ((hw6 74 (by decide)).trans (hq5)))))))))))
  have e6 : ad16 75 = q6 := (hw16 75 (by decide)).trans ((hw15 75 (by decide)).trans ((hw14 75 (by decide)).trans ((hw13 75 (by decide)).trans ((hw12 75 (by decide)).trans ((hw11 75 (by decide)).trans ((hw10 75 (by decide)).trans ((hw9 75 (by decide)).trans ((hw8 75 (by decide)).trans ((hw7 75 (by decide)).trans (hq6))))))))))
  have e7 : ad16 76 = q7 := (hw16 76 (by decide)).trans ((hw15 76 (by decide)).trans ((hw14 76 (by decide)).trans ((hw13 76 (by decide)).trans ((hw12 76 (by decide)).trans ((hw11 76 (by decide)).trans ((hw10 76 (by decide)).trans ((hw9 76 (by decide)).trans ((hw8 76 (by decide)).trans (hq7)))))))))
  have e8 : ad16 77 = q8 := (hw16 77 (by decide)).trans ((hw15 77 (by decide)).trans ((hw14 77 (by decide)).trans ((hw13 77 (by decide)).trans ((hw12 77 (by decide)).trans ((hw11 77 (by decide)).trans ((hw10 77 (by decide)).trans ((hw9 77 (by decide)).trans (hq8))))))))
  have e9 : ad16 78 = q9 := (hw16 78 (by decide)).trans ((hw15 78 (by decide)).trans ((hw14 78 (by decide)).trans ((hw13 78 (by decide)).trans ((hw12 78 (by decide)).trans ((hw11 78 (by decide)).trans ((hw10 78 (by decide)).trans (hq9)))))))
  have e10 : ad16 79 = q10 := (hw16 79 (by decide)).trans ((hw15 79 (by decide)).trans ((hw14 79 (by decide)).trans ((hw13 79 (by decide)).trans ((hw12 79 (by decide)).trans ((hw11 79 (by decide)).trans (hq10))))))
  have e11 : ad16 80 = q11 := (hw16 80 (by decide)).trans ((hw15 80 (by decide)).trans ((hw14 80 (by decide)).trans ((hw13 80 (by decide)).trans ((hw12 80 (by decide)).trans (hq11)))))
  have e12 : ad16 81 = q12 := (hw16 81 (by decide)).trans ((hw15 81 (by decide)).trans ((hw14 81 (by decide)).trans ((hw13 81 (by decide)).trans (hq12))))
  have e13 : ad16 82 = q13 := (hw16 82 (by decide)).trans ((hw15 82 (by decide)).trans ((hw14 82 (by decide)).trans (hq13)))
  have e14 : ad16 83 = q14 := (hw16 83 (by decide)).trans ((hw15 83 (by decide)).trans (hq14))
  have e15 : ad16 84 = q15 := (hw16 84 (by decide)).trans (hq15)
  have e16 : ad16 85 = q16 := hq16
  have hw9 : (h0, (.inr (7, [.int 0, .ref q1, .int 0, .int 0, .int 0, .int 0, .ref q2, .ref q3, .ref q4, .int 1, .int 0, .ref q5, .ref q6, .ref q7, .int 0, .int 0, .ref q8, .int 0, .int 0, .int 0, .ref q9, .int 0, .ref q10, .int 0, .int 0, .int 0, .int 0, .ref q11, .ref q12, .ref q13, .ref q14, .ref q15, .ref q16]) : va_E)) :: cw cI cB 70 16 ad16 = mw cI cB (ct_up ad16 69 h0) I7 I00 G00 := by
    clear hP hD hS hA
    rw [mw_1, cw_c (a := 70) (r := 16) (ad := ct_up ad16 69 h0) (ad' := ad16) (by decide +kernel) (fun x h _ => ct_up_ne (by omega))]
    have hz : am_ce cI cB (ct_up ad16 69 h0) I7 I00 G00 69 = .inr (7, [.int 0, .ref q1, .int 0, .int 0, .int 0, .int 0, .ref q2, .ref q3, .ref q4, .int 1, .int 0, .ref q5, .ref q6, .ref q7, .int 0, .int 0, .ref q8, .int 0, .int 0, .int 0, .ref q9, .int 0, .ref q10, .int 0, .int 0, .int 0, .int 0, .ref q11, .ref q12, .ref q13, .ref q14, .ref q15, .ref q16]) := by
      rw [← e1, ← e2, ← e3, ← e4, ← e5, ← e6, ← e7, ← e8, ← e9, ← e10, ← e11, ← e12, ← e13, ← e14, ← e15, ← e16]
      rfl
    rw [hz, ct_up_eq]
  rw [hw9] at hP hD
  refine W.widen (k := 16) (n := 666) (Nat.le_of_ble_eq_true rfl) (Nat.le_of_ble_eq_true rfl) ?_
  refine x7_tail hx hb hml hown hts hK hP hD hS hA (by rw [ct_up_eq]; exact hl) (fun H locs hP hD hS => ?_)
  exact W.vret hx hb hr (fun t ht hW => ⟨⟨ct_up ad16 69 h0, rfl, ct_up_eq _ _ _, by rw [ht]; exact hP, va_K.moved hW.alike hK, hD⟩, hS.F ht⟩) hS.2.2 dX7_init_153
