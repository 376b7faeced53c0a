/-! ===== constructors: cells made one behind the other ===== -/
def I00 : am_F := fun _ _ => 0
def G00 : am_G := fun a j => match a, j with
  | 0, 3 => 5
  | 0, 4 => 25
  | 2, 1 => 4
  | 58, 4 => 63
  | _, _ => 0
def ct_e (cI cB : ClassId) (ad : Nat → Nat) (k : Nat) : va_E := am_ce cI cB ad I00 I00 G00 k
/-- the cells a, a + 1, .. as they are made -/
def cw (cI cB : ClassId) (a r : Nat) (ad : Nat → Nat) : va_W := (List.range r).map (fun j => (ad (a + j), ct_e cI cB ad (a + j)))
def ct_rf (k c j lo hi : Nat) : Bool := match am_fv I00 G00 k c j with
  | .ref x => Nat.ble lo x && Nat.blt x hi
  | _ => true
/-- the cells of a range refer to cells of the range alone -/
def ct_ok (a r : Nat) : Bool := (List.range r).all (fun i => match am_cell (a + i) with
  | .inl _ => true
  | .inr c => (List.range (am_nf c)).all (fun j => ct_rf (a + i) c j a (a + r)))
theorem ct_e_c {cI cB : ClassId} {ad ad' : Nat → Nat} {k lo hi : Nat} (hk : (match am_cell k with
  | .inl _ => true
  | .inr c => (List.range (am_nf c)).all (fun j => ct_rf k c j lo hi)) = true) (h : ∀ x, lo ≤ x → x < hi → ad x = ad' x) : ct_e cI cB ad k = ct_e cI cB ad' k := by
  unfold ct_e am_ce
  split at hk
  · rename_i q hq
    rw [hq]
  · rename_i q hq
    rw [hq]
    dsimp only
    congr 2
    refine List.map_congr_left (fun j hj => ?_)
    have h1 := List.all_eq_true.mp hk j hj
    unfold ct_rf at h1
    cases hv : am_fv I00 G00 k q j with
    | ref x =>
      rw [hv] at h1
      dsimp only at h1
      rw [Bool.and_eq_true] at h1
      show Value.ref (ad x) = Value.ref (ad' x)
      rw [h x (Nat.le_of_ble_eq_true h1.1) (Nat.le_of_ble_eq_true h1.2)]
    | _ => rfl
theorem cw_c {cI cB : ClassId} {ad ad' : Nat → Nat} {a r : Nat} (hk : ct_ok a r = true) (h : ∀ x, a ≤ x → x < a + r → ad x = ad' x) : cw cI cB a r ad = cw cI cB a r ad' := by
  unfold cw
  refine List.map_congr_left (fun j hj => ?_)
  have hj' := List.mem_range.mp hj
  rw [h (a + j) (by omega) (by omega), ct_e_c (List.all_eq_true.mp hk j hj) h]
theorem cw_s (cI cB : ClassId) (a t : Nat) (ad : Nat → Nat) : cw cI cB a (t + 1) ad = cw cI cB a t ad ++ [(ad (a + t), ct_e cI cB ad (a + t))] := by
  unfold cw
  rw [List.range_succ, List.map_append]
  rfl
theorem cw_a (cI cB : ClassId) (a t r : Nat) (ad : Nat → Nat) : cw cI cB a (t + r) ad = cw cI cB a t ad ++ cw cI cB (a + t) r ad := by
  induction r with
  | zero => show _ = _ ++ []; rw [List.append_nil]; rfl
  | succ r ih =>
    rw [← Nat.add_assoc, cw_s, ih, cw_s, List.append_assoc, Nat.add_assoc]
theorem cw_1 (cI cB : ClassId) (a t : Nat) (ad : Nat → Nat) : cw cI cB a (t + 1) ad = (ad a, ct_e cI cB ad a) :: cw cI cB (a + 1) t ad := by
  rw [Nat.add_comm t 1, cw_a]
  rfl
theorem cw_len (cI cB : ClassId) (a t : Nat) (ad : Nat → Nat) : (cw cI cB a t ad).length = t := by
  unfold cw; rw [List.length_map, List.length_range]
/-- places of a list and its last one -/
theorem ct_r {w : va_W} {x : Nat × va_E} : (List.range w.length).map (fun i => (w ++ [x])[i]?) = w.map some := by
  apply List.ext_getElem?
  intro i
  by_cases h : i < w.length
  · rw [List.getElem?_map, List.getElem?_range h, List.getElem?_map]
    show some ((w ++ [x])[i]?) = _
    rw [List.getElem?_append_left h, List.getElem?_eq_getElem h]
    rfl
  · rw [List.getElem?_eq_none (by rw [List.length_map, List.length_range]; omega), List.getElem?_eq_none (by rw [List.length_map]; omega)]
theorem ct_l {w : va_W} {x : Nat × va_E} : [w.length].map (fun i => (w ++ [x])[i]?) = [x].map some := by
  show [(w ++ [x])[w.length]?] = [some x]
  rw [List.getElem?_append_right (Nat.le_refl _), Nat.sub_self]
  rfl
theorem ct_nd0 : ∀ (l : List Nat), l.Nodup → va_nd l = true
  | [], _ => rfl
  | a :: l, h => by
    have h1 := List.nodup_cons.mp h
    show (decide (a ∉ l) && va_nd l) = true
    rw [decide_eq_true h1.1, ct_nd0 l h1.2]
    rfl
theorem ct_nd (n : Nat) : va_nd (List.range n) = true := ct_nd0 _ List.nodup_range
def ct_up (ad : Nat → Nat) (k q : Nat) : Nat → Nat := fun x => if x = k then q else ad x
theorem ct_up_eq (ad : Nat → Nat) (k q : Nat) : ct_up ad k q k = q := if_pos rfl
theorem ct_up_ne {ad : Nat → Nat} {k q x : Nat} (h : x ≠ k) : ct_up ad k q x = ad x := if_neg h
section CT
variable {p : Program} {l : Launch} {e : Env} {R : Room} {s : State} {m : MethodId} {args : Array Value} {below : List Frame} {meth : Method} {c : Code} {H : Heap} {locs : List Loc} {cells slots : Nat} {Q : State → Prop} {pc : Nat} {ls : Array Slot} {rest : List Value} {cc : ByteArray}
variable {dC : Nat → ClassId} {dI : Nat → Nat → Nat} {cI cB : ClassId} {A : Nat → Prop} {H0 : Heap}
/-- a new row of ints -/
theorem ct_nI (hexec : p.tables.exec = Jvm.exec) (hb : c.code = cc) (harr : (Cond.arrayClass .int).before args s = true) {N a t : Nat} {ad : Nat → Nat} {e0 : Nat × va_E} (hcell : am_cell (a + t) = .inl (false, N)) (hok : ct_ok a t = true) (hK : va_K (dC, dI) vwCl [(cI, .int), (cB, .byte)] s) (hP : va_P (dC, dI) vwCl (e0 :: cw cI cB a t ad) H) (hD : va_D A (e0 :: cw cI cB a t ad)) (hS : va_S A H0 H locs) (hA : ∀ q, H0.size ≤ q → A q) {n : Int32} (hn : ¬ n < 0) (hN : n.toNatClampNeg = N) (hsm : N ≤ 1000) (hcells : cells + 1 ≤ R.cells) (hslots : slots + N ≤ R.slots) (hdg : decode cc pc = .ok (.newarray .int, 2))
    (kk : ∀ (q : Nat) (ad' : Nat → Nat) (H1 : Heap), (∀ x, x < a + t → ad' x = ad x) → ad' (a + t) = q → va_P (dC, dI) vwCl (e0 :: cw cI cB a (t + 1) ad') H1 → va_D A (e0 :: cw cI cB a (t + 1) ad') → va_S A H0 H1 locs → W p l e R s m args below meth c H1 locs (cells + 1) (slots + N) Q (F0 m (pc + 2) ls (.ref q :: rest))) : W p l e R s m args below meth c H locs cells slots Q (F0 m pc ls (.int n :: rest)) := by
  refine va_newa (atype := .int) (a0 := (N, .inl (fun _ => 0))) hexec hb harr rfl hK hP hD hS hA (fun cA => rfl) hn hN (by show N * 4 ≤ _; omega) hcells hslots hdg (fun q cA H1 hK1 hP1 hD1 hS1 => ?_)
  have h1 : s.vm.findClass ("[" ++ FieldType.int.toString) = some cI := (hK.2 0 (cI, .int) rfl).2
  have h2 : s.vm.findClass ("[" ++ FieldType.int.toString) = some cA := (hK1.2 2 (cA, .int) rfl).2
  have h3 : cA = cI := Option.some.inj (h2.symm.trans h1)
  subst h3
  have hw : (e0 :: cw cA cB a t ad) ++ [(q, .inl (cA, N, .inl (fun _ => (0 : Int32))))] = e0 :: cw cA cB a (t + 1) (ct_up ad (a + t) q) := by
    rw [cw_s, cw_c (ad' := ct_up ad (a + t) q) hok (fun x _ h => (ct_up_ne (by omega)).symm), ct_up_eq]
    unfold ct_e am_ce
    rw [hcell]
    rfl
  rw [hw] at hP1 hD1
  exact kk q (ct_up ad (a + t) q) H1 (fun x h => ct_up_ne (by omega)) (ct_up_eq _ _ _) hP1 hD1 hS1
/-- a new row of bytes -/
theorem ct_nB (hexec : p.tables.exec = Jvm.exec) (hb : c.code = cc) (harr : (Cond.arrayClass .byte).before args s = true) {N a t : Nat} {ad : Nat → Nat} {e0 : Nat × va_E} (hcell : am_cell (a + t) = .inl (true, N)) (hok : ct_ok a t = true) (hK : va_K (dC, dI) vwCl [(cI, .int), (cB, .byte)] s) (hP : va_P (dC, dI) vwCl (e0 :: cw cI cB a t ad) H) (hD : va_D A (e0 :: cw cI cB a t ad)) (hS : va_S A H0 H locs) (hA : ∀ q, H0.size ≤ q → A q) {n : Int32} (hn : ¬ n < 0) (hN : n.toNatClampNeg = N) (hsm : N ≤ 1000) (hcells : cells + 1 ≤ R.cells) (hslots : slots + N ≤ R.slots) (hdg : decode cc pc = .ok (.newarray .byte, 2))
    (kk : ∀ (q : Nat) (ad' : Nat → Nat) (H1 : Heap), (∀ x, x < a + t → ad' x = ad x) → ad' (a + t) = q → va_P (dC, dI) vwCl (e0 :: cw cI cB a (t + 1) ad') H1 → va_D A (e0 :: cw cI cB a (t + 1) ad') → va_S A H0 H1 locs → W p l e R s m args below meth c H1 locs (cells + 1) (slots + N) Q (F0 m (pc + 2) ls (.ref q :: rest))) : W p l e R s m args below meth c H locs cells slots Q (F0 m pc ls (.int n :: rest)) := by
  refine va_newa (atype := .byte) (a0 := (N, .inl (fun _ => 0))) hexec hb harr rfl hK hP hD hS hA (fun cA => rfl) hn hN (by show N * 1 ≤ _; omega) hcells hslots hdg (fun q cA H1 hK1 hP1 hD1 hS1 => ?_)
  have h1 : s.vm.findClass ("[" ++ FieldType.byte.toString) = some cB := (hK.2 1 (cB, .byte) rfl).2
  have h2 : s.vm.findClass ("[" ++ FieldType.byte.toString) = some cA := (hK1.2 2 (cA, .byte) rfl).2
  have h3 : cA = cB := Option.some.inj (h2.symm.trans h1)
  subst h3
  have hw : (e0 :: cw cI cA a t ad) ++ [(q, .inl (cA, N, .inl (fun _ => (0 : Int32))))] = e0 :: cw cI cA a (t + 1) (ct_up ad (a + t) q) := by
    rw [cw_s, cw_c (ad' := ct_up ad (a + t) q) hok (fun x _ h => (ct_up_ne (by omega)).symm), ct_up_eq]
    unfold ct_e am_ce
    rw [hcell]
    rfl
  rw [hw] at hP1 hD1
  exact kk q (ct_up ad (a + t) q) H1 (fun x h => ct_up_ne (by omega)) (ct_up_eq _ _ _) hP1 hD1 hS1
/-- a constructor's contract: the cells n to n + r - 1 -/
def ct_P (dC : Nat → ClassId) (dI : Nat → Nat → Nat) (cI cB : ClassId) (ci : Nat) (fs : List Value) (h0 sz : Nat) : Array Value → State → Prop := va_Pc [.ref h0] (fun U => U.heap.size = sz ∧ va_P (dC, dI) vwCl [(h0, .inr (ci, fs))] U.heap ∧ va_K (dC, dI) vwCl [(cI, .int), (cB, .byte)] U ∧ va_D (fun _ => True) [(h0, .inr (ci, fs))] ∧ ∀ w ∈ am_nest, va_Nw w U)
def ct_Q (dC : Nat → ClassId) (dI : Nat → Nat → Nat) (cI cB : ClassId) (ci : Nat) (fs : List Value) (h0 sz n r : Nat) : Array Value → State → Outcome → State → Prop := va_Qv (fun ad : Nat → Nat => ad n = h0) (fun ad t => va_P (dC, dI) vwCl (cw cI cB n r ad) t.heap ∧ va_K (dC, dI) vwCl [(cI, .int), (cB, .byte)] t ∧ va_D (va_A [(h0, .inr (ci, fs))] sz) (cw cI cB n r ad)) (va_A [(h0, .inr (ci, fs))] sz)
def ct_ws (y : MethodName) (b : ByteArray) : List Cond := Cond.code y b 1 none :: lw_g
def ct_rm (fr lo mc ms : Nat) : Room := { frames := fr, cells := mc, slots := ms, locals := lo }
theorem ct_pre {ci h0 : Nat} {fs : List Value} (hK : va_K (dC, dI) vwCl [(cI, .int), (cB, .byte)] s) (hP : va_P (dC, dI) vwCl [(h0, .inr (ci, fs))] H) (hD : va_D A [(h0, .inr (ci, fs))]) (hN : ∀ w ∈ am_nest, va_Nw w s) : PreS s H (ct_P dC dI cI cB ci fs h0 H.size) [.ref h0] := by
  refine ⟨fun a U g mk q => ?_, fun U hU hW => ?_⟩
  · obtain ⟨q0, q1, qP, qK, qD, qN⟩ := q
    exact ⟨q0, q1, qP, va_K.moved (u := U) (U := U.calling g mk a) (Vm.Alike.refl U.vm) qK, qD, am_nest_same (s := U) (U := U.calling g mk a) rfl qN⟩
  · exact ⟨rfl, by rw [hU], by rw [hU]; exact hP, va_K.moved hW.alike hK, hD.weaken fun _ _ _ _ => trivial, am_nest_warm hW hN⟩
/-- a new object behind the cells a .. a + t - 1, made by its constructor of a nest mate -/
theorem ct_nO (hexec : p.tables.exec = Jvm.exec) (hb : c.code = cc) (hml : c.maxLocals = 1) {own C host : String} {T : u_T} {N ci ix ic a t fr lo r mc ms : Nat} {ty : Nat → FieldType} {fs : List Value} {y : MethodName} {b : ByteArray} {ad : Nat → Nat} {e0 : Nat × va_E} (hown : s.vm.findClass own = some m.cls) (hts : ∀ w ∈ lw_g, w.before args s = true) (hnst : ∀ w ∈ am_nest, va_Nw w s) (hcl : vwCl[ci]? = some (C, T, N)) (hty : ∀ k, k < N → parseFieldDescriptor (T k).2.2.1 = some (ty k)) (hcL : Cond.classLink own ix C ∈ lw_g) (hcI : Cond.instantiable C N ∈ lw_g) (hcZ : Cond.initialized C ∈ lw_g) (hfs : ∀ j, j < N → defaultValue (ty j) = vp_V fs j) (hok : ct_ok a t = true) (hok2 : ct_ok (a + t) r = true)
    (hMet : ∀ (h0 sz : Nat), Met l y (ct_ws y b) (ct_rm fr lo mc ms) (ct_P dC dI cI cB ci fs h0 sz) (ct_Q dC dI cI cB ci fs h0 sz (a + t) r) mc ms (va_A [(h0, .inr (ci, fs))] sz)) (hcode : Cond.code y b 1 none ∈ lw_g) (hyi : Cond.instanceMethod y ∈ lw_g) (hyn : y.name = "<init>") (hyc : y.cls = C) (hlk : Cond.methodLinkNest own ic y host ∈ am_nest) (hyd : y.cls ≠ "java/lang/invoke/MethodHandle" ∧ y.cls ≠ "java/lang/invoke/VarHandle" ∧ (parseMethodDescriptor y.desc).map (fun d => d.parameters.length) = some 0) (hroom : fr + 1 ≤ R.frames ∧ 8 + (1 + 11) + lo ≤ R.locals)
    (hK : va_K (dC, dI) vwCl [(cI, .int), (cB, .byte)] s) (hP : va_P (dC, dI) vwCl (e0 :: cw cI cB a t ad) H) (hD : va_D A (e0 :: cw cI cB a t ad)) (hS : va_S A H0 H locs) (hA : ∀ q, H0.size ≤ q → A q) (hls : ls.size = 1) (hrest : (rest.map fun v => v.category).sum ≤ 7) (hc1 : cells + 1 + mc ≤ R.cells) (hs1 : slots + N + ms ≤ R.slots) (hd1 : decode cc pc = .ok (.new ix, 3)) (hd2 : decode cc (pc + 3) = .ok (.dup, 1)) (hd3 : decode cc (pc + 3 + 1) = .ok (.invokespecial ic, 3))
    (kk : ∀ (q : Nat) (ad' : Nat → Nat) (H1 : Heap) (locs1 : List Loc), (∀ x, x < a + t → ad' x = ad x) → ad' (a + t) = q → va_P (dC, dI) vwCl (e0 :: cw cI cB a (t + r) ad') H1 → va_D A (e0 :: cw cI cB a (t + r) ad') → va_S A H0 H1 locs1 → W p l e R s m args below meth c H1 locs1 (cells + 1 + mc) (slots + N + ms) Q (F0 m (pc + 3 + 1 + 3) ls (.ref q :: rest))) : W p l e R s m args below meth c H locs cells slots Q (F0 m pc ls rest) := by
  obtain ⟨hin, ty2, -⟩ := am_cl_ok hcl
  refine va_new (ci := ci) (fs := fs) (C := C) (T := T) (N := N) hexec hb hts hin ty hty hown (hts _ hcL) (hts _ hcI) (hts _ hcZ) hK hP hD hS hA hcl hfs (by omega) (by omega) hd1 (fun q H1 hP1 hD1 hS1 => ?_)
  refine lv_dup hexec hb hd2 rfl ?_
  have hlen : (e0 :: cw cI cB a t ad).length = t + 1 := by rw [List.length_cons, cw_len]
  have hPc : va_P (dC, dI) vwCl [(q, .inr (ci, fs))] H1 := hP1.sub [(e0 :: cw cI cB a t ad).length] (by
    show List.filterMap _ [_] = _
    rw [List.filterMap_cons, List.getElem?_append_right (Nat.le_refl _), Nat.sub_self]
    rfl)
  have hDc : va_D A [(q, .inr (ci, fs))] := hD1.sub [(e0 :: cw cI cB a t ad).length] rfl ct_l
  have hFc := va_free (wc := [(q, .inr (ci, fs))]) hD1 hS1 hA [(e0 :: cw cI cB a t ad).length] ct_l
  have hGood : GoodIn lw_g (ct_ws y b) := by
    intro w hw
    rcases List.mem_cons.mp hw with rfl | hw
    · exact ⟨hcode, am_good _ hcode⟩
    · exact ⟨hw, am_good _ hw⟩
  refine va_callv (va_runIN (As := []) (rest := .ref q :: rest) (b := q) (Ts := lw_g) ⟨hexec, hb, hml, hown, hts⟩ (hMet q H1.size) ⟨va_cnB 0 hts hGood rfl rfl rfl (hnst _ hlk) (by rw [hyc]; exact hts _ hcZ) hyd hroom, hyn, hts _ hyi⟩ (ct_pre hK hPc hDc hnst) rfl rfl hls rfl (by show 2 * 0 + ((Value.ref q :: rest).map fun v => v.category).sum ≤ 8; rw [List.map_cons, List.sum_cons]; show 2 * 0 + (1 + _) ≤ 8; omega) hd3 ⟨hc1, hs1⟩) hS1 (fun q' _ h => hFc q' h) hFc (fun ad1 t1 H2 locs2 ht hvm hw hB hz1 hk1 hS2 => ?_)
  obtain ⟨hP2, hK2, hD2⟩ := hB
  rw [ht] at hP2
  obtain ⟨hP3, hD3⟩ := va_join (wr := e0 :: cw cI cB a t ad) (w1 := cw cI cB (a + t) r ad1) hP1 hD1 [(e0 :: cw cI cB a t ad).length] (List.range (e0 :: cw cI cB a t ad).length) ct_l ct_r (ct_nd _) (fun i hi hi2 => by
    have h1 := List.mem_range.mp hi
    have h2 := List.mem_singleton.mp hi2
    omega) hk1 hFc hP2 hD2
  have hw2 : (e0 :: cw cI cB a t ad) ++ cw cI cB (a + t) r ad1 = e0 :: cw cI cB a (t + r) (fun x => if x < a + t then ad x else ad1 x) := by
    rw [cw_a, cw_c (ad' := fun x => if x < a + t then ad x else ad1 x) hok (fun x _ h => by show ad x = if x < a + t then ad x else ad1 x; rw [if_pos h]), cw_c (ad := ad1) (ad' := fun x => if x < a + t then ad x else ad1 x) hok2 (fun x h _ => by show ad1 x = if x < a + t then ad x else ad1 x; rw [if_neg (by omega)])]
    rfl
  rw [hw2] at hP3 hD3
  exact kk q _ H2 locs2 (fun x h => if_pos h) (by show (if a + t < a + t then _ else _) = q; rw [if_neg (by omega)]; exact hw) hP3 hD3 hS2
end CT
