/-! ===== THE ABSTRACT MACHINE: the program's instructions over a store of int fields, int rows and references; no machine state ===== -/
abbrev am_F : Type := Nat → Nat → Int32
abbrev am_G : Type := Nat → Nat → Nat
/-- a place of a run: method, pc, locals, stack, int fields (cell, slot), rows (cell, index), moving references (cell, slot) -/
abbrev am_C : Type := Nat × Nat × List Value × List Value × am_F × am_F × am_G
abbrev am_V : Type := Value × am_F × am_F × am_G
/-- what an instruction asks for: to go on there; to call, and go on there with the answer; to end -/
abbrev am_Q : Type := Option (am_C ⊕ ((am_C × am_C) ⊕ am_V))
def am_u {α : Type} (f : Nat → Nat → α) (a k : Nat) (v : α) : Nat → Nat → α := fun b j => if b = a ∧ j = k then v else f b j
def am_ur (A : am_F) (a : Nat) (f : Nat → Int32) : am_F := fun b => if b = a then f else A b
def am_go (M pc : Nat) (L S : List Value) (I A : am_F) (R : am_G) : am_Q := some (.inl (M, pc, L, S, I, A, R))
def am_clr (v : Value) : Value := if v.category = 2 then .null else v
def am_cl (g : Bool) (L : List Value) (i : Nat) : List Value := match g with
  | false => L
  | true => (match i with
    | 0 => L
    | j + 1 => (match L[j]? with
      | some w => L.set j (am_clr w)
      | none => L))
def am_st (g : Bool) (L : List Value) (i : Nat) (v : Value) : List Value := (am_cl g L i).set i v
def am_p1 (S : List Value) (f : Int32 → List Value → am_Q) : am_Q := match S with
  | .int x :: S => f x S
  | _ => none
def am_p2 (S : List Value) (f : Int32 → Int32 → List Value → am_Q) : am_Q := match S with
  | .int y :: .int x :: S => f x y S
  | _ => none
def am_q1 (S : List Value) (f : Int64 → List Value → am_Q) : am_Q := match S with
  | .long x :: S => f x S
  | _ => none
def am_q2 (S : List Value) (f : Int64 → Int64 → List Value → am_Q) : am_Q := match S with
  | .long y :: .long x :: S => f x y S
  | _ => none
def am_qs (S : List Value) (f : Int64 → Int32 → List Value → am_Q) : am_Q := match S with
  | .int y :: .long x :: S => f x y S
  | _ => none
def am_pr (S : List Value) (f : Nat → List Value → am_Q) : am_Q := match S with
  | .ref a :: S => f a S
  | _ => none
def am_pa (S : List Value) (f : Nat → Int32 → List Value → am_Q) : am_Q := match S with
  | .int i :: .ref a :: S => f a i S
  | _ => none
def am_ps (S : List Value) (f : Nat → Int32 → Int32 → List Value → am_Q) : am_Q := match S with
  | .int x :: .int i :: .ref a :: S => f a i x S
  | _ => none
def am_pf (S : List Value) (f : Nat → Value → List Value → am_Q) : am_Q := match S with
  | v :: .ref a :: S => f a v S
  | _ => none
def am_gi (L : List Value) (i : Nat) (f : Int32 → am_Q) : am_Q := match L[i]? with
  | some (.int x) => f x
  | _ => none
def am_gl (L : List Value) (i : Nat) (f : Int64 → am_Q) : am_Q := match L[i]? with
  | some (.long x) => f x
  | _ => none
def am_gr (L : List Value) (i : Nat) (f : Nat → am_Q) : am_Q := match L[i]? with
  | some (.ref x) => f x
  | _ => none
def am_at (pc : Nat) (off : Int) (f : Nat → am_Q) : am_Q := match (pc : Int) + off with
  | .ofNat t => f t
  | .negSucc _ => none
def am_br (op : Jvm.ClassFile.Cond) (x y : Int32) (t f : am_Q) : am_Q := match op with
  | .eq => if x = y then t else f
  | .ne => if x = y then f else t
  | .lt => if x < y then t else f
  | .ge => if y ≤ x then t else f
  | .gt => if y < x then t else f
  | .le => if x ≤ y then t else f
/-- a switch by places: x.toInt is lo, lo + 1, .. -/
def am_sw (pc : Nat) (f : Nat → am_Q) (d : Int) (x : Int32) : Int → List Int → am_Q
  | _, [] => am_at pc d f
  | lo, o :: os => if x.toInt = lo then am_at pc o f else am_sw pc f d x (lo + 1) os
def am_sl (pc : Nat) (f : Nat → am_Q) (d : Int) (x : Int32) : List (Int × Int) → am_Q
  | [] => am_at pc d f
  | (v, o) :: os => if x.toInt = v then am_at pc o f else am_sl pc f d x os
/-- the cell is an object of the class -/
def am_isO (N a c : Nat) : Bool := Nat.blt a N && (match am_cell a with
  | .inr c' => Nat.beq c c'
  | _ => false)
/-- the length of a row, 0 if it is none of that kind -/
def am_len (N : Nat) (b : Bool) (a : Nat) : Nat := if Nat.blt a N then (match am_cell a with
  | .inl (b', n) => if b = b' then n else 0
  | _ => 0) else 0
def am_isA (N a : Nat) : Option Nat := if Nat.blt a N then (match am_cell a with
  | .inl (_, n) => some n
  | _ => none) else none
/-- a field's value -/
def am_fv (I : am_F) (R : am_G) (a c j : Nat) : Value := match am_fk c j with
  | 0 => .int (I a j)
  | 1 => .ref (am_rf a j)
  | _ => .ref (R a j)
def am_fin (c j : Nat) : Bool := (match vwCl[c]? with
  | some q => (q.2.1 j).2.2.2
  | none => true)
def am_put (M pc : Nat) (L : List Value) (I A : am_F) (R : am_G) (a c j : Nat) (v : Value) (S : List Value) : am_Q := match am_fk c j with
  | 0 => (match v with
    | .int x => am_go M (pc + 3) L S (am_u I a j x) A R
    | _ => none)
  | 2 => (match v with
    | .ref x => am_go M (pc + 3) L S I A (am_u R a j x)
    | _ => none)
  | _ => none
def am_lay : List Value → List Value
  | [] => []
  | v :: vs => if v.category = 2 then v :: .null :: am_lay vs else v :: am_lay vs
def am_ent (as : List Value) (n : Nat) : List Value := am_lay as ++ List.replicate (n - (am_lay as).length) .null
def am_push (v : Value) (S : List Value) : List Value := match v with
  | .null => S
  | v => v :: S
def am_cat (S : List Value) : Nat := (S.map fun v => v.category).sum
/-- room and shape of a call -/
def am_fit (M M' : Nat) (as rest : List Value) : Bool := Nat.ble (am_cat rest) 8 && (Nat.ble (am_fr M' + 1) (am_fr M) && (Nat.ble (8 + (am_l M' + 11) + am_lo M') (am_lo M) && (Nat.ble (am_lay as).length (am_l M') && (am_lg M' || as.all (fun v => Nat.beq v.category 1)))))
def am_call (M M' pc : Nat) (L as rest : List Value) (I A : am_F) (R : am_G) : am_Q :=
  if am_fit M M' as rest then some (.inr (.inl ((M', 0, am_ent as (am_l M'), [], I, A, R), (M, pc + 3, L, rest, I, A, R)))) else none
def am_cast (N M pc : Nat) (L S : List Value) (I A : am_F) (R : am_G) (M' : Nat) : am_Q :=
  if am_sc M' = true ∧ am_np M' ≤ S.length then am_call M M' pc L (S.take (am_np M')).reverse (S.drop (am_np M')) I A R else none
def am_cavi (N M pc : Nat) (L S : List Value) (I A : am_F) (R : am_G) (M' : Nat) : am_Q := match S.drop (am_np M') with
  | .ref a :: rest => if am_sc M' = false ∧ am_isO N a (am_ow M') = true then am_call M M' pc L (.ref a :: (S.take (am_np M')).reverse) rest I A R else none
  | _ => none
/-- System.arraycopy over int rows -/
def am_copy (N M pc : Nat) (L S : List Value) (I A : am_F) (R : am_G) : am_Q := match S with
  | [.int n, .int dp, .ref b, .int sp, .ref a] =>
    if Nat.ble 1 (am_fr M) && Nat.ble 18 (am_lo M) && Nat.blt a N && Nat.blt b N then (match am_cell a, am_cell b with
      | .inl (false, n0), .inl (false, n1) => if ¬ sp < 0 ∧ ¬ dp < 0 ∧ ¬ n < 0 ∧ sp.toNatClampNeg + n.toNatClampNeg ≤ n0 ∧ dp.toNatClampNeg + n.toNatClampNeg ≤ n1 then am_go M (pc + 3) L [] I (am_ur A b (va_cpy (A a) (A b) sp.toNatClampNeg dp.toNatClampNeg n.toNatClampNeg)) R else none
      | _, _ => none) else none
  | _ => none
def am_ret (M : Nat) (S : List Value) (I A : am_F) (R : am_G) : am_Q := match S with
  | [.int v] => (match am_rt M with
    | some .int => some (.inr (.inr (.int v, I, A, R)))
    | some .boolean => if v = 0 ∨ v = 1 then some (.inr (.inr (.int v, I, A, R))) else none
    | _ => none)
  | _ => none
def am_rtr (M : Nat) (S : List Value) (I A : am_F) (R : am_G) : am_Q := match S with
  | [.ref v] => (match am_rt M with
    | some (.object _) => some (.inr (.inr (.ref v, I, A, R)))
    | _ => none)
  | _ => none
def am_rtv (M : Nat) (S : List Value) (I A : am_F) (R : am_G) : am_Q := match S with
  | [] => (match am_rt M with
    | none => some (.inr (.inr (.null, I, A, R)))
    | _ => none)
  | _ => none
def am_ix (n : Nat) (i : Int32) (q : am_Q) : am_Q := if i < 0 ∨ n ≤ i.toNatClampNeg then none else q
def am_ln (i : Jvm.ClassFile.Instr) (n : Nat) : Bool := match i with
  | .tableswitch _ _ _ _ => true
  | .lookupswitch _ _ => true
  | .bipush _ => Nat.beq n 2
  | .ldc _ => Nat.beq n 2
  | .iload _ => Nat.beq n 2
  | .lload _ => Nat.beq n 2
  | .istore _ => Nat.beq n 2
  | .lstore _ => Nat.beq n 2
  | .sipush _ => Nat.beq n 3
  | .ldc_w _ => Nat.beq n 3
  | .ldc2_w _ => Nat.beq n 3
  | .iinc _ _ => Nat.beq n 3
  | .goto _ => Nat.beq n 3
  | .ifCond _ _ => Nat.beq n 3
  | .if_icmp _ _ => Nat.beq n 3
  | .getfield _ => Nat.beq n 3
  | .putfield _ => Nat.beq n 3
  | .invokevirtual _ => Nat.beq n 3
  | .invokestatic _ => Nat.beq n 3
  | _ => Nat.beq n 1
def am_in (N M pc : Nat) (i : Jvm.ClassFile.Instr) (L S : List Value) (I A : am_F) (R : am_G) : am_Q := match i with
  | .iconst n => am_go M (pc + 1) L (.int (Int32.ofInt n) :: S) I A R
  | .bipush n => am_go M (pc + 2) L (.int (Int8.ofInt n).toInt32 :: S) I A R
  | .sipush n => am_go M (pc + 3) L (.int (Int16.ofInt n).toInt32 :: S) I A R
  | .ldc k => (match am_ci (am_ow M) k with
    | some v => am_go M (pc + 2) L (.int v :: S) I A R
    | none => none)
  | .ldc_w k => (match am_ci (am_ow M) k with
    | some v => am_go M (pc + 3) L (.int v :: S) I A R
    | none => none)
  | .ldc2_w k => (match am_cj (am_ow M) k with
    | some v => am_go M (pc + 3) L (.long v :: S) I A R
    | none => none)
  | .lconst n => am_go M (pc + 1) L (.long (Int64.ofNat n) :: S) I A R
  | .iload_n k => am_gi L k fun x => am_go M (pc + 1) L (.int x :: S) I A R
  | .iload k => am_gi L k fun x => am_go M (pc + 2) L (.int x :: S) I A R
  | .lload_n k => am_gl L k fun x => am_go M (pc + 1) L (.long x :: S) I A R
  | .lload k => am_gl L k fun x => am_go M (pc + 2) L (.long x :: S) I A R
  | .aload_n k => am_gr L k fun x => am_go M (pc + 1) L (.ref x :: S) I A R
  | .istore_n k => am_p1 S fun x S => if Nat.blt k (am_l M) then am_go M (pc + 1) (am_st (am_lg M) L k (.int x)) S I A R else none
  | .istore k => am_p1 S fun x S => if Nat.blt k (am_l M) then am_go M (pc + 2) (am_st (am_lg M) L k (.int x)) S I A R else none
  | .astore_n k => am_pr S fun x S => if Nat.blt k (am_l M) then am_go M (pc + 1) (am_st (am_lg M) L k (.ref x)) S I A R else none
  | .lstore_n k => am_q1 S fun x S => if (Nat.blt (k + 1) (am_l M) && am_lg M) = true then am_go M (pc + 1) ((am_st true L k (.long x)).set (k + 1) .null) S I A R else none
  | .lstore k => am_q1 S fun x S => if (Nat.blt (k + 1) (am_l M) && am_lg M) = true then am_go M (pc + 2) ((am_st true L k (.long x)).set (k + 1) .null) S I A R else none
  | .iinc k n => am_gi L k fun x => if Nat.blt k (am_l M) then am_go M (pc + 3) (am_st (am_lg M) L k (.int (x + Int32.ofInt n))) S I A R else none
  | .iadd => am_p2 S fun x y S => am_go M (pc + 1) L (.int (x + y) :: S) I A R
  | .isub => am_p2 S fun x y S => am_go M (pc + 1) L (.int (x - y) :: S) I A R
  | .imul => am_p2 S fun x y S => am_go M (pc + 1) L (.int (x * y) :: S) I A R
  | .iand => am_p2 S fun x y S => am_go M (pc + 1) L (.int (x &&& y) :: S) I A R
  | .ior => am_p2 S fun x y S => am_go M (pc + 1) L (.int (x ||| y) :: S) I A R
  | .ixor => am_p2 S fun x y S => am_go M (pc + 1) L (.int (x ^^^ y) :: S) I A R
  | .ishl => am_p2 S fun x y S => am_go M (pc + 1) L (.int (x <<< (y &&& 31)) :: S) I A R
  | .ishr => am_p2 S fun x y S => am_go M (pc + 1) L (.int (x >>> (y &&& 31)) :: S) I A R
  | .iushr => am_p2 S fun x y S => am_go M (pc + 1) L (.int (x.toUInt32 >>> (y.toUInt32 &&& Int32.toUInt32 31)).toInt32 :: S) I A R
  | .idiv => am_p2 S fun x y S => if y = 0 then none else am_go M (pc + 1) L (.int (x / y) :: S) I A R
  | .irem => am_p2 S fun x y S => if y = 0 then none else am_go M (pc + 1) L (.int (x - x / y * y) :: S) I A R
  | .ladd => am_q2 S fun x y S => am_go M (pc + 1) L (.long (x + y) :: S) I A R
  | .lmul => am_q2 S fun x y S => am_go M (pc + 1) L (.long (x * y) :: S) I A R
  | .land => am_q2 S fun x y S => am_go M (pc + 1) L (.long (x &&& y) :: S) I A R
  | .lor => am_q2 S fun x y S => am_go M (pc + 1) L (.long (x ||| y) :: S) I A R
  | .ldiv => am_q2 S fun x y S => if y = 0 then none else am_go M (pc + 1) L (.long (x / y) :: S) I A R
  | .lrem => am_q2 S fun x y S => if y = 0 then none else am_go M (pc + 1) L (.long (x - x / y * y) :: S) I A R
  | .lshl => am_qs S fun x y S => am_go M (pc + 1) L (.long (x <<< (y.toInt64 &&& 63)) :: S) I A R
  | .lshr => am_qs S fun x y S => am_go M (pc + 1) L (.long (x >>> (y.toInt64 &&& 63)) :: S) I A R
  | .lushr => am_qs S fun x y S => am_go M (pc + 1) L (.long (x.toUInt64 >>> (y.toInt64.toUInt64 &&& Int64.toUInt64 63)).toInt64 :: S) I A R
  | .i2l => am_p1 S fun x S => am_go M (pc + 1) L (.long x.toInt64 :: S) I A R
  | .l2i => am_q1 S fun x S => am_go M (pc + 1) L (.int x.toInt32 :: S) I A R
  | .i2b => am_p1 S fun x S => am_go M (pc + 1) L (.int x.toInt8.toInt32 :: S) I A R
  | .dup => (match S with
    | v :: S => if Nat.beq v.category 1 then am_go M (pc + 1) L (v :: v :: S) I A R else none
    | _ => none)
  | .dup2 => (match S with
    | v :: w :: S => if (Nat.beq v.category 1 && Nat.beq w.category 1) = true then am_go M (pc + 1) L (v :: w :: v :: w :: S) I A R else none
    | _ => none)
  | .pop => (match S with
    | v :: S => if Nat.beq v.category 1 then am_go M (pc + 1) L S I A R else none
    | _ => none)
  | .goto off => am_at pc off fun t => am_go M t L S I A R
  | .ifCond op off => am_p1 S fun x S => am_at pc off fun t => am_br op x 0 (am_go M t L S I A R) (am_go M (pc + 3) L S I A R)
  | .if_icmp op off => am_p2 S fun x y S => am_at pc off fun t => am_br op x y (am_go M t L S I A R) (am_go M (pc + 3) L S I A R)
  | .tableswitch d lo hi offs => am_p1 S fun x S => if hi + 1 = lo + offs.toList.length then am_sw pc (fun t => am_go M t L S I A R) d x lo offs.toList else none
  | .lookupswitch d ps => am_p1 S fun x S => if (ps.toList.zip (ps.toList.drop 1)).all (fun (a, next) => a.1 < next.1) = true then am_sl pc (fun t => am_go M t L S I A R) d x ps.toList else none
  | .getfield k => am_pr S fun a S => (match am_fd (am_ow M) k with
    | some (c, j) => if am_isO N a c then am_go M (pc + 3) L (am_fv I R a c j :: S) I A R else none
    | none => none)
  | .putfield k => am_pf S fun a v S => (match am_fd (am_ow M) k with
    | some (c, j) => if (am_isO N a c && !am_fin c j) = true then am_put M pc L I A R a c j v S else none
    | none => none)
  | .iaload => am_pa S fun a i S => if Nat.beq M am_law then (if Nat.beq a N then am_ix (I N 0).toNatClampNeg i (am_go M (pc + 1) L (.int (A N i.toNatClampNeg) :: S) I A R) else none) else am_ix (am_len N false a) i (am_go M (pc + 1) L (.int (A a i.toNatClampNeg) :: S) I A R)
  | .baload => am_pa S fun a i S => am_ix (am_len N true a) i (am_go M (pc + 1) L (.int (A a i.toNatClampNeg) :: S) I A R)
  | .iastore => am_ps S fun a i x S => am_ix (am_len N false a) i (am_go M (pc + 1) L S I (am_u A a i.toNatClampNeg x) R)
  | .bastore => am_ps S fun a i x S => am_ix (am_len N true a) i (am_go M (pc + 1) L S I (am_u A a i.toNatClampNeg x.toInt8.toInt32) R)
  | .arraylength => am_pr S fun a S => if Nat.beq M am_law then (if Nat.beq a N then am_go M (pc + 1) L (.int (I N 0) :: S) I A R else none) else (match am_isA N a with
    | some n => am_go M (pc + 1) L (.int (Int32.ofNat n) :: S) I A R
    | none => none)
  | .invokevirtual k => (match am_cv (am_ow M) k with
    | some M' => am_cavi N M pc L S I A R M'
    | none => none)
  | .invokestatic k => (match am_cs (am_ow M) k with
    | some M' => am_cast N M pc L S I A R M'
    | none => if am_mn (am_ow M) k then (am_p2 S fun x y S => if (Nat.ble 1 (am_fr M) && Nat.ble (am_cat S + 13) (am_lo M)) = true then am_go M (pc + 3) L (.int (if y < x then y else x) :: S) I A R else none) else if am_cp (am_ow M) k then am_copy N M pc L S I A R else none)
  | .ireturn => am_ret M S I A R
  | .areturn => am_rtr M S I A R
  | .return_ => am_rtv M S I A R
  | _ => none
def am_do (N : Nat) (c : am_C) : am_Q := match decode (am_b c.1) c.2.1 with
  | .ok (i, n) => if am_ln i n then am_in N c.1 c.2.1 i c.2.2.1 c.2.2.2.1 c.2.2.2.2.1 c.2.2.2.2.2.1 c.2.2.2.2.2.2 else none
  | .error _ => none
/-- behind a call: the caller's place with the answer on its stack, and the callee's store -/
def am_back (c : am_C) (r : am_V) : am_C := (c.1, c.2.1, c.2.2.1, am_push r.1 c.2.2.2.1, r.2)
def am_stp (N : Nat) (k : am_C → Option am_V) (c : am_C) : Option am_V := match am_do N c with
  | none => none
  | some (.inl d) => k d
  | some (.inr (.inl (d, r))) => (k d).bind fun v => k (am_back r v)
  | some (.inr (.inr v)) => some v
def am_x (N : Nat) : Nat → am_C → Option am_V
  | 0 => fun _ => none
  | n + 1 => am_stp N (am_x N n)
theorem am_stp_mono {N : Nat} {k k' : am_C → Option am_V} (h : ∀ c r, k c = some r → k' c = some r) (c : am_C) (r : am_V) (hc : am_stp N k c = some r) : am_stp N k' c = some r := by
  unfold am_stp at hc ⊢
  split at hc
  · cases hc
  · exact h _ _ hc
  · rename_i d r' _
    obtain ⟨v, h1, h2⟩ := Option.bind_eq_some_iff.mp hc
    show (k' d).bind _ = some r
    rw [h _ _ h1]
    exact h _ _ h2
  · exact hc
theorem am_x_succ (N n : Nat) : ∀ (c : am_C) (r : am_V), am_x N n c = some r → am_x N (n + 1) c = some r := by
  induction n with
  | zero => intro c r h; cases h
  | succ n ih => exact fun c r h => am_stp_mono ih c r h
theorem am_x_le {N n m : Nat} (h : n ≤ m) {c : am_C} {r : am_V} (hc : am_x N n c = some r) : am_x N m c = some r := by
  induction h with
  | refl => exact hc
  | step _ ih => exact am_x_succ _ _ _ _ ih
noncomputable def am_ev (N : Nat) (c : am_C) : Option am_V := @dite (Option am_V) (∃ r, ∃ n, am_x N n c = some r) (Classical.propDecidable _) (fun h => some (Classical.choose h)) (fun _ => none)
theorem am_ev_iff {N : Nat} {c : am_C} {r : am_V} : am_ev N c = some r ↔ ∃ n, am_x N n c = some r := by
  have hd : ∀ r', (∃ n, am_x N n c = some r') → (∃ n, am_x N n c = some r) → r' = r := by
    rintro r' ⟨n, hn⟩ ⟨m, hm⟩
    have h1 := am_x_le (Nat.le_max_left n m) hn
    have h2 := am_x_le (Nat.le_max_right n m) hm
    rw [h1] at h2
    exact Option.some.inj h2
  unfold am_ev
  constructor
  · intro h
    split at h
    · rename_i hx
      rw [← Option.some.inj h]
      exact Classical.choose_spec hx
    · cases h
  · intro h
    have hx : ∃ r, ∃ n, am_x N n c = some r := ⟨r, h⟩
    rw [dif_pos hx, hd _ (Classical.choose_spec hx) h]
theorem am_ev_eq (N : Nat) (c : am_C) : am_ev N c = am_stp N (am_ev N) c := by
  apply Option.ext
  intro r
  rw [am_ev_iff]
  constructor
  · rintro ⟨n, h⟩
    cases n with
    | zero => cases h
    | succ n => exact am_stp_mono (fun c r h => am_ev_iff.mpr ⟨n, h⟩) c r h
  · intro h
    unfold am_stp at h
    have key : ∀ n, am_x N (n + 1) c = am_stp N (am_x N n) c := fun _ => rfl
    cases hd : am_do N c with
    | none => rw [hd] at h; cases h
    | some q =>
      rw [hd] at h
      rcases q with d | ⟨d, r'⟩ | v
      · obtain ⟨n, hn⟩ := am_ev_iff.mp (show am_ev N d = some r from h)
        exact ⟨n + 1, by rw [key]; unfold am_stp; rw [hd]; exact hn⟩
      · obtain ⟨v, h1, h2⟩ := Option.bind_eq_some_iff.mp (show (am_ev N d).bind _ = some r from h)
        obtain ⟨n, hn⟩ := am_ev_iff.mp h1
        obtain ⟨m, hm⟩ := am_ev_iff.mp h2
        refine ⟨max n m + 1, ?_⟩
        rw [key]
        unfold am_stp
        rw [hd]
        show (am_x N (max n m) d).bind _ = some r
        rw [am_x_le (Nat.le_max_left n m) hn]
        exact am_x_le (Nat.le_max_right n m) hm
      · exact ⟨1, by rw [key]; unfold am_stp; rw [hd]; exact h⟩
