/-! ===== the run's end, by its parts; one step ===== -/
noncomputable def am_e (M pc : Nat) (L S : List Value) (I A : am_F) (G : am_G) : Option am_V := am_ev 86 (M, pc, L, S, I, A, G)
def am_k (o : Option am_V) (f : Value → am_F → am_F → am_G → Option am_V) : Option am_V := match o with
  | some (v, I, A, G) => f v I A G
  | none => none
theorem am_k_some {v : Value} {I A : am_F} {G : am_G} {f : Value → am_F → am_F → am_G → Option am_V} : am_k (some (v, I, A, G)) f = f v I A G := rfl
theorem am_k_none {f : Value → am_F → am_F → am_G → Option am_V} : am_k none f = none := rfl
theorem am_push_i {x : Int32} {S : List Value} : am_push (.int x) S = .int x :: S := rfl
theorem am_push_r {x : Nat} {S : List Value} : am_push (.ref x) S = .ref x :: S := rfl
theorem am_push_n {S : List Value} : am_push .null S = S := rfl
noncomputable def am_qe (q : am_Q) : Option am_V := match q with
  | none => none
  | some (.inl d) => am_ev 86 d
  | some (.inr (.inl (d, r))) => (am_ev 86 d).bind fun v => am_ev 86 (am_back r v)
  | some (.inr (.inr v)) => some v
section EV
variable {M pc n : Nat} {i : Jvm.ClassFile.Instr} {L S : List Value} {I A : am_F} {G : am_G}
theorem am_e_do (hdg : decode (am_b M) pc = .ok (i, n)) (hn : am_ln i n = true) : am_do 86 (M, pc, L, S, I, A, G) = am_in 86 M pc i L S I A G := by
  unfold am_do
  dsimp only
  rw [hdg]
  dsimp only
  rw [if_pos hn]
theorem am_e_st {q} (hdg : decode (am_b M) pc = .ok (i, n)) (hn : am_ln i n = true) (h : am_in 86 M pc i L S I A G = q) : am_e M pc L S I A G = am_qe q := by
  unfold am_e
  rw [am_ev_eq]
  unfold am_stp am_qe
  rw [am_e_do hdg hn, h]
  rcases q with _ | d | ⟨d, r⟩ | v <;> rfl
theorem am_e_go {M' pc' : Nat} {L' S' : List Value} {I' A' : am_F} {G' : am_G} (hdg : decode (am_b M) pc = .ok (i, n)) (hn : am_ln i n = true) (h : am_in 86 M pc i L S I A G = am_go M' pc' L' S' I' A' G') : am_e M pc L S I A G = am_e M' pc' L' S' I' A' G' := by
  rw [am_e_st hdg hn h]
  rfl
theorem am_e_if {c : Prop} [hc : Decidable c] {M1 pc1 M2 pc2 : Nat} {L1 S1 L2 S2 : List Value} {I1 A1 I2 A2 : am_F} {G1 G2 : am_G} (hdg : decode (am_b M) pc = .ok (i, n)) (hn : am_ln i n = true) (h : am_in 86 M pc i L S I A G = if c then am_go M1 pc1 L1 S1 I1 A1 G1 else am_go M2 pc2 L2 S2 I2 A2 G2) : am_e M pc L S I A G = if c then am_e M1 pc1 L1 S1 I1 A1 G1 else am_e M2 pc2 L2 S2 I2 A2 G2 := by
  by_cases h0 : c
  · rw [if_pos h0] at h ⊢
    exact am_e_go hdg hn h
  · rw [if_neg h0] at h ⊢
    exact am_e_go hdg hn h
theorem am_e_nif {c : Prop} [hc : Decidable c] {M2 pc2 : Nat} {L2 S2 : List Value} {I2 A2 : am_F} {G2 : am_G} (hdg : decode (am_b M) pc = .ok (i, n)) (hn : am_ln i n = true) (h : am_in 86 M pc i L S I A G = if c then none else am_go M2 pc2 L2 S2 I2 A2 G2) : am_e M pc L S I A G = if c then none else am_e M2 pc2 L2 S2 I2 A2 G2 := by
  by_cases h0 : c
  · rw [if_pos h0] at h ⊢
    rw [am_e_st hdg hn h]; rfl
  · rw [if_neg h0] at h ⊢
    exact am_e_go hdg hn h
theorem am_e_pif {c : Prop} [hc : Decidable c] {M2 pc2 : Nat} {L2 S2 : List Value} {I2 A2 : am_F} {G2 : am_G} (hdg : decode (am_b M) pc = .ok (i, n)) (hn : am_ln i n = true) (h : am_in 86 M pc i L S I A G = if c then am_go M2 pc2 L2 S2 I2 A2 G2 else none) : am_e M pc L S I A G = if c then am_e M2 pc2 L2 S2 I2 A2 G2 else none := by
  by_cases h0 : c
  · rw [if_pos h0] at h ⊢
    exact am_e_go hdg hn h
  · rw [if_neg h0] at h ⊢
    rw [am_e_st hdg hn h]; rfl
theorem am_e_call {M' pc' : Nat} {L' L2 R2 : List Value} (hdg : decode (am_b M) pc = .ok (i, n)) (hn : am_ln i n = true) (h : am_in 86 M pc i L S I A G = some (.inr (.inl ((M', 0, L', [], I, A, G), (M, pc', L2, R2, I, A, G))))) : am_e M pc L S I A G = am_k (am_e M' 0 L' [] I A G) (fun v I A G => am_e M pc' L2 (am_push v R2) I A G) := by
  rw [am_e_st hdg hn h]
  unfold am_e am_qe
  dsimp only
  cases am_ev 86 (M', 0, L', [], I, A, G) <;> rfl
theorem am_e_rt {v : am_V} (hdg : decode (am_b M) pc = .ok (i, n)) (hn : am_ln i n = true) (h : am_in 86 M pc i L S I A G = some (.inr (.inr v))) : am_e M pc L S I A G = some v := by
  rw [am_e_st hdg hn h]; rfl
theorem am_e_rb {c : Prop} [hc : Decidable c] {v : am_V} (hdg : decode (am_b M) pc = .ok (i, n)) (hn : am_ln i n = true) (h : am_in 86 M pc i L S I A G = if c then some (.inr (.inr v)) else none) : am_e M pc L S I A G = if c then some v else none := by
  by_cases h0 : c
  · rw [if_pos h0] at h ⊢
    rw [am_e_st hdg hn h]; rfl
  · rw [if_neg h0] at h ⊢
    rw [am_e_st hdg hn h]; rfl
end EV
def am_swe (f : Nat → Option am_V) (d : Nat) (x : Int32) : List (Int32 × Nat) → Option am_V
  | [] => f d
  | (v, t) :: ps => if x = v then f t else am_swe f d x ps
def am_swc (pc : Nat) : Int → List Int → List (Int32 × Nat) → Bool
  | _, [], [] => true
  | lo, o :: os, (v, t) :: ps => decide (v.toInt = lo) && (decide ((pc : Int) + o = (t : Int)) && am_swc pc (lo + 1) os ps)
  | _, _, _ => false
def am_slc (pc : Nat) : List (Int × Int) → List (Int32 × Nat) → Bool
  | [], [] => true
  | (k, o) :: os, (v, t) :: ps => decide (v.toInt = k) && (decide ((pc : Int) + o = (t : Int)) && am_slc pc os ps)
  | _, _ => false
section EV2
variable {M pc n : Nat} {L S : List Value} {I A : am_F} {G : am_G}
theorem am_at_qe {off : Int} {t : Nat} (h : (pc : Int) + off = (t : Int)) : am_qe (am_at pc off fun t => am_go M t L S I A G) = am_e M t L S I A G := by
  unfold am_at
  rw [h]
  rfl
theorem am_sw_qe {d : Int} {dt : Nat} (hd : (pc : Int) + d = (dt : Int)) {x : Int32} : ∀ (os : List Int) (lo : Int) (ps : List (Int32 × Nat)), am_swc pc lo os ps = true → am_qe (am_sw pc (fun t => am_go M t L S I A G) d x lo os) = am_swe (fun t => am_e M t L S I A G) dt x ps
  | [], lo, [], _ => am_at_qe hd
  | [], lo, _ :: _, h => by cases h
  | _ :: _, lo, [], h => by cases h
  | o :: os, lo, (v, t) :: ps, h => by
    unfold am_swc at h
    simp only [Bool.and_eq_true, decide_eq_true_eq] at h
    obtain ⟨h1, h2, h3⟩ := h
    unfold am_sw am_swe
    by_cases hx : x = v
    · rw [if_pos hx, if_pos (by rw [hx]; exact h1)]
      exact am_at_qe h2
    · rw [if_neg hx, if_neg (fun e => hx (Int32.toInt_inj.mp (e.trans h1.symm)))]
      exact am_sw_qe hd os (lo + 1) ps h3
theorem am_sl_qe {d : Int} {dt : Nat} (hd : (pc : Int) + d = (dt : Int)) {x : Int32} : ∀ (os : List (Int × Int)) (ps : List (Int32 × Nat)), am_slc pc os ps = true → am_qe (am_sl pc (fun t => am_go M t L S I A G) d x os) = am_swe (fun t => am_e M t L S I A G) dt x ps
  | [], [], _ => am_at_qe hd
  | [], _ :: _, h => by cases h
  | _ :: _, [], h => by cases h
  | (k, o) :: os, (v, t) :: ps, h => by
    unfold am_slc at h
    simp only [Bool.and_eq_true, decide_eq_true_eq] at h
    obtain ⟨h1, h2, h3⟩ := h
    unfold am_sl am_swe
    by_cases hx : x = v
    · rw [if_pos hx, if_pos (by rw [hx]; exact h1)]
      exact am_at_qe h2
    · rw [if_neg hx, if_neg (fun e => hx (Int32.toInt_inj.mp (e.trans h1.symm)))]
      exact am_sl_qe hd os ps h3
theorem am_e_sw {df lo hi : Int} {offs : Array Int} {ps : List (Int32 × Nat)} {dt : Nat} {x : Int32} (hdg : decode (am_b M) pc = .ok (.tableswitch df lo hi offs, n)) (hl : hi + 1 = lo + offs.toList.length) (hc : am_swc pc lo offs.toList ps = true) (hd : (pc : Int) + df = (dt : Int)) : am_e M pc L (.int x :: S) I A G = am_swe (fun t => am_e M t L S I A G) dt x ps := by
  rw [am_e_st hdg rfl rfl]
  rw [← am_sw_qe hd offs.toList lo ps hc]
  show am_qe (if hi + 1 = lo + offs.toList.length then _ else none) = _
  rw [if_pos hl]
theorem am_e_sl {df : Int} {os : Array (Int × Int)} {ps : List (Int32 × Nat)} {dt : Nat} {x : Int32} (hdg : decode (am_b M) pc = .ok (.lookupswitch df os, n)) (hl : (os.toList.zip (os.toList.drop 1)).all (fun (a, next) => a.1 < next.1) = true) (hc : am_slc pc os.toList ps = true) (hd : (pc : Int) + df = (dt : Int)) : am_e M pc L (.int x :: S) I A G = am_swe (fun t => am_e M t L S I A G) dt x ps := by
  rw [am_e_st hdg rfl rfl]
  rw [← am_sl_qe hd os.toList ps hc]
  show am_qe (if (os.toList.zip (os.toList.drop 1)).all (fun (a, next) => a.1 < next.1) = true then _ else none) = _
  rw [if_pos hl]
end EV2
theorem am_len_1 : am_len 86 true 1 = 400 := by decide +kernel
theorem am_len_3 : am_len 86 false 3 = 4 := by decide +kernel
theorem am_len_4 : am_len 86 true 4 = 0 := by decide +kernel
theorem am_len_6 : am_len 86 false 6 = 8 := by decide +kernel
theorem am_len_7 : am_len 86 false 7 = 8 := by decide +kernel
theorem am_len_8 : am_len 86 false 8 = 8 := by decide +kernel
theorem am_len_9 : am_len 86 false 9 = 10 := by decide +kernel
theorem am_len_10 : am_len 86 false 10 = 10 := by decide +kernel
theorem am_len_11 : am_len 86 false 11 = 10 := by decide +kernel
theorem am_len_12 : am_len 86 false 12 = 10 := by decide +kernel
theorem am_len_14 : am_len 86 false 14 = 10 := by decide +kernel
theorem am_len_15 : am_len 86 false 15 = 10 := by decide +kernel
theorem am_len_16 : am_len 86 false 16 = 9 := by decide +kernel
theorem am_len_17 : am_len 86 false 17 = 10 := by decide +kernel
theorem am_len_18 : am_len 86 false 18 = 9 := by decide +kernel
theorem am_len_20 : am_len 86 false 20 = 10 := by decide +kernel
theorem am_len_21 : am_len 86 false 21 = 10 := by decide +kernel
theorem am_len_22 : am_len 86 false 22 = 9 := by decide +kernel
theorem am_len_23 : am_len 86 false 23 = 10 := by decide +kernel
theorem am_len_24 : am_len 86 false 24 = 9 := by decide +kernel
theorem am_len_26 : am_len 86 false 26 = 8 := by decide +kernel
theorem am_len_27 : am_len 86 false 27 = 8 := by decide +kernel
theorem am_len_28 : am_len 86 false 28 = 8 := by decide +kernel
theorem am_len_29 : am_len 86 false 29 = 10 := by decide +kernel
theorem am_len_30 : am_len 86 false 30 = 10 := by decide +kernel
theorem am_len_31 : am_len 86 false 31 = 10 := by decide +kernel
theorem am_len_32 : am_len 86 false 32 = 10 := by decide +kernel
theorem am_len_34 : am_len 86 false 34 = 10 := by decide +kernel
theorem am_len_35 : am_len 86 false 35 = 10 := by decide +kernel
theorem am_len_36 : am_len 86 false 36 = 9 := by decide +kernel
theorem am_len_37 : am_len 86 false 37 = 10 := by decide +kernel
theorem am_len_38 : am_len 86 false 38 = 9 := by decide +kernel
theorem am_len_40 : am_len 86 false 40 = 10 := by decide +kernel
theorem am_len_41 : am_len 86 false 41 = 10 := by decide +kernel
theorem am_len_42 : am_len 86 false 42 = 9 := by decide +kernel
theorem am_len_43 : am_len 86 false 43 = 10 := by decide +kernel
theorem am_len_44 : am_len 86 false 44 = 9 := by decide +kernel
theorem am_len_46 : am_len 86 false 46 = 9 := by decide +kernel
theorem am_len_47 : am_len 86 false 47 = 9 := by decide +kernel
theorem am_len_49 : am_len 86 false 49 = 9 := by decide +kernel
theorem am_len_50 : am_len 86 false 50 = 9 := by decide +kernel
theorem am_len_52 : am_len 86 false 52 = 9 := by decide +kernel
theorem am_len_53 : am_len 86 false 53 = 9 := by decide +kernel
theorem am_len_55 : am_len 86 false 55 = 10 := by decide +kernel
theorem am_len_56 : am_len 86 false 56 = 10 := by decide +kernel
theorem am_len_57 : am_len 86 false 57 = 10 := by decide +kernel
theorem am_len_59 : am_len 86 false 59 = 9 := by decide +kernel
theorem am_len_60 : am_len 86 false 60 = 10 := by decide +kernel
theorem am_len_61 : am_len 86 false 61 = 10 := by decide +kernel
theorem am_len_62 : am_len 86 false 62 = 9 := by decide +kernel
theorem am_len_64 : am_len 86 false 64 = 10 := by decide +kernel
theorem am_len_65 : am_len 86 false 65 = 10 := by decide +kernel
theorem am_len_66 : am_len 86 false 66 = 9 := by decide +kernel
theorem am_len_67 : am_len 86 false 67 = 10 := by decide +kernel
theorem am_len_68 : am_len 86 false 68 = 9 := by decide +kernel
theorem am_len_70 : am_len 86 false 70 = 400 := by decide +kernel
theorem am_len_71 : am_len 86 false 71 = 24 := by decide +kernel
theorem am_len_72 : am_len 86 false 72 = 40 := by decide +kernel
theorem am_len_73 : am_len 86 false 73 = 6 := by decide +kernel
theorem am_len_74 : am_len 86 false 74 = 24 := by decide +kernel
theorem am_len_75 : am_len 86 false 75 = 44 := by decide +kernel
theorem am_len_76 : am_len 86 false 76 = 6 := by decide +kernel
theorem am_len_77 : am_len 86 false 77 = 8 := by decide +kernel
theorem am_len_78 : am_len 86 false 78 = 24 := by decide +kernel
theorem am_len_79 : am_len 86 false 79 = 30 := by decide +kernel
theorem am_len_80 : am_len 86 false 80 = 8 := by decide +kernel
theorem am_len_81 : am_len 86 false 81 = 11 := by decide +kernel
theorem am_len_82 : am_len 86 false 82 = 11 := by decide +kernel
theorem am_len_83 : am_len 86 false 83 = 11 := by decide +kernel
theorem am_len_84 : am_len 86 false 84 = 11 := by decide +kernel
theorem am_len_85 : am_len 86 false 85 = 8 := by decide +kernel
