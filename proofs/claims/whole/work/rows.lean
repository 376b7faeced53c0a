section
-- ===== PART A: goes FIRST, ahead of the names: the tables' words, and 'selects' of the private methods out of them =====
/-- a private method of a class that the tables say can be made, by its rows of tables_1 -/
def lw_okq (q : MethodName × Nat) : Prop := (q.1.cls ≠ "java/lang/invoke/MethodHandle" ∧ q.1.cls ≠ "java/lang/invoke/VarHandle") ∧ Cond.instantiable q.1.cls q.2 ∈ tables_1 ∧ Cond.privateMethod q.1 ∈ tables_1 ∧ Cond.instanceMethod q.1 ∈ tables_1
theorem lw_p0 : lw_okq (⟨"CaveBreath", "isHall", "(I)Z"⟩, 11) := ⟨⟨by decide +kernel, by decide +kernel⟩, List.mem_of_getElem? (i := 14) (by decide +kernel), List.mem_of_getElem? (i := 397) (by decide +kernel), List.mem_of_getElem? (i := 398) (by decide +kernel)⟩
theorem lw_p1 : lw_okq (⟨"CaveBreath", "isDoor", "(I)Z"⟩, 11) := ⟨⟨by decide +kernel, by decide +kernel⟩, List.mem_of_getElem? (i := 14) (by decide +kernel), List.mem_of_getElem? (i := 408) (by decide +kernel), List.mem_of_getElem? (i := 409) (by decide +kernel)⟩
theorem lw_p2 : lw_okq (⟨"CaveBreath", "blowNow", "(I)V"⟩, 11) := ⟨⟨by decide +kernel, by decide +kernel⟩, List.mem_of_getElem? (i := 14) (by decide +kernel), List.mem_of_getElem? (i := 441) (by decide +kernel), List.mem_of_getElem? (i := 442) (by decide +kernel)⟩
theorem lw_p3 : lw_okq (⟨"CaveBreath", "isClean", "(I)Z"⟩, 11) := ⟨⟨by decide +kernel, by decide +kernel⟩, List.mem_of_getElem? (i := 14) (by decide +kernel), List.mem_of_getElem? (i := 494) (by decide +kernel), List.mem_of_getElem? (i := 495) (by decide +kernel)⟩
theorem lw_p4 : lw_okq (⟨"CaveBreath", "isCleanBy", "(II)Z"⟩, 11) := ⟨⟨by decide +kernel, by decide +kernel⟩, List.mem_of_getElem? (i := 14) (by decide +kernel), List.mem_of_getElem? (i := 499) (by decide +kernel), List.mem_of_getElem? (i := 500) (by decide +kernel)⟩
theorem lw_p5 : lw_okq (⟨"CaveBreath", "isWardDownwindOfSmoke", "()Z"⟩, 11) := ⟨⟨by decide +kernel, by decide +kernel⟩, List.mem_of_getElem? (i := 14) (by decide +kernel), List.mem_of_getElem? (i := 503) (by decide +kernel), List.mem_of_getElem? (i := 504) (by decide +kernel)⟩
theorem lw_p6 : lw_okq (⟨"CaveBreath", "howManyClean", "()I"⟩, 11) := ⟨⟨by decide +kernel, by decide +kernel⟩, List.mem_of_getElem? (i := 14) (by decide +kernel), List.mem_of_getElem? (i := 511) (by decide +kernel), List.mem_of_getElem? (i := 512) (by decide +kernel)⟩
theorem lw_p7 : lw_okq (⟨"CaveBreath", "nearestClean", "()I"⟩, 11) := ⟨⟨by decide +kernel, by decide +kernel⟩, List.mem_of_getElem? (i := 14) (by decide +kernel), List.mem_of_getElem? (i := 515) (by decide +kernel), List.mem_of_getElem? (i := 516) (by decide +kernel)⟩
theorem lw_p8 : lw_okq (⟨"CaveBreath", "wardAir", "(III)I"⟩, 11) := ⟨⟨by decide +kernel, by decide +kernel⟩, List.mem_of_getElem? (i := 14) (by decide +kernel), List.mem_of_getElem? (i := 532) (by decide +kernel), List.mem_of_getElem? (i := 533) (by decide +kernel)⟩
theorem lw_p9 : lw_okq (⟨"CaveBreath", "wardAirWithShaft", "(I)I"⟩, 11) := ⟨⟨by decide +kernel, by decide +kernel⟩, List.mem_of_getElem? (i := 14) (by decide +kernel), List.mem_of_getElem? (i := 563) (by decide +kernel), List.mem_of_getElem? (i := 564) (by decide +kernel)⟩
theorem lw_p10 : lw_okq (⟨"CaveBreath", "leastAir", "(LCaveBreath$Plan;II)I"⟩, 11) := ⟨⟨by decide +kernel, by decide +kernel⟩, List.mem_of_getElem? (i := 14) (by decide +kernel), List.mem_of_getElem? (i := 568) (by decide +kernel), List.mem_of_getElem? (i := 569) (by decide +kernel)⟩
theorem lw_p11 : lw_okq (⟨"CaveBreath", "isWardFoul", "(I)Z"⟩, 11) := ⟨⟨by decide +kernel, by decide +kernel⟩, List.mem_of_getElem? (i := 14) (by decide +kernel), List.mem_of_getElem? (i := 581) (by decide +kernel), List.mem_of_getElem? (i := 582) (by decide +kernel)⟩
theorem lw_p12 : lw_okq (⟨"CaveBreath", "warmerBy", "(II)I"⟩, 11) := ⟨⟨by decide +kernel, by decide +kernel⟩, List.mem_of_getElem? (i := 14) (by decide +kernel), List.mem_of_getElem? (i := 585) (by decide +kernel), List.mem_of_getElem? (i := 586) (by decide +kernel)⟩
theorem lw_p13 : lw_okq (⟨"CaveBreath", "keptAt", "(I)LCaveBreath$State;"⟩, 11) := ⟨⟨by decide +kernel, by decide +kernel⟩, List.mem_of_getElem? (i := 14) (by decide +kernel), List.mem_of_getElem? (i := 596) (by decide +kernel), List.mem_of_getElem? (i := 597) (by decide +kernel)⟩
theorem lw_p14 : lw_okq (⟨"CaveBreathModel", "readAll", "()I"⟩, 33) := ⟨⟨by decide +kernel, by decide +kernel⟩, List.mem_of_getElem? (i := 613) (by decide +kernel), List.mem_of_getElem? (i := 738) (by decide +kernel), List.mem_of_getElem? (i := 739) (by decide +kernel)⟩
theorem lw_p15 : lw_okq (⟨"CaveBreathModel", "isItem", "()Z"⟩, 33) := ⟨⟨by decide +kernel, by decide +kernel⟩, List.mem_of_getElem? (i := 613) (by decide +kernel), List.mem_of_getElem? (i := 742) (by decide +kernel), List.mem_of_getElem? (i := 743) (by decide +kernel)⟩
def lw_privs_1 : List (MethodName × Nat) := [(⟨"CaveBreath", "isHall", "(I)Z"⟩, 11), (⟨"CaveBreath", "isDoor", "(I)Z"⟩, 11), (⟨"CaveBreath", "blowNow", "(I)V"⟩, 11), (⟨"CaveBreath", "isClean", "(I)Z"⟩, 11), (⟨"CaveBreath", "isCleanBy", "(II)Z"⟩, 11), (⟨"CaveBreath", "isWardDownwindOfSmoke", "()Z"⟩, 11), (⟨"CaveBreath", "howManyClean", "()I"⟩, 11), (⟨"CaveBreath", "nearestClean", "()I"⟩, 11), (⟨"CaveBreath", "wardAir", "(III)I"⟩, 11), (⟨"CaveBreath", "wardAirWithShaft", "(I)I"⟩, 11), (⟨"CaveBreath", "leastAir", "(LCaveBreath$Plan;II)I"⟩, 11), (⟨"CaveBreath", "isWardFoul", "(I)Z"⟩, 11), (⟨"CaveBreath", "warmerBy", "(II)I"⟩, 11), (⟨"CaveBreath", "keptAt", "(I)LCaveBreath$State;"⟩, 11), (⟨"CaveBreathModel", "readAll", "()I"⟩, 33), (⟨"CaveBreathModel", "isItem", "()Z"⟩, 33)]
theorem lw_r1 : ∀ q ∈ lw_privs_1, lw_okq q := List.forall_mem_cons.mpr ⟨lw_p0, List.forall_mem_cons.mpr ⟨lw_p1, List.forall_mem_cons.mpr ⟨lw_p2, List.forall_mem_cons.mpr ⟨lw_p3, List.forall_mem_cons.mpr ⟨lw_p4, List.forall_mem_cons.mpr ⟨lw_p5, List.forall_mem_cons.mpr ⟨lw_p6, List.forall_mem_cons.mpr ⟨lw_p7, List.forall_mem_cons.mpr ⟨lw_p8, List.forall_mem_cons.mpr ⟨lw_p9, List.forall_mem_cons.mpr ⟨lw_p10, List.forall_mem_cons.mpr ⟨lw_p11, List.forall_mem_cons.mpr ⟨lw_p12, List.forall_mem_cons.mpr ⟨lw_p13, List.forall_mem_cons.mpr ⟨lw_p14, List.forall_mem_cons.mpr ⟨lw_p15, fun _ h => absurd h List.not_mem_nil⟩⟩⟩⟩⟩⟩⟩⟩⟩⟩⟩⟩⟩⟩⟩⟩
theorem lw_p16 : lw_okq (⟨"CaveBreathModel", "here", "()I"⟩, 33) := ⟨⟨by decide +kernel, by decide +kernel⟩, List.mem_of_getElem? (i := 613) (by decide +kernel), List.mem_of_getElem? (i := 746) (by decide +kernel), List.mem_of_getElem? (i := 747) (by decide +kernel)⟩
theorem lw_p17 : lw_okq (⟨"CaveBreathModel", "isHallItem", "()Z"⟩, 33) := ⟨⟨by decide +kernel, by decide +kernel⟩, List.mem_of_getElem? (i := 613) (by decide +kernel), List.mem_of_getElem? (i := 750) (by decide +kernel), List.mem_of_getElem? (i := 751) (by decide +kernel)⟩
theorem lw_p18 : lw_okq (⟨"CaveBreathModel", "isNumber", "(III)Z"⟩, 33) := ⟨⟨by decide +kernel, by decide +kernel⟩, List.mem_of_getElem? (i := 613) (by decide +kernel), List.mem_of_getElem? (i := 754) (by decide +kernel), List.mem_of_getElem? (i := 755) (by decide +kernel)⟩
theorem lw_p19 : lw_okq (⟨"CaveBreathModel", "isDoorItem", "(Z)Z"⟩, 33) := ⟨⟨by decide +kernel, by decide +kernel⟩, List.mem_of_getElem? (i := 613) (by decide +kernel), List.mem_of_getElem? (i := 758) (by decide +kernel), List.mem_of_getElem? (i := 759) (by decide +kernel)⟩
theorem lw_p20 : lw_okq (⟨"CaveBreathModel", "isSet", "(II)Z"⟩, 33) := ⟨⟨by decide +kernel, by decide +kernel⟩, List.mem_of_getElem? (i := 613) (by decide +kernel), List.mem_of_getElem? (i := 762) (by decide +kernel), List.mem_of_getElem? (i := 763) (by decide +kernel)⟩
theorem lw_p21 : lw_okq (⟨"CaveBreathModel", "isWarm", "()Z"⟩, 33) := ⟨⟨by decide +kernel, by decide +kernel⟩, List.mem_of_getElem? (i := 613) (by decide +kernel), List.mem_of_getElem? (i := 766) (by decide +kernel), List.mem_of_getElem? (i := 767) (by decide +kernel)⟩
theorem lw_p22 : lw_okq (⟨"CaveBreathModel", "isHall", "(I)Z"⟩, 33) := ⟨⟨by decide +kernel, by decide +kernel⟩, List.mem_of_getElem? (i := 613) (by decide +kernel), List.mem_of_getElem? (i := 778) (by decide +kernel), List.mem_of_getElem? (i := 779) (by decide +kernel)⟩
theorem lw_p23 : lw_okq (⟨"CaveBreathModel", "isDoor", "(I)Z"⟩, 33) := ⟨⟨by decide +kernel, by decide +kernel⟩, List.mem_of_getElem? (i := 613) (by decide +kernel), List.mem_of_getElem? (i := 789) (by decide +kernel), List.mem_of_getElem? (i := 790) (by decide +kernel)⟩
theorem lw_p24 : lw_okq (⟨"CaveBreathModel", "goesBy", "(II)I"⟩, 33) := ⟨⟨by decide +kernel, by decide +kernel⟩, List.mem_of_getElem? (i := 613) (by decide +kernel), List.mem_of_getElem? (i := 809) (by decide +kernel), List.mem_of_getElem? (i := 810) (by decide +kernel)⟩
theorem lw_p25 : lw_okq (⟨"CaveBreathModel", "layNow", "(I)V"⟩, 33) := ⟨⟨by decide +kernel, by decide +kernel⟩, List.mem_of_getElem? (i := 613) (by decide +kernel), List.mem_of_getElem? (i := 817) (by decide +kernel), List.mem_of_getElem? (i := 818) (by decide +kernel)⟩
theorem lw_p26 : lw_okq (⟨"CaveBreathModel", "layAir", "(III)V"⟩, 33) := ⟨⟨by decide +kernel, by decide +kernel⟩, List.mem_of_getElem? (i := 613) (by decide +kernel), List.mem_of_getElem? (i := 821) (by decide +kernel), List.mem_of_getElem? (i := 822) (by decide +kernel)⟩
theorem lw_p27 : lw_okq (⟨"CaveBreathModel", "layDoor", "(I)V"⟩, 33) := ⟨⟨by decide +kernel, by decide +kernel⟩, List.mem_of_getElem? (i := 613) (by decide +kernel), List.mem_of_getElem? (i := 825) (by decide +kernel), List.mem_of_getElem? (i := 826) (by decide +kernel)⟩
theorem lw_p28 : lw_okq (⟨"CaveBreathModel", "breathers", "()I"⟩, 33) := ⟨⟨by decide +kernel, by decide +kernel⟩, List.mem_of_getElem? (i := 613) (by decide +kernel), List.mem_of_getElem? (i := 829) (by decide +kernel), List.mem_of_getElem? (i := 830) (by decide +kernel)⟩
theorem lw_p29 : lw_okq (⟨"CaveBreathModel", "giveOut", "(II)V"⟩, 33) := ⟨⟨by decide +kernel, by decide +kernel⟩, List.mem_of_getElem? (i := 613) (by decide +kernel), List.mem_of_getElem? (i := 833) (by decide +kernel), List.mem_of_getElem? (i := 834) (by decide +kernel)⟩
theorem lw_p30 : lw_okq (⟨"CaveBreathModel", "leadsOn", "(III)Z"⟩, 33) := ⟨⟨by decide +kernel, by decide +kernel⟩, List.mem_of_getElem? (i := 613) (by decide +kernel), List.mem_of_getElem? (i := 837) (by decide +kernel), List.mem_of_getElem? (i := 838) (by decide +kernel)⟩
theorem lw_p31 : lw_okq (⟨"CaveBreathModel", "keepIns", "(I)V"⟩, 33) := ⟨⟨by decide +kernel, by decide +kernel⟩, List.mem_of_getElem? (i := 613) (by decide +kernel), List.mem_of_getElem? (i := 841) (by decide +kernel), List.mem_of_getElem? (i := 842) (by decide +kernel)⟩
def lw_privs_2 : List (MethodName × Nat) := [(⟨"CaveBreathModel", "here", "()I"⟩, 33), (⟨"CaveBreathModel", "isHallItem", "()Z"⟩, 33), (⟨"CaveBreathModel", "isNumber", "(III)Z"⟩, 33), (⟨"CaveBreathModel", "isDoorItem", "(Z)Z"⟩, 33), (⟨"CaveBreathModel", "isSet", "(II)Z"⟩, 33), (⟨"CaveBreathModel", "isWarm", "()Z"⟩, 33), (⟨"CaveBreathModel", "isHall", "(I)Z"⟩, 33), (⟨"CaveBreathModel", "isDoor", "(I)Z"⟩, 33), (⟨"CaveBreathModel", "goesBy", "(II)I"⟩, 33), (⟨"CaveBreathModel", "layNow", "(I)V"⟩, 33), (⟨"CaveBreathModel", "layAir", "(III)V"⟩, 33), (⟨"CaveBreathModel", "layDoor", "(I)V"⟩, 33), (⟨"CaveBreathModel", "breathers", "()I"⟩, 33), (⟨"CaveBreathModel", "giveOut", "(II)V"⟩, 33), (⟨"CaveBreathModel", "leadsOn", "(III)Z"⟩, 33), (⟨"CaveBreathModel", "keepIns", "(I)V"⟩, 33)]
theorem lw_r2 : ∀ q ∈ lw_privs_2, lw_okq q := List.forall_mem_cons.mpr ⟨lw_p16, List.forall_mem_cons.mpr ⟨lw_p17, List.forall_mem_cons.mpr ⟨lw_p18, List.forall_mem_cons.mpr ⟨lw_p19, List.forall_mem_cons.mpr ⟨lw_p20, List.forall_mem_cons.mpr ⟨lw_p21, List.forall_mem_cons.mpr ⟨lw_p22, List.forall_mem_cons.mpr ⟨lw_p23, List.forall_mem_cons.mpr ⟨lw_p24, List.forall_mem_cons.mpr ⟨lw_p25, List.forall_mem_cons.mpr ⟨lw_p26, List.forall_mem_cons.mpr ⟨lw_p27, List.forall_mem_cons.mpr ⟨lw_p28, List.forall_mem_cons.mpr ⟨lw_p29, List.forall_mem_cons.mpr ⟨lw_p30, List.forall_mem_cons.mpr ⟨lw_p31, fun _ h => absurd h List.not_mem_nil⟩⟩⟩⟩⟩⟩⟩⟩⟩⟩⟩⟩⟩⟩⟩⟩
theorem lw_p32 : lw_okq (⟨"CaveBreathModel", "downwindOf", "(I)I"⟩, 33) := ⟨⟨by decide +kernel, by decide +kernel⟩, List.mem_of_getElem? (i := 613) (by decide +kernel), List.mem_of_getElem? (i := 853) (by decide +kernel), List.mem_of_getElem? (i := 854) (by decide +kernel)⟩
theorem lw_p33 : lw_okq (⟨"CaveBreathModel", "goHour", "()V"⟩, 33) := ⟨⟨by decide +kernel, by decide +kernel⟩, List.mem_of_getElem? (i := 613) (by decide +kernel), List.mem_of_getElem? (i := 861) (by decide +kernel), List.mem_of_getElem? (i := 862) (by decide +kernel)⟩
theorem lw_p34 : lw_okq (⟨"CaveBreathModel", "isClean", "(I)Z"⟩, 33) := ⟨⟨by decide +kernel, by decide +kernel⟩, List.mem_of_getElem? (i := 613) (by decide +kernel), List.mem_of_getElem? (i := 869) (by decide +kernel), List.mem_of_getElem? (i := 870) (by decide +kernel)⟩
theorem lw_p35 : lw_okq (⟨"CaveBreathModel", "isSick", "()Z"⟩, 33) := ⟨⟨by decide +kernel, by decide +kernel⟩, List.mem_of_getElem? (i := 613) (by decide +kernel), List.mem_of_getElem? (i := 873) (by decide +kernel), List.mem_of_getElem? (i := 874) (by decide +kernel)⟩
theorem lw_p36 : lw_okq (⟨"CaveBreathModel", "leastAir", "(II)I"⟩, 33) := ⟨⟨by decide +kernel, by decide +kernel⟩, List.mem_of_getElem? (i := 613) (by decide +kernel), List.mem_of_getElem? (i := 904) (by decide +kernel), List.mem_of_getElem? (i := 905) (by decide +kernel)⟩
def lw_privs_3 : List (MethodName × Nat) := [(⟨"CaveBreathModel", "downwindOf", "(I)I"⟩, 33), (⟨"CaveBreathModel", "goHour", "()V"⟩, 33), (⟨"CaveBreathModel", "isClean", "(I)Z"⟩, 33), (⟨"CaveBreathModel", "isSick", "()Z"⟩, 33), (⟨"CaveBreathModel", "leastAir", "(II)I"⟩, 33)]
theorem lw_r3 : ∀ q ∈ lw_privs_3, lw_okq q := List.forall_mem_cons.mpr ⟨lw_p32, List.forall_mem_cons.mpr ⟨lw_p33, List.forall_mem_cons.mpr ⟨lw_p34, List.forall_mem_cons.mpr ⟨lw_p35, List.forall_mem_cons.mpr ⟨lw_p36, fun _ h => absurd h List.not_mem_nil⟩⟩⟩⟩⟩
def lw_privs : List (MethodName × Nat) := lw_privs_1 ++ (lw_privs_2 ++ (lw_privs_3))
def lw_tbl : List Cond := k2_sels lw_privs ++ tables_1
theorem lw_privs_ok : ∀ q ∈ lw_privs, lw_okq q := by
  show ∀ q ∈ lw_privs_1 ++ (lw_privs_2 ++ (lw_privs_3)), lw_okq q
  exact List.forall_mem_append.mpr ⟨lw_r1, List.forall_mem_append.mpr ⟨lw_r2, lw_r3⟩⟩
-- ===== end of PART A; then your names; then what follows =====
end
section
/-! ===== BEGIN words of one list among another's, by their places ===== -/
theorem goodIn_r {big : List Cond} (ws : List Cond) (ps : List Nat) (hp : ws = ps.filterMap (fun i => big[i]?)) (h : ws.all goodWord = true) : GoodIn big ws := by
  intro w hw
  have h1 := List.all_eq_true.mp h w hw
  rw [hp] at hw
  obtain ⟨i, -, hi⟩ := List.mem_filterMap.mp hw
  have hm : w ∈ big := by first | exact List.mem_of_getElem? hi | exact List.getElem?_mem hi
  exact ⟨hm, good_of_word h1⟩
theorem goodIn_app {big a b : List Cond} (ha : GoodIn big a) (hb : GoodIn big b) : GoodIn big (a ++ b) := fun w h => (List.mem_append.mp h).elim (ha w) (hb w)
theorem goodIn_ca {big a b : List Cond} {c : Cond} (ha : GoodIn big (c :: a)) (hb : GoodIn big b) : GoodIn big (c :: (a ++ b)) := fun w h => (List.mem_cons.mp h).elim (fun e => ha w (List.mem_cons.mpr (Or.inl e))) (fun h => (List.mem_append.mp h).elim (fun h => ha w (List.mem_cons.mpr (Or.inr h))) (hb w))
theorem goodIn_sub {big ws : List Cond} (hm : ∀ w ∈ ws, w ∈ big) (h : ws.all goodWord = true) : GoodIn big ws := fun w hw => ⟨hm w hw, good_of_word (List.all_eq_true.mp h w hw)⟩
/-! ===== END ===== -/

/-! ===== BEGIN printed: names, fields, word lists, decode rows ===== -/
def RX0 : String := "CaveBreath$Breath"
def TX0 : u_T := fun k => match k with
  | 0 => ("CaveBreath$Breath", "airOf", "[I", true)
  | 1 => ("CaveBreath$Breath", "flow", "[I", true)
  | 2 => ("CaveBreath$Breath", "lets", "[I", true)
  | 3 => ("CaveBreath$Breath", "letsOut", "[I", true)
  | _ => ("CaveBreath$Breath", "wind", "LCaveBreath$Wind;", false)
def tyX0 : Nat → FieldType := fun k => match k with
  | 0 => .array .int
  | 1 => .array .int
  | 2 => .array .int
  | 3 => .array .int
  | _ => .object "CaveBreath$Wind"
abbrev wsX00 : List Cond := u_ws RX0 TX0 5
theorem nmX0 : ∀ a, a < 5 → ∀ b, b < 5 → a ≠ b → (TX0 a).2.1 ≠ (TX0 b).2.1 := by decide +kernel
theorem tyX0_ok : ∀ k, k < 5 → parseFieldDescriptor (TX0 k).2.2.1 = some (tyX0 k) := by decide +kernel
abbrev cX0_init : ByteArray := prog_2_method_1_code
def yX0_init : MethodName := ⟨RX0, "<init>", "()V"⟩
abbrev cX0_blow : ByteArray := prog_2_method_2_code
def yX0_blow : MethodName := ⟨RX0, "blow", "(LCaveBreath$Plan;III)V"⟩
abbrev cX0_shutDeadEnds : ByteArray := prog_2_method_3_code
def yX0_shutDeadEnds : MethodName := ⟨RX0, "shutDeadEnds", "()V"⟩
abbrev cX0_handOn : ByteArray := prog_2_method_4_code
def yX0_handOn : MethodName := ⟨RX0, "handOn", "(I)V"⟩
abbrev cX0_carriedFrom : ByteArray := prog_2_method_5_code
def yX0_carriedFrom : MethodName := ⟨RX0, "carriedFrom", "(I)I"⟩
def RX1 : String := "CaveBreath$Noses"
def TX1 : u_T := fun k => match k with
  | 0 => ("CaveBreath$Noses", "hour", "[I", true)
  | 1 => ("CaveBreath$Noses", "hall", "[I", true)
  | 2 => ("CaveBreath$Noses", "did", "[I", true)
  | _ => ("CaveBreath$Noses", "told", "I", false)
def tyX1 : Nat → FieldType := fun k => match k with
  | 0 => .array .int
  | 1 => .array .int
  | 2 => .array .int
  | _ => .int
abbrev wsX10 : List Cond := u_ws RX1 TX1 4
theorem nmX1 : ∀ a, a < 4 → ∀ b, b < 4 → a ≠ b → (TX1 a).2.1 ≠ (TX1 b).2.1 := by decide +kernel
theorem tyX1_ok : ∀ k, k < 4 → parseFieldDescriptor (TX1 k).2.2.1 = some (tyX1 k) := by decide +kernel
abbrev cX1_init : ByteArray := prog_3_method_1_code
def yX1_init : MethodName := ⟨RX1, "<init>", "()V"⟩
abbrev cX1_hear : ByteArray := prog_3_method_2_code
def yX1_hear : MethodName := ⟨RX1, "hear", "(IIZ)V"⟩
def RX2 : String := "CaveBreath$Plan"
def TX2 : u_T := fun k => match k with
  | 0 => ("CaveBreath$Plan", "height", "[I", true)
  | 1 => ("CaveBreath$Plan", "makes", "[I", true)
  | 2 => ("CaveBreath$Plan", "needs", "[I", true)
  | 3 => ("CaveBreath$Plan", "oneHall", "[I", true)
  | 4 => ("CaveBreath$Plan", "otherHall", "[I", true)
  | 5 => ("CaveBreath$Plan", "wide", "[I", true)
  | 6 => ("CaveBreath$Plan", "kind", "[I", true)
  | 7 => ("CaveBreath$Plan", "up", "LCaveBreath$Wind;", true)
  | 8 => ("CaveBreath$Plan", "down", "LCaveBreath$Wind;", true)
  | 9 => ("CaveBreath$Plan", "halls", "I", false)
  | 10 => ("CaveBreath$Plan", "doors", "I", false)
  | 11 => ("CaveBreath$Plan", "smoky", "I", false)
  | 12 => ("CaveBreath$Plan", "middle", "I", false)
  | 13 => ("CaveBreath$Plan", "warm", "I", false)
  | 14 => ("CaveBreath$Plan", "early", "I", false)
  | 15 => ("CaveBreath$Plan", "late", "I", false)
  | 16 => ("CaveBreath$Plan", "ward", "I", false)
  | _ => ("CaveBreath$Plan", "swing", "I", false)
def tyX2 : Nat → FieldType := fun k => match k with
  | 0 => .array .int
  | 1 => .array .int
  | 2 => .array .int
  | 3 => .array .int
  | 4 => .array .int
  | 5 => .array .int
  | 6 => .array .int
  | 7 => .object "CaveBreath$Wind"
  | 8 => .object "CaveBreath$Wind"
  | 9 => .int
  | 10 => .int
  | 11 => .int
  | 12 => .int
  | 13 => .int
  | 14 => .int
  | 15 => .int
  | 16 => .int
  | _ => .int
abbrev wsX20 : List Cond := u_ws RX2 TX2 18
theorem nmX2 : ∀ a, a < 18 → ∀ b, b < 18 → a ≠ b → (TX2 a).2.1 ≠ (TX2 b).2.1 := by decide +kernel
theorem tyX2_ok : ∀ k, k < 18 → parseFieldDescriptor (TX2 k).2.2.1 = some (tyX2 k) := by decide +kernel
abbrev cX2_init : ByteArray := prog_4_method_1_code
def yX2_init : MethodName := ⟨RX2, "<init>", "()V"⟩
abbrev cX2_empty : ByteArray := prog_4_method_2_code
def yX2_empty : MethodName := ⟨RX2, "empty", "()V"⟩
abbrev cX2_copyFrom : ByteArray := prog_4_method_3_code
def yX2_copyFrom : MethodName := ⟨RX2, "copyFrom", "(LCaveBreath$Plan;)V"⟩
abbrev cX2_take : ByteArray := prog_4_method_4_code
def yX2_take : MethodName := ⟨RX2, "take", "(I[I)Z"⟩
abbrev cX2_isTold : ByteArray := prog_4_method_5_code
def yX2_isTold : MethodName := ⟨RX2, "isTold", "(I)Z"⟩
abbrev cX2_addHall : ByteArray := prog_4_method_6_code
def yX2_addHall : MethodName := ⟨RX2, "addHall", "(III)Z"⟩
abbrev cX2_addDoor : ByteArray := prog_4_method_7_code
def yX2_addDoor : MethodName := ⟨RX2, "addDoor", "(IIII)Z"⟩
abbrev cX2_isBetween : ByteArray := prog_4_method_8_code
def yX2_isBetween : MethodName := ⟨RX2, "isBetween", "(II)Z"⟩
abbrev cX2_placeWard : ByteArray := prog_4_method_9_code
def yX2_placeWard : MethodName := ⟨RX2, "placeWard", "(I)Z"⟩
abbrev cX2_swingBy : ByteArray := prog_4_method_10_code
def yX2_swingBy : MethodName := ⟨RX2, "swingBy", "(I)Z"⟩
abbrev cX2_settle : ByteArray := prog_4_method_11_code
def yX2_settle : MethodName := ⟨RX2, "settle", "()V"⟩
abbrev cX2_wayIn : ByteArray := prog_4_method_12_code
def yX2_wayIn : MethodName := ⟨RX2, "wayIn", "(I)I"⟩
abbrev cX2_wayAt : ByteArray := prog_4_method_13_code
def yX2_wayAt : MethodName := ⟨RX2, "wayAt", "(I)I"⟩
abbrev cX2_letBy : ByteArray := prog_4_method_14_code
def yX2_letBy : MethodName := ⟨RX2, "letBy", "(IZI)I"⟩
def RX3 : String := "CaveBreath$Reader"
def TX3 : u_T := fun k => match k with
  | 0 => ("CaveBreath$Reader", "numbers", "[I", true)
  | 1 => ("CaveBreath$Reader", "bytes", "[B", false)
  | 2 => ("CaveBreath$Reader", "end", "I", false)
  | _ => ("CaveBreath$Reader", "at", "I", false)
def tyX3 : Nat → FieldType := fun k => match k with
  | 0 => .array .int
  | 1 => .array .byte
  | 2 => .int
  | _ => .int
abbrev wsX30 : List Cond := u_ws RX3 TX3 4
theorem nmX3 : ∀ a, a < 4 → ∀ b, b < 4 → a ≠ b → (TX3 a).2.1 ≠ (TX3 b).2.1 := by decide +kernel
theorem tyX3_ok : ∀ k, k < 4 → parseFieldDescriptor (TX3 k).2.2.1 = some (tyX3 k) := by decide +kernel
abbrev cX3_init : ByteArray := prog_5_method_1_code
def yX3_init : MethodName := ⟨RX3, "<init>", "()V"⟩
abbrev cX3_firstFault : ByteArray := prog_5_method_2_code
def yX3_firstFault : MethodName := ⟨RX3, "firstFault", "([BILCaveBreath$Plan;)I"⟩
abbrev cX3_numbersBehind : ByteArray := prog_5_method_3_code
def yX3_numbersBehind : MethodName := ⟨RX3, "numbersBehind", "(I)I"⟩
abbrev cX3_nextByte : ByteArray := prog_5_method_4_code
def yX3_nextByte : MethodName := ⟨RX3, "nextByte", "()I"⟩
abbrev cX3_readNumbers : ByteArray := prog_5_method_5_code
def yX3_readNumbers : MethodName := ⟨RX3, "readNumbers", "(I)Z"⟩
abbrev cX3_readNumber : ByteArray := prog_5_method_6_code
def yX3_readNumber : MethodName := ⟨RX3, "readNumber", "(II)Z"⟩
abbrev cX3_isFigure : ByteArray := prog_5_method_7_code
def yX3_isFigure : MethodName := ⟨RX3, "isFigure", "(I)Z"⟩
def RX4 : String := "CaveBreath$State"
def TX4 : u_T := fun k => match k with
  | 0 => ("CaveBreath$State", "open", "I", false)
  | 1 => ("CaveBreath$State", "flooded", "I", false)
  | 2 => ("CaveBreath$State", "hour", "I", false)
  | 3 => ("CaveBreath$State", "smoke", "[I", true)
  | _ => ("CaveBreath$State", "more", "[I", true)
def tyX4 : Nat → FieldType := fun k => match k with
  | 0 => .int
  | 1 => .int
  | 2 => .int
  | 3 => .array .int
  | _ => .array .int
abbrev wsX40 : List Cond := u_ws RX4 TX4 5
theorem nmX4 : ∀ a, a < 5 → ∀ b, b < 5 → a ≠ b → (TX4 a).2.1 ≠ (TX4 b).2.1 := by decide +kernel
theorem tyX4_ok : ∀ k, k < 5 → parseFieldDescriptor (TX4 k).2.2.1 = some (tyX4 k) := by decide +kernel
abbrev cX4_init : ByteArray := prog_6_method_1_code
def yX4_init : MethodName := ⟨RX4, "<init>", "()V"⟩
abbrev cX4_begin : ByteArray := prog_6_method_2_code
def yX4_begin : MethodName := ⟨RX4, "begin", "(I)V"⟩
abbrev cX4_copyFrom : ByteArray := prog_6_method_3_code
def yX4_copyFrom : MethodName := ⟨RX4, "copyFrom", "(LCaveBreath$State;)V"⟩
abbrev cX4_passHour : ByteArray := prog_6_method_4_code
def yX4_passHour : MethodName := ⟨RX4, "passHour", "(LCaveBreath$Plan;LCaveBreath$Breath;)V"⟩
abbrev cX4_carriedBy : ByteArray := prog_6_method_5_code
def yX4_carriedBy : MethodName := ⟨RX4, "carriedBy", "(III)I"⟩
abbrev cX4_smokeInHalls : ByteArray := prog_6_method_6_code
def yX4_smokeInHalls : MethodName := ⟨RX4, "smokeInHalls", "(I)I"⟩
def RX5 : String := "CaveBreath$Wind"
def TX5 : u_T := fun k => match k with
  | 0 => ("CaveBreath$Wind", "from", "[I", true)
  | 1 => ("CaveBreath$Wind", "to", "[I", true)
  | 2 => ("CaveBreath$Wind", "placeAt", "[I", true)
  | 3 => ("CaveBreath$Wind", "places", "I", false)
  | 4 => ("CaveBreath$Wind", "doorAt", "[I", true)
  | 5 => ("CaveBreath$Wind", "endAt", "[I", true)
  | _ => ("CaveBreath$Wind", "doors", "I", false)
def tyX5 : Nat → FieldType := fun k => match k with
  | 0 => .array .int
  | 1 => .array .int
  | 2 => .array .int
  | 3 => .int
  | 4 => .array .int
  | 5 => .array .int
  | _ => .int
abbrev wsX50 : List Cond := u_ws RX5 TX5 7
theorem nmX5 : ∀ a, a < 7 → ∀ b, b < 7 → a ≠ b → (TX5 a).2.1 ≠ (TX5 b).2.1 := by decide +kernel
theorem tyX5_ok : ∀ k, k < 7 → parseFieldDescriptor (TX5 k).2.2.1 = some (tyX5 k) := by decide +kernel
abbrev cX5_init : ByteArray := prog_7_method_1_code
def yX5_init : MethodName := ⟨RX5, "<init>", "()V"⟩
abbrev cX5_follow : ByteArray := prog_7_method_2_code
def yX5_follow : MethodName := ⟨RX5, "follow", "(LCaveBreath$Plan;Z)V"⟩
abbrev cX5_leadInside : ByteArray := prog_7_method_3_code
def yX5_leadInside : MethodName := ⟨RX5, "leadInside", "(LCaveBreath$Plan;IZ)V"⟩
abbrev cX5_leadOutside : ByteArray := prog_7_method_4_code
def yX5_leadOutside : MethodName := ⟨RX5, "leadOutside", "(LCaveBreath$Plan;IZ)V"⟩
abbrev cX5_orderPlaces : ByteArray := prog_7_method_5_code
def yX5_orderPlaces : MethodName := ⟨RX5, "orderPlaces", "(LCaveBreath$Plan;Z)V"⟩
abbrev cX5_isLater : ByteArray := prog_7_method_6_code
def yX5_isLater : MethodName := ⟨RX5, "isLater", "(LCaveBreath$Plan;IIZ)Z"⟩
abbrev cX5_orderDoors : ByteArray := prog_7_method_7_code
def yX5_orderDoors : MethodName := ⟨RX5, "orderDoors", "()V"⟩
def RX6 : String := "CaveBreath"
def TX6 : u_T := fun k => match k with
  | 0 => ("CaveBreath", "text", "[B", true)
  | 1 => ("CaveBreath", "length", "I", false)
  | 2 => ("CaveBreath", "reader", "LCaveBreath$Reader;", true)
  | 3 => ("CaveBreath", "plan", "LCaveBreath$Plan;", false)
  | 4 => ("CaveBreath", "draft", "LCaveBreath$Plan;", false)
  | 5 => ("CaveBreath", "now", "LCaveBreath$State;", true)
  | 6 => ("CaveBreath", "keptFirst", "LCaveBreath$State;", true)
  | 7 => ("CaveBreath", "keptSecond", "LCaveBreath$State;", true)
  | 8 => ("CaveBreath", "kept", "I", false)
  | 9 => ("CaveBreath", "noses", "LCaveBreath$Noses;", true)
  | _ => ("CaveBreath", "breath", "LCaveBreath$Breath;", true)
def tyX6 : Nat → FieldType := fun k => match k with
  | 0 => .array .byte
  | 1 => .int
  | 2 => .object "CaveBreath$Reader"
  | 3 => .object "CaveBreath$Plan"
  | 4 => .object "CaveBreath$Plan"
  | 5 => .object "CaveBreath$State"
  | 6 => .object "CaveBreath$State"
  | 7 => .object "CaveBreath$State"
  | 8 => .int
  | 9 => .object "CaveBreath$Noses"
  | _ => .object "CaveBreath$Breath"
abbrev wsX60 : List Cond := u_ws RX6 TX6 11
theorem nmX6 : ∀ a, a < 11 → ∀ b, b < 11 → a ≠ b → (TX6 a).2.1 ≠ (TX6 b).2.1 := by decide +kernel
theorem tyX6_ok : ∀ k, k < 11 → parseFieldDescriptor (TX6 k).2.2.1 = some (tyX6 k) := by decide +kernel
abbrev cX6_init : ByteArray := prog_1_method_1_code
def yX6_init : MethodName := ⟨RX6, "<init>", "()V"⟩
abbrev cX6_write : ByteArray := prog_1_method_2_code
def yX6_write : MethodName := ⟨RX6, "write", "(IJ)I"⟩
abbrev cX6_wipe : ByteArray := prog_1_method_3_code
def yX6_wipe : MethodName := ⟨RX6, "wipe", "()I"⟩
abbrev cX6_fault : ByteArray := prog_1_method_4_code
def yX6_fault : MethodName := ⟨RX6, "fault", "()I"⟩
abbrev cX6_lay : ByteArray := prog_1_method_5_code
def yX6_lay : MethodName := ⟨RX6, "lay", "()I"⟩
abbrev cX6_hall : ByteArray := prog_1_method_6_code
def yX6_hall : MethodName := ⟨RX6, "hall", "(II)I"⟩
abbrev cX6_door : ByteArray := prog_1_method_7_code
def yX6_door : MethodName := ⟨RX6, "door", "(II)I"⟩
abbrev cX6_set : ByteArray := prog_1_method_8_code
def yX6_set : MethodName := ⟨RX6, "set", "(IZ)I"⟩
abbrev cX6_flood : ByteArray := prog_1_method_9_code
def yX6_flood : MethodName := ⟨RX6, "flood", "(IZ)I"⟩
abbrev cX6_goes : ByteArray := prog_1_method_10_code
def yX6_goes : MethodName := ⟨RX6, "goes", "(I)I"⟩
abbrev cX6_air : ByteArray := prog_1_method_11_code
def yX6_air : MethodName := ⟨RX6, "air", "(II)I"⟩
abbrev cX6_through : ByteArray := prog_1_method_12_code
def yX6_through : MethodName := ⟨RX6, "through", "(II)I"⟩
abbrev cX6_downwind : ByteArray := prog_1_method_13_code
def yX6_downwind : MethodName := ⟨RX6, "downwind", "(II)I"⟩
abbrev cX6_hours : ByteArray := prog_1_method_14_code
def yX6_hours : MethodName := ⟨RX6, "hours", "(I)I"⟩
abbrev cX6_clean : ByteArray := prog_1_method_15_code
def yX6_clean : MethodName := ⟨RX6, "clean", "(I)I"⟩
abbrev cX6_settings : ByteArray := prog_1_method_16_code
def yX6_settings : MethodName := ⟨RX6, "settings", "(I)I"⟩
abbrev cX6_first : ByteArray := prog_1_method_17_code
def yX6_first : MethodName := ⟨RX6, "first", "(III)I"⟩
abbrev cX6_smelled : ByteArray := prog_1_method_18_code
def yX6_smelled : MethodName := ⟨RX6, "smelled", "(IIZ)I"⟩
abbrev cX6_forget : ByteArray := prog_1_method_19_code
def yX6_forget : MethodName := ⟨RX6, "forget", "()I"⟩
abbrev cX6_burns : ByteArray := prog_1_method_20_code
def yX6_burns : MethodName := ⟨RX6, "burns", "()I"⟩
abbrev cX6_shaft : ByteArray := prog_1_method_21_code
def yX6_shaft : MethodName := ⟨RX6, "shaft", "(I)I"⟩
abbrev cX6_lamps : ByteArray := prog_1_method_22_code
def yX6_lamps : MethodName := ⟨RX6, "lamps", "(I)I"⟩
abbrev cX6_weather : ByteArray := prog_1_method_23_code
def yX6_weather : MethodName := ⟨RX6, "weather", "(II)I"⟩
abbrev cX6_keep : ByteArray := prog_1_method_24_code
def yX6_keep : MethodName := ⟨RX6, "keep", "()I"⟩
abbrev cX6_back : ByteArray := prog_1_method_25_code
def yX6_back : MethodName := ⟨RX6, "back", "()I"⟩
abbrev cX6_count : ByteArray := prog_1_method_26_code
def yX6_count : MethodName := ⟨RX6, "count", "(I)I"⟩
abbrev cX6_isHall : ByteArray := prog_1_method_27_code
def yX6_isHall : MethodName := ⟨RX6, "isHall", "(I)Z"⟩
abbrev cX6_isDoor : ByteArray := prog_1_method_28_code
def yX6_isDoor : MethodName := ⟨RX6, "isDoor", "(I)Z"⟩
abbrev cX6_isHour : ByteArray := prog_1_method_29_code
def yX6_isHour : MethodName := ⟨RX6, "isHour", "(I)Z"⟩
abbrev cX6_isEither : ByteArray := prog_1_method_30_code
def yX6_isEither : MethodName := ⟨RX6, "isEither", "(I)Z"⟩
abbrev cX6_bitOf : ByteArray := prog_1_method_31_code
def yX6_bitOf : MethodName := ⟨RX6, "bitOf", "(II)I"⟩
abbrev cX6_withBit : ByteArray := prog_1_method_32_code
def yX6_withBit : MethodName := ⟨RX6, "withBit", "(IIZ)I"⟩
abbrev cX6_keptAt : ByteArray := prog_1_method_33_code
def yX6_keptAt : MethodName := ⟨RX6, "keptAt", "(I)LCaveBreath$State;"⟩
abbrev cX6_blowNow : ByteArray := prog_1_method_34_code
def yX6_blowNow : MethodName := ⟨RX6, "blowNow", "(I)V"⟩
abbrev cX6_wardAir : ByteArray := prog_1_method_35_code
def yX6_wardAir : MethodName := ⟨RX6, "wardAir", "(III)I"⟩
abbrev cX6_isWardDownwindOfSmoke : ByteArray := prog_1_method_36_code
def yX6_isWardDownwindOfSmoke : MethodName := ⟨RX6, "isWardDownwindOfSmoke", "()Z"⟩
abbrev cX6_isWardFoul : ByteArray := prog_1_method_37_code
def yX6_isWardFoul : MethodName := ⟨RX6, "isWardFoul", "(I)Z"⟩
abbrev cX6_isClean : ByteArray := prog_1_method_38_code
def yX6_isClean : MethodName := ⟨RX6, "isClean", "(I)Z"⟩
abbrev cX6_isCleanBy : ByteArray := prog_1_method_39_code
def yX6_isCleanBy : MethodName := ⟨RX6, "isCleanBy", "(II)Z"⟩
abbrev cX6_howManyClean : ByteArray := prog_1_method_40_code
def yX6_howManyClean : MethodName := ⟨RX6, "howManyClean", "()I"⟩
abbrev cX6_nearestClean : ByteArray := prog_1_method_41_code
def yX6_nearestClean : MethodName := ⟨RX6, "nearestClean", "()I"⟩
abbrev cX6_leastAir : ByteArray := prog_1_method_42_code
def yX6_leastAir : MethodName := ⟨RX6, "leastAir", "(LCaveBreath$Plan;II)I"⟩
abbrev cX6_wardAirWithShaft : ByteArray := prog_1_method_43_code
def yX6_wardAirWithShaft : MethodName := ⟨RX6, "wardAirWithShaft", "(I)I"⟩
abbrev cX6_warmerBy : ByteArray := prog_1_method_44_code
def yX6_warmerBy : MethodName := ⟨RX6, "warmerBy", "(II)I"⟩
def RX7 : String := "CaveBreathModel"
def TX7 : u_T := fun k => match k with
  | 0 => ("CaveBreathModel", "bytes", "I", false)
  | 1 => ("CaveBreathModel", "text", "[I", true)
  | 2 => ("CaveBreathModel", "position", "I", false)
  | 3 => ("CaveBreathModel", "number", "I", false)
  | 4 => ("CaveBreathModel", "readHalls", "I", false)
  | 5 => ("CaveBreathModel", "readDoors", "I", false)
  | 6 => ("CaveBreathModel", "readHall", "[I", true)
  | 7 => ("CaveBreathModel", "readDoor", "[I", true)
  | 8 => ("CaveBreathModel", "readSet", "[I", true)
  | 9 => ("CaveBreathModel", "halls", "I", false)
  | 10 => ("CaveBreathModel", "doors", "I", false)
  | 11 => ("CaveBreathModel", "hall", "[I", true)
  | 12 => ("CaveBreathModel", "door", "[I", true)
  | 13 => ("CaveBreathModel", "set", "[I", true)
  | 14 => ("CaveBreathModel", "open", "I", false)
  | 15 => ("CaveBreathModel", "flooded", "I", false)
  | 16 => ("CaveBreathModel", "smoke", "[I", true)
  | 17 => ("CaveBreathModel", "outside", "I", false)
  | 18 => ("CaveBreathModel", "hour", "I", false)
  | 19 => ("CaveBreathModel", "kept", "I", false)
  | 20 => ("CaveBreathModel", "image", "[I", true)
  | 21 => ("CaveBreathModel", "smells", "I", false)
  | 22 => ("CaveBreathModel", "smell", "[I", true)
  | 23 => ("CaveBreathModel", "way", "I", false)
  | 24 => ("CaveBreathModel", "doorsNow", "I", false)
  | 25 => ("CaveBreathModel", "openNow", "I", false)
  | 26 => ("CaveBreathModel", "floodedNow", "I", false)
  | 27 => ("CaveBreathModel", "air", "[I", true)
  | 28 => ("CaveBreathModel", "through", "[I", true)
  | 29 => ("CaveBreathModel", "lets", "[I", true)
  | 30 => ("CaveBreathModel", "from", "[I", true)
  | 31 => ("CaveBreathModel", "to", "[I", true)
  | _ => ("CaveBreathModel", "then", "[I", true)
def tyX7 : Nat → FieldType := fun k => match k with
  | 0 => .int
  | 1 => .array .int
  | 2 => .int
  | 3 => .int
  | 4 => .int
  | 5 => .int
  | 6 => .array .int
  | 7 => .array .int
  | 8 => .array .int
  | 9 => .int
  | 10 => .int
  | 11 => .array .int
  | 12 => .array .int
  | 13 => .array .int
  | 14 => .int
  | 15 => .int
  | 16 => .array .int
  | 17 => .int
  | 18 => .int
  | 19 => .int
  | 20 => .array .int
  | 21 => .int
  | 22 => .array .int
  | 23 => .int
  | 24 => .int
  | 25 => .int
  | 26 => .int
  | 27 => .array .int
  | 28 => .array .int
  | 29 => .array .int
  | 30 => .array .int
  | 31 => .array .int
  | _ => .array .int
abbrev wsX70 : List Cond := u_ws RX7 TX7 33
theorem nmX7 : ∀ a, a < 33 → ∀ b, b < 33 → a ≠ b → (TX7 a).2.1 ≠ (TX7 b).2.1 := by decide +kernel
theorem tyX7_ok : ∀ k, k < 33 → parseFieldDescriptor (TX7 k).2.2.1 = some (tyX7 k) := by decide +kernel
abbrev cX7_init : ByteArray := prog_9_method_1_code
def yX7_init : MethodName := ⟨RX7, "<init>", "()V"⟩
abbrev cX7_in : ByteArray := prog_9_method_2_code
def yX7_in : MethodName := ⟨RX7, "in", "(III)Z"⟩
abbrev cX7_has : ByteArray := prog_9_method_3_code
def yX7_has : MethodName := ⟨RX7, "has", "(II)Z"⟩
abbrev cX7_standard : ByteArray := prog_9_method_4_code
def yX7_standard : MethodName := ⟨RX7, "standard", "([I)V"⟩
abbrev cX7_write : ByteArray := prog_9_method_5_code
def yX7_write : MethodName := ⟨RX7, "write", "(IJ)I"⟩
abbrev cX7_wipe : ByteArray := prog_9_method_6_code
def yX7_wipe : MethodName := ⟨RX7, "wipe", "()I"⟩
abbrev cX7_here : ByteArray := prog_9_method_7_code
def yX7_here : MethodName := ⟨RX7, "here", "()I"⟩
abbrev cX7_isNumber : ByteArray := prog_9_method_8_code
def yX7_isNumber : MethodName := ⟨RX7, "isNumber", "(III)Z"⟩
abbrev cX7_isHallItem : ByteArray := prog_9_method_9_code
def yX7_isHallItem : MethodName := ⟨RX7, "isHallItem", "()Z"⟩
abbrev cX7_isDoorItem : ByteArray := prog_9_method_10_code
def yX7_isDoorItem : MethodName := ⟨RX7, "isDoorItem", "(Z)Z"⟩
abbrev cX7_isSet : ByteArray := prog_9_method_11_code
def yX7_isSet : MethodName := ⟨RX7, "isSet", "(II)Z"⟩
abbrev cX7_isWarm : ByteArray := prog_9_method_12_code
def yX7_isWarm : MethodName := ⟨RX7, "isWarm", "()Z"⟩
abbrev cX7_isItem : ByteArray := prog_9_method_13_code
def yX7_isItem : MethodName := ⟨RX7, "isItem", "()Z"⟩
abbrev cX7_readAll : ByteArray := prog_9_method_14_code
def yX7_readAll : MethodName := ⟨RX7, "readAll", "()I"⟩
abbrev cX7_fault : ByteArray := prog_9_method_15_code
def yX7_fault : MethodName := ⟨RX7, "fault", "()I"⟩
abbrev cX7_lay : ByteArray := prog_9_method_16_code
def yX7_lay : MethodName := ⟨RX7, "lay", "()I"⟩
abbrev cX7_isHall : ByteArray := prog_9_method_17_code
def yX7_isHall : MethodName := ⟨RX7, "isHall", "(I)Z"⟩
abbrev cX7_isDoor : ByteArray := prog_9_method_18_code
def yX7_isDoor : MethodName := ⟨RX7, "isDoor", "(I)Z"⟩
abbrev cX7_hall : ByteArray := prog_9_method_19_code
def yX7_hall : MethodName := ⟨RX7, "hall", "(II)I"⟩
abbrev cX7_door : ByteArray := prog_9_method_20_code
def yX7_door : MethodName := ⟨RX7, "door", "(II)I"⟩
abbrev cX7_set : ByteArray := prog_9_method_21_code
def yX7_set : MethodName := ⟨RX7, "set", "(IZ)I"⟩
abbrev cX7_flood : ByteArray := prog_9_method_22_code
def yX7_flood : MethodName := ⟨RX7, "flood", "(IZ)I"⟩
abbrev cX7_goesBy : ByteArray := prog_9_method_23_code
def yX7_goesBy : MethodName := ⟨RX7, "goesBy", "(II)I"⟩
abbrev cX7_isHour : ByteArray := prog_9_method_24_code
def yX7_isHour : MethodName := ⟨RX7, "isHour", "(I)Z"⟩
abbrev cX7_goes : ByteArray := prog_9_method_25_code
def yX7_goes : MethodName := ⟨RX7, "goes", "(I)I"⟩
abbrev cX7_layDoor : ByteArray := prog_9_method_26_code
def yX7_layDoor : MethodName := ⟨RX7, "layDoor", "(I)V"⟩
abbrev cX7_breathers : ByteArray := prog_9_method_27_code
def yX7_breathers : MethodName := ⟨RX7, "breathers", "()I"⟩
abbrev cX7_giveOut : ByteArray := prog_9_method_28_code
def yX7_giveOut : MethodName := ⟨RX7, "giveOut", "(II)V"⟩
abbrev cX7_leadsOn : ByteArray := prog_9_method_29_code
def yX7_leadsOn : MethodName := ⟨RX7, "leadsOn", "(III)Z"⟩
abbrev cX7_layAir : ByteArray := prog_9_method_30_code
def yX7_layAir : MethodName := ⟨RX7, "layAir", "(III)V"⟩
abbrev cX7_layNow : ByteArray := prog_9_method_31_code
def yX7_layNow : MethodName := ⟨RX7, "layNow", "(I)V"⟩
abbrev cX7_keepIns : ByteArray := prog_9_method_32_code
def yX7_keepIns : MethodName := ⟨RX7, "keepIns", "(I)V"⟩
abbrev cX7_air : ByteArray := prog_9_method_33_code
def yX7_air : MethodName := ⟨RX7, "air", "(II)I"⟩
abbrev cX7_through : ByteArray := prog_9_method_34_code
def yX7_through : MethodName := ⟨RX7, "through", "(II)I"⟩
abbrev cX7_downwindOf : ByteArray := prog_9_method_35_code
def yX7_downwindOf : MethodName := ⟨RX7, "downwindOf", "(I)I"⟩
abbrev cX7_downwind : ByteArray := prog_9_method_36_code
def yX7_downwind : MethodName := ⟨RX7, "downwind", "(II)I"⟩
abbrev cX7_goHour : ByteArray := prog_9_method_37_code
def yX7_goHour : MethodName := ⟨RX7, "goHour", "()V"⟩
abbrev cX7_hours : ByteArray := prog_9_method_38_code
def yX7_hours : MethodName := ⟨RX7, "hours", "(I)I"⟩
abbrev cX7_isSick : ByteArray := prog_9_method_39_code
def yX7_isSick : MethodName := ⟨RX7, "isSick", "()Z"⟩
abbrev cX7_isClean : ByteArray := prog_9_method_40_code
def yX7_isClean : MethodName := ⟨RX7, "isClean", "(I)Z"⟩
abbrev cX7_clean : ByteArray := prog_9_method_41_code
def yX7_clean : MethodName := ⟨RX7, "clean", "(I)I"⟩
abbrev cX7_bits : ByteArray := prog_9_method_42_code
def yX7_bits : MethodName := ⟨RX7, "bits", "(I)I"⟩
abbrev cX7_settings : ByteArray := prog_9_method_43_code
def yX7_settings : MethodName := ⟨RX7, "settings", "(I)I"⟩
abbrev cX7_first : ByteArray := prog_9_method_44_code
def yX7_first : MethodName := ⟨RX7, "first", "(III)I"⟩
abbrev cX7_smelled : ByteArray := prog_9_method_45_code
def yX7_smelled : MethodName := ⟨RX7, "smelled", "(IIZ)I"⟩
abbrev cX7_forget : ByteArray := prog_9_method_46_code
def yX7_forget : MethodName := ⟨RX7, "forget", "()I"⟩
abbrev cX7_burns : ByteArray := prog_9_method_47_code
def yX7_burns : MethodName := ⟨RX7, "burns", "()I"⟩
abbrev cX7_leastAir : ByteArray := prog_9_method_48_code
def yX7_leastAir : MethodName := ⟨RX7, "leastAir", "(II)I"⟩
abbrev cX7_shaft : ByteArray := prog_9_method_49_code
def yX7_shaft : MethodName := ⟨RX7, "shaft", "(I)I"⟩
abbrev cX7_lamps : ByteArray := prog_9_method_50_code
def yX7_lamps : MethodName := ⟨RX7, "lamps", "(I)I"⟩
abbrev cX7_weather : ByteArray := prog_9_method_51_code
def yX7_weather : MethodName := ⟨RX7, "weather", "(II)I"⟩
abbrev cX7_keep : ByteArray := prog_9_method_52_code
def yX7_keep : MethodName := ⟨RX7, "keep", "()I"⟩
abbrev cX7_back : ByteArray := prog_9_method_53_code
def yX7_back : MethodName := ⟨RX7, "back", "()I"⟩
abbrev cX7_count : ByteArray := prog_9_method_54_code
def yX7_count : MethodName := ⟨RX7, "count", "(I)I"⟩
def RJ6 : String := "java/lang/Integer"
def TJ6 : u_T := fun k => match k with
  | _ => ("", "", "", false)
def tyJ6 : Nat → FieldType := fun k => match k with
  | _ => .int
abbrev wsJ60 : List Cond := u_ws RJ6 TJ6 0
theorem nmJ6 : ∀ a, a < 0 → ∀ b, b < 0 → a ≠ b → (TJ6 a).2.1 ≠ (TJ6 b).2.1 := by decide +kernel
theorem tyJ6_ok : ∀ k, k < 0 → parseFieldDescriptor (TJ6 k).2.2.1 = some (tyJ6 k) := by decide +kernel
abbrev cJ6_bitCount_0f7a4 : ByteArray := prog_10_method_49_code
def yJ6_bitCount_0f7a4 : MethodName := ⟨RJ6, "bitCount", "(I)I"⟩
def RJ9 : String := "java/lang/Math"
def TJ9 : u_T := fun k => match k with
  | _ => ("", "", "", false)
def tyJ9 : Nat → FieldType := fun k => match k with
  | _ => .int
abbrev wsJ90 : List Cond := u_ws RJ9 TJ9 0
theorem nmJ9 : ∀ a, a < 0 → ∀ b, b < 0 → a ≠ b → (TJ9 a).2.1 ≠ (TJ9 b).2.1 := by decide +kernel
theorem tyJ9_ok : ∀ k, k < 0 → parseFieldDescriptor (TJ9 k).2.2.1 = some (tyJ9 k) := by decide +kernel
abbrev cJ9_min_7cf53 : ByteArray := prog_11_method_69_code
def yJ9_min_7cf53 : MethodName := ⟨RJ9, "min", "(II)I"⟩
def RJ10 : String := "java/lang/System"
def TJ10 : u_T := fun k => match k with
  | _ => ("", "", "", false)
def tyJ10 : Nat → FieldType := fun k => match k with
  | _ => .int
abbrev wsJ100 : List Cond := u_ws RJ10 TJ10 0
theorem nmJ10 : ∀ a, a < 0 → ∀ b, b < 0 → a ≠ b → (TJ10 a).2.1 ≠ (TJ10 b).2.1 := by decide +kernel
theorem tyJ10_ok : ∀ k, k < 0 → parseFieldDescriptor (TJ10 k).2.2.1 = some (tyJ10 k) := by decide +kernel
def RJ7 : String := "java/util/Arrays"
def TJ7 : u_T := fun k => match k with
  | _ => ("", "", "", false)
def tyJ7 : Nat → FieldType := fun k => match k with
  | _ => .int
abbrev wsJ70 : List Cond := u_ws RJ7 TJ7 0
theorem nmJ7 : ∀ a, a < 0 → ∀ b, b < 0 → a ≠ b → (TJ7 a).2.1 ≠ (TJ7 b).2.1 := by decide +kernel
theorem tyJ7_ok : ∀ k, k < 0 → parseFieldDescriptor (TJ7 k).2.2.1 = some (tyJ7 k) := by decide +kernel
abbrev cJ7_fill_53178 : ByteArray := prog_13_method_103_code
def yJ7_fill_53178 : MethodName := ⟨RJ7, "fill", "([II)V"⟩
def RL : String := "CaveBreathLaw"
abbrev cL_law : ByteArray := code
def yL_law : MethodName := ⟨RL, "law", "([I)Z"⟩
theorem dX0_init_0 : decode cX0_init 0 = .ok (.aload_n 0, 1) := by decide +kernel
theorem dX0_init_1 : decode cX0_init 1 = .ok (.invokespecial 3, 3) := by decide +kernel
theorem dX0_init_4 : decode cX0_init 4 = .ok (.aload_n 0, 1) := by decide +kernel
theorem dX0_init_5 : decode cX0_init 5 = .ok (.bipush 9, 2) := by decide +kernel
theorem dX0_init_7 : decode cX0_init 7 = .ok (.newarray .int, 2) := by decide +kernel
theorem dX0_init_9 : decode cX0_init 9 = .ok (.putfield 9, 3) := by decide +kernel
theorem dX0_init_12 : decode cX0_init 12 = .ok (.aload_n 0, 1) := by decide +kernel
theorem dX0_init_13 : decode cX0_init 13 = .ok (.bipush 10, 2) := by decide +kernel
theorem dX0_init_15 : decode cX0_init 15 = .ok (.newarray .int, 2) := by decide +kernel
theorem dX0_init_17 : decode cX0_init 17 = .ok (.putfield 15, 3) := by decide +kernel
theorem dX0_init_20 : decode cX0_init 20 = .ok (.aload_n 0, 1) := by decide +kernel
theorem dX0_init_21 : decode cX0_init 21 = .ok (.bipush 10, 2) := by decide +kernel
theorem dX0_init_23 : decode cX0_init 23 = .ok (.newarray .int, 2) := by decide +kernel
theorem dX0_init_25 : decode cX0_init 25 = .ok (.putfield 18, 3) := by decide +kernel
theorem dX0_init_28 : decode cX0_init 28 = .ok (.aload_n 0, 1) := by decide +kernel
theorem dX0_init_29 : decode cX0_init 29 = .ok (.bipush 9, 2) := by decide +kernel
theorem dX0_init_31 : decode cX0_init 31 = .ok (.newarray .int, 2) := by decide +kernel
theorem dX0_init_33 : decode cX0_init 33 = .ok (.putfield 21, 3) := by decide +kernel
theorem dX0_init_36 : decode cX0_init 36 = .ok (.aload_n 0, 1) := by decide +kernel
theorem dX0_init_37 : decode cX0_init 37 = .ok (.new 24, 3) := by decide +kernel
theorem dX0_init_40 : decode cX0_init 40 = .ok (.dup, 1) := by decide +kernel
theorem dX0_init_41 : decode cX0_init 41 = .ok (.invokespecial 26, 3) := by decide +kernel
theorem dX0_init_44 : decode cX0_init 44 = .ok (.putfield 27, 3) := by decide +kernel
theorem dX0_init_47 : decode cX0_init 47 = .ok (.return_, 1) := by decide +kernel
theorem dX1_init_0 : decode cX1_init 0 = .ok (.aload_n 0, 1) := by decide +kernel
theorem dX1_init_1 : decode cX1_init 1 = .ok (.invokespecial 3, 3) := by decide +kernel
theorem dX1_init_4 : decode cX1_init 4 = .ok (.aload_n 0, 1) := by decide +kernel
theorem dX1_init_5 : decode cX1_init 5 = .ok (.bipush 10, 2) := by decide +kernel
theorem dX1_init_7 : decode cX1_init 7 = .ok (.newarray .int, 2) := by decide +kernel
theorem dX1_init_9 : decode cX1_init 9 = .ok (.putfield 9, 3) := by decide +kernel
theorem dX1_init_12 : decode cX1_init 12 = .ok (.aload_n 0, 1) := by decide +kernel
theorem dX1_init_13 : decode cX1_init 13 = .ok (.bipush 10, 2) := by decide +kernel
theorem dX1_init_15 : decode cX1_init 15 = .ok (.newarray .int, 2) := by decide +kernel
theorem dX1_init_17 : decode cX1_init 17 = .ok (.putfield 15, 3) := by decide +kernel
theorem dX1_init_20 : decode cX1_init 20 = .ok (.aload_n 0, 1) := by decide +kernel
theorem dX1_init_21 : decode cX1_init 21 = .ok (.bipush 10, 2) := by decide +kernel
theorem dX1_init_23 : decode cX1_init 23 = .ok (.newarray .int, 2) := by decide +kernel
theorem dX1_init_25 : decode cX1_init 25 = .ok (.putfield 18, 3) := by decide +kernel
theorem dX1_init_28 : decode cX1_init 28 = .ok (.return_, 1) := by decide +kernel
theorem dX2_init_0 : decode cX2_init 0 = .ok (.aload_n 0, 1) := by decide +kernel
theorem dX2_init_1 : decode cX2_init 1 = .ok (.invokespecial 3, 3) := by decide +kernel
theorem dX2_init_4 : decode cX2_init 4 = .ok (.aload_n 0, 1) := by decide +kernel
theorem dX2_init_5 : decode cX2_init 5 = .ok (.bipush 8, 2) := by decide +kernel
theorem dX2_init_7 : decode cX2_init 7 = .ok (.newarray .int, 2) := by decide +kernel
theorem dX2_init_9 : decode cX2_init 9 = .ok (.putfield 9, 3) := by decide +kernel
theorem dX2_init_12 : decode cX2_init 12 = .ok (.aload_n 0, 1) := by decide +kernel
theorem dX2_init_13 : decode cX2_init 13 = .ok (.bipush 8, 2) := by decide +kernel
theorem dX2_init_15 : decode cX2_init 15 = .ok (.newarray .int, 2) := by decide +kernel
theorem dX2_init_17 : decode cX2_init 17 = .ok (.putfield 15, 3) := by decide +kernel
theorem dX2_init_20 : decode cX2_init 20 = .ok (.aload_n 0, 1) := by decide +kernel
theorem dX2_init_21 : decode cX2_init 21 = .ok (.bipush 8, 2) := by decide +kernel
theorem dX2_init_23 : decode cX2_init 23 = .ok (.newarray .int, 2) := by decide +kernel
theorem dX2_init_25 : decode cX2_init 25 = .ok (.putfield 18, 3) := by decide +kernel
theorem dX2_init_28 : decode cX2_init 28 = .ok (.aload_n 0, 1) := by decide +kernel
theorem dX2_init_29 : decode cX2_init 29 = .ok (.bipush 10, 2) := by decide +kernel
theorem dX2_init_31 : decode cX2_init 31 = .ok (.newarray .int, 2) := by decide +kernel
theorem dX2_init_33 : decode cX2_init 33 = .ok (.putfield 21, 3) := by decide +kernel
theorem dX2_init_36 : decode cX2_init 36 = .ok (.aload_n 0, 1) := by decide +kernel
theorem dX2_init_37 : decode cX2_init 37 = .ok (.bipush 10, 2) := by decide +kernel
theorem dX2_init_39 : decode cX2_init 39 = .ok (.newarray .int, 2) := by decide +kernel
theorem dX2_init_41 : decode cX2_init 41 = .ok (.putfield 24, 3) := by decide +kernel
theorem dX2_init_44 : decode cX2_init 44 = .ok (.aload_n 0, 1) := by decide +kernel
theorem dX2_init_45 : decode cX2_init 45 = .ok (.bipush 10, 2) := by decide +kernel
theorem dX2_init_47 : decode cX2_init 47 = .ok (.newarray .int, 2) := by decide +kernel
theorem dX2_init_49 : decode cX2_init 49 = .ok (.putfield 27, 3) := by decide +kernel
theorem dX2_init_52 : decode cX2_init 52 = .ok (.aload_n 0, 1) := by decide +kernel
theorem dX2_init_53 : decode cX2_init 53 = .ok (.bipush 10, 2) := by decide +kernel
theorem dX2_init_55 : decode cX2_init 55 = .ok (.newarray .int, 2) := by decide +kernel
theorem dX2_init_57 : decode cX2_init 57 = .ok (.putfield 30, 3) := by decide +kernel
theorem dX2_init_60 : decode cX2_init 60 = .ok (.aload_n 0, 1) := by decide +kernel
theorem dX2_init_61 : decode cX2_init 61 = .ok (.new 33, 3) := by decide +kernel
theorem dX2_init_64 : decode cX2_init 64 = .ok (.dup, 1) := by decide +kernel
theorem dX2_init_65 : decode cX2_init 65 = .ok (.invokespecial 35, 3) := by decide +kernel
theorem dX2_init_68 : decode cX2_init 68 = .ok (.putfield 36, 3) := by decide +kernel
theorem dX2_init_71 : decode cX2_init 71 = .ok (.aload_n 0, 1) := by decide +kernel
theorem dX2_init_72 : decode cX2_init 72 = .ok (.new 33, 3) := by decide +kernel
theorem dX2_init_75 : decode cX2_init 75 = .ok (.dup, 1) := by decide +kernel
theorem dX2_init_76 : decode cX2_init 76 = .ok (.invokespecial 35, 3) := by decide +kernel
theorem dX2_init_79 : decode cX2_init 79 = .ok (.putfield 40, 3) := by decide +kernel
theorem dX2_init_82 : decode cX2_init 82 = .ok (.return_, 1) := by decide +kernel
theorem dX3_init_0 : decode cX3_init 0 = .ok (.aload_n 0, 1) := by decide +kernel
theorem dX3_init_1 : decode cX3_init 1 = .ok (.invokespecial 3, 3) := by decide +kernel
theorem dX3_init_4 : decode cX3_init 4 = .ok (.aload_n 0, 1) := by decide +kernel
theorem dX3_init_5 : decode cX3_init 5 = .ok (.iconst 4, 1) := by decide +kernel
theorem dX3_init_6 : decode cX3_init 6 = .ok (.newarray .int, 2) := by decide +kernel
theorem dX3_init_8 : decode cX3_init 8 = .ok (.putfield 9, 3) := by decide +kernel
theorem dX3_init_11 : decode cX3_init 11 = .ok (.aload_n 0, 1) := by decide +kernel
theorem dX3_init_12 : decode cX3_init 12 = .ok (.iconst 0, 1) := by decide +kernel
theorem dX3_init_13 : decode cX3_init 13 = .ok (.newarray .byte, 2) := by decide +kernel
theorem dX3_init_15 : decode cX3_init 15 = .ok (.putfield 15, 3) := by decide +kernel
theorem dX3_init_18 : decode cX3_init 18 = .ok (.return_, 1) := by decide +kernel
theorem dX4_init_0 : decode cX4_init 0 = .ok (.aload_n 0, 1) := by decide +kernel
theorem dX4_init_1 : decode cX4_init 1 = .ok (.invokespecial 3, 3) := by decide +kernel
theorem dX4_init_4 : decode cX4_init 4 = .ok (.aload_n 0, 1) := by decide +kernel
theorem dX4_init_5 : decode cX4_init 5 = .ok (.bipush 9, 2) := by decide +kernel
theorem dX4_init_7 : decode cX4_init 7 = .ok (.newarray .int, 2) := by decide +kernel
theorem dX4_init_9 : decode cX4_init 9 = .ok (.putfield 9, 3) := by decide +kernel
theorem dX4_init_12 : decode cX4_init 12 = .ok (.aload_n 0, 1) := by decide +kernel
theorem dX4_init_13 : decode cX4_init 13 = .ok (.bipush 9, 2) := by decide +kernel
theorem dX4_init_15 : decode cX4_init 15 = .ok (.newarray .int, 2) := by decide +kernel
theorem dX4_init_17 : decode cX4_init 17 = .ok (.putfield 15, 3) := by decide +kernel
theorem dX4_init_20 : decode cX4_init 20 = .ok (.return_, 1) := by decide +kernel
theorem dX5_init_0 : decode cX5_init 0 = .ok (.aload_n 0, 1) := by decide +kernel
theorem dX5_init_1 : decode cX5_init 1 = .ok (.invokespecial 3, 3) := by decide +kernel
theorem dX5_init_4 : decode cX5_init 4 = .ok (.aload_n 0, 1) := by decide +kernel
theorem dX5_init_5 : decode cX5_init 5 = .ok (.bipush 10, 2) := by decide +kernel
theorem dX5_init_7 : decode cX5_init 7 = .ok (.newarray .int, 2) := by decide +kernel
theorem dX5_init_9 : decode cX5_init 9 = .ok (.putfield 9, 3) := by decide +kernel
theorem dX5_init_12 : decode cX5_init 12 = .ok (.aload_n 0, 1) := by decide +kernel
theorem dX5_init_13 : decode cX5_init 13 = .ok (.bipush 10, 2) := by decide +kernel
theorem dX5_init_15 : decode cX5_init 15 = .ok (.newarray .int, 2) := by decide +kernel
theorem dX5_init_17 : decode cX5_init 17 = .ok (.putfield 15, 3) := by decide +kernel
theorem dX5_init_20 : decode cX5_init 20 = .ok (.aload_n 0, 1) := by decide +kernel
theorem dX5_init_21 : decode cX5_init 21 = .ok (.bipush 9, 2) := by decide +kernel
theorem dX5_init_23 : decode cX5_init 23 = .ok (.newarray .int, 2) := by decide +kernel
theorem dX5_init_25 : decode cX5_init 25 = .ok (.putfield 18, 3) := by decide +kernel
theorem dX5_init_28 : decode cX5_init 28 = .ok (.aload_n 0, 1) := by decide +kernel
theorem dX5_init_29 : decode cX5_init 29 = .ok (.bipush 10, 2) := by decide +kernel
theorem dX5_init_31 : decode cX5_init 31 = .ok (.newarray .int, 2) := by decide +kernel
theorem dX5_init_33 : decode cX5_init 33 = .ok (.putfield 21, 3) := by decide +kernel
theorem dX5_init_36 : decode cX5_init 36 = .ok (.aload_n 0, 1) := by decide +kernel
theorem dX5_init_37 : decode cX5_init 37 = .ok (.bipush 9, 2) := by decide +kernel
theorem dX5_init_39 : decode cX5_init 39 = .ok (.newarray .int, 2) := by decide +kernel
theorem dX5_init_41 : decode cX5_init 41 = .ok (.putfield 24, 3) := by decide +kernel
theorem dX5_init_44 : decode cX5_init 44 = .ok (.return_, 1) := by decide +kernel
theorem dX6_init_0 : decode cX6_init 0 = .ok (.aload_n 0, 1) := by decide +kernel
theorem dX6_init_1 : decode cX6_init 1 = .ok (.invokespecial 3, 3) := by decide +kernel
theorem dX6_init_4 : decode cX6_init 4 = .ok (.aload_n 0, 1) := by decide +kernel
theorem dX6_init_5 : decode cX6_init 5 = .ok (.sipush 400, 3) := by decide +kernel
theorem dX6_init_8 : decode cX6_init 8 = .ok (.newarray .byte, 2) := by decide +kernel
theorem dX6_init_10 : decode cX6_init 10 = .ok (.putfield 9, 3) := by decide +kernel
theorem dX6_init_13 : decode cX6_init 13 = .ok (.aload_n 0, 1) := by decide +kernel
theorem dX6_init_14 : decode cX6_init 14 = .ok (.new 13, 3) := by decide +kernel
theorem dX6_init_17 : decode cX6_init 17 = .ok (.dup, 1) := by decide +kernel
theorem dX6_init_18 : decode cX6_init 18 = .ok (.invokespecial 15, 3) := by decide +kernel
theorem dX6_init_21 : decode cX6_init 21 = .ok (.putfield 16, 3) := by decide +kernel
theorem dX6_init_24 : decode cX6_init 24 = .ok (.aload_n 0, 1) := by decide +kernel
theorem dX6_init_25 : decode cX6_init 25 = .ok (.new 20, 3) := by decide +kernel
theorem dX6_init_28 : decode cX6_init 28 = .ok (.dup, 1) := by decide +kernel
theorem dX6_init_29 : decode cX6_init 29 = .ok (.invokespecial 22, 3) := by decide +kernel
theorem dX6_init_32 : decode cX6_init 32 = .ok (.putfield 23, 3) := by decide +kernel
theorem dX6_init_35 : decode cX6_init 35 = .ok (.aload_n 0, 1) := by decide +kernel
theorem dX6_init_36 : decode cX6_init 36 = .ok (.new 20, 3) := by decide +kernel
theorem dX6_init_39 : decode cX6_init 39 = .ok (.dup, 1) := by decide +kernel
theorem dX6_init_40 : decode cX6_init 40 = .ok (.invokespecial 22, 3) := by decide +kernel
theorem dX6_init_43 : decode cX6_init 43 = .ok (.putfield 27, 3) := by decide +kernel
theorem dX6_init_46 : decode cX6_init 46 = .ok (.aload_n 0, 1) := by decide +kernel
theorem dX6_init_47 : decode cX6_init 47 = .ok (.new 30, 3) := by decide +kernel
theorem dX6_init_50 : decode cX6_init 50 = .ok (.dup, 1) := by decide +kernel
theorem dX6_init_51 : decode cX6_init 51 = .ok (.invokespecial 32, 3) := by decide +kernel
theorem dX6_init_54 : decode cX6_init 54 = .ok (.putfield 33, 3) := by decide +kernel
theorem dX6_init_57 : decode cX6_init 57 = .ok (.aload_n 0, 1) := by decide +kernel
theorem dX6_init_58 : decode cX6_init 58 = .ok (.new 30, 3) := by decide +kernel
theorem dX6_init_61 : decode cX6_init 61 = .ok (.dup, 1) := by decide +kernel
theorem dX6_init_62 : decode cX6_init 62 = .ok (.invokespecial 32, 3) := by decide +kernel
theorem dX6_init_65 : decode cX6_init 65 = .ok (.putfield 37, 3) := by decide +kernel
theorem dX6_init_68 : decode cX6_init 68 = .ok (.aload_n 0, 1) := by decide +kernel
theorem dX6_init_69 : decode cX6_init 69 = .ok (.new 30, 3) := by decide +kernel
theorem dX6_init_72 : decode cX6_init 72 = .ok (.dup, 1) := by decide +kernel
theorem dX6_init_73 : decode cX6_init 73 = .ok (.invokespecial 32, 3) := by decide +kernel
theorem dX6_init_76 : decode cX6_init 76 = .ok (.putfield 40, 3) := by decide +kernel
theorem dX6_init_79 : decode cX6_init 79 = .ok (.aload_n 0, 1) := by decide +kernel
theorem dX6_init_80 : decode cX6_init 80 = .ok (.new 43, 3) := by decide +kernel
theorem dX6_init_83 : decode cX6_init 83 = .ok (.dup, 1) := by decide +kernel
theorem dX6_init_84 : decode cX6_init 84 = .ok (.invokespecial 45, 3) := by decide +kernel
theorem dX6_init_87 : decode cX6_init 87 = .ok (.putfield 46, 3) := by decide +kernel
theorem dX6_init_90 : decode cX6_init 90 = .ok (.aload_n 0, 1) := by decide +kernel
theorem dX6_init_91 : decode cX6_init 91 = .ok (.new 50, 3) := by decide +kernel
theorem dX6_init_94 : decode cX6_init 94 = .ok (.dup, 1) := by decide +kernel
theorem dX6_init_95 : decode cX6_init 95 = .ok (.invokespecial 52, 3) := by decide +kernel
theorem dX6_init_98 : decode cX6_init 98 = .ok (.putfield 53, 3) := by decide +kernel
theorem dX6_init_101 : decode cX6_init 101 = .ok (.aload_n 0, 1) := by decide +kernel
theorem dX6_init_102 : decode cX6_init 102 = .ok (.getfield 23, 3) := by decide +kernel
theorem dX6_init_105 : decode cX6_init 105 = .ok (.invokevirtual 57, 3) := by decide +kernel
theorem dX6_init_108 : decode cX6_init 108 = .ok (.aload_n 0, 1) := by decide +kernel
theorem dX6_init_109 : decode cX6_init 109 = .ok (.getfield 23, 3) := by decide +kernel
theorem dX6_init_112 : decode cX6_init 112 = .ok (.bipush 10, 2) := by decide +kernel
theorem dX6_init_114 : decode cX6_init 114 = .ok (.iconst 0, 1) := by decide +kernel
theorem dX6_init_115 : decode cX6_init 115 = .ok (.iconst 0, 1) := by decide +kernel
theorem dX6_init_116 : decode cX6_init 116 = .ok (.invokevirtual 60, 3) := by decide +kernel
theorem dX6_init_119 : decode cX6_init 119 = .ok (.pop, 1) := by decide +kernel
theorem dX6_init_120 : decode cX6_init 120 = .ok (.aload_n 0, 1) := by decide +kernel
theorem dX6_init_121 : decode cX6_init 121 = .ok (.getfield 23, 3) := by decide +kernel
theorem dX6_init_124 : decode cX6_init 124 = .ok (.invokevirtual 64, 3) := by decide +kernel
theorem dX6_init_127 : decode cX6_init 127 = .ok (.aload_n 0, 1) := by decide +kernel
theorem dX6_init_128 : decode cX6_init 128 = .ok (.getfield 33, 3) := by decide +kernel
theorem dX6_init_131 : decode cX6_init 131 = .ok (.aload_n 0, 1) := by decide +kernel
theorem dX6_init_132 : decode cX6_init 132 = .ok (.getfield 23, 3) := by decide +kernel
theorem dX6_init_135 : decode cX6_init 135 = .ok (.getfield 67, 3) := by decide +kernel
theorem dX6_init_138 : decode cX6_init 138 = .ok (.invokevirtual 71, 3) := by decide +kernel
theorem dX6_init_141 : decode cX6_init 141 = .ok (.return_, 1) := by decide +kernel
theorem dX7_init_0 : decode cX7_init 0 = .ok (.aload_n 0, 1) := by decide +kernel
theorem dX7_init_1 : decode cX7_init 1 = .ok (.invokespecial 1, 3) := by decide +kernel
theorem dX7_init_4 : decode cX7_init 4 = .ok (.aload_n 0, 1) := by decide +kernel
theorem dX7_init_5 : decode cX7_init 5 = .ok (.sipush 400, 3) := by decide +kernel
theorem dX7_init_8 : decode cX7_init 8 = .ok (.newarray .int, 2) := by decide +kernel
theorem dX7_init_10 : decode cX7_init 10 = .ok (.putfield 7, 3) := by decide +kernel
theorem dX7_init_13 : decode cX7_init 13 = .ok (.aload_n 0, 1) := by decide +kernel
theorem dX7_init_14 : decode cX7_init 14 = .ok (.bipush 24, 2) := by decide +kernel
theorem dX7_init_16 : decode cX7_init 16 = .ok (.newarray .int, 2) := by decide +kernel
theorem dX7_init_18 : decode cX7_init 18 = .ok (.putfield 13, 3) := by decide +kernel
theorem dX7_init_21 : decode cX7_init 21 = .ok (.aload_n 0, 1) := by decide +kernel
theorem dX7_init_22 : decode cX7_init 22 = .ok (.bipush 40, 2) := by decide +kernel
theorem dX7_init_24 : decode cX7_init 24 = .ok (.newarray .int, 2) := by decide +kernel
theorem dX7_init_26 : decode cX7_init 26 = .ok (.putfield 16, 3) := by decide +kernel
theorem dX7_init_29 : decode cX7_init 29 = .ok (.aload_n 0, 1) := by decide +kernel
theorem dX7_init_30 : decode cX7_init 30 = .ok (.bipush 6, 2) := by decide +kernel
theorem dX7_init_32 : decode cX7_init 32 = .ok (.newarray .int, 2) := by decide +kernel
theorem dX7_init_34 : decode cX7_init 34 = .ok (.putfield 19, 3) := by decide +kernel
theorem dX7_init_37 : decode cX7_init 37 = .ok (.aload_n 0, 1) := by decide +kernel
theorem dX7_init_38 : decode cX7_init 38 = .ok (.iconst 1, 1) := by decide +kernel
theorem dX7_init_39 : decode cX7_init 39 = .ok (.putfield 22, 3) := by decide +kernel
theorem dX7_init_42 : decode cX7_init 42 = .ok (.aload_n 0, 1) := by decide +kernel
theorem dX7_init_43 : decode cX7_init 43 = .ok (.bipush 24, 2) := by decide +kernel
theorem dX7_init_45 : decode cX7_init 45 = .ok (.newarray .int, 2) := by decide +kernel
theorem dX7_init_47 : decode cX7_init 47 = .ok (.putfield 26, 3) := by decide +kernel
theorem dX7_init_50 : decode cX7_init 50 = .ok (.aload_n 0, 1) := by decide +kernel
theorem dX7_init_51 : decode cX7_init 51 = .ok (.bipush 44, 2) := by decide +kernel
theorem dX7_init_53 : decode cX7_init 53 = .ok (.newarray .int, 2) := by decide +kernel
theorem dX7_init_55 : decode cX7_init 55 = .ok (.putfield 29, 3) := by decide +kernel
theorem dX7_init_58 : decode cX7_init 58 = .ok (.aload_n 0, 1) := by decide +kernel
theorem dX7_init_59 : decode cX7_init 59 = .ok (.bipush 6, 2) := by decide +kernel
theorem dX7_init_61 : decode cX7_init 61 = .ok (.newarray .int, 2) := by decide +kernel
theorem dX7_init_63 : decode cX7_init 63 = .ok (.putfield 32, 3) := by decide +kernel
theorem dX7_init_66 : decode cX7_init 66 = .ok (.aload_n 0, 1) := by decide +kernel
theorem dX7_init_67 : decode cX7_init 67 = .ok (.bipush 8, 2) := by decide +kernel
theorem dX7_init_69 : decode cX7_init 69 = .ok (.newarray .int, 2) := by decide +kernel
theorem dX7_init_71 : decode cX7_init 71 = .ok (.putfield 35, 3) := by decide +kernel
theorem dX7_init_74 : decode cX7_init 74 = .ok (.aload_n 0, 1) := by decide +kernel
theorem dX7_init_75 : decode cX7_init 75 = .ok (.bipush 24, 2) := by decide +kernel
theorem dX7_init_77 : decode cX7_init 77 = .ok (.newarray .int, 2) := by decide +kernel
theorem dX7_init_79 : decode cX7_init 79 = .ok (.putfield 38, 3) := by decide +kernel
theorem dX7_init_82 : decode cX7_init 82 = .ok (.aload_n 0, 1) := by decide +kernel
theorem dX7_init_83 : decode cX7_init 83 = .ok (.bipush 30, 2) := by decide +kernel
theorem dX7_init_85 : decode cX7_init 85 = .ok (.newarray .int, 2) := by decide +kernel
theorem dX7_init_87 : decode cX7_init 87 = .ok (.putfield 41, 3) := by decide +kernel
theorem dX7_init_90 : decode cX7_init 90 = .ok (.aload_n 0, 1) := by decide +kernel
theorem dX7_init_91 : decode cX7_init 91 = .ok (.bipush 8, 2) := by decide +kernel
theorem dX7_init_93 : decode cX7_init 93 = .ok (.newarray .int, 2) := by decide +kernel
theorem dX7_init_95 : decode cX7_init 95 = .ok (.putfield 44, 3) := by decide +kernel
theorem dX7_init_98 : decode cX7_init 98 = .ok (.aload_n 0, 1) := by decide +kernel
theorem dX7_init_99 : decode cX7_init 99 = .ok (.bipush 11, 2) := by decide +kernel
theorem dX7_init_101 : decode cX7_init 101 = .ok (.newarray .int, 2) := by decide +kernel
theorem dX7_init_103 : decode cX7_init 103 = .ok (.putfield 47, 3) := by decide +kernel
theorem dX7_init_106 : decode cX7_init 106 = .ok (.aload_n 0, 1) := by decide +kernel
theorem dX7_init_107 : decode cX7_init 107 = .ok (.bipush 11, 2) := by decide +kernel
theorem dX7_init_109 : decode cX7_init 109 = .ok (.newarray .int, 2) := by decide +kernel
theorem dX7_init_111 : decode cX7_init 111 = .ok (.putfield 50, 3) := by decide +kernel
theorem dX7_init_114 : decode cX7_init 114 = .ok (.aload_n 0, 1) := by decide +kernel
theorem dX7_init_115 : decode cX7_init 115 = .ok (.bipush 11, 2) := by decide +kernel
theorem dX7_init_117 : decode cX7_init 117 = .ok (.newarray .int, 2) := by decide +kernel
theorem dX7_init_119 : decode cX7_init 119 = .ok (.putfield 53, 3) := by decide +kernel
theorem dX7_init_122 : decode cX7_init 122 = .ok (.aload_n 0, 1) := by decide +kernel
theorem dX7_init_123 : decode cX7_init 123 = .ok (.bipush 11, 2) := by decide +kernel
theorem dX7_init_125 : decode cX7_init 125 = .ok (.newarray .int, 2) := by decide +kernel
theorem dX7_init_127 : decode cX7_init 127 = .ok (.putfield 56, 3) := by decide +kernel
theorem dX7_init_130 : decode cX7_init 130 = .ok (.aload_n 0, 1) := by decide +kernel
theorem dX7_init_131 : decode cX7_init 131 = .ok (.bipush 8, 2) := by decide +kernel
theorem dX7_init_133 : decode cX7_init 133 = .ok (.newarray .int, 2) := by decide +kernel
theorem dX7_init_135 : decode cX7_init 135 = .ok (.putfield 59, 3) := by decide +kernel
theorem dX7_init_138 : decode cX7_init 138 = .ok (.aload_n 0, 1) := by decide +kernel
theorem dX7_init_139 : decode cX7_init 139 = .ok (.getfield 26, 3) := by decide +kernel
theorem dX7_init_142 : decode cX7_init 142 = .ok (.iconst 0, 1) := by decide +kernel
theorem dX7_init_143 : decode cX7_init 143 = .ok (.bipush 10, 2) := by decide +kernel
theorem dX7_init_145 : decode cX7_init 145 = .ok (.iastore, 1) := by decide +kernel
theorem dX7_init_146 : decode cX7_init 146 = .ok (.aload_n 0, 1) := by decide +kernel
theorem dX7_init_147 : decode cX7_init 147 = .ok (.getfield 32, 3) := by decide +kernel
theorem dX7_init_150 : decode cX7_init 150 = .ok (.invokestatic 62, 3) := by decide +kernel
theorem dX7_init_153 : decode cX7_init 153 = .ok (.return_, 1) := by decide +kernel
theorem dL_law_0 : decode cL_law 0 = .ok (.new 7, 3) := by decide +kernel
theorem dL_law_3 : decode cL_law 3 = .ok (.dup, 1) := by decide +kernel
theorem dL_law_4 : decode cL_law 4 = .ok (.invokespecial 9, 3) := by decide +kernel
theorem dL_law_7 : decode cL_law 7 = .ok (.astore_n 1, 1) := by decide +kernel
theorem dL_law_8 : decode cL_law 8 = .ok (.new 10, 3) := by decide +kernel
theorem dL_law_11 : decode cL_law 11 = .ok (.dup, 1) := by decide +kernel
theorem dL_law_12 : decode cL_law 12 = .ok (.invokespecial 12, 3) := by decide +kernel
theorem dL_law_15 : decode cL_law 15 = .ok (.astore_n 2, 1) := by decide +kernel
theorem dL_law_16 : decode cL_law 16 = .ok (.iconst 0, 1) := by decide +kernel
theorem dL_law_17 : decode cL_law 17 = .ok (.istore_n 3, 1) := by decide +kernel
theorem dL_law_18 : decode cL_law 18 = .ok (.iload_n 3, 1) := by decide +kernel
theorem dL_law_19 : decode cL_law 19 = .ok (.aload_n 0, 1) := by decide +kernel
theorem dL_law_20 : decode cL_law 20 = .ok (.arraylength, 1) := by decide +kernel
theorem dL_law_21 : decode cL_law 21 = .ok (.iconst 4, 1) := by decide +kernel
theorem dL_law_22 : decode cL_law 22 = .ok (.isub, 1) := by decide +kernel
theorem dL_law_23 : decode cL_law 23 = .ok (.if_icmp .gt 844, 3) := by decide +kernel
theorem dL_law_26 : decode cL_law 26 = .ok (.aload_n 0, 1) := by decide +kernel
theorem dL_law_27 : decode cL_law 27 = .ok (.iload_n 3, 1) := by decide +kernel
theorem dL_law_28 : decode cL_law 28 = .ok (.iaload, 1) := by decide +kernel
theorem dL_law_29 : decode cL_law 29 = .ok (.bipush 31, 2) := by decide +kernel
theorem dL_law_31 : decode cL_law 31 = .ok (.iand, 1) := by decide +kernel
abbrev vwCl : List vw_C := [(RX0, TX0, 5), (RX1, TX1, 4), (RX2, TX2, 18), (RX3, TX3, 4), (RX4, TX4, 5), (RX5, TX5, 7), (RX6, TX6, 11), (RX7, TX7, 33)]
theorem am_inU {C : String} {T : u_T} {n : Nat} (h : ∀ k, k < n → u_lay C T k ∈ lw_tbl) : ∀ w ∈ u_ws C T n, w ∈ lw_tbl := fun w hw => by
  obtain ⟨k, hk, rfl⟩ := List.mem_map.mp hw
  exact h k (List.mem_range.mp hk)
theorem inX0_0 : u_lay RX0 TX0 0 ∈ lw_tbl := List.mem_of_getElem? (i := 272) (by decide +kernel)
theorem inX0_1 : u_lay RX0 TX0 1 ∈ lw_tbl := List.mem_of_getElem? (i := 274) (by decide +kernel)
theorem inX0_2 : u_lay RX0 TX0 2 ∈ lw_tbl := List.mem_of_getElem? (i := 276) (by decide +kernel)
theorem inX0_3 : u_lay RX0 TX0 3 ∈ lw_tbl := List.mem_of_getElem? (i := 278) (by decide +kernel)
theorem inX0_4 : u_lay RX0 TX0 4 ∈ lw_tbl := List.mem_of_getElem? (i := 280) (by decide +kernel)
theorem inX0 : ∀ w ∈ wsX00, w ∈ lw_tbl := am_inU (fun k hk => match k, hk with
  | 0, _ => inX0_0
  | 1, _ => inX0_1
  | 2, _ => inX0_2
  | 3, _ => inX0_3
  | 4, _ => inX0_4
  | k + 5, h => absurd h (by omega))
theorem inX1_0 : u_lay RX1 TX1 0 ∈ lw_tbl := List.mem_of_getElem? (i := 245) (by decide +kernel)
theorem inX1_1 : u_lay RX1 TX1 1 ∈ lw_tbl := List.mem_of_getElem? (i := 247) (by decide +kernel)
theorem inX1_2 : u_lay RX1 TX1 2 ∈ lw_tbl := List.mem_of_getElem? (i := 249) (by decide +kernel)
theorem inX1_3 : u_lay RX1 TX1 3 ∈ lw_tbl := List.mem_of_getElem? (i := 251) (by decide +kernel)
theorem inX1 : ∀ w ∈ wsX10, w ∈ lw_tbl := am_inU (fun k hk => match k, hk with
  | 0, _ => inX1_0
  | 1, _ => inX1_1
  | 2, _ => inX1_2
  | 3, _ => inX1_3
  | k + 4, h => absurd h (by omega))
theorem inX2_0 : u_lay RX2 TX2 0 ∈ lw_tbl := List.mem_of_getElem? (i := 168) (by decide +kernel)
theorem inX2_1 : u_lay RX2 TX2 1 ∈ lw_tbl := List.mem_of_getElem? (i := 170) (by decide +kernel)
theorem inX2_2 : u_lay RX2 TX2 2 ∈ lw_tbl := List.mem_of_getElem? (i := 172) (by decide +kernel)
theorem inX2_3 : u_lay RX2 TX2 3 ∈ lw_tbl := List.mem_of_getElem? (i := 174) (by decide +kernel)
theorem inX2_4 : u_lay RX2 TX2 4 ∈ lw_tbl := List.mem_of_getElem? (i := 176) (by decide +kernel)
theorem inX2_5 : u_lay RX2 TX2 5 ∈ lw_tbl := List.mem_of_getElem? (i := 178) (by decide +kernel)
theorem inX2_6 : u_lay RX2 TX2 6 ∈ lw_tbl := List.mem_of_getElem? (i := 180) (by decide +kernel)
theorem inX2_7 : u_lay RX2 TX2 7 ∈ lw_tbl := List.mem_of_getElem? (i := 182) (by decide +kernel)
theorem inX2_8 : u_lay RX2 TX2 8 ∈ lw_tbl := List.mem_of_getElem? (i := 184) (by decide +kernel)
theorem inX2_9 : u_lay RX2 TX2 9 ∈ lw_tbl := List.mem_of_getElem? (i := 186) (by decide +kernel)
theorem inX2_10 : u_lay RX2 TX2 10 ∈ lw_tbl := List.mem_of_getElem? (i := 188) (by decide +kernel)
theorem inX2_11 : u_lay RX2 TX2 11 ∈ lw_tbl := List.mem_of_getElem? (i := 190) (by decide +kernel)
theorem inX2_12 : u_lay RX2 TX2 12 ∈ lw_tbl := List.mem_of_getElem? (i := 192) (by decide +kernel)
theorem inX2_13 : u_lay RX2 TX2 13 ∈ lw_tbl := List.mem_of_getElem? (i := 194) (by decide +kernel)
theorem inX2_14 : u_lay RX2 TX2 14 ∈ lw_tbl := List.mem_of_getElem? (i := 196) (by decide +kernel)
theorem inX2_15 : u_lay RX2 TX2 15 ∈ lw_tbl := List.mem_of_getElem? (i := 198) (by decide +kernel)
theorem inX2_16 : u_lay RX2 TX2 16 ∈ lw_tbl := List.mem_of_getElem? (i := 200) (by decide +kernel)
theorem inX2_17 : u_lay RX2 TX2 17 ∈ lw_tbl := List.mem_of_getElem? (i := 202) (by decide +kernel)
theorem inX2 : ∀ w ∈ wsX20, w ∈ lw_tbl := am_inU (fun k hk => match k, hk with
  | 0, _ => inX2_0
  | 1, _ => inX2_1
  | 2, _ => inX2_2
  | 3, _ => inX2_3
  | 4, _ => inX2_4
  | 5, _ => inX2_5
  | 6, _ => inX2_6
  | 7, _ => inX2_7
  | 8, _ => inX2_8
  | 9, _ => inX2_9
  | 10, _ => inX2_10
  | 11, _ => inX2_11
  | 12, _ => inX2_12
  | 13, _ => inX2_13
  | 14, _ => inX2_14
  | 15, _ => inX2_15
  | 16, _ => inX2_16
  | 17, _ => inX2_17
  | k + 18, h => absurd h (by omega))
theorem inX3_0 : u_lay RX3 TX3 0 ∈ lw_tbl := List.mem_of_getElem? (i := 68) (by decide +kernel)
theorem inX3_1 : u_lay RX3 TX3 1 ∈ lw_tbl := List.mem_of_getElem? (i := 70) (by decide +kernel)
theorem inX3_2 : u_lay RX3 TX3 2 ∈ lw_tbl := List.mem_of_getElem? (i := 72) (by decide +kernel)
theorem inX3_3 : u_lay RX3 TX3 3 ∈ lw_tbl := List.mem_of_getElem? (i := 74) (by decide +kernel)
theorem inX3 : ∀ w ∈ wsX30, w ∈ lw_tbl := am_inU (fun k hk => match k, hk with
  | 0, _ => inX3_0
  | 1, _ => inX3_1
  | 2, _ => inX3_2
  | 3, _ => inX3_3
  | k + 4, h => absurd h (by omega))
theorem inX4_0 : u_lay RX4 TX4 0 ∈ lw_tbl := List.mem_of_getElem? (i := 220) (by decide +kernel)
theorem inX4_1 : u_lay RX4 TX4 1 ∈ lw_tbl := List.mem_of_getElem? (i := 222) (by decide +kernel)
theorem inX4_2 : u_lay RX4 TX4 2 ∈ lw_tbl := List.mem_of_getElem? (i := 224) (by decide +kernel)
theorem inX4_3 : u_lay RX4 TX4 3 ∈ lw_tbl := List.mem_of_getElem? (i := 226) (by decide +kernel)
theorem inX4_4 : u_lay RX4 TX4 4 ∈ lw_tbl := List.mem_of_getElem? (i := 228) (by decide +kernel)
theorem inX4 : ∀ w ∈ wsX40, w ∈ lw_tbl := am_inU (fun k hk => match k, hk with
  | 0, _ => inX4_0
  | 1, _ => inX4_1
  | 2, _ => inX4_2
  | 3, _ => inX4_3
  | 4, _ => inX4_4
  | k + 5, h => absurd h (by omega))
theorem inX5_0 : u_lay RX5 TX5 0 ∈ lw_tbl := List.mem_of_getElem? (i := 107) (by decide +kernel)
theorem inX5_1 : u_lay RX5 TX5 1 ∈ lw_tbl := List.mem_of_getElem? (i := 109) (by decide +kernel)
theorem inX5_2 : u_lay RX5 TX5 2 ∈ lw_tbl := List.mem_of_getElem? (i := 111) (by decide +kernel)
theorem inX5_3 : u_lay RX5 TX5 3 ∈ lw_tbl := List.mem_of_getElem? (i := 113) (by decide +kernel)
theorem inX5_4 : u_lay RX5 TX5 4 ∈ lw_tbl := List.mem_of_getElem? (i := 115) (by decide +kernel)
theorem inX5_5 : u_lay RX5 TX5 5 ∈ lw_tbl := List.mem_of_getElem? (i := 117) (by decide +kernel)
theorem inX5_6 : u_lay RX5 TX5 6 ∈ lw_tbl := List.mem_of_getElem? (i := 119) (by decide +kernel)
theorem inX5 : ∀ w ∈ wsX50, w ∈ lw_tbl := am_inU (fun k hk => match k, hk with
  | 0, _ => inX5_0
  | 1, _ => inX5_1
  | 2, _ => inX5_2
  | 3, _ => inX5_3
  | 4, _ => inX5_4
  | 5, _ => inX5_5
  | 6, _ => inX5_6
  | k + 7, h => absurd h (by omega))
theorem inX6_0 : u_lay RX6 TX6 0 ∈ lw_tbl := List.mem_of_getElem? (i := 339) (by decide +kernel)
theorem inX6_1 : u_lay RX6 TX6 1 ∈ lw_tbl := List.mem_of_getElem? (i := 341) (by decide +kernel)
theorem inX6_2 : u_lay RX6 TX6 2 ∈ lw_tbl := List.mem_of_getElem? (i := 343) (by decide +kernel)
theorem inX6_3 : u_lay RX6 TX6 3 ∈ lw_tbl := List.mem_of_getElem? (i := 345) (by decide +kernel)
theorem inX6_4 : u_lay RX6 TX6 4 ∈ lw_tbl := List.mem_of_getElem? (i := 347) (by decide +kernel)
theorem inX6_5 : u_lay RX6 TX6 5 ∈ lw_tbl := List.mem_of_getElem? (i := 349) (by decide +kernel)
theorem inX6_6 : u_lay RX6 TX6 6 ∈ lw_tbl := List.mem_of_getElem? (i := 351) (by decide +kernel)
theorem inX6_7 : u_lay RX6 TX6 7 ∈ lw_tbl := List.mem_of_getElem? (i := 353) (by decide +kernel)
theorem inX6_8 : u_lay RX6 TX6 8 ∈ lw_tbl := List.mem_of_getElem? (i := 355) (by decide +kernel)
theorem inX6_9 : u_lay RX6 TX6 9 ∈ lw_tbl := List.mem_of_getElem? (i := 357) (by decide +kernel)
theorem inX6_10 : u_lay RX6 TX6 10 ∈ lw_tbl := List.mem_of_getElem? (i := 359) (by decide +kernel)
theorem inX6 : ∀ w ∈ wsX60, w ∈ lw_tbl := am_inU (fun k hk => match k, hk with
  | 0, _ => inX6_0
  | 1, _ => inX6_1
  | 2, _ => inX6_2
  | 3, _ => inX6_3
  | 4, _ => inX6_4
  | 5, _ => inX6_5
  | 6, _ => inX6_6
  | 7, _ => inX6_7
  | 8, _ => inX6_8
  | 9, _ => inX6_9
  | 10, _ => inX6_10
  | k + 11, h => absurd h (by omega))
theorem inX7_0 : u_lay RX7 TX7 0 ∈ lw_tbl := List.mem_of_getElem? (i := 691) (by decide +kernel)
theorem inX7_1 : u_lay RX7 TX7 1 ∈ lw_tbl := List.mem_of_getElem? (i := 693) (by decide +kernel)
theorem inX7_2 : u_lay RX7 TX7 2 ∈ lw_tbl := List.mem_of_getElem? (i := 695) (by decide +kernel)
theorem inX7_3 : u_lay RX7 TX7 3 ∈ lw_tbl := List.mem_of_getElem? (i := 697) (by decide +kernel)
theorem inX7_4 : u_lay RX7 TX7 4 ∈ lw_tbl := List.mem_of_getElem? (i := 699) (by decide +kernel)
theorem inX7_5 : u_lay RX7 TX7 5 ∈ lw_tbl := List.mem_of_getElem? (i := 701) (by decide +kernel)
theorem inX7_6 : u_lay RX7 TX7 6 ∈ lw_tbl := List.mem_of_getElem? (i := 703) (by decide +kernel)
theorem inX7_7 : u_lay RX7 TX7 7 ∈ lw_tbl := List.mem_of_getElem? (i := 705) (by decide +kernel)
theorem inX7_8 : u_lay RX7 TX7 8 ∈ lw_tbl := List.mem_of_getElem? (i := 707) (by decide +kernel)
theorem inX7_9 : u_lay RX7 TX7 9 ∈ lw_tbl := List.mem_of_getElem? (i := 709) (by decide +kernel)
theorem inX7_10 : u_lay RX7 TX7 10 ∈ lw_tbl := List.mem_of_getElem? (i := 711) (by decide +kernel)
theorem inX7_11 : u_lay RX7 TX7 11 ∈ lw_tbl := List.mem_of_getElem? (i := 713) (by decide +kernel)
theorem inX7_12 : u_lay RX7 TX7 12 ∈ lw_tbl := List.mem_of_getElem? (i := 715) (by decide +kernel)
theorem inX7_13 : u_lay RX7 TX7 13 ∈ lw_tbl := List.mem_of_getElem? (i := 717) (by decide +kernel)
theorem inX7_14 : u_lay RX7 TX7 14 ∈ lw_tbl := List.mem_of_getElem? (i := 719) (by decide +kernel)
theorem inX7_15 : u_lay RX7 TX7 15 ∈ lw_tbl := List.mem_of_getElem? (i := 721) (by decide +kernel)
theorem inX7_16 : u_lay RX7 TX7 16 ∈ lw_tbl := List.mem_of_getElem? (i := 723) (by decide +kernel)
theorem inX7_17 : u_lay RX7 TX7 17 ∈ lw_tbl := List.mem_of_getElem? (i := 725) (by decide +kernel)
theorem inX7_18 : u_lay RX7 TX7 18 ∈ lw_tbl := List.mem_of_getElem? (i := 727) (by decide +kernel)
theorem inX7_19 : u_lay RX7 TX7 19 ∈ lw_tbl := List.mem_of_getElem? (i := 729) (by decide +kernel)
theorem inX7_20 : u_lay RX7 TX7 20 ∈ lw_tbl := List.mem_of_getElem? (i := 731) (by decide +kernel)
theorem inX7_21 : u_lay RX7 TX7 21 ∈ lw_tbl := List.mem_of_getElem? (i := 733) (by decide +kernel)
theorem inX7_22 : u_lay RX7 TX7 22 ∈ lw_tbl := List.mem_of_getElem? (i := 735) (by decide +kernel)
theorem inX7_23 : u_lay RX7 TX7 23 ∈ lw_tbl := List.mem_of_getElem? (i := 737) (by decide +kernel)
theorem inX7_24 : u_lay RX7 TX7 24 ∈ lw_tbl := List.mem_of_getElem? (i := 739) (by decide +kernel)
theorem inX7_25 : u_lay RX7 TX7 25 ∈ lw_tbl := List.mem_of_getElem? (i := 741) (by decide +kernel)
theorem inX7_26 : u_lay RX7 TX7 26 ∈ lw_tbl := List.mem_of_getElem? (i := 743) (by decide +kernel)
theorem inX7_27 : u_lay RX7 TX7 27 ∈ lw_tbl := List.mem_of_getElem? (i := 745) (by decide +kernel)
theorem inX7_28 : u_lay RX7 TX7 28 ∈ lw_tbl := List.mem_of_getElem? (i := 747) (by decide +kernel)
theorem inX7_29 : u_lay RX7 TX7 29 ∈ lw_tbl := List.mem_of_getElem? (i := 749) (by decide +kernel)
theorem inX7_30 : u_lay RX7 TX7 30 ∈ lw_tbl := List.mem_of_getElem? (i := 751) (by decide +kernel)
theorem inX7_31 : u_lay RX7 TX7 31 ∈ lw_tbl := List.mem_of_getElem? (i := 753) (by decide +kernel)
theorem inX7_32 : u_lay RX7 TX7 32 ∈ lw_tbl := List.mem_of_getElem? (i := 755) (by decide +kernel)
theorem inX7 : ∀ w ∈ wsX70, w ∈ lw_tbl := am_inU (fun k hk => match k, hk with
  | 0, _ => inX7_0
  | 1, _ => inX7_1
  | 2, _ => inX7_2
  | 3, _ => inX7_3
  | 4, _ => inX7_4
  | 5, _ => inX7_5
  | 6, _ => inX7_6
  | 7, _ => inX7_7
  | 8, _ => inX7_8
  | 9, _ => inX7_9
  | 10, _ => inX7_10
  | 11, _ => inX7_11
  | 12, _ => inX7_12
  | 13, _ => inX7_13
  | 14, _ => inX7_14
  | 15, _ => inX7_15
  | 16, _ => inX7_16
  | 17, _ => inX7_17
  | 18, _ => inX7_18
  | 19, _ => inX7_19
  | 20, _ => inX7_20
  | 21, _ => inX7_21
  | 22, _ => inX7_22
  | 23, _ => inX7_23
  | 24, _ => inX7_24
  | 25, _ => inX7_25
  | 26, _ => inX7_26
  | 27, _ => inX7_27
  | 28, _ => inX7_28
  | 29, _ => inX7_29
  | 30, _ => inX7_30
  | 31, _ => inX7_31
  | 32, _ => inX7_32
  | k + 33, h => absurd h (by omega))
end
section
def am_tb : List ByteArray := [cX0_blow, cX0_shutDeadEnds, cX0_handOn, cX0_carriedFrom, cX1_hear, cX2_empty, cX2_copyFrom, cX2_take, cX2_isTold, cX2_addHall, cX2_addDoor, cX2_isBetween, cX2_placeWard, cX2_swingBy, cX2_settle, cX2_wayIn, cX2_wayAt, cX2_letBy, cX3_firstFault, cX3_numbersBehind, cX3_nextByte, cX3_readNumbers, cX3_readNumber, cX3_isFigure, cX4_begin, cX4_copyFrom, cX4_passHour, cX4_carriedBy, cX4_smokeInHalls, cX5_follow, cX5_leadInside, cX5_leadOutside, cX5_orderPlaces, cX5_isLater, cX5_orderDoors, cX6_write, cX6_wipe, cX6_fault, cX6_lay, cX6_hall, cX6_door, cX6_set, cX6_flood, cX6_goes, cX6_air, cX6_through, cX6_downwind, cX6_hours, cX6_clean, cX6_settings, cX6_first, cX6_smelled, cX6_forget, cX6_burns, cX6_shaft, cX6_lamps, cX6_weather, cX6_keep, cX6_back, cX6_count, cX6_isHall, cX6_isDoor, cX6_isHour, cX6_isEither, cX6_bitOf, cX6_withBit, cX6_keptAt, cX6_blowNow, cX6_wardAir, cX6_isWardDownwindOfSmoke, cX6_isWardFoul, cX6_isClean, cX6_isCleanBy, cX6_howManyClean, cX6_nearestClean, cX6_leastAir, cX6_wardAirWithShaft, cX6_warmerBy, cX7_in, cX7_has, cX7_standard, cX7_write, cX7_wipe, cX7_here, cX7_isNumber, cX7_isHallItem, cX7_isDoorItem, cX7_isSet, cX7_isWarm, cX7_isItem, cX7_readAll, cX7_fault, cX7_lay, cX7_isHall, cX7_isDoor, cX7_hall, cX7_door, cX7_set, cX7_flood, cX7_goesBy, cX7_isHour, cX7_goes, cX7_layDoor, cX7_breathers, cX7_giveOut, cX7_leadsOn, cX7_layAir, cX7_layNow, cX7_keepIns, cX7_air, cX7_through, cX7_downwindOf, cX7_downwind, cX7_goHour, cX7_hours, cX7_isSick, cX7_isClean, cX7_clean, cX7_bits, cX7_settings, cX7_first, cX7_smelled, cX7_forget, cX7_burns, cX7_leastAir, cX7_shaft, cX7_lamps, cX7_weather, cX7_keep, cX7_back, cX7_count, cJ6_bitCount_0f7a4, cJ7_fill_53178, cL_law]
def am_tl : List Nat := [7, 4, 7, 5, 4, 1, 2, 3, 2, 4, 5, 3, 2, 2, 1, 2, 2, 4, 7, 1, 2, 3, 6, 1, 2, 2, 6, 4, 4, 4, 7, 6, 5, 5, 4, 5, 2, 1, 2, 3, 3, 4, 4, 2, 3, 3, 3, 3, 2, 2, 10, 4, 2, 5, 6, 2, 12, 1, 1, 2, 2, 2, 1, 1, 2, 3, 2, 2, 4, 2, 2, 4, 4, 3, 3, 5, 4, 6, 3, 2, 1, 5, 2, 1, 6, 2, 3, 4, 2, 2, 2, 1, 2, 2, 2, 3, 3, 4, 4, 4, 1, 2, 9, 4, 6, 4, 9, 2, 4, 3, 3, 6, 3, 3, 4, 3, 6, 2, 3, 5, 8, 4, 2, 6, 4, 6, 2, 10, 3, 3, 2, 1, 4, 4]
def am_to : List Nat := [0, 0, 0, 0, 1, 2, 2, 2, 2, 2, 2, 2, 2, 2, 2, 2, 2, 2, 3, 3, 3, 3, 3, 3, 4, 4, 4, 4, 4, 5, 5, 5, 5, 5, 5, 6, 6, 6, 6, 6, 6, 6, 6, 6, 6, 6, 6, 6, 6, 6, 6, 6, 6, 6, 6, 6, 6, 6, 6, 6, 6, 6, 6, 6, 6, 6, 6, 6, 6, 6, 6, 6, 6, 6, 6, 6, 6, 6, 7, 7, 7, 7, 7, 7, 7, 7, 7, 7, 7, 7, 7, 7, 7, 7, 7, 7, 7, 7, 7, 7, 7, 7, 7, 7, 7, 7, 7, 7, 7, 7, 7, 7, 7, 7, 7, 7, 7, 7, 7, 7, 7, 7, 7, 7, 7, 7, 7, 7, 7, 7, 7, 8, 10, 11]
def am_ty : List MethodName := [yX0_blow, yX0_shutDeadEnds, yX0_handOn, yX0_carriedFrom, yX1_hear, yX2_empty, yX2_copyFrom, yX2_take, yX2_isTold, yX2_addHall, yX2_addDoor, yX2_isBetween, yX2_placeWard, yX2_swingBy, yX2_settle, yX2_wayIn, yX2_wayAt, yX2_letBy, yX3_firstFault, yX3_numbersBehind, yX3_nextByte, yX3_readNumbers, yX3_readNumber, yX3_isFigure, yX4_begin, yX4_copyFrom, yX4_passHour, yX4_carriedBy, yX4_smokeInHalls, yX5_follow, yX5_leadInside, yX5_leadOutside, yX5_orderPlaces, yX5_isLater, yX5_orderDoors, yX6_write, yX6_wipe, yX6_fault, yX6_lay, yX6_hall, yX6_door, yX6_set, yX6_flood, yX6_goes, yX6_air, yX6_through, yX6_downwind, yX6_hours, yX6_clean, yX6_settings, yX6_first, yX6_smelled, yX6_forget, yX6_burns, yX6_shaft, yX6_lamps, yX6_weather, yX6_keep, yX6_back, yX6_count, yX6_isHall, yX6_isDoor, yX6_isHour, yX6_isEither, yX6_bitOf, yX6_withBit, yX6_keptAt, yX6_blowNow, yX6_wardAir, yX6_isWardDownwindOfSmoke, yX6_isWardFoul, yX6_isClean, yX6_isCleanBy, yX6_howManyClean, yX6_nearestClean, yX6_leastAir, yX6_wardAirWithShaft, yX6_warmerBy, yX7_in, yX7_has, yX7_standard, yX7_write, yX7_wipe, yX7_here, yX7_isNumber, yX7_isHallItem, yX7_isDoorItem, yX7_isSet, yX7_isWarm, yX7_isItem, yX7_readAll, yX7_fault, yX7_lay, yX7_isHall, yX7_isDoor, yX7_hall, yX7_door, yX7_set, yX7_flood, yX7_goesBy, yX7_isHour, yX7_goes, yX7_layDoor, yX7_breathers, yX7_giveOut, yX7_leadsOn, yX7_layAir, yX7_layNow, yX7_keepIns, yX7_air, yX7_through, yX7_downwindOf, yX7_downwind, yX7_goHour, yX7_hours, yX7_isSick, yX7_isClean, yX7_clean, yX7_bits, yX7_settings, yX7_first, yX7_smelled, yX7_forget, yX7_burns, yX7_leastAir, yX7_shaft, yX7_lamps, yX7_weather, yX7_keep, yX7_back, yX7_count, yJ6_bitCount_0f7a4, yJ7_fill_53178, yL_law]
def am_tr : List (Option FieldType) := [none, none, none, some .int, none, none, none, some .boolean, some .boolean, some .boolean, some .boolean, some .boolean, some .boolean, some .boolean, none, some .int, some .int, some .int, some .int, some .int, some .int, some .boolean, some .boolean, some .boolean, none, none, none, some .int, some .int, none, none, none, none, some .boolean, none, some .int, some .int, some .int, some .int, some .int, some .int, some .int, some .int, some .int, some .int, some .int, some .int, some .int, some .int, some .int, some .int, some .int, some .int, some .int, some .int, some .int, some .int, some .int, some .int, some .int, some .boolean, some .boolean, some .boolean, some .boolean, some .int, some .int, some (.object "CaveBreath$State"), none, some .int, some .boolean, some .boolean, some .boolean, some .boolean, some .int, some .int, some .int, some .int, some .int, some .boolean, some .boolean, none, some .int, some .int, some .int, some .boolean, some .boolean, some .boolean, some .boolean, some .boolean, some .boolean, some .int, some .int, some .int, some .boolean, some .boolean, some .int, some .int, some .int, some .int, some .int, some .boolean, some .int, none, some .int, none, some .boolean, none, none, none, some .int, some .int, some .int, some .int, none, some .int, some .boolean, some .boolean, some .int, some .int, some .int, some .int, some .int, some .int, some .int, some .int, some .int, some .int, some .int, some .int, some .int, some .int, some .int, none, some .boolean]
def am_tn : List Nat := [4, 0, 1, 1, 3, 0, 1, 2, 1, 3, 4, 2, 1, 1, 0, 1, 1, 3, 3, 1, 0, 1, 2, 1, 1, 1, 2, 3, 1, 2, 3, 3, 2, 4, 0, 2, 0, 0, 0, 2, 2, 2, 2, 1, 2, 2, 2, 1, 1, 1, 3, 3, 0, 0, 1, 1, 2, 0, 0, 1, 1, 1, 1, 1, 2, 3, 1, 1, 3, 0, 1, 1, 2, 0, 0, 3, 1, 2, 3, 2, 1, 2, 0, 0, 3, 0, 1, 2, 0, 0, 0, 0, 0, 1, 1, 2, 2, 2, 2, 2, 1, 1, 1, 0, 2, 3, 3, 1, 1, 2, 2, 1, 2, 0, 1, 0, 1, 1, 1, 1, 3, 3, 0, 0, 2, 1, 1, 2, 0, 0, 1, 1, 2, 1]
def am_tg : List Bool := [false, false, false, false, false, false, false, false, false, false, false, false, false, false, false, false, false, false, false, false, false, false, false, false, false, false, false, false, false, false, false, false, false, false, false, true, false, false, false, false, false, false, false, false, false, false, false, false, false, false, false, false, false, false, false, false, false, false, false, false, false, false, false, false, false, false, false, false, false, false, false, false, false, false, false, false, false, true, false, false, false, true, false, false, false, false, false, false, false, false, false, false, false, false, false, false, false, false, false, false, false, false, false, false, false, false, false, false, false, false, false, false, false, false, false, false, false, false, false, false, false, false, false, false, false, false, false, true, false, false, false, false, false, false]
def am_tf : List Nat := [2, 1, 0, 1, 0, 0, 1, 3, 0, 1, 2, 1, 1, 0, 3, 1, 0, 0, 4, 0, 0, 2, 1, 0, 1, 1, 1, 0, 0, 2, 0, 0, 1, 0, 0, 0, 0, 5, 5, 1, 1, 1, 1, 2, 4, 4, 4, 4, 5, 6, 4, 1, 0, 4, 5, 4, 5, 2, 2, 0, 0, 0, 0, 0, 0, 0, 0, 3, 3, 2, 4, 4, 3, 5, 5, 3, 4, 0, 0, 0, 0, 1, 0, 0, 1, 2, 2, 2, 3, 4, 5, 6, 6, 1, 1, 2, 2, 2, 2, 0, 1, 2, 1, 1, 2, 1, 3, 4, 2, 5, 5, 1, 5, 5, 6, 2, 4, 5, 0, 5, 4, 2, 0, 5, 4, 5, 5, 4, 0, 0, 0, 0, 0, 7]
def am_tw : List Nat := [44, 21, 0, 21, 0, 0, 20, 67, 0, 22, 43, 21, 21, 0, 71, 21, 0, 0, 89, 0, 0, 46, 21, 0, 23, 20, 23, 0, 0, 48, 0, 0, 24, 0, 0, 0, 0, 115, 115, 21, 21, 22, 22, 42, 91, 91, 91, 91, 116, 138, 93, 23, 0, 91, 117, 94, 112, 41, 41, 0, 0, 0, 0, 0, 0, 0, 0, 70, 70, 45, 91, 93, 70, 116, 116, 70, 94, 0, 0, 0, 0, 22, 0, 0, 22, 47, 47, 47, 70, 91, 112, 133, 133, 22, 22, 43, 43, 43, 43, 0, 22, 42, 21, 21, 44, 21, 69, 97, 44, 118, 118, 21, 118, 118, 140, 46, 97, 122, 0, 122, 97, 43, 0, 118, 97, 120, 120, 97, 0, 0, 0, 0, 0, 163]
def am_ts : List Bool := [false, false, false, false, false, false, false, false, false, false, false, false, false, false, false, false, false, false, false, true, false, false, false, true, false, false, false, true, false, false, false, false, false, true, false, false, false, false, false, false, false, false, false, false, false, false, false, false, false, false, false, false, false, false, false, false, false, false, false, false, false, false, true, true, true, true, false, false, false, false, false, false, false, false, false, false, false, false, true, true, true, false, false, false, false, false, false, false, false, false, false, false, false, false, false, false, false, false, false, false, true, false, false, false, false, false, false, false, false, false, false, false, false, false, false, false, false, false, true, false, false, false, false, false, false, false, false, false, false, false, false, true, true, true]
def am_tc : List String := [RX0, RX1, RX2, RX3, RX4, RX5, RX6, RX7, RJ6, RJ9, RJ7, RL]
def am_b (M : Nat) : ByteArray := am_tb.getD M cX0_blow
def am_l (M : Nat) : Nat := am_tl.getD M 0
def am_ow (M : Nat) : Nat := am_to.getD M 0
def am_y (M : Nat) : MethodName := am_ty.getD M yX0_blow
def am_rt (M : Nat) : Option FieldType := am_tr.getD M none
def am_np (M : Nat) : Nat := am_tn.getD M 0
def am_lg (M : Nat) : Bool := am_tg.getD M true
def am_fr (M : Nat) : Nat := am_tf.getD M 0
def am_lo (M : Nat) : Nat := am_tw.getD M 0
def am_sc (M : Nat) : Bool := am_ts.getD M false
def am_cn (k : Nat) : String := am_tc.getD k ""
def am_law : Nat := 133
def am_cells : List ((Bool × Nat) ⊕ Nat) := [.inr 6, .inl (true, 400), .inr 3, .inl (false, 4), .inl (true, 0), .inr 2, .inl (false, 8), .inl (false, 8), .inl (false, 8), .inl (false, 10), .inl (false, 10), .inl (false, 10), .inl (false, 10), .inr 5, .inl (false, 10), .inl (false, 10), .inl (false, 9), .inl (false, 10), .inl (false, 9), .inr 5, .inl (false, 10), .inl (false, 10), .inl (false, 9), .inl (false, 10), .inl (false, 9), .inr 2, .inl (false, 8), .inl (false, 8), .inl (false, 8), .inl (false, 10), .inl (false, 10), .inl (false, 10), .inl (false, 10), .inr 5, .inl (false, 10), .inl (false, 10), .inl (false, 9), .inl (false, 10), .inl (false, 9), .inr 5, .inl (false, 10), .inl (false, 10), .inl (false, 9), .inl (false, 10), .inl (false, 9), .inr 4, .inl (false, 9), .inl (false, 9), .inr 4, .inl (false, 9), .inl (false, 9), .inr 4, .inl (false, 9), .inl (false, 9), .inr 1, .inl (false, 10), .inl (false, 10), .inl (false, 10), .inr 0, .inl (false, 9), .inl (false, 10), .inl (false, 10), .inl (false, 9), .inr 5, .inl (false, 10), .inl (false, 10), .inl (false, 9), .inl (false, 10), .inl (false, 9), .inr 7, .inl (false, 400), .inl (false, 24), .inl (false, 40), .inl (false, 6), .inl (false, 24), .inl (false, 44), .inl (false, 6), .inl (false, 8), .inl (false, 24), .inl (false, 30), .inl (false, 8), .inl (false, 11), .inl (false, 11), .inl (false, 11), .inl (false, 11), .inl (false, 8)]
def am_cell (k : Nat) : (Bool × Nat) ⊕ Nat := am_cells.getD k (.inr 99)
def am_fks : List (List Nat) := [[1, 1, 1, 1, 2], [1, 1, 1, 0], [1, 1, 1, 1, 1, 1, 1, 1, 1, 0, 0, 0, 0, 0, 0, 0, 0, 0], [1, 2, 0, 0], [0, 0, 0, 1, 1], [1, 1, 1, 0, 1, 1, 0], [1, 0, 1, 2, 2, 1, 1, 1, 0, 1, 1], [0, 1, 0, 0, 0, 0, 1, 1, 1, 0, 0, 1, 1, 1, 0, 0, 1, 0, 0, 0, 1, 0, 1, 0, 0, 0, 0, 1, 1, 1, 1, 1, 1]]
def am_fk (c j : Nat) : Nat := (am_fks.getD c []).getD j 3
def am_rfs : List (List Nat) := [[1, 0, 2, 5, 25, 45, 48, 51, 0, 54, 58], [], [3, 4, 0, 0], [], [], [6, 7, 8, 9, 10, 11, 12, 13, 19, 0, 0, 0, 0, 0, 0, 0, 0, 0], [], [], [], [], [], [], [], [14, 15, 16, 0, 17, 18, 0], [], [], [], [], [], [20, 21, 22, 0, 23, 24, 0], [], [], [], [], [], [26, 27, 28, 29, 30, 31, 32, 33, 39, 0, 0, 0, 0, 0, 0, 0, 0, 0], [], [], [], [], [], [], [], [34, 35, 36, 0, 37, 38, 0], [], [], [], [], [], [40, 41, 42, 0, 43, 44, 0], [], [], [], [], [], [0, 0, 0, 46, 47], [], [], [0, 0, 0, 49, 50], [], [], [0, 0, 0, 52, 53], [], [], [55, 56, 57, 0], [], [], [], [59, 60, 61, 62, 63], [], [], [], [], [64, 65, 66, 0, 67, 68, 0], [], [], [], [], [], [0, 70, 0, 0, 0, 0, 71, 72, 73, 0, 0, 74, 75, 76, 0, 0, 77, 0, 0, 0, 78, 0, 79, 0, 0, 0, 0, 80, 81, 82, 83, 84, 85], [], [], [], [], [], [], [], [], [], [], [], [], [], [], [], []]
def am_rf (k j : Nat) : Nat := (am_rfs.getD k []).getD j 0
def am_fdl : List (Nat × Nat × Nat × Nat × Nat) := [(0, 9, 0, 0, 262), (0, 15, 0, 1, 265), (0, 18, 0, 2, 268), (0, 21, 0, 3, 269), (0, 27, 0, 4, 270), (0, 31, 2, 8, 145), (0, 36, 2, 7, 143), (0, 39, 2, 10, 153), (0, 43, 2, 3, 131), (0, 50, 2, 4, 136), (0, 66, 5, 3, 100), (0, 73, 5, 6, 106), (0, 74, 5, 4, 102), (0, 77, 5, 1, 95), (0, 80, 5, 0, 92), (0, 83, 5, 2, 98), (0, 86, 5, 5, 104), (1, 9, 1, 0, 237), (1, 15, 1, 1, 239), (1, 18, 1, 2, 241), (1, 21, 1, 3, 243), (2, 9, 2, 0, 122), (2, 15, 2, 1, 125), (2, 18, 2, 2, 128), (2, 21, 2, 3, 130), (2, 24, 2, 4, 134), (2, 27, 2, 5, 138), (2, 30, 2, 6, 140), (2, 36, 2, 7, 142), (2, 40, 2, 8, 144), (2, 43, 2, 9, 146), (2, 47, 2, 10, 152), (2, 50, 2, 11, 155), (2, 53, 2, 12, 157), (2, 56, 2, 13, 159), (2, 59, 2, 14, 160), (2, 62, 2, 15, 162), (2, 65, 2, 16, 164), (2, 68, 2, 17, 166), (3, 9, 3, 0, 64), (3, 15, 3, 1, 65), (3, 25, 3, 2, 66), (3, 29, 3, 3, 67), (4, 9, 4, 3, 217), (4, 15, 4, 4, 219), (4, 18, 4, 0, 211), (4, 22, 4, 1, 213), (4, 25, 4, 2, 215), (4, 40, 2, 9, 148), (4, 45, 2, 1, 126), (4, 48, 2, 10, 154), (4, 51, 0, 4, 271), (4, 57, 5, 0, 93), (4, 62, 0, 1, 266), (4, 65, 0, 0, 263), (4, 72, 5, 1, 96), (5, 9, 5, 0, 91), (5, 15, 5, 1, 94), (5, 18, 5, 2, 97), (5, 21, 5, 4, 101), (5, 24, 5, 5, 103), (5, 27, 2, 10, 151), (5, 33, 5, 6, 105), (5, 34, 2, 9, 147), (5, 37, 5, 3, 99), (5, 40, 2, 4, 135), (5, 57, 2, 3, 132), (5, 60, 2, 0, 123), (5, 63, 2, 12, 158), (6, 9, 6, 0, 328), (6, 16, 6, 2, 330), (6, 23, 6, 3, 331), (6, 27, 6, 4, 332), (6, 33, 6, 5, 333), (6, 37, 6, 6, 334), (6, 40, 6, 7, 335), (6, 46, 6, 9, 337), (6, 53, 6, 10, 338), (6, 67, 2, 10, 150), (6, 75, 6, 1, 329), (6, 82, 2, 9, 149), (6, 85, 1, 3, 244), (6, 88, 6, 8, 336), (6, 95, 2, 0, 124), (6, 99, 2, 1, 127), (6, 102, 2, 2, 129), (6, 105, 4, 3, 218), (6, 108, 4, 1, 214), (6, 118, 2, 3, 133), (6, 121, 2, 4, 137), (6, 124, 2, 5, 139), (6, 127, 2, 6, 141), (6, 130, 4, 0, 212), (6, 147, 0, 0, 264), (6, 150, 0, 1, 267), (6, 156, 4, 2, 216), (6, 187, 1, 0, 238), (6, 189, 1, 1, 240), (6, 192, 1, 2, 242), (6, 212, 2, 14, 161), (6, 218, 2, 15, 163), (6, 228, 2, 16, 165), (6, 236, 2, 11, 156), (6, 265, 2, 17, 167), (7, 7, 7, 1, 659), (7, 13, 7, 6, 664), (7, 16, 7, 7, 665), (7, 19, 7, 8, 666), (7, 22, 7, 9, 667), (7, 26, 7, 11, 669), (7, 29, 7, 12, 670), (7, 32, 7, 13, 671), (7, 35, 7, 16, 674), (7, 38, 7, 20, 678), (7, 41, 7, 22, 680), (7, 44, 7, 27, 685), (7, 47, 7, 28, 686), (7, 50, 7, 29, 687), (7, 53, 7, 30, 688), (7, 56, 7, 31, 689), (7, 59, 7, 32, 690), (7, 70, 7, 0, 658), (7, 75, 7, 2, 660), (7, 78, 7, 3, 661), (7, 85, 7, 4, 662), (7, 91, 7, 5, 663), (7, 115, 7, 10, 668), (7, 118, 7, 14, 672), (7, 121, 7, 15, 673), (7, 124, 7, 17, 675), (7, 127, 7, 18, 676), (7, 130, 7, 19, 677), (7, 133, 7, 21, 679), (7, 154, 7, 25, 683), (7, 157, 7, 23, 681), (7, 160, 7, 26, 684), (7, 163, 7, 24, 682)]
def am_fd (o i : Nat) : Option (Nat × Nat) := (am_fdl.find? (fun q => Nat.beq q.1 o && Nat.beq q.2.1 i)).map (fun q => (q.2.2.1, q.2.2.2.1))
def am_cvl : List (Nat × Nat × Nat × Nat × Nat × Nat × Nat × Nat) := [(0, 53, 17, 486, 487, 488, 40, 489), (0, 63, 1, 491, 492, 493, 44, 494), (0, 69, 2, 495, 496, 497, 44, 498), (2, 77, 9, 404, 288, 289, 40, 290), (2, 81, 8, 405, 406, 407, 40, 408), (2, 85, 10, 409, 410, 411, 40, 412), (2, 89, 12, 417, 418, 419, 40, 420), (2, 92, 13, 421, 422, 423, 40, 424), (2, 99, 11, 413, 414, 415, 40, 416), (2, 103, 29, 298, 299, 300, 41, 301), (2, 107, 16, 469, 470, 471, 40, 472), (3, 32, 5, 381, 284, 285, 40, 286), (3, 37, 20, 382, 383, 384, 39, 385), (3, 45, 21, 389, 390, 391, 39, 392), (3, 49, 7, 400, 401, 402, 40, 403), (3, 53, 22, 393, 394, 395, 39, 396), (5, 43, 31, 302, 303, 304, 41, 305), (5, 47, 30, 306, 307, 308, 41, 309), (5, 50, 32, 310, 311, 312, 41, 313), (5, 54, 34, 317, 318, 319, 41, 320), (6, 64, 14, 294, 295, 296, 40, 297), (6, 71, 24, 321, 322, 323, 42, 324), (6, 78, 18, 374, 375, 376, 39, 377), (6, 91, 60, 433, 435, 0, 38, 436), (6, 115, 61, 444, 446, 1, 38, 447), (6, 140, 15, 465, 466, 467, 40, 468), (6, 144, 67, 477, 479, 2, 38, 480), (6, 153, 3, 507, 508, 509, 44, 510), (6, 159, 26, 515, 516, 517, 42, 518), (6, 163, 28, 522, 523, 524, 42, 525), (6, 166, 71, 530, 532, 3, 38, 533), (6, 169, 73, 547, 549, 6, 38, 550), (6, 173, 74, 551, 553, 7, 38, 554), (6, 179, 68, 568, 570, 8, 38, 571), (6, 183, 4, 576, 577, 578, 43, 579), (6, 195, 6, 592, 593, 594, 40, 595), (6, 199, 76, 599, 601, 9, 38, 602), (6, 202, 75, 604, 606, 10, 38, 607), (6, 206, 70, 617, 619, 11, 38, 620), (6, 209, 77, 621, 623, 12, 38, 624), (6, 215, 16, 534, 470, 471, 40, 472), (6, 221, 66, 632, 634, 13, 38, 635), (6, 225, 25, 636, 637, 638, 42, 639), (6, 232, 0, 481, 482, 483, 44, 484), (6, 239, 69, 539, 541, 5, 38, 542), (6, 243, 72, 535, 537, 4, 38, 538), (6, 257, 10, 603, 410, 411, 40, 412), (7, 81, 83, 782, 784, 16, 46, 785), (7, 88, 84, 790, 792, 18, 46, 793), (7, 94, 87, 798, 800, 20, 46, 801), (7, 98, 85, 786, 788, 17, 46, 789), (7, 102, 86, 794, 796, 19, 46, 797), (7, 106, 88, 802, 804, 21, 46, 805), (7, 109, 89, 778, 780, 15, 46, 781), (7, 112, 90, 774, 776, 14, 46, 777), (7, 136, 93, 814, 816, 22, 46, 817), (7, 143, 94, 825, 827, 23, 46, 828), (7, 150, 99, 845, 847, 24, 46, 848), (7, 166, 105, 873, 875, 30, 46, 876), (7, 169, 102, 861, 863, 27, 46, 864), (7, 173, 103, 865, 867, 28, 46, 868), (7, 176, 104, 869, 871, 29, 46, 872), (7, 180, 106, 857, 859, 26, 46, 860), (7, 184, 108, 877, 879, 31, 46, 880), (7, 187, 107, 853, 855, 25, 46, 856), (7, 190, 111, 889, 891, 32, 46, 892), (7, 194, 113, 897, 899, 33, 46, 900), (7, 197, 115, 909, 911, 35, 46, 912), (7, 200, 116, 905, 907, 34, 46, 908), (7, 206, 124, 940, 942, 36, 46, 943), (11, 15, 35, 362, 363, 364, 38, 365), (11, 19, 81, 758, 759, 760, 46, 761), (11, 20, 36, 366, 367, 368, 38, 369), (11, 24, 82, 766, 767, 768, 46, 769), (11, 25, 37, 370, 371, 372, 38, 373), (11, 28, 91, 770, 771, 772, 46, 773), (11, 29, 38, 425, 426, 427, 38, 428), (11, 32, 92, 806, 807, 808, 46, 809), (11, 33, 39, 429, 430, 431, 38, 432), (11, 37, 95, 810, 811, 812, 46, 813), (11, 38, 40, 440, 441, 442, 38, 443), (11, 41, 96, 821, 822, 823, 46, 824), (11, 42, 41, 448, 449, 450, 38, 451), (11, 46, 97, 829, 830, 831, 46, 832), (11, 47, 42, 453, 454, 455, 38, 456), (11, 50, 98, 833, 834, 835, 46, 836), (11, 51, 43, 457, 458, 459, 38, 460), (11, 55, 101, 837, 838, 839, 46, 840), (11, 56, 44, 473, 474, 475, 38, 476), (11, 59, 109, 849, 850, 851, 46, 852), (11, 60, 45, 499, 500, 501, 38, 502), (11, 63, 110, 881, 882, 883, 46, 884), (11, 64, 46, 503, 504, 505, 38, 506), (11, 67, 112, 885, 886, 887, 46, 888), (11, 68, 47, 511, 512, 513, 38, 514), (11, 71, 114, 893, 894, 895, 46, 896), (11, 72, 48, 526, 527, 528, 38, 529), (11, 75, 117, 901, 902, 903, 46, 904), (11, 76, 49, 543, 544, 545, 38, 546), (11, 79, 119, 913, 914, 915, 46, 916), (11, 80, 50, 561, 562, 563, 38, 564), (11, 84, 120, 920, 921, 922, 46, 923), (11, 85, 51, 572, 573, 574, 38, 575), (11, 89, 121, 924, 925, 926, 46, 927), (11, 90, 52, 580, 581, 582, 38, 583), (11, 93, 122, 928, 929, 930, 46, 931), (11, 94, 53, 584, 585, 586, 38, 587), (11, 97, 123, 932, 933, 934, 46, 935), (11, 98, 54, 588, 589, 590, 38, 591), (11, 101, 125, 936, 937, 938, 46, 939), (11, 102, 55, 609, 610, 611, 38, 612), (11, 105, 126, 944, 945, 946, 46, 947), (11, 106, 56, 613, 614, 615, 38, 616), (11, 109, 127, 948, 949, 950, 46, 951), (11, 110, 57, 628, 629, 630, 38, 631), (11, 113, 128, 955, 956, 957, 46, 958), (11, 114, 58, 641, 642, 643, 38, 644), (11, 117, 129, 959, 960, 961, 46, 962), (11, 118, 59, 645, 646, 647, 38, 648), (11, 121, 130, 963, 964, 965, 46, 966)]
def am_csl : List (Nat × Nat × Nat × Nat × Nat × Nat × Nat × Nat) := [(0, 46, 64, 485, 438, 38, 439, 1), (0, 57, 132, 490, 326, 45, 327, 0), (2, 95, 65, 291, 292, 38, 293, 1), (3, 41, 19, 386, 387, 39, 388, 0), (3, 57, 23, 397, 398, 39, 399, 0), (4, 28, 132, 325, 326, 45, 327, 0), (4, 68, 27, 519, 520, 42, 521, 0), (5, 66, 33, 314, 315, 41, 316, 0), (6, 111, 64, 437, 438, 38, 439, 0), (6, 133, 65, 452, 292, 38, 293, 0), (6, 137, 62, 461, 462, 38, 463, 0), (6, 176, 63, 565, 566, 38, 567, 0), (6, 247, 131, 555, 556, 48, 557, 0), (7, 62, 80, 655, 656, 46, 657, 0), (7, 66, 78, 762, 763, 46, 764, 0), (7, 140, 79, 818, 819, 46, 820, 0), (7, 147, 100, 841, 842, 46, 843, 0), (7, 203, 118, 917, 918, 46, 919, 0)]
def am_cv (o i : Nat) : Option Nat := (am_cvl.find? (fun q => Nat.beq q.1 o && Nat.beq q.2.1 i)).map (fun q => q.2.2.1)
def am_cs (o i : Nat) : Option Nat := (am_csl.find? (fun q => Nat.beq q.1 o && Nat.beq q.2.1 i)).map (fun q => q.2.2.1)
def am_cpl : List (Nat × Nat × Nat) := [(2, 71, 596), (4, 34, 640)]
def am_cp (o i : Nat) : Bool := am_cpl.any (fun q => Nat.beq q.1 o && Nat.beq q.2.1 i)
def am_mnl : List (Nat × Nat × Nat) := [(6, 252, 608), (3, 19, 378)]
def am_mn (o i : Nat) : Bool := am_mnl.any (fun q => Nat.beq q.1 o && Nat.beq q.2.1 i)
def am_cil : List (Nat × Nat × Int32 × Nat) := [(6, 231, 999999, 464), (7, 146, 999999, 844), (8, 265, 1431655765, 558), (8, 266, 858993459, 559), (8, 267, 252645135, 560)]
def am_cjl : List (Nat × Nat × Int64 × Nat) := [(6, 261, 7919, 625), (6, 263, 6151, 626), (6, 268, 65521, 627), (11, 13, 4294967295, 967), (7, 73, 255, 765), (7, 209, 7919, 952), (7, 211, 6151, 953), (7, 213, 65521, 954)]
def am_ci (o i : Nat) : Option Int32 := (am_cil.find? (fun q => Nat.beq q.1 o && Nat.beq q.2.1 i)).map (fun q => q.2.2.1)
def am_cj (o i : Nat) : Option Int64 := (am_cjl.find? (fun q => Nat.beq q.1 o && Nat.beq q.2.1 i)).map (fun q => q.2.2.1)
/-- the good words of the tables, and the nest words -/
def lw_g : List Cond := lw_tbl.filter goodWord
def am_nest : List Cond := [.methodLinkNest RX6 15 yX3_init "CaveBreath", .methodLinkNest RX6 22 yX2_init "CaveBreath", .methodLinkNest RX6 32 yX4_init "CaveBreath", .methodLinkNest RX6 45 yX1_init "CaveBreath", .methodLinkNest RX6 52 yX0_init "CaveBreath", .methodLinkNest RX0 26 yX5_init "CaveBreath", .methodLinkNest RX0 46 yX6_bitOf "CaveBreath", .methodLinkNest RX2 35 yX5_init "CaveBreath", .methodLinkNest RX2 95 yX6_withBit "CaveBreath"]
def am_cpw : List Nat := [598, 597, 49]
end
section
theorem am_gw {w : Cond} (i : Nat) (h : lw_tbl[i]? = some w) (hg : goodWord w = true) : w ∈ lw_g := List.mem_filter.mpr ⟨List.mem_of_getElem? h, hg⟩
def am_fdP (q : Nat × Nat × Nat × Nat × Nat) : Prop := ∃ (C : String) (T : u_T) (n : Nat), vwCl[q.2.2.1]? = some (C, T, n) ∧ q.2.2.2.1 < n ∧ Cond.fieldLink (am_cn q.1) q.2.1 (T q.2.2.2.1).1 (T q.2.2.2.1).2.1 (T q.2.2.2.1).2.2.1 ∈ lw_g
theorem am_fd_0_9 : am_fdP (0, 9, 0, 0, 262) := ⟨RX0, TX0, 5, rfl, by decide, am_gw 262 (by decide +kernel) (by decide +kernel)⟩
theorem am_fd_0_15 : am_fdP (0, 15, 0, 1, 265) := ⟨RX0, TX0, 5, rfl, by decide, am_gw 265 (by decide +kernel) (by decide +kernel)⟩
theorem am_fd_0_18 : am_fdP (0, 18, 0, 2, 268) := ⟨RX0, TX0, 5, rfl, by decide, am_gw 268 (by decide +kernel) (by decide +kernel)⟩
theorem am_fd_0_21 : am_fdP (0, 21, 0, 3, 269) := ⟨RX0, TX0, 5, rfl, by decide, am_gw 269 (by decide +kernel) (by decide +kernel)⟩
theorem am_fd_0_27 : am_fdP (0, 27, 0, 4, 270) := ⟨RX0, TX0, 5, rfl, by decide, am_gw 270 (by decide +kernel) (by decide +kernel)⟩
theorem am_fd_0_31 : am_fdP (0, 31, 2, 8, 145) := ⟨RX2, TX2, 18, rfl, by decide, am_gw 145 (by decide +kernel) (by decide +kernel)⟩
theorem am_fd_0_36 : am_fdP (0, 36, 2, 7, 143) := ⟨RX2, TX2, 18, rfl, by decide, am_gw 143 (by decide +kernel) (by decide +kernel)⟩
theorem am_fd_0_39 : am_fdP (0, 39, 2, 10, 153) := ⟨RX2, TX2, 18, rfl, by decide, am_gw 153 (by decide +kernel) (by decide +kernel)⟩
theorem am_fd_0_43 : am_fdP (0, 43, 2, 3, 131) := ⟨RX2, TX2, 18, rfl, by decide, am_gw 131 (by decide +kernel) (by decide +kernel)⟩
theorem am_fd_0_50 : am_fdP (0, 50, 2, 4, 136) := ⟨RX2, TX2, 18, rfl, by decide, am_gw 136 (by decide +kernel) (by decide +kernel)⟩
theorem am_fd_0_66 : am_fdP (0, 66, 5, 3, 100) := ⟨RX5, TX5, 7, rfl, by decide, am_gw 100 (by decide +kernel) (by decide +kernel)⟩
theorem am_fd_0_73 : am_fdP (0, 73, 5, 6, 106) := ⟨RX5, TX5, 7, rfl, by decide, am_gw 106 (by decide +kernel) (by decide +kernel)⟩
theorem am_fd_0_74 : am_fdP (0, 74, 5, 4, 102) := ⟨RX5, TX5, 7, rfl, by decide, am_gw 102 (by decide +kernel) (by decide +kernel)⟩
theorem am_fd_0_77 : am_fdP (0, 77, 5, 1, 95) := ⟨RX5, TX5, 7, rfl, by decide, am_gw 95 (by decide +kernel) (by decide +kernel)⟩
theorem am_fd_0_80 : am_fdP (0, 80, 5, 0, 92) := ⟨RX5, TX5, 7, rfl, by decide, am_gw 92 (by decide +kernel) (by decide +kernel)⟩
theorem am_fd_0_83 : am_fdP (0, 83, 5, 2, 98) := ⟨RX5, TX5, 7, rfl, by decide, am_gw 98 (by decide +kernel) (by decide +kernel)⟩
theorem am_fd_0_86 : am_fdP (0, 86, 5, 5, 104) := ⟨RX5, TX5, 7, rfl, by decide, am_gw 104 (by decide +kernel) (by decide +kernel)⟩
theorem am_fd_1_9 : am_fdP (1, 9, 1, 0, 237) := ⟨RX1, TX1, 4, rfl, by decide, am_gw 237 (by decide +kernel) (by decide +kernel)⟩
theorem am_fd_1_15 : am_fdP (1, 15, 1, 1, 239) := ⟨RX1, TX1, 4, rfl, by decide, am_gw 239 (by decide +kernel) (by decide +kernel)⟩
theorem am_fd_1_18 : am_fdP (1, 18, 1, 2, 241) := ⟨RX1, TX1, 4, rfl, by decide, am_gw 241 (by decide +kernel) (by decide +kernel)⟩
theorem am_fd_1_21 : am_fdP (1, 21, 1, 3, 243) := ⟨RX1, TX1, 4, rfl, by decide, am_gw 243 (by decide +kernel) (by decide +kernel)⟩
theorem am_fd_2_9 : am_fdP (2, 9, 2, 0, 122) := ⟨RX2, TX2, 18, rfl, by decide, am_gw 122 (by decide +kernel) (by decide +kernel)⟩
theorem am_fd_2_15 : am_fdP (2, 15, 2, 1, 125) := ⟨RX2, TX2, 18, rfl, by decide, am_gw 125 (by decide +kernel) (by decide +kernel)⟩
theorem am_fd_2_18 : am_fdP (2, 18, 2, 2, 128) := ⟨RX2, TX2, 18, rfl, by decide, am_gw 128 (by decide +kernel) (by decide +kernel)⟩
theorem am_fd_2_21 : am_fdP (2, 21, 2, 3, 130) := ⟨RX2, TX2, 18, rfl, by decide, am_gw 130 (by decide +kernel) (by decide +kernel)⟩
theorem am_fd_2_24 : am_fdP (2, 24, 2, 4, 134) := ⟨RX2, TX2, 18, rfl, by decide, am_gw 134 (by decide +kernel) (by decide +kernel)⟩
theorem am_fd_2_27 : am_fdP (2, 27, 2, 5, 138) := ⟨RX2, TX2, 18, rfl, by decide, am_gw 138 (by decide +kernel) (by decide +kernel)⟩
theorem am_fd_2_30 : am_fdP (2, 30, 2, 6, 140) := ⟨RX2, TX2, 18, rfl, by decide, am_gw 140 (by decide +kernel) (by decide +kernel)⟩
theorem am_fd_2_36 : am_fdP (2, 36, 2, 7, 142) := ⟨RX2, TX2, 18, rfl, by decide, am_gw 142 (by decide +kernel) (by decide +kernel)⟩
theorem am_fd_2_40 : am_fdP (2, 40, 2, 8, 144) := ⟨RX2, TX2, 18, rfl, by decide, am_gw 144 (by decide +kernel) (by decide +kernel)⟩
theorem am_fd_2_43 : am_fdP (2, 43, 2, 9, 146) := ⟨RX2, TX2, 18, rfl, by decide, am_gw 146 (by decide +kernel) (by decide +kernel)⟩
theorem am_fd_2_47 : am_fdP (2, 47, 2, 10, 152) := ⟨RX2, TX2, 18, rfl, by decide, am_gw 152 (by decide +kernel) (by decide +kernel)⟩
theorem am_fd_2_50 : am_fdP (2, 50, 2, 11, 155) := ⟨RX2, TX2, 18, rfl, by decide, am_gw 155 (by decide +kernel) (by decide +kernel)⟩
theorem am_fd_2_53 : am_fdP (2, 53, 2, 12, 157) := ⟨RX2, TX2, 18, rfl, by decide, am_gw 157 (by decide +kernel) (by decide +kernel)⟩
theorem am_fd_2_56 : am_fdP (2, 56, 2, 13, 159) := ⟨RX2, TX2, 18, rfl, by decide, am_gw 159 (by decide +kernel) (by decide +kernel)⟩
theorem am_fd_2_59 : am_fdP (2, 59, 2, 14, 160) := ⟨RX2, TX2, 18, rfl, by decide, am_gw 160 (by decide +kernel) (by decide +kernel)⟩
theorem am_fd_2_62 : am_fdP (2, 62, 2, 15, 162) := ⟨RX2, TX2, 18, rfl, by decide, am_gw 162 (by decide +kernel) (by decide +kernel)⟩
theorem am_fd_2_65 : am_fdP (2, 65, 2, 16, 164) := ⟨RX2, TX2, 18, rfl, by decide, am_gw 164 (by decide +kernel) (by decide +kernel)⟩
theorem am_fd_2_68 : am_fdP (2, 68, 2, 17, 166) := ⟨RX2, TX2, 18, rfl, by decide, am_gw 166 (by decide +kernel) (by decide +kernel)⟩
theorem am_fd_3_9 : am_fdP (3, 9, 3, 0, 64) := ⟨RX3, TX3, 4, rfl, by decide, am_gw 64 (by decide +kernel) (by decide +kernel)⟩
theorem am_fd_3_15 : am_fdP (3, 15, 3, 1, 65) := ⟨RX3, TX3, 4, rfl, by decide, am_gw 65 (by decide +kernel) (by decide +kernel)⟩
theorem am_fd_3_25 : am_fdP (3, 25, 3, 2, 66) := ⟨RX3, TX3, 4, rfl, by decide, am_gw 66 (by decide +kernel) (by decide +kernel)⟩
theorem am_fd_3_29 : am_fdP (3, 29, 3, 3, 67) := ⟨RX3, TX3, 4, rfl, by decide, am_gw 67 (by decide +kernel) (by decide +kernel)⟩
theorem am_fd_4_9 : am_fdP (4, 9, 4, 3, 217) := ⟨RX4, TX4, 5, rfl, by decide, am_gw 217 (by decide +kernel) (by decide +kernel)⟩
theorem am_fd_4_15 : am_fdP (4, 15, 4, 4, 219) := ⟨RX4, TX4, 5, rfl, by decide, am_gw 219 (by decide +kernel) (by decide +kernel)⟩
theorem am_fd_4_18 : am_fdP (4, 18, 4, 0, 211) := ⟨RX4, TX4, 5, rfl, by decide, am_gw 211 (by decide +kernel) (by decide +kernel)⟩
theorem am_fd_4_22 : am_fdP (4, 22, 4, 1, 213) := ⟨RX4, TX4, 5, rfl, by decide, am_gw 213 (by decide +kernel) (by decide +kernel)⟩
theorem am_fd_4_25 : am_fdP (4, 25, 4, 2, 215) := ⟨RX4, TX4, 5, rfl, by decide, am_gw 215 (by decide +kernel) (by decide +kernel)⟩
theorem am_fd_4_40 : am_fdP (4, 40, 2, 9, 148) := ⟨RX2, TX2, 18, rfl, by decide, am_gw 148 (by decide +kernel) (by decide +kernel)⟩
theorem am_fd_4_45 : am_fdP (4, 45, 2, 1, 126) := ⟨RX2, TX2, 18, rfl, by decide, am_gw 126 (by decide +kernel) (by decide +kernel)⟩
theorem am_fd_4_48 : am_fdP (4, 48, 2, 10, 154) := ⟨RX2, TX2, 18, rfl, by decide, am_gw 154 (by decide +kernel) (by decide +kernel)⟩
theorem am_fd_4_51 : am_fdP (4, 51, 0, 4, 271) := ⟨RX0, TX0, 5, rfl, by decide, am_gw 271 (by decide +kernel) (by decide +kernel)⟩
theorem am_fd_4_57 : am_fdP (4, 57, 5, 0, 93) := ⟨RX5, TX5, 7, rfl, by decide, am_gw 93 (by decide +kernel) (by decide +kernel)⟩
theorem am_fd_4_62 : am_fdP (4, 62, 0, 1, 266) := ⟨RX0, TX0, 5, rfl, by decide, am_gw 266 (by decide +kernel) (by decide +kernel)⟩
theorem am_fd_4_65 : am_fdP (4, 65, 0, 0, 263) := ⟨RX0, TX0, 5, rfl, by decide, am_gw 263 (by decide +kernel) (by decide +kernel)⟩
theorem am_fd_4_72 : am_fdP (4, 72, 5, 1, 96) := ⟨RX5, TX5, 7, rfl, by decide, am_gw 96 (by decide +kernel) (by decide +kernel)⟩
theorem am_fd_5_9 : am_fdP (5, 9, 5, 0, 91) := ⟨RX5, TX5, 7, rfl, by decide, am_gw 91 (by decide +kernel) (by decide +kernel)⟩
theorem am_fd_5_15 : am_fdP (5, 15, 5, 1, 94) := ⟨RX5, TX5, 7, rfl, by decide, am_gw 94 (by decide +kernel) (by decide +kernel)⟩
theorem am_fd_5_18 : am_fdP (5, 18, 5, 2, 97) := ⟨RX5, TX5, 7, rfl, by decide, am_gw 97 (by decide +kernel) (by decide +kernel)⟩
theorem am_fd_5_21 : am_fdP (5, 21, 5, 4, 101) := ⟨RX5, TX5, 7, rfl, by decide, am_gw 101 (by decide +kernel) (by decide +kernel)⟩
theorem am_fd_5_24 : am_fdP (5, 24, 5, 5, 103) := ⟨RX5, TX5, 7, rfl, by decide, am_gw 103 (by decide +kernel) (by decide +kernel)⟩
theorem am_fd_5_27 : am_fdP (5, 27, 2, 10, 151) := ⟨RX2, TX2, 18, rfl, by decide, am_gw 151 (by decide +kernel) (by decide +kernel)⟩
theorem am_fd_5_33 : am_fdP (5, 33, 5, 6, 105) := ⟨RX5, TX5, 7, rfl, by decide, am_gw 105 (by decide +kernel) (by decide +kernel)⟩
theorem am_fd_5_34 : am_fdP (5, 34, 2, 9, 147) := ⟨RX2, TX2, 18, rfl, by decide, am_gw 147 (by decide +kernel) (by decide +kernel)⟩
theorem am_fd_5_37 : am_fdP (5, 37, 5, 3, 99) := ⟨RX5, TX5, 7, rfl, by decide, am_gw 99 (by decide +kernel) (by decide +kernel)⟩
theorem am_fd_5_40 : am_fdP (5, 40, 2, 4, 135) := ⟨RX2, TX2, 18, rfl, by decide, am_gw 135 (by decide +kernel) (by decide +kernel)⟩
theorem am_fd_5_57 : am_fdP (5, 57, 2, 3, 132) := ⟨RX2, TX2, 18, rfl, by decide, am_gw 132 (by decide +kernel) (by decide +kernel)⟩
theorem am_fd_5_60 : am_fdP (5, 60, 2, 0, 123) := ⟨RX2, TX2, 18, rfl, by decide, am_gw 123 (by decide +kernel) (by decide +kernel)⟩
theorem am_fd_5_63 : am_fdP (5, 63, 2, 12, 158) := ⟨RX2, TX2, 18, rfl, by decide, am_gw 158 (by decide +kernel) (by decide +kernel)⟩
theorem am_fd_6_9 : am_fdP (6, 9, 6, 0, 328) := ⟨RX6, TX6, 11, rfl, by decide, am_gw 328 (by decide +kernel) (by decide +kernel)⟩
theorem am_fd_6_16 : am_fdP (6, 16, 6, 2, 330) := ⟨RX6, TX6, 11, rfl, by decide, am_gw 330 (by decide +kernel) (by decide +kernel)⟩
theorem am_fd_6_23 : am_fdP (6, 23, 6, 3, 331) := ⟨RX6, TX6, 11, rfl, by decide, am_gw 331 (by decide +kernel) (by decide +kernel)⟩
theorem am_fd_6_27 : am_fdP (6, 27, 6, 4, 332) := ⟨RX6, TX6, 11, rfl, by decide, am_gw 332 (by decide +kernel) (by decide +kernel)⟩
theorem am_fd_6_33 : am_fdP (6, 33, 6, 5, 333) := ⟨RX6, TX6, 11, rfl, by decide, am_gw 333 (by decide +kernel) (by decide +kernel)⟩
theorem am_fd_6_37 : am_fdP (6, 37, 6, 6, 334) := ⟨RX6, TX6, 11, rfl, by decide, am_gw 334 (by decide +kernel) (by decide +kernel)⟩
theorem am_fd_6_40 : am_fdP (6, 40, 6, 7, 335) := ⟨RX6, TX6, 11, rfl, by decide, am_gw 335 (by decide +kernel) (by decide +kernel)⟩
theorem am_fd_6_46 : am_fdP (6, 46, 6, 9, 337) := ⟨RX6, TX6, 11, rfl, by decide, am_gw 337 (by decide +kernel) (by decide +kernel)⟩
theorem am_fd_6_53 : am_fdP (6, 53, 6, 10, 338) := ⟨RX6, TX6, 11, rfl, by decide, am_gw 338 (by decide +kernel) (by decide +kernel)⟩
theorem am_fd_6_67 : am_fdP (6, 67, 2, 10, 150) := ⟨RX2, TX2, 18, rfl, by decide, am_gw 150 (by decide +kernel) (by decide +kernel)⟩
theorem am_fd_6_75 : am_fdP (6, 75, 6, 1, 329) := ⟨RX6, TX6, 11, rfl, by decide, am_gw 329 (by decide +kernel) (by decide +kernel)⟩
theorem am_fd_6_82 : am_fdP (6, 82, 2, 9, 149) := ⟨RX2, TX2, 18, rfl, by decide, am_gw 149 (by decide +kernel) (by decide +kernel)⟩
theorem am_fd_6_85 : am_fdP (6, 85, 1, 3, 244) := ⟨RX1, TX1, 4, rfl, by decide, am_gw 244 (by decide +kernel) (by decide +kernel)⟩
theorem am_fd_6_88 : am_fdP (6, 88, 6, 8, 336) := ⟨RX6, TX6, 11, rfl, by decide, am_gw 336 (by decide +kernel) (by decide +kernel)⟩
theorem am_fd_6_95 : am_fdP (6, 95, 2, 0, 124) := ⟨RX2, TX2, 18, rfl, by decide, am_gw 124 (by decide +kernel) (by decide +kernel)⟩
theorem am_fd_6_99 : am_fdP (6, 99, 2, 1, 127) := ⟨RX2, TX2, 18, rfl, by decide, am_gw 127 (by decide +kernel) (by decide +kernel)⟩
theorem am_fd_6_102 : am_fdP (6, 102, 2, 2, 129) := ⟨RX2, TX2, 18, rfl, by decide, am_gw 129 (by decide +kernel) (by decide +kernel)⟩
theorem am_fd_6_105 : am_fdP (6, 105, 4, 3, 218) := ⟨RX4, TX4, 5, rfl, by decide, am_gw 218 (by decide +kernel) (by decide +kernel)⟩
theorem am_fd_6_108 : am_fdP (6, 108, 4, 1, 214) := ⟨RX4, TX4, 5, rfl, by decide, am_gw 214 (by decide +kernel) (by decide +kernel)⟩
theorem am_fd_6_118 : am_fdP (6, 118, 2, 3, 133) := ⟨RX2, TX2, 18, rfl, by decide, am_gw 133 (by decide +kernel) (by decide +kernel)⟩
theorem am_fd_6_121 : am_fdP (6, 121, 2, 4, 137) := ⟨RX2, TX2, 18, rfl, by decide, am_gw 137 (by decide +kernel) (by decide +kernel)⟩
theorem am_fd_6_124 : am_fdP (6, 124, 2, 5, 139) := ⟨RX2, TX2, 18, rfl, by decide, am_gw 139 (by decide +kernel) (by decide +kernel)⟩
theorem am_fd_6_127 : am_fdP (6, 127, 2, 6, 141) := ⟨RX2, TX2, 18, rfl, by decide, am_gw 141 (by decide +kernel) (by decide +kernel)⟩
theorem am_fd_6_130 : am_fdP (6, 130, 4, 0, 212) := ⟨RX4, TX4, 5, rfl, by decide, am_gw 212 (by decide +kernel) (by decide +kernel)⟩
theorem am_fd_6_147 : am_fdP (6, 147, 0, 0, 264) := ⟨RX0, TX0, 5, rfl, by decide, am_gw 264 (by decide +kernel) (by decide +kernel)⟩
theorem am_fd_6_150 : am_fdP (6, 150, 0, 1, 267) := ⟨RX0, TX0, 5, rfl, by decide, am_gw 267 (by decide +kernel) (by decide +kernel)⟩
theorem am_fd_6_156 : am_fdP (6, 156, 4, 2, 216) := ⟨RX4, TX4, 5, rfl, by decide, am_gw 216 (by decide +kernel) (by decide +kernel)⟩
theorem am_fd_6_187 : am_fdP (6, 187, 1, 0, 238) := ⟨RX1, TX1, 4, rfl, by decide, am_gw 238 (by decide +kernel) (by decide +kernel)⟩
theorem am_fd_6_189 : am_fdP (6, 189, 1, 1, 240) := ⟨RX1, TX1, 4, rfl, by decide, am_gw 240 (by decide +kernel) (by decide +kernel)⟩
theorem am_fd_6_192 : am_fdP (6, 192, 1, 2, 242) := ⟨RX1, TX1, 4, rfl, by decide, am_gw 242 (by decide +kernel) (by decide +kernel)⟩
theorem am_fd_6_212 : am_fdP (6, 212, 2, 14, 161) := ⟨RX2, TX2, 18, rfl, by decide, am_gw 161 (by decide +kernel) (by decide +kernel)⟩
theorem am_fd_6_218 : am_fdP (6, 218, 2, 15, 163) := ⟨RX2, TX2, 18, rfl, by decide, am_gw 163 (by decide +kernel) (by decide +kernel)⟩
theorem am_fd_6_228 : am_fdP (6, 228, 2, 16, 165) := ⟨RX2, TX2, 18, rfl, by decide, am_gw 165 (by decide +kernel) (by decide +kernel)⟩
theorem am_fd_6_236 : am_fdP (6, 236, 2, 11, 156) := ⟨RX2, TX2, 18, rfl, by decide, am_gw 156 (by decide +kernel) (by decide +kernel)⟩
theorem am_fd_6_265 : am_fdP (6, 265, 2, 17, 167) := ⟨RX2, TX2, 18, rfl, by decide, am_gw 167 (by decide +kernel) (by decide +kernel)⟩
theorem am_fd_7_7 : am_fdP (7, 7, 7, 1, 659) := ⟨RX7, TX7, 33, rfl, by decide, am_gw 659 (by decide +kernel) (by decide +kernel)⟩
theorem am_fd_7_13 : am_fdP (7, 13, 7, 6, 664) := ⟨RX7, TX7, 33, rfl, by decide, am_gw 664 (by decide +kernel) (by decide +kernel)⟩
theorem am_fd_7_16 : am_fdP (7, 16, 7, 7, 665) := ⟨RX7, TX7, 33, rfl, by decide, am_gw 665 (by decide +kernel) (by decide +kernel)⟩
theorem am_fd_7_19 : am_fdP (7, 19, 7, 8, 666) := ⟨RX7, TX7, 33, rfl, by decide, am_gw 666 (by decide +kernel) (by decide +kernel)⟩
theorem am_fd_7_22 : am_fdP (7, 22, 7, 9, 667) := ⟨RX7, TX7, 33, rfl, by decide, am_gw 667 (by decide +kernel) (by decide +kernel)⟩
theorem am_fd_7_26 : am_fdP (7, 26, 7, 11, 669) := ⟨RX7, TX7, 33, rfl, by decide, am_gw 669 (by decide +kernel) (by decide +kernel)⟩
theorem am_fd_7_29 : am_fdP (7, 29, 7, 12, 670) := ⟨RX7, TX7, 33, rfl, by decide, am_gw 670 (by decide +kernel) (by decide +kernel)⟩
theorem am_fd_7_32 : am_fdP (7, 32, 7, 13, 671) := ⟨RX7, TX7, 33, rfl, by decide, am_gw 671 (by decide +kernel) (by decide +kernel)⟩
theorem am_fd_7_35 : am_fdP (7, 35, 7, 16, 674) := ⟨RX7, TX7, 33, rfl, by decide, am_gw 674 (by decide +kernel) (by decide +kernel)⟩
theorem am_fd_7_38 : am_fdP (7, 38, 7, 20, 678) := ⟨RX7, TX7, 33, rfl, by decide, am_gw 678 (by decide +kernel) (by decide +kernel)⟩
theorem am_fd_7_41 : am_fdP (7, 41, 7, 22, 680) := ⟨RX7, TX7, 33, rfl, by decide, am_gw 680 (by decide +kernel) (by decide +kernel)⟩
theorem am_fd_7_44 : am_fdP (7, 44, 7, 27, 685) := ⟨RX7, TX7, 33, rfl, by decide, am_gw 685 (by decide +kernel) (by decide +kernel)⟩
theorem am_fd_7_47 : am_fdP (7, 47, 7, 28, 686) := ⟨RX7, TX7, 33, rfl, by decide, am_gw 686 (by decide +kernel) (by decide +kernel)⟩
theorem am_fd_7_50 : am_fdP (7, 50, 7, 29, 687) := ⟨RX7, TX7, 33, rfl, by decide, am_gw 687 (by decide +kernel) (by decide +kernel)⟩
theorem am_fd_7_53 : am_fdP (7, 53, 7, 30, 688) := ⟨RX7, TX7, 33, rfl, by decide, am_gw 688 (by decide +kernel) (by decide +kernel)⟩
theorem am_fd_7_56 : am_fdP (7, 56, 7, 31, 689) := ⟨RX7, TX7, 33, rfl, by decide, am_gw 689 (by decide +kernel) (by decide +kernel)⟩
theorem am_fd_7_59 : am_fdP (7, 59, 7, 32, 690) := ⟨RX7, TX7, 33, rfl, by decide, am_gw 690 (by decide +kernel) (by decide +kernel)⟩
theorem am_fd_7_70 : am_fdP (7, 70, 7, 0, 658) := ⟨RX7, TX7, 33, rfl, by decide, am_gw 658 (by decide +kernel) (by decide +kernel)⟩
theorem am_fd_7_75 : am_fdP (7, 75, 7, 2, 660) := ⟨RX7, TX7, 33, rfl, by decide, am_gw 660 (by decide +kernel) (by decide +kernel)⟩
theorem am_fd_7_78 : am_fdP (7, 78, 7, 3, 661) := ⟨RX7, TX7, 33, rfl, by decide, am_gw 661 (by decide +kernel) (by decide +kernel)⟩
theorem am_fd_7_85 : am_fdP (7, 85, 7, 4, 662) := ⟨RX7, TX7, 33, rfl, by decide, am_gw 662 (by decide +kernel) (by decide +kernel)⟩
theorem am_fd_7_91 : am_fdP (7, 91, 7, 5, 663) := ⟨RX7, TX7, 33, rfl, by decide, am_gw 663 (by decide +kernel) (by decide +kernel)⟩
theorem am_fd_7_115 : am_fdP (7, 115, 7, 10, 668) := ⟨RX7, TX7, 33, rfl, by decide, am_gw 668 (by decide +kernel) (by decide +kernel)⟩
theorem am_fd_7_118 : am_fdP (7, 118, 7, 14, 672) := ⟨RX7, TX7, 33, rfl, by decide, am_gw 672 (by decide +kernel) (by decide +kernel)⟩
theorem am_fd_7_121 : am_fdP (7, 121, 7, 15, 673) := ⟨RX7, TX7, 33, rfl, by decide, am_gw 673 (by decide +kernel) (by decide +kernel)⟩
theorem am_fd_7_124 : am_fdP (7, 124, 7, 17, 675) := ⟨RX7, TX7, 33, rfl, by decide, am_gw 675 (by decide +kernel) (by decide +kernel)⟩
theorem am_fd_7_127 : am_fdP (7, 127, 7, 18, 676) := ⟨RX7, TX7, 33, rfl, by decide, am_gw 676 (by decide +kernel) (by decide +kernel)⟩
theorem am_fd_7_130 : am_fdP (7, 130, 7, 19, 677) := ⟨RX7, TX7, 33, rfl, by decide, am_gw 677 (by decide +kernel) (by decide +kernel)⟩
theorem am_fd_7_133 : am_fdP (7, 133, 7, 21, 679) := ⟨RX7, TX7, 33, rfl, by decide, am_gw 679 (by decide +kernel) (by decide +kernel)⟩
theorem am_fd_7_154 : am_fdP (7, 154, 7, 25, 683) := ⟨RX7, TX7, 33, rfl, by decide, am_gw 683 (by decide +kernel) (by decide +kernel)⟩
theorem am_fd_7_157 : am_fdP (7, 157, 7, 23, 681) := ⟨RX7, TX7, 33, rfl, by decide, am_gw 681 (by decide +kernel) (by decide +kernel)⟩
theorem am_fd_7_160 : am_fdP (7, 160, 7, 26, 684) := ⟨RX7, TX7, 33, rfl, by decide, am_gw 684 (by decide +kernel) (by decide +kernel)⟩
theorem am_fd_7_163 : am_fdP (7, 163, 7, 24, 682) := ⟨RX7, TX7, 33, rfl, by decide, am_gw 682 (by decide +kernel) (by decide +kernel)⟩
set_option maxRecDepth 20000 in
theorem am_fdl_ok : ∀ q ∈ am_fdl, am_fdP q := List.forall_mem_cons.mpr ⟨am_fd_0_9, List.forall_mem_cons.mpr ⟨am_fd_0_15, List.forall_mem_cons.mpr ⟨am_fd_0_18, List.forall_mem_cons.mpr ⟨am_fd_0_21, List.forall_mem_cons.mpr ⟨am_fd_0_27, List.forall_mem_cons.mpr ⟨am_fd_0_31, List.forall_mem_cons.mpr ⟨am_fd_0_36, List.forall_mem_cons.mpr ⟨am_fd_0_39, List.forall_mem_cons.mpr ⟨am_fd_0_43, List.forall_mem_cons.mpr ⟨am_fd_0_50, List.forall_mem_cons.mpr ⟨am_fd_0_66, List.forall_mem_cons.mpr ⟨am_fd_0_73, List.forall_mem_cons.mpr ⟨am_fd_0_74, List.forall_mem_cons.mpr ⟨am_fd_0_77, List.forall_mem_cons.mpr ⟨am_fd_0_80, List.forall_mem_cons.mpr ⟨am_fd_0_83, List.forall_mem_cons.mpr ⟨am_fd_0_86, List.forall_mem_cons.mpr ⟨am_fd_1_9, List.forall_mem_cons.mpr ⟨am_fd_1_15, List.forall_mem_cons.mpr ⟨am_fd_1_18, List.forall_mem_cons.mpr ⟨am_fd_1_21, List.forall_mem_cons.mpr ⟨am_fd_2_9, List.forall_mem_cons.mpr ⟨am_fd_2_15, List.forall_mem_cons.mpr ⟨am_fd_2_18, List.forall_mem_cons.mpr ⟨am_fd_2_21, List.forall_mem_cons.mpr ⟨am_fd_2_24, List.forall_mem_cons.mpr ⟨am_fd_2_27, List.forall_mem_cons.mpr ⟨am_fd_2_30, List.forall_mem_cons.mpr ⟨am_fd_2_36, List.forall_mem_cons.mpr ⟨am_fd_2_40, List.forall_mem_cons.mpr ⟨am_fd_2_43, List.forall_mem_cons.mpr ⟨am_fd_2_47, List.forall_mem_cons.mpr ⟨am_fd_2_50, List.forall_mem_cons.mpr ⟨am_fd_2_53, List.forall_mem_cons.mpr ⟨am_fd_2_56, List.forall_mem_cons.mpr ⟨am_fd_2_59, List.forall_mem_cons.mpr ⟨am_fd_2_62, List.forall_mem_cons.mpr ⟨am_fd_2_65, List.forall_mem_cons.mpr ⟨am_fd_2_68, List.forall_mem_cons.mpr ⟨am_fd_3_9, List.forall_mem_cons.mpr ⟨am_fd_3_15, List.forall_mem_cons.mpr ⟨am_fd_3_25, List.forall_mem_cons.mpr ⟨am_fd_3_29, List.forall_mem_cons.mpr ⟨am_fd_4_9, List.forall_mem_cons.mpr ⟨am_fd_4_15, List.forall_mem_cons.mpr ⟨am_fd_4_18, List.forall_mem_cons.mpr ⟨am_fd_4_22, List.forall_mem_cons.mpr ⟨am_fd_4_25, List.forall_mem_cons.mpr ⟨am_fd_4_40, List.forall_mem_cons.mpr ⟨am_fd_4_45, List.forall_mem_cons.mpr ⟨am_fd_4_48, List.forall_mem_cons.mpr ⟨am_fd_4_51, List.forall_mem_cons.mpr ⟨am_fd_4_57, List.forall_mem_cons.mpr ⟨am_fd_4_62, List.forall_mem_cons.mpr ⟨am_fd_4_65, List.forall_mem_cons.mpr ⟨am_fd_4_72, List.forall_mem_cons.mpr ⟨am_fd_5_9, List.forall_mem_cons.mpr ⟨am_fd_5_15, List.forall_mem_cons.mpr ⟨am_fd_5_18, List.forall_mem_cons.mpr ⟨am_fd_5_21, List.forall_mem_cons.mpr ⟨am_fd_5_24, List.forall_mem_cons.mpr ⟨am_fd_5_27, List.forall_mem_cons.mpr ⟨am_fd_5_33, List.forall_mem_cons.mpr ⟨am_fd_5_34, List.forall_mem_cons.mpr ⟨am_fd_5_37, List.forall_mem_cons.mpr ⟨am_fd_5_40, List.forall_mem_cons.mpr ⟨am_fd_5_57, List.forall_mem_cons.mpr ⟨am_fd_5_60, List.forall_mem_cons.mpr ⟨am_fd_5_63, List.forall_mem_cons.mpr ⟨am_fd_6_9, List.forall_mem_cons.mpr ⟨am_fd_6_16, List.forall_mem_cons.mpr ⟨am_fd_6_23, List.forall_mem_cons.mpr ⟨am_fd_6_27, List.forall_mem_cons.mpr ⟨am_fd_6_33, List.forall_mem_cons.mpr ⟨am_fd_6_37, List.forall_mem_cons.mpr ⟨am_fd_6_40, List.forall_mem_cons.mpr ⟨am_fd_6_46, List.forall_mem_cons.mpr ⟨am_fd_6_53, List.forall_mem_cons.mpr ⟨am_fd_6_67, List.forall_mem_cons.mpr ⟨am_fd_6_75, List.forall_mem_cons.mpr ⟨am_fd_6_82, List.forall_mem_cons.mpr ⟨am_fd_6_85, List.forall_mem_cons.mpr ⟨am_fd_6_88, List.forall_mem_cons.mpr ⟨am_fd_6_95, List.forall_mem_cons.mpr ⟨am_fd_6_99, List.forall_mem_cons.mpr ⟨am_fd_6_102, List.forall_mem_cons.mpr ⟨am_fd_6_105, List.forall_mem_cons.mpr ⟨am_fd_6_108, List.forall_mem_cons.mpr ⟨am_fd_6_118, List.forall_mem_cons.mpr ⟨am_fd_6_121, List.forall_mem_cons.mpr ⟨am_fd_6_124, List.forall_mem_cons.mpr ⟨am_fd_6_127, List.forall_mem_cons.mpr ⟨am_fd_6_130, List.forall_mem_cons.mpr ⟨am_fd_6_147, List.forall_mem_cons.mpr ⟨am_fd_6_150, List.forall_mem_cons.mpr ⟨am_fd_6_156, List.forall_mem_cons.mpr ⟨am_fd_6_187, List.forall_mem_cons.mpr ⟨am_fd_6_189, List.forall_mem_cons.mpr ⟨am_fd_6_192, List.forall_mem_cons.mpr ⟨am_fd_6_212, List.forall_mem_cons.mpr ⟨am_fd_6_218, List.forall_mem_cons.mpr ⟨am_fd_6_228, List.forall_mem_cons.mpr ⟨am_fd_6_236, List.forall_mem_cons.mpr ⟨am_fd_6_265, List.forall_mem_cons.mpr ⟨am_fd_7_7, List.forall_mem_cons.mpr ⟨am_fd_7_13, List.forall_mem_cons.mpr ⟨am_fd_7_16, List.forall_mem_cons.mpr ⟨am_fd_7_19, List.forall_mem_cons.mpr ⟨am_fd_7_22, List.forall_mem_cons.mpr ⟨am_fd_7_26, List.forall_mem_cons.mpr ⟨am_fd_7_29, List.forall_mem_cons.mpr ⟨am_fd_7_32, List.forall_mem_cons.mpr ⟨am_fd_7_35, List.forall_mem_cons.mpr ⟨am_fd_7_38, List.forall_mem_cons.mpr ⟨am_fd_7_41, List.forall_mem_cons.mpr ⟨am_fd_7_44, List.forall_mem_cons.mpr ⟨am_fd_7_47, List.forall_mem_cons.mpr ⟨am_fd_7_50, List.forall_mem_cons.mpr ⟨am_fd_7_53, List.forall_mem_cons.mpr ⟨am_fd_7_56, List.forall_mem_cons.mpr ⟨am_fd_7_59, List.forall_mem_cons.mpr ⟨am_fd_7_70, List.forall_mem_cons.mpr ⟨am_fd_7_75, List.forall_mem_cons.mpr ⟨am_fd_7_78, List.forall_mem_cons.mpr ⟨am_fd_7_85, List.forall_mem_cons.mpr ⟨am_fd_7_91, List.forall_mem_cons.mpr ⟨am_fd_7_115, List.forall_mem_cons.mpr ⟨am_fd_7_118, List.forall_mem_cons.mpr ⟨am_fd_7_121, List.forall_mem_cons.mpr ⟨am_fd_7_124, List.forall_mem_cons.mpr ⟨am_fd_7_127, List.forall_mem_cons.mpr ⟨am_fd_7_130, List.forall_mem_cons.mpr ⟨am_fd_7_133, List.forall_mem_cons.mpr ⟨am_fd_7_154, List.forall_mem_cons.mpr ⟨am_fd_7_157, List.forall_mem_cons.mpr ⟨am_fd_7_160, List.forall_mem_cons.mpr ⟨am_fd_7_163, fun _ h => absurd h List.not_mem_nil⟩⟩⟩⟩⟩⟩⟩⟩⟩⟩⟩⟩⟩⟩⟩⟩⟩⟩⟩⟩⟩⟩⟩⟩⟩⟩⟩⟩⟩⟩⟩⟩⟩⟩⟩⟩⟩⟩⟩⟩⟩⟩⟩⟩⟩⟩⟩⟩⟩⟩⟩⟩⟩⟩⟩⟩⟩⟩⟩⟩⟩⟩⟩⟩⟩⟩⟩⟩⟩⟩⟩⟩⟩⟩⟩⟩⟩⟩⟩⟩⟩⟩⟩⟩⟩⟩⟩⟩⟩⟩⟩⟩⟩⟩⟩⟩⟩⟩⟩⟩⟩⟩⟩⟩⟩⟩⟩⟩⟩⟩⟩⟩⟩⟩⟩⟩⟩⟩⟩⟩⟩⟩⟩⟩⟩⟩⟩⟩⟩⟩⟩⟩⟩⟩⟩⟩⟩
theorem am_fd_ok {o i c j : Nat} (h : am_fd o i = some (c, j)) : ∃ (C : String) (T : u_T) (n : Nat), vwCl[c]? = some (C, T, n) ∧ j < n ∧ Cond.fieldLink (am_cn o) i (T j).1 (T j).2.1 (T j).2.2.1 ∈ lw_g := by
  unfold am_fd at h
  obtain ⟨q, hq, he⟩ := Option.map_eq_some_iff.mp h
  have h1 := List.find?_some hq
  have h2 := am_fdl_ok q (List.mem_of_find?_eq_some hq)
  simp only [Bool.and_eq_true] at h1
  have e1 := Nat.eq_of_beq_eq_true h1.1
  have e2 := Nat.eq_of_beq_eq_true h1.2
  unfold am_fdP at h2
  rw [e1, e2] at h2
  cases he
  exact h2
def am_mok (M : Nat) : Prop := Cond.code (am_y M) (am_b M) (am_l M) (am_rt M) ∈ lw_g ∧ Cond.initialized (am_y M).cls ∈ lw_g ∧ (am_y M).cls = am_cn (am_ow M) ∧ ((am_y M).cls ≠ "java/lang/invoke/MethodHandle" ∧ (am_y M).cls ≠ "java/lang/invoke/VarHandle" ∧ (parseMethodDescriptor (am_y M).desc).map (fun d => d.parameters.length) = some (am_np M)) ∧ plainName (am_y M).cls = true
theorem am_m_0 : am_mok 0 := ⟨am_gw 484 (by decide +kernel) (by decide +kernel), am_gw 44 (by decide +kernel) (by decide +kernel), rfl, ⟨by decide +kernel, by decide +kernel, by decide +kernel⟩, by decide +kernel⟩
theorem am_m_1 : am_mok 1 := ⟨am_gw 494 (by decide +kernel) (by decide +kernel), am_gw 44 (by decide +kernel) (by decide +kernel), rfl, ⟨by decide +kernel, by decide +kernel, by decide +kernel⟩, by decide +kernel⟩
theorem am_m_2 : am_mok 2 := ⟨am_gw 498 (by decide +kernel) (by decide +kernel), am_gw 44 (by decide +kernel) (by decide +kernel), rfl, ⟨by decide +kernel, by decide +kernel, by decide +kernel⟩, by decide +kernel⟩
theorem am_m_3 : am_mok 3 := ⟨am_gw 510 (by decide +kernel) (by decide +kernel), am_gw 44 (by decide +kernel) (by decide +kernel), rfl, ⟨by decide +kernel, by decide +kernel, by decide +kernel⟩, by decide +kernel⟩
theorem am_m_4 : am_mok 4 := ⟨am_gw 579 (by decide +kernel) (by decide +kernel), am_gw 43 (by decide +kernel) (by decide +kernel), rfl, ⟨by decide +kernel, by decide +kernel, by decide +kernel⟩, by decide +kernel⟩
theorem am_m_5 : am_mok 5 := ⟨am_gw 286 (by decide +kernel) (by decide +kernel), am_gw 40 (by decide +kernel) (by decide +kernel), rfl, ⟨by decide +kernel, by decide +kernel, by decide +kernel⟩, by decide +kernel⟩
theorem am_m_6 : am_mok 6 := ⟨am_gw 595 (by decide +kernel) (by decide +kernel), am_gw 40 (by decide +kernel) (by decide +kernel), rfl, ⟨by decide +kernel, by decide +kernel, by decide +kernel⟩, by decide +kernel⟩
theorem am_m_7 : am_mok 7 := ⟨am_gw 403 (by decide +kernel) (by decide +kernel), am_gw 40 (by decide +kernel) (by decide +kernel), rfl, ⟨by decide +kernel, by decide +kernel, by decide +kernel⟩, by decide +kernel⟩
theorem am_m_8 : am_mok 8 := ⟨am_gw 408 (by decide +kernel) (by decide +kernel), am_gw 40 (by decide +kernel) (by decide +kernel), rfl, ⟨by decide +kernel, by decide +kernel, by decide +kernel⟩, by decide +kernel⟩
theorem am_m_9 : am_mok 9 := ⟨am_gw 290 (by decide +kernel) (by decide +kernel), am_gw 40 (by decide +kernel) (by decide +kernel), rfl, ⟨by decide +kernel, by decide +kernel, by decide +kernel⟩, by decide +kernel⟩
theorem am_m_10 : am_mok 10 := ⟨am_gw 412 (by decide +kernel) (by decide +kernel), am_gw 40 (by decide +kernel) (by decide +kernel), rfl, ⟨by decide +kernel, by decide +kernel, by decide +kernel⟩, by decide +kernel⟩
theorem am_m_11 : am_mok 11 := ⟨am_gw 416 (by decide +kernel) (by decide +kernel), am_gw 40 (by decide +kernel) (by decide +kernel), rfl, ⟨by decide +kernel, by decide +kernel, by decide +kernel⟩, by decide +kernel⟩
theorem am_m_12 : am_mok 12 := ⟨am_gw 420 (by decide +kernel) (by decide +kernel), am_gw 40 (by decide +kernel) (by decide +kernel), rfl, ⟨by decide +kernel, by decide +kernel, by decide +kernel⟩, by decide +kernel⟩
theorem am_m_13 : am_mok 13 := ⟨am_gw 424 (by decide +kernel) (by decide +kernel), am_gw 40 (by decide +kernel) (by decide +kernel), rfl, ⟨by decide +kernel, by decide +kernel, by decide +kernel⟩, by decide +kernel⟩
theorem am_m_14 : am_mok 14 := ⟨am_gw 297 (by decide +kernel) (by decide +kernel), am_gw 40 (by decide +kernel) (by decide +kernel), rfl, ⟨by decide +kernel, by decide +kernel, by decide +kernel⟩, by decide +kernel⟩
theorem am_m_15 : am_mok 15 := ⟨am_gw 468 (by decide +kernel) (by decide +kernel), am_gw 40 (by decide +kernel) (by decide +kernel), rfl, ⟨by decide +kernel, by decide +kernel, by decide +kernel⟩, by decide +kernel⟩
theorem am_m_16 : am_mok 16 := ⟨am_gw 472 (by decide +kernel) (by decide +kernel), am_gw 40 (by decide +kernel) (by decide +kernel), rfl, ⟨by decide +kernel, by decide +kernel, by decide +kernel⟩, by decide +kernel⟩
theorem am_m_17 : am_mok 17 := ⟨am_gw 489 (by decide +kernel) (by decide +kernel), am_gw 40 (by decide +kernel) (by decide +kernel), rfl, ⟨by decide +kernel, by decide +kernel, by decide +kernel⟩, by decide +kernel⟩
theorem am_m_18 : am_mok 18 := ⟨am_gw 377 (by decide +kernel) (by decide +kernel), am_gw 39 (by decide +kernel) (by decide +kernel), rfl, ⟨by decide +kernel, by decide +kernel, by decide +kernel⟩, by decide +kernel⟩
theorem am_m_19 : am_mok 19 := ⟨am_gw 388 (by decide +kernel) (by decide +kernel), am_gw 39 (by decide +kernel) (by decide +kernel), rfl, ⟨by decide +kernel, by decide +kernel, by decide +kernel⟩, by decide +kernel⟩
theorem am_m_20 : am_mok 20 := ⟨am_gw 385 (by decide +kernel) (by decide +kernel), am_gw 39 (by decide +kernel) (by decide +kernel), rfl, ⟨by decide +kernel, by decide +kernel, by decide +kernel⟩, by decide +kernel⟩
theorem am_m_21 : am_mok 21 := ⟨am_gw 392 (by decide +kernel) (by decide +kernel), am_gw 39 (by decide +kernel) (by decide +kernel), rfl, ⟨by decide +kernel, by decide +kernel, by decide +kernel⟩, by decide +kernel⟩
theorem am_m_22 : am_mok 22 := ⟨am_gw 396 (by decide +kernel) (by decide +kernel), am_gw 39 (by decide +kernel) (by decide +kernel), rfl, ⟨by decide +kernel, by decide +kernel, by decide +kernel⟩, by decide +kernel⟩
theorem am_m_23 : am_mok 23 := ⟨am_gw 399 (by decide +kernel) (by decide +kernel), am_gw 39 (by decide +kernel) (by decide +kernel), rfl, ⟨by decide +kernel, by decide +kernel, by decide +kernel⟩, by decide +kernel⟩
theorem am_m_24 : am_mok 24 := ⟨am_gw 324 (by decide +kernel) (by decide +kernel), am_gw 42 (by decide +kernel) (by decide +kernel), rfl, ⟨by decide +kernel, by decide +kernel, by decide +kernel⟩, by decide +kernel⟩
theorem am_m_25 : am_mok 25 := ⟨am_gw 639 (by decide +kernel) (by decide +kernel), am_gw 42 (by decide +kernel) (by decide +kernel), rfl, ⟨by decide +kernel, by decide +kernel, by decide +kernel⟩, by decide +kernel⟩
theorem am_m_26 : am_mok 26 := ⟨am_gw 518 (by decide +kernel) (by decide +kernel), am_gw 42 (by decide +kernel) (by decide +kernel), rfl, ⟨by decide +kernel, by decide +kernel, by decide +kernel⟩, by decide +kernel⟩
theorem am_m_27 : am_mok 27 := ⟨am_gw 521 (by decide +kernel) (by decide +kernel), am_gw 42 (by decide +kernel) (by decide +kernel), rfl, ⟨by decide +kernel, by decide +kernel, by decide +kernel⟩, by decide +kernel⟩
theorem am_m_28 : am_mok 28 := ⟨am_gw 525 (by decide +kernel) (by decide +kernel), am_gw 42 (by decide +kernel) (by decide +kernel), rfl, ⟨by decide +kernel, by decide +kernel, by decide +kernel⟩, by decide +kernel⟩
theorem am_m_29 : am_mok 29 := ⟨am_gw 301 (by decide +kernel) (by decide +kernel), am_gw 41 (by decide +kernel) (by decide +kernel), rfl, ⟨by decide +kernel, by decide +kernel, by decide +kernel⟩, by decide +kernel⟩
theorem am_m_30 : am_mok 30 := ⟨am_gw 309 (by decide +kernel) (by decide +kernel), am_gw 41 (by decide +kernel) (by decide +kernel), rfl, ⟨by decide +kernel, by decide +kernel, by decide +kernel⟩, by decide +kernel⟩
theorem am_m_31 : am_mok 31 := ⟨am_gw 305 (by decide +kernel) (by decide +kernel), am_gw 41 (by decide +kernel) (by decide +kernel), rfl, ⟨by decide +kernel, by decide +kernel, by decide +kernel⟩, by decide +kernel⟩
theorem am_m_32 : am_mok 32 := ⟨am_gw 313 (by decide +kernel) (by decide +kernel), am_gw 41 (by decide +kernel) (by decide +kernel), rfl, ⟨by decide +kernel, by decide +kernel, by decide +kernel⟩, by decide +kernel⟩
theorem am_m_33 : am_mok 33 := ⟨am_gw 316 (by decide +kernel) (by decide +kernel), am_gw 41 (by decide +kernel) (by decide +kernel), rfl, ⟨by decide +kernel, by decide +kernel, by decide +kernel⟩, by decide +kernel⟩
theorem am_m_34 : am_mok 34 := ⟨am_gw 320 (by decide +kernel) (by decide +kernel), am_gw 41 (by decide +kernel) (by decide +kernel), rfl, ⟨by decide +kernel, by decide +kernel, by decide +kernel⟩, by decide +kernel⟩
theorem am_m_35 : am_mok 35 := ⟨am_gw 365 (by decide +kernel) (by decide +kernel), am_gw 38 (by decide +kernel) (by decide +kernel), rfl, ⟨by decide +kernel, by decide +kernel, by decide +kernel⟩, by decide +kernel⟩
theorem am_m_36 : am_mok 36 := ⟨am_gw 369 (by decide +kernel) (by decide +kernel), am_gw 38 (by decide +kernel) (by decide +kernel), rfl, ⟨by decide +kernel, by decide +kernel, by decide +kernel⟩, by decide +kernel⟩
theorem am_m_37 : am_mok 37 := ⟨am_gw 373 (by decide +kernel) (by decide +kernel), am_gw 38 (by decide +kernel) (by decide +kernel), rfl, ⟨by decide +kernel, by decide +kernel, by decide +kernel⟩, by decide +kernel⟩
theorem am_m_38 : am_mok 38 := ⟨am_gw 428 (by decide +kernel) (by decide +kernel), am_gw 38 (by decide +kernel) (by decide +kernel), rfl, ⟨by decide +kernel, by decide +kernel, by decide +kernel⟩, by decide +kernel⟩
theorem am_m_39 : am_mok 39 := ⟨am_gw 432 (by decide +kernel) (by decide +kernel), am_gw 38 (by decide +kernel) (by decide +kernel), rfl, ⟨by decide +kernel, by decide +kernel, by decide +kernel⟩, by decide +kernel⟩
theorem am_m_40 : am_mok 40 := ⟨am_gw 443 (by decide +kernel) (by decide +kernel), am_gw 38 (by decide +kernel) (by decide +kernel), rfl, ⟨by decide +kernel, by decide +kernel, by decide +kernel⟩, by decide +kernel⟩
theorem am_m_41 : am_mok 41 := ⟨am_gw 451 (by decide +kernel) (by decide +kernel), am_gw 38 (by decide +kernel) (by decide +kernel), rfl, ⟨by decide +kernel, by decide +kernel, by decide +kernel⟩, by decide +kernel⟩
theorem am_m_42 : am_mok 42 := ⟨am_gw 456 (by decide +kernel) (by decide +kernel), am_gw 38 (by decide +kernel) (by decide +kernel), rfl, ⟨by decide +kernel, by decide +kernel, by decide +kernel⟩, by decide +kernel⟩
theorem am_m_43 : am_mok 43 := ⟨am_gw 460 (by decide +kernel) (by decide +kernel), am_gw 38 (by decide +kernel) (by decide +kernel), rfl, ⟨by decide +kernel, by decide +kernel, by decide +kernel⟩, by decide +kernel⟩
theorem am_m_44 : am_mok 44 := ⟨am_gw 476 (by decide +kernel) (by decide +kernel), am_gw 38 (by decide +kernel) (by decide +kernel), rfl, ⟨by decide +kernel, by decide +kernel, by decide +kernel⟩, by decide +kernel⟩
theorem am_m_45 : am_mok 45 := ⟨am_gw 502 (by decide +kernel) (by decide +kernel), am_gw 38 (by decide +kernel) (by decide +kernel), rfl, ⟨by decide +kernel, by decide +kernel, by decide +kernel⟩, by decide +kernel⟩
theorem am_m_46 : am_mok 46 := ⟨am_gw 506 (by decide +kernel) (by decide +kernel), am_gw 38 (by decide +kernel) (by decide +kernel), rfl, ⟨by decide +kernel, by decide +kernel, by decide +kernel⟩, by decide +kernel⟩
theorem am_m_47 : am_mok 47 := ⟨am_gw 514 (by decide +kernel) (by decide +kernel), am_gw 38 (by decide +kernel) (by decide +kernel), rfl, ⟨by decide +kernel, by decide +kernel, by decide +kernel⟩, by decide +kernel⟩
theorem am_m_48 : am_mok 48 := ⟨am_gw 529 (by decide +kernel) (by decide +kernel), am_gw 38 (by decide +kernel) (by decide +kernel), rfl, ⟨by decide +kernel, by decide +kernel, by decide +kernel⟩, by decide +kernel⟩
theorem am_m_49 : am_mok 49 := ⟨am_gw 546 (by decide +kernel) (by decide +kernel), am_gw 38 (by decide +kernel) (by decide +kernel), rfl, ⟨by decide +kernel, by decide +kernel, by decide +kernel⟩, by decide +kernel⟩
theorem am_m_50 : am_mok 50 := ⟨am_gw 564 (by decide +kernel) (by decide +kernel), am_gw 38 (by decide +kernel) (by decide +kernel), rfl, ⟨by decide +kernel, by decide +kernel, by decide +kernel⟩, by decide +kernel⟩
theorem am_m_51 : am_mok 51 := ⟨am_gw 575 (by decide +kernel) (by decide +kernel), am_gw 38 (by decide +kernel) (by decide +kernel), rfl, ⟨by decide +kernel, by decide +kernel, by decide +kernel⟩, by decide +kernel⟩
theorem am_m_52 : am_mok 52 := ⟨am_gw 583 (by decide +kernel) (by decide +kernel), am_gw 38 (by decide +kernel) (by decide +kernel), rfl, ⟨by decide +kernel, by decide +kernel, by decide +kernel⟩, by decide +kernel⟩
theorem am_m_53 : am_mok 53 := ⟨am_gw 587 (by decide +kernel) (by decide +kernel), am_gw 38 (by decide +kernel) (by decide +kernel), rfl, ⟨by decide +kernel, by decide +kernel, by decide +kernel⟩, by decide +kernel⟩
theorem am_m_54 : am_mok 54 := ⟨am_gw 591 (by decide +kernel) (by decide +kernel), am_gw 38 (by decide +kernel) (by decide +kernel), rfl, ⟨by decide +kernel, by decide +kernel, by decide +kernel⟩, by decide +kernel⟩
theorem am_m_55 : am_mok 55 := ⟨am_gw 612 (by decide +kernel) (by decide +kernel), am_gw 38 (by decide +kernel) (by decide +kernel), rfl, ⟨by decide +kernel, by decide +kernel, by decide +kernel⟩, by decide +kernel⟩
theorem am_m_56 : am_mok 56 := ⟨am_gw 616 (by decide +kernel) (by decide +kernel), am_gw 38 (by decide +kernel) (by decide +kernel), rfl, ⟨by decide +kernel, by decide +kernel, by decide +kernel⟩, by decide +kernel⟩
theorem am_m_57 : am_mok 57 := ⟨am_gw 631 (by decide +kernel) (by decide +kernel), am_gw 38 (by decide +kernel) (by decide +kernel), rfl, ⟨by decide +kernel, by decide +kernel, by decide +kernel⟩, by decide +kernel⟩
theorem am_m_58 : am_mok 58 := ⟨am_gw 644 (by decide +kernel) (by decide +kernel), am_gw 38 (by decide +kernel) (by decide +kernel), rfl, ⟨by decide +kernel, by decide +kernel, by decide +kernel⟩, by decide +kernel⟩
theorem am_m_59 : am_mok 59 := ⟨am_gw 648 (by decide +kernel) (by decide +kernel), am_gw 38 (by decide +kernel) (by decide +kernel), rfl, ⟨by decide +kernel, by decide +kernel, by decide +kernel⟩, by decide +kernel⟩
theorem am_m_60 : am_mok 60 := ⟨am_gw 436 (by decide +kernel) (by decide +kernel), am_gw 38 (by decide +kernel) (by decide +kernel), rfl, ⟨by decide +kernel, by decide +kernel, by decide +kernel⟩, by decide +kernel⟩
theorem am_m_61 : am_mok 61 := ⟨am_gw 447 (by decide +kernel) (by decide +kernel), am_gw 38 (by decide +kernel) (by decide +kernel), rfl, ⟨by decide +kernel, by decide +kernel, by decide +kernel⟩, by decide +kernel⟩
theorem am_m_62 : am_mok 62 := ⟨am_gw 463 (by decide +kernel) (by decide +kernel), am_gw 38 (by decide +kernel) (by decide +kernel), rfl, ⟨by decide +kernel, by decide +kernel, by decide +kernel⟩, by decide +kernel⟩
theorem am_m_63 : am_mok 63 := ⟨am_gw 567 (by decide +kernel) (by decide +kernel), am_gw 38 (by decide +kernel) (by decide +kernel), rfl, ⟨by decide +kernel, by decide +kernel, by decide +kernel⟩, by decide +kernel⟩
theorem am_m_64 : am_mok 64 := ⟨am_gw 439 (by decide +kernel) (by decide +kernel), am_gw 38 (by decide +kernel) (by decide +kernel), rfl, ⟨by decide +kernel, by decide +kernel, by decide +kernel⟩, by decide +kernel⟩
theorem am_m_65 : am_mok 65 := ⟨am_gw 293 (by decide +kernel) (by decide +kernel), am_gw 38 (by decide +kernel) (by decide +kernel), rfl, ⟨by decide +kernel, by decide +kernel, by decide +kernel⟩, by decide +kernel⟩
theorem am_m_66 : am_mok 66 := ⟨am_gw 635 (by decide +kernel) (by decide +kernel), am_gw 38 (by decide +kernel) (by decide +kernel), rfl, ⟨by decide +kernel, by decide +kernel, by decide +kernel⟩, by decide +kernel⟩
theorem am_m_67 : am_mok 67 := ⟨am_gw 480 (by decide +kernel) (by decide +kernel), am_gw 38 (by decide +kernel) (by decide +kernel), rfl, ⟨by decide +kernel, by decide +kernel, by decide +kernel⟩, by decide +kernel⟩
theorem am_m_68 : am_mok 68 := ⟨am_gw 571 (by decide +kernel) (by decide +kernel), am_gw 38 (by decide +kernel) (by decide +kernel), rfl, ⟨by decide +kernel, by decide +kernel, by decide +kernel⟩, by decide +kernel⟩
theorem am_m_69 : am_mok 69 := ⟨am_gw 542 (by decide +kernel) (by decide +kernel), am_gw 38 (by decide +kernel) (by decide +kernel), rfl, ⟨by decide +kernel, by decide +kernel, by decide +kernel⟩, by decide +kernel⟩
theorem am_m_70 : am_mok 70 := ⟨am_gw 620 (by decide +kernel) (by decide +kernel), am_gw 38 (by decide +kernel) (by decide +kernel), rfl, ⟨by decide +kernel, by decide +kernel, by decide +kernel⟩, by decide +kernel⟩
theorem am_m_71 : am_mok 71 := ⟨am_gw 533 (by decide +kernel) (by decide +kernel), am_gw 38 (by decide +kernel) (by decide +kernel), rfl, ⟨by decide +kernel, by decide +kernel, by decide +kernel⟩, by decide +kernel⟩
theorem am_m_72 : am_mok 72 := ⟨am_gw 538 (by decide +kernel) (by decide +kernel), am_gw 38 (by decide +kernel) (by decide +kernel), rfl, ⟨by decide +kernel, by decide +kernel, by decide +kernel⟩, by decide +kernel⟩
theorem am_m_73 : am_mok 73 := ⟨am_gw 550 (by decide +kernel) (by decide +kernel), am_gw 38 (by decide +kernel) (by decide +kernel), rfl, ⟨by decide +kernel, by decide +kernel, by decide +kernel⟩, by decide +kernel⟩
theorem am_m_74 : am_mok 74 := ⟨am_gw 554 (by decide +kernel) (by decide +kernel), am_gw 38 (by decide +kernel) (by decide +kernel), rfl, ⟨by decide +kernel, by decide +kernel, by decide +kernel⟩, by decide +kernel⟩
theorem am_m_75 : am_mok 75 := ⟨am_gw 607 (by decide +kernel) (by decide +kernel), am_gw 38 (by decide +kernel) (by decide +kernel), rfl, ⟨by decide +kernel, by decide +kernel, by decide +kernel⟩, by decide +kernel⟩
theorem am_m_76 : am_mok 76 := ⟨am_gw 602 (by decide +kernel) (by decide +kernel), am_gw 38 (by decide +kernel) (by decide +kernel), rfl, ⟨by decide +kernel, by decide +kernel, by decide +kernel⟩, by decide +kernel⟩
theorem am_m_77 : am_mok 77 := ⟨am_gw 624 (by decide +kernel) (by decide +kernel), am_gw 38 (by decide +kernel) (by decide +kernel), rfl, ⟨by decide +kernel, by decide +kernel, by decide +kernel⟩, by decide +kernel⟩
theorem am_m_78 : am_mok 78 := ⟨am_gw 764 (by decide +kernel) (by decide +kernel), am_gw 46 (by decide +kernel) (by decide +kernel), rfl, ⟨by decide +kernel, by decide +kernel, by decide +kernel⟩, by decide +kernel⟩
theorem am_m_79 : am_mok 79 := ⟨am_gw 820 (by decide +kernel) (by decide +kernel), am_gw 46 (by decide +kernel) (by decide +kernel), rfl, ⟨by decide +kernel, by decide +kernel, by decide +kernel⟩, by decide +kernel⟩
theorem am_m_80 : am_mok 80 := ⟨am_gw 657 (by decide +kernel) (by decide +kernel), am_gw 46 (by decide +kernel) (by decide +kernel), rfl, ⟨by decide +kernel, by decide +kernel, by decide +kernel⟩, by decide +kernel⟩
theorem am_m_81 : am_mok 81 := ⟨am_gw 761 (by decide +kernel) (by decide +kernel), am_gw 46 (by decide +kernel) (by decide +kernel), rfl, ⟨by decide +kernel, by decide +kernel, by decide +kernel⟩, by decide +kernel⟩
theorem am_m_82 : am_mok 82 := ⟨am_gw 769 (by decide +kernel) (by decide +kernel), am_gw 46 (by decide +kernel) (by decide +kernel), rfl, ⟨by decide +kernel, by decide +kernel, by decide +kernel⟩, by decide +kernel⟩
theorem am_m_83 : am_mok 83 := ⟨am_gw 785 (by decide +kernel) (by decide +kernel), am_gw 46 (by decide +kernel) (by decide +kernel), rfl, ⟨by decide +kernel, by decide +kernel, by decide +kernel⟩, by decide +kernel⟩
theorem am_m_84 : am_mok 84 := ⟨am_gw 793 (by decide +kernel) (by decide +kernel), am_gw 46 (by decide +kernel) (by decide +kernel), rfl, ⟨by decide +kernel, by decide +kernel, by decide +kernel⟩, by decide +kernel⟩
theorem am_m_85 : am_mok 85 := ⟨am_gw 789 (by decide +kernel) (by decide +kernel), am_gw 46 (by decide +kernel) (by decide +kernel), rfl, ⟨by decide +kernel, by decide +kernel, by decide +kernel⟩, by decide +kernel⟩
theorem am_m_86 : am_mok 86 := ⟨am_gw 797 (by decide +kernel) (by decide +kernel), am_gw 46 (by decide +kernel) (by decide +kernel), rfl, ⟨by decide +kernel, by decide +kernel, by decide +kernel⟩, by decide +kernel⟩
theorem am_m_87 : am_mok 87 := ⟨am_gw 801 (by decide +kernel) (by decide +kernel), am_gw 46 (by decide +kernel) (by decide +kernel), rfl, ⟨by decide +kernel, by decide +kernel, by decide +kernel⟩, by decide +kernel⟩
theorem am_m_88 : am_mok 88 := ⟨am_gw 805 (by decide +kernel) (by decide +kernel), am_gw 46 (by decide +kernel) (by decide +kernel), rfl, ⟨by decide +kernel, by decide +kernel, by decide +kernel⟩, by decide +kernel⟩
theorem am_m_89 : am_mok 89 := ⟨am_gw 781 (by decide +kernel) (by decide +kernel), am_gw 46 (by decide +kernel) (by decide +kernel), rfl, ⟨by decide +kernel, by decide +kernel, by decide +kernel⟩, by decide +kernel⟩
theorem am_m_90 : am_mok 90 := ⟨am_gw 777 (by decide +kernel) (by decide +kernel), am_gw 46 (by decide +kernel) (by decide +kernel), rfl, ⟨by decide +kernel, by decide +kernel, by decide +kernel⟩, by decide +kernel⟩
theorem am_m_91 : am_mok 91 := ⟨am_gw 773 (by decide +kernel) (by decide +kernel), am_gw 46 (by decide +kernel) (by decide +kernel), rfl, ⟨by decide +kernel, by decide +kernel, by decide +kernel⟩, by decide +kernel⟩
theorem am_m_92 : am_mok 92 := ⟨am_gw 809 (by decide +kernel) (by decide +kernel), am_gw 46 (by decide +kernel) (by decide +kernel), rfl, ⟨by decide +kernel, by decide +kernel, by decide +kernel⟩, by decide +kernel⟩
theorem am_m_93 : am_mok 93 := ⟨am_gw 817 (by decide +kernel) (by decide +kernel), am_gw 46 (by decide +kernel) (by decide +kernel), rfl, ⟨by decide +kernel, by decide +kernel, by decide +kernel⟩, by decide +kernel⟩
theorem am_m_94 : am_mok 94 := ⟨am_gw 828 (by decide +kernel) (by decide +kernel), am_gw 46 (by decide +kernel) (by decide +kernel), rfl, ⟨by decide +kernel, by decide +kernel, by decide +kernel⟩, by decide +kernel⟩
theorem am_m_95 : am_mok 95 := ⟨am_gw 813 (by decide +kernel) (by decide +kernel), am_gw 46 (by decide +kernel) (by decide +kernel), rfl, ⟨by decide +kernel, by decide +kernel, by decide +kernel⟩, by decide +kernel⟩
theorem am_m_96 : am_mok 96 := ⟨am_gw 824 (by decide +kernel) (by decide +kernel), am_gw 46 (by decide +kernel) (by decide +kernel), rfl, ⟨by decide +kernel, by decide +kernel, by decide +kernel⟩, by decide +kernel⟩
theorem am_m_97 : am_mok 97 := ⟨am_gw 832 (by decide +kernel) (by decide +kernel), am_gw 46 (by decide +kernel) (by decide +kernel), rfl, ⟨by decide +kernel, by decide +kernel, by decide +kernel⟩, by decide +kernel⟩
theorem am_m_98 : am_mok 98 := ⟨am_gw 836 (by decide +kernel) (by decide +kernel), am_gw 46 (by decide +kernel) (by decide +kernel), rfl, ⟨by decide +kernel, by decide +kernel, by decide +kernel⟩, by decide +kernel⟩
theorem am_m_99 : am_mok 99 := ⟨am_gw 848 (by decide +kernel) (by decide +kernel), am_gw 46 (by decide +kernel) (by decide +kernel), rfl, ⟨by decide +kernel, by decide +kernel, by decide +kernel⟩, by decide +kernel⟩
theorem am_m_100 : am_mok 100 := ⟨am_gw 843 (by decide +kernel) (by decide +kernel), am_gw 46 (by decide +kernel) (by decide +kernel), rfl, ⟨by decide +kernel, by decide +kernel, by decide +kernel⟩, by decide +kernel⟩
theorem am_m_101 : am_mok 101 := ⟨am_gw 840 (by decide +kernel) (by decide +kernel), am_gw 46 (by decide +kernel) (by decide +kernel), rfl, ⟨by decide +kernel, by decide +kernel, by decide +kernel⟩, by decide +kernel⟩
theorem am_m_102 : am_mok 102 := ⟨am_gw 864 (by decide +kernel) (by decide +kernel), am_gw 46 (by decide +kernel) (by decide +kernel), rfl, ⟨by decide +kernel, by decide +kernel, by decide +kernel⟩, by decide +kernel⟩
theorem am_m_103 : am_mok 103 := ⟨am_gw 868 (by decide +kernel) (by decide +kernel), am_gw 46 (by decide +kernel) (by decide +kernel), rfl, ⟨by decide +kernel, by decide +kernel, by decide +kernel⟩, by decide +kernel⟩
theorem am_m_104 : am_mok 104 := ⟨am_gw 872 (by decide +kernel) (by decide +kernel), am_gw 46 (by decide +kernel) (by decide +kernel), rfl, ⟨by decide +kernel, by decide +kernel, by decide +kernel⟩, by decide +kernel⟩
theorem am_m_105 : am_mok 105 := ⟨am_gw 876 (by decide +kernel) (by decide +kernel), am_gw 46 (by decide +kernel) (by decide +kernel), rfl, ⟨by decide +kernel, by decide +kernel, by decide +kernel⟩, by decide +kernel⟩
theorem am_m_106 : am_mok 106 := ⟨am_gw 860 (by decide +kernel) (by decide +kernel), am_gw 46 (by decide +kernel) (by decide +kernel), rfl, ⟨by decide +kernel, by decide +kernel, by decide +kernel⟩, by decide +kernel⟩
theorem am_m_107 : am_mok 107 := ⟨am_gw 856 (by decide +kernel) (by decide +kernel), am_gw 46 (by decide +kernel) (by decide +kernel), rfl, ⟨by decide +kernel, by decide +kernel, by decide +kernel⟩, by decide +kernel⟩
theorem am_m_108 : am_mok 108 := ⟨am_gw 880 (by decide +kernel) (by decide +kernel), am_gw 46 (by decide +kernel) (by decide +kernel), rfl, ⟨by decide +kernel, by decide +kernel, by decide +kernel⟩, by decide +kernel⟩
theorem am_m_109 : am_mok 109 := ⟨am_gw 852 (by decide +kernel) (by decide +kernel), am_gw 46 (by decide +kernel) (by decide +kernel), rfl, ⟨by decide +kernel, by decide +kernel, by decide +kernel⟩, by decide +kernel⟩
theorem am_m_110 : am_mok 110 := ⟨am_gw 884 (by decide +kernel) (by decide +kernel), am_gw 46 (by decide +kernel) (by decide +kernel), rfl, ⟨by decide +kernel, by decide +kernel, by decide +kernel⟩, by decide +kernel⟩
theorem am_m_111 : am_mok 111 := ⟨am_gw 892 (by decide +kernel) (by decide +kernel), am_gw 46 (by decide +kernel) (by decide +kernel), rfl, ⟨by decide +kernel, by decide +kernel, by decide +kernel⟩, by decide +kernel⟩
theorem am_m_112 : am_mok 112 := ⟨am_gw 888 (by decide +kernel) (by decide +kernel), am_gw 46 (by decide +kernel) (by decide +kernel), rfl, ⟨by decide +kernel, by decide +kernel, by decide +kernel⟩, by decide +kernel⟩
theorem am_m_113 : am_mok 113 := ⟨am_gw 900 (by decide +kernel) (by decide +kernel), am_gw 46 (by decide +kernel) (by decide +kernel), rfl, ⟨by decide +kernel, by decide +kernel, by decide +kernel⟩, by decide +kernel⟩
theorem am_m_114 : am_mok 114 := ⟨am_gw 896 (by decide +kernel) (by decide +kernel), am_gw 46 (by decide +kernel) (by decide +kernel), rfl, ⟨by decide +kernel, by decide +kernel, by decide +kernel⟩, by decide +kernel⟩
theorem am_m_115 : am_mok 115 := ⟨am_gw 912 (by decide +kernel) (by decide +kernel), am_gw 46 (by decide +kernel) (by decide +kernel), rfl, ⟨by decide +kernel, by decide +kernel, by decide +kernel⟩, by decide +kernel⟩
theorem am_m_116 : am_mok 116 := ⟨am_gw 908 (by decide +kernel) (by decide +kernel), am_gw 46 (by decide +kernel) (by decide +kernel), rfl, ⟨by decide +kernel, by decide +kernel, by decide +kernel⟩, by decide +kernel⟩
theorem am_m_117 : am_mok 117 := ⟨am_gw 904 (by decide +kernel) (by decide +kernel), am_gw 46 (by decide +kernel) (by decide +kernel), rfl, ⟨by decide +kernel, by decide +kernel, by decide +kernel⟩, by decide +kernel⟩
theorem am_m_118 : am_mok 118 := ⟨am_gw 919 (by decide +kernel) (by decide +kernel), am_gw 46 (by decide +kernel) (by decide +kernel), rfl, ⟨by decide +kernel, by decide +kernel, by decide +kernel⟩, by decide +kernel⟩
theorem am_m_119 : am_mok 119 := ⟨am_gw 916 (by decide +kernel) (by decide +kernel), am_gw 46 (by decide +kernel) (by decide +kernel), rfl, ⟨by decide +kernel, by decide +kernel, by decide +kernel⟩, by decide +kernel⟩
theorem am_m_120 : am_mok 120 := ⟨am_gw 923 (by decide +kernel) (by decide +kernel), am_gw 46 (by decide +kernel) (by decide +kernel), rfl, ⟨by decide +kernel, by decide +kernel, by decide +kernel⟩, by decide +kernel⟩
theorem am_m_121 : am_mok 121 := ⟨am_gw 927 (by decide +kernel) (by decide +kernel), am_gw 46 (by decide +kernel) (by decide +kernel), rfl, ⟨by decide +kernel, by decide +kernel, by decide +kernel⟩, by decide +kernel⟩
theorem am_m_122 : am_mok 122 := ⟨am_gw 931 (by decide +kernel) (by decide +kernel), am_gw 46 (by decide +kernel) (by decide +kernel), rfl, ⟨by decide +kernel, by decide +kernel, by decide +kernel⟩, by decide +kernel⟩
theorem am_m_123 : am_mok 123 := ⟨am_gw 935 (by decide +kernel) (by decide +kernel), am_gw 46 (by decide +kernel) (by decide +kernel), rfl, ⟨by decide +kernel, by decide +kernel, by decide +kernel⟩, by decide +kernel⟩
theorem am_m_124 : am_mok 124 := ⟨am_gw 943 (by decide +kernel) (by decide +kernel), am_gw 46 (by decide +kernel) (by decide +kernel), rfl, ⟨by decide +kernel, by decide +kernel, by decide +kernel⟩, by decide +kernel⟩
theorem am_m_125 : am_mok 125 := ⟨am_gw 939 (by decide +kernel) (by decide +kernel), am_gw 46 (by decide +kernel) (by decide +kernel), rfl, ⟨by decide +kernel, by decide +kernel, by decide +kernel⟩, by decide +kernel⟩
theorem am_m_126 : am_mok 126 := ⟨am_gw 947 (by decide +kernel) (by decide +kernel), am_gw 46 (by decide +kernel) (by decide +kernel), rfl, ⟨by decide +kernel, by decide +kernel, by decide +kernel⟩, by decide +kernel⟩
theorem am_m_127 : am_mok 127 := ⟨am_gw 951 (by decide +kernel) (by decide +kernel), am_gw 46 (by decide +kernel) (by decide +kernel), rfl, ⟨by decide +kernel, by decide +kernel, by decide +kernel⟩, by decide +kernel⟩
theorem am_m_128 : am_mok 128 := ⟨am_gw 958 (by decide +kernel) (by decide +kernel), am_gw 46 (by decide +kernel) (by decide +kernel), rfl, ⟨by decide +kernel, by decide +kernel, by decide +kernel⟩, by decide +kernel⟩
theorem am_m_129 : am_mok 129 := ⟨am_gw 962 (by decide +kernel) (by decide +kernel), am_gw 46 (by decide +kernel) (by decide +kernel), rfl, ⟨by decide +kernel, by decide +kernel, by decide +kernel⟩, by decide +kernel⟩
theorem am_m_130 : am_mok 130 := ⟨am_gw 966 (by decide +kernel) (by decide +kernel), am_gw 46 (by decide +kernel) (by decide +kernel), rfl, ⟨by decide +kernel, by decide +kernel, by decide +kernel⟩, by decide +kernel⟩
theorem am_m_131 : am_mok 131 := ⟨am_gw 557 (by decide +kernel) (by decide +kernel), am_gw 48 (by decide +kernel) (by decide +kernel), rfl, ⟨by decide +kernel, by decide +kernel, by decide +kernel⟩, by decide +kernel⟩
theorem am_m_132 : am_mok 132 := ⟨am_gw 327 (by decide +kernel) (by decide +kernel), am_gw 45 (by decide +kernel) (by decide +kernel), rfl, ⟨by decide +kernel, by decide +kernel, by decide +kernel⟩, by decide +kernel⟩
def am_cvP (q : Nat × Nat × Nat × Nat × Nat × Nat × Nat × Nat) : Prop := Cond.methodLink (am_cn q.1) q.2.1 (am_y q.2.2.1) ∈ lw_g ∧ Cond.instanceMethod (am_y q.2.2.1) ∈ lw_g ∧ Cond.selects (am_cn (am_ow q.2.2.1)) (am_y q.2.2.1) (am_y q.2.2.1) ∈ lw_g ∧ am_mok q.2.2.1 ∧ ∃ (T : u_T) (n : Nat), vwCl[am_ow q.2.2.1]? = some (am_cn (am_ow q.2.2.1), T, n)
theorem am_cv_0_53 : am_cvP (0, 53, 17, 486, 487, 488, 40, 489) := ⟨am_gw 486 (by decide +kernel) (by decide +kernel), am_gw 487 (by decide +kernel) (by decide +kernel), am_gw 488 (by decide +kernel) (by decide +kernel), am_m_17, TX2, 18, rfl⟩
theorem am_cv_0_63 : am_cvP (0, 63, 1, 491, 492, 493, 44, 494) := ⟨am_gw 491 (by decide +kernel) (by decide +kernel), am_gw 492 (by decide +kernel) (by decide +kernel), am_gw 493 (by decide +kernel) (by decide +kernel), am_m_1, TX0, 5, rfl⟩
theorem am_cv_0_69 : am_cvP (0, 69, 2, 495, 496, 497, 44, 498) := ⟨am_gw 495 (by decide +kernel) (by decide +kernel), am_gw 496 (by decide +kernel) (by decide +kernel), am_gw 497 (by decide +kernel) (by decide +kernel), am_m_2, TX0, 5, rfl⟩
theorem am_cv_2_77 : am_cvP (2, 77, 9, 404, 288, 289, 40, 290) := ⟨am_gw 404 (by decide +kernel) (by decide +kernel), am_gw 288 (by decide +kernel) (by decide +kernel), am_gw 289 (by decide +kernel) (by decide +kernel), am_m_9, TX2, 18, rfl⟩
theorem am_cv_2_81 : am_cvP (2, 81, 8, 405, 406, 407, 40, 408) := ⟨am_gw 405 (by decide +kernel) (by decide +kernel), am_gw 406 (by decide +kernel) (by decide +kernel), am_gw 407 (by decide +kernel) (by decide +kernel), am_m_8, TX2, 18, rfl⟩
theorem am_cv_2_85 : am_cvP (2, 85, 10, 409, 410, 411, 40, 412) := ⟨am_gw 409 (by decide +kernel) (by decide +kernel), am_gw 410 (by decide +kernel) (by decide +kernel), am_gw 411 (by decide +kernel) (by decide +kernel), am_m_10, TX2, 18, rfl⟩
theorem am_cv_2_89 : am_cvP (2, 89, 12, 417, 418, 419, 40, 420) := ⟨am_gw 417 (by decide +kernel) (by decide +kernel), am_gw 418 (by decide +kernel) (by decide +kernel), am_gw 419 (by decide +kernel) (by decide +kernel), am_m_12, TX2, 18, rfl⟩
theorem am_cv_2_92 : am_cvP (2, 92, 13, 421, 422, 423, 40, 424) := ⟨am_gw 421 (by decide +kernel) (by decide +kernel), am_gw 422 (by decide +kernel) (by decide +kernel), am_gw 423 (by decide +kernel) (by decide +kernel), am_m_13, TX2, 18, rfl⟩
theorem am_cv_2_99 : am_cvP (2, 99, 11, 413, 414, 415, 40, 416) := ⟨am_gw 413 (by decide +kernel) (by decide +kernel), am_gw 414 (by decide +kernel) (by decide +kernel), am_gw 415 (by decide +kernel) (by decide +kernel), am_m_11, TX2, 18, rfl⟩
theorem am_cv_2_103 : am_cvP (2, 103, 29, 298, 299, 300, 41, 301) := ⟨am_gw 298 (by decide +kernel) (by decide +kernel), am_gw 299 (by decide +kernel) (by decide +kernel), am_gw 300 (by decide +kernel) (by decide +kernel), am_m_29, TX5, 7, rfl⟩
theorem am_cv_2_107 : am_cvP (2, 107, 16, 469, 470, 471, 40, 472) := ⟨am_gw 469 (by decide +kernel) (by decide +kernel), am_gw 470 (by decide +kernel) (by decide +kernel), am_gw 471 (by decide +kernel) (by decide +kernel), am_m_16, TX2, 18, rfl⟩
theorem am_cv_3_32 : am_cvP (3, 32, 5, 381, 284, 285, 40, 286) := ⟨am_gw 381 (by decide +kernel) (by decide +kernel), am_gw 284 (by decide +kernel) (by decide +kernel), am_gw 285 (by decide +kernel) (by decide +kernel), am_m_5, TX2, 18, rfl⟩
theorem am_cv_3_37 : am_cvP (3, 37, 20, 382, 383, 384, 39, 385) := ⟨am_gw 382 (by decide +kernel) (by decide +kernel), am_gw 383 (by decide +kernel) (by decide +kernel), am_gw 384 (by decide +kernel) (by decide +kernel), am_m_20, TX3, 4, rfl⟩
theorem am_cv_3_45 : am_cvP (3, 45, 21, 389, 390, 391, 39, 392) := ⟨am_gw 389 (by decide +kernel) (by decide +kernel), am_gw 390 (by decide +kernel) (by decide +kernel), am_gw 391 (by decide +kernel) (by decide +kernel), am_m_21, TX3, 4, rfl⟩
theorem am_cv_3_49 : am_cvP (3, 49, 7, 400, 401, 402, 40, 403) := ⟨am_gw 400 (by decide +kernel) (by decide +kernel), am_gw 401 (by decide +kernel) (by decide +kernel), am_gw 402 (by decide +kernel) (by decide +kernel), am_m_7, TX2, 18, rfl⟩
theorem am_cv_3_53 : am_cvP (3, 53, 22, 393, 394, 395, 39, 396) := ⟨am_gw 393 (by decide +kernel) (by decide +kernel), am_gw 394 (by decide +kernel) (by decide +kernel), am_gw 395 (by decide +kernel) (by decide +kernel), am_m_22, TX3, 4, rfl⟩
theorem am_cv_5_43 : am_cvP (5, 43, 31, 302, 303, 304, 41, 305) := ⟨am_gw 302 (by decide +kernel) (by decide +kernel), am_gw 303 (by decide +kernel) (by decide +kernel), am_gw 304 (by decide +kernel) (by decide +kernel), am_m_31, TX5, 7, rfl⟩
theorem am_cv_5_47 : am_cvP (5, 47, 30, 306, 307, 308, 41, 309) := ⟨am_gw 306 (by decide +kernel) (by decide +kernel), am_gw 307 (by decide +kernel) (by decide +kernel), am_gw 308 (by decide +kernel) (by decide +kernel), am_m_30, TX5, 7, rfl⟩
theorem am_cv_5_50 : am_cvP (5, 50, 32, 310, 311, 312, 41, 313) := ⟨am_gw 310 (by decide +kernel) (by decide +kernel), am_gw 311 (by decide +kernel) (by decide +kernel), am_gw 312 (by decide +kernel) (by decide +kernel), am_m_32, TX5, 7, rfl⟩
theorem am_cv_5_54 : am_cvP (5, 54, 34, 317, 318, 319, 41, 320) := ⟨am_gw 317 (by decide +kernel) (by decide +kernel), am_gw 318 (by decide +kernel) (by decide +kernel), am_gw 319 (by decide +kernel) (by decide +kernel), am_m_34, TX5, 7, rfl⟩
theorem am_cv_6_64 : am_cvP (6, 64, 14, 294, 295, 296, 40, 297) := ⟨am_gw 294 (by decide +kernel) (by decide +kernel), am_gw 295 (by decide +kernel) (by decide +kernel), am_gw 296 (by decide +kernel) (by decide +kernel), am_m_14, TX2, 18, rfl⟩
theorem am_cv_6_71 : am_cvP (6, 71, 24, 321, 322, 323, 42, 324) := ⟨am_gw 321 (by decide +kernel) (by decide +kernel), am_gw 322 (by decide +kernel) (by decide +kernel), am_gw 323 (by decide +kernel) (by decide +kernel), am_m_24, TX4, 5, rfl⟩
theorem am_cv_6_78 : am_cvP (6, 78, 18, 374, 375, 376, 39, 377) := ⟨am_gw 374 (by decide +kernel) (by decide +kernel), am_gw 375 (by decide +kernel) (by decide +kernel), am_gw 376 (by decide +kernel) (by decide +kernel), am_m_18, TX3, 4, rfl⟩
theorem am_cv_6_91 : am_cvP (6, 91, 60, 433, 435, 0, 38, 436) := ⟨am_gw 433 (by decide +kernel) (by decide +kernel), am_gw 435 (by decide +kernel) (by decide +kernel), am_gw 0 (by decide +kernel) (by decide +kernel), am_m_60, TX6, 11, rfl⟩
theorem am_cv_6_115 : am_cvP (6, 115, 61, 444, 446, 1, 38, 447) := ⟨am_gw 444 (by decide +kernel) (by decide +kernel), am_gw 446 (by decide +kernel) (by decide +kernel), am_gw 1 (by decide +kernel) (by decide +kernel), am_m_61, TX6, 11, rfl⟩
theorem am_cv_6_140 : am_cvP (6, 140, 15, 465, 466, 467, 40, 468) := ⟨am_gw 465 (by decide +kernel) (by decide +kernel), am_gw 466 (by decide +kernel) (by decide +kernel), am_gw 467 (by decide +kernel) (by decide +kernel), am_m_15, TX2, 18, rfl⟩
theorem am_cv_6_144 : am_cvP (6, 144, 67, 477, 479, 2, 38, 480) := ⟨am_gw 477 (by decide +kernel) (by decide +kernel), am_gw 479 (by decide +kernel) (by decide +kernel), am_gw 2 (by decide +kernel) (by decide +kernel), am_m_67, TX6, 11, rfl⟩
theorem am_cv_6_153 : am_cvP (6, 153, 3, 507, 508, 509, 44, 510) := ⟨am_gw 507 (by decide +kernel) (by decide +kernel), am_gw 508 (by decide +kernel) (by decide +kernel), am_gw 509 (by decide +kernel) (by decide +kernel), am_m_3, TX0, 5, rfl⟩
theorem am_cv_6_159 : am_cvP (6, 159, 26, 515, 516, 517, 42, 518) := ⟨am_gw 515 (by decide +kernel) (by decide +kernel), am_gw 516 (by decide +kernel) (by decide +kernel), am_gw 517 (by decide +kernel) (by decide +kernel), am_m_26, TX4, 5, rfl⟩
theorem am_cv_6_163 : am_cvP (6, 163, 28, 522, 523, 524, 42, 525) := ⟨am_gw 522 (by decide +kernel) (by decide +kernel), am_gw 523 (by decide +kernel) (by decide +kernel), am_gw 524 (by decide +kernel) (by decide +kernel), am_m_28, TX4, 5, rfl⟩
theorem am_cv_6_166 : am_cvP (6, 166, 71, 530, 532, 3, 38, 533) := ⟨am_gw 530 (by decide +kernel) (by decide +kernel), am_gw 532 (by decide +kernel) (by decide +kernel), am_gw 3 (by decide +kernel) (by decide +kernel), am_m_71, TX6, 11, rfl⟩
theorem am_cv_6_169 : am_cvP (6, 169, 73, 547, 549, 6, 38, 550) := ⟨am_gw 547 (by decide +kernel) (by decide +kernel), am_gw 549 (by decide +kernel) (by decide +kernel), am_gw 6 (by decide +kernel) (by decide +kernel), am_m_73, TX6, 11, rfl⟩
theorem am_cv_6_173 : am_cvP (6, 173, 74, 551, 553, 7, 38, 554) := ⟨am_gw 551 (by decide +kernel) (by decide +kernel), am_gw 553 (by decide +kernel) (by decide +kernel), am_gw 7 (by decide +kernel) (by decide +kernel), am_m_74, TX6, 11, rfl⟩
theorem am_cv_6_179 : am_cvP (6, 179, 68, 568, 570, 8, 38, 571) := ⟨am_gw 568 (by decide +kernel) (by decide +kernel), am_gw 570 (by decide +kernel) (by decide +kernel), am_gw 8 (by decide +kernel) (by decide +kernel), am_m_68, TX6, 11, rfl⟩
theorem am_cv_6_183 : am_cvP (6, 183, 4, 576, 577, 578, 43, 579) := ⟨am_gw 576 (by decide +kernel) (by decide +kernel), am_gw 577 (by decide +kernel) (by decide +kernel), am_gw 578 (by decide +kernel) (by decide +kernel), am_m_4, TX1, 4, rfl⟩
theorem am_cv_6_195 : am_cvP (6, 195, 6, 592, 593, 594, 40, 595) := ⟨am_gw 592 (by decide +kernel) (by decide +kernel), am_gw 593 (by decide +kernel) (by decide +kernel), am_gw 594 (by decide +kernel) (by decide +kernel), am_m_6, TX2, 18, rfl⟩
theorem am_cv_6_199 : am_cvP (6, 199, 76, 599, 601, 9, 38, 602) := ⟨am_gw 599 (by decide +kernel) (by decide +kernel), am_gw 601 (by decide +kernel) (by decide +kernel), am_gw 9 (by decide +kernel) (by decide +kernel), am_m_76, TX6, 11, rfl⟩
theorem am_cv_6_202 : am_cvP (6, 202, 75, 604, 606, 10, 38, 607) := ⟨am_gw 604 (by decide +kernel) (by decide +kernel), am_gw 606 (by decide +kernel) (by decide +kernel), am_gw 10 (by decide +kernel) (by decide +kernel), am_m_75, TX6, 11, rfl⟩
theorem am_cv_6_206 : am_cvP (6, 206, 70, 617, 619, 11, 38, 620) := ⟨am_gw 617 (by decide +kernel) (by decide +kernel), am_gw 619 (by decide +kernel) (by decide +kernel), am_gw 11 (by decide +kernel) (by decide +kernel), am_m_70, TX6, 11, rfl⟩
theorem am_cv_6_209 : am_cvP (6, 209, 77, 621, 623, 12, 38, 624) := ⟨am_gw 621 (by decide +kernel) (by decide +kernel), am_gw 623 (by decide +kernel) (by decide +kernel), am_gw 12 (by decide +kernel) (by decide +kernel), am_m_77, TX6, 11, rfl⟩
theorem am_cv_6_215 : am_cvP (6, 215, 16, 534, 470, 471, 40, 472) := ⟨am_gw 534 (by decide +kernel) (by decide +kernel), am_gw 470 (by decide +kernel) (by decide +kernel), am_gw 471 (by decide +kernel) (by decide +kernel), am_m_16, TX2, 18, rfl⟩
theorem am_cv_6_221 : am_cvP (6, 221, 66, 632, 634, 13, 38, 635) := ⟨am_gw 632 (by decide +kernel) (by decide +kernel), am_gw 634 (by decide +kernel) (by decide +kernel), am_gw 13 (by decide +kernel) (by decide +kernel), am_m_66, TX6, 11, rfl⟩
theorem am_cv_6_225 : am_cvP (6, 225, 25, 636, 637, 638, 42, 639) := ⟨am_gw 636 (by decide +kernel) (by decide +kernel), am_gw 637 (by decide +kernel) (by decide +kernel), am_gw 638 (by decide +kernel) (by decide +kernel), am_m_25, TX4, 5, rfl⟩
theorem am_cv_6_232 : am_cvP (6, 232, 0, 481, 482, 483, 44, 484) := ⟨am_gw 481 (by decide +kernel) (by decide +kernel), am_gw 482 (by decide +kernel) (by decide +kernel), am_gw 483 (by decide +kernel) (by decide +kernel), am_m_0, TX0, 5, rfl⟩
theorem am_cv_6_239 : am_cvP (6, 239, 69, 539, 541, 5, 38, 542) := ⟨am_gw 539 (by decide +kernel) (by decide +kernel), am_gw 541 (by decide +kernel) (by decide +kernel), am_gw 5 (by decide +kernel) (by decide +kernel), am_m_69, TX6, 11, rfl⟩
theorem am_cv_6_243 : am_cvP (6, 243, 72, 535, 537, 4, 38, 538) := ⟨am_gw 535 (by decide +kernel) (by decide +kernel), am_gw 537 (by decide +kernel) (by decide +kernel), am_gw 4 (by decide +kernel) (by decide +kernel), am_m_72, TX6, 11, rfl⟩
theorem am_cv_6_257 : am_cvP (6, 257, 10, 603, 410, 411, 40, 412) := ⟨am_gw 603 (by decide +kernel) (by decide +kernel), am_gw 410 (by decide +kernel) (by decide +kernel), am_gw 411 (by decide +kernel) (by decide +kernel), am_m_10, TX2, 18, rfl⟩
theorem am_cv_7_81 : am_cvP (7, 81, 83, 782, 784, 16, 46, 785) := ⟨am_gw 782 (by decide +kernel) (by decide +kernel), am_gw 784 (by decide +kernel) (by decide +kernel), am_gw 16 (by decide +kernel) (by decide +kernel), am_m_83, TX7, 33, rfl⟩
theorem am_cv_7_88 : am_cvP (7, 88, 84, 790, 792, 18, 46, 793) := ⟨am_gw 790 (by decide +kernel) (by decide +kernel), am_gw 792 (by decide +kernel) (by decide +kernel), am_gw 18 (by decide +kernel) (by decide +kernel), am_m_84, TX7, 33, rfl⟩
theorem am_cv_7_94 : am_cvP (7, 94, 87, 798, 800, 20, 46, 801) := ⟨am_gw 798 (by decide +kernel) (by decide +kernel), am_gw 800 (by decide +kernel) (by decide +kernel), am_gw 20 (by decide +kernel) (by decide +kernel), am_m_87, TX7, 33, rfl⟩
theorem am_cv_7_98 : am_cvP (7, 98, 85, 786, 788, 17, 46, 789) := ⟨am_gw 786 (by decide +kernel) (by decide +kernel), am_gw 788 (by decide +kernel) (by decide +kernel), am_gw 17 (by decide +kernel) (by decide +kernel), am_m_85, TX7, 33, rfl⟩
theorem am_cv_7_102 : am_cvP (7, 102, 86, 794, 796, 19, 46, 797) := ⟨am_gw 794 (by decide +kernel) (by decide +kernel), am_gw 796 (by decide +kernel) (by decide +kernel), am_gw 19 (by decide +kernel) (by decide +kernel), am_m_86, TX7, 33, rfl⟩
theorem am_cv_7_106 : am_cvP (7, 106, 88, 802, 804, 21, 46, 805) := ⟨am_gw 802 (by decide +kernel) (by decide +kernel), am_gw 804 (by decide +kernel) (by decide +kernel), am_gw 21 (by decide +kernel) (by decide +kernel), am_m_88, TX7, 33, rfl⟩
theorem am_cv_7_109 : am_cvP (7, 109, 89, 778, 780, 15, 46, 781) := ⟨am_gw 778 (by decide +kernel) (by decide +kernel), am_gw 780 (by decide +kernel) (by decide +kernel), am_gw 15 (by decide +kernel) (by decide +kernel), am_m_89, TX7, 33, rfl⟩
theorem am_cv_7_112 : am_cvP (7, 112, 90, 774, 776, 14, 46, 777) := ⟨am_gw 774 (by decide +kernel) (by decide +kernel), am_gw 776 (by decide +kernel) (by decide +kernel), am_gw 14 (by decide +kernel) (by decide +kernel), am_m_90, TX7, 33, rfl⟩
theorem am_cv_7_136 : am_cvP (7, 136, 93, 814, 816, 22, 46, 817) := ⟨am_gw 814 (by decide +kernel) (by decide +kernel), am_gw 816 (by decide +kernel) (by decide +kernel), am_gw 22 (by decide +kernel) (by decide +kernel), am_m_93, TX7, 33, rfl⟩
theorem am_cv_7_143 : am_cvP (7, 143, 94, 825, 827, 23, 46, 828) := ⟨am_gw 825 (by decide +kernel) (by decide +kernel), am_gw 827 (by decide +kernel) (by decide +kernel), am_gw 23 (by decide +kernel) (by decide +kernel), am_m_94, TX7, 33, rfl⟩
theorem am_cv_7_150 : am_cvP (7, 150, 99, 845, 847, 24, 46, 848) := ⟨am_gw 845 (by decide +kernel) (by decide +kernel), am_gw 847 (by decide +kernel) (by decide +kernel), am_gw 24 (by decide +kernel) (by decide +kernel), am_m_99, TX7, 33, rfl⟩
theorem am_cv_7_166 : am_cvP (7, 166, 105, 873, 875, 30, 46, 876) := ⟨am_gw 873 (by decide +kernel) (by decide +kernel), am_gw 875 (by decide +kernel) (by decide +kernel), am_gw 30 (by decide +kernel) (by decide +kernel), am_m_105, TX7, 33, rfl⟩
theorem am_cv_7_169 : am_cvP (7, 169, 102, 861, 863, 27, 46, 864) := ⟨am_gw 861 (by decide +kernel) (by decide +kernel), am_gw 863 (by decide +kernel) (by decide +kernel), am_gw 27 (by decide +kernel) (by decide +kernel), am_m_102, TX7, 33, rfl⟩
theorem am_cv_7_173 : am_cvP (7, 173, 103, 865, 867, 28, 46, 868) := ⟨am_gw 865 (by decide +kernel) (by decide +kernel), am_gw 867 (by decide +kernel) (by decide +kernel), am_gw 28 (by decide +kernel) (by decide +kernel), am_m_103, TX7, 33, rfl⟩
theorem am_cv_7_176 : am_cvP (7, 176, 104, 869, 871, 29, 46, 872) := ⟨am_gw 869 (by decide +kernel) (by decide +kernel), am_gw 871 (by decide +kernel) (by decide +kernel), am_gw 29 (by decide +kernel) (by decide +kernel), am_m_104, TX7, 33, rfl⟩
theorem am_cv_7_180 : am_cvP (7, 180, 106, 857, 859, 26, 46, 860) := ⟨am_gw 857 (by decide +kernel) (by decide +kernel), am_gw 859 (by decide +kernel) (by decide +kernel), am_gw 26 (by decide +kernel) (by decide +kernel), am_m_106, TX7, 33, rfl⟩
theorem am_cv_7_184 : am_cvP (7, 184, 108, 877, 879, 31, 46, 880) := ⟨am_gw 877 (by decide +kernel) (by decide +kernel), am_gw 879 (by decide +kernel) (by decide +kernel), am_gw 31 (by decide +kernel) (by decide +kernel), am_m_108, TX7, 33, rfl⟩
theorem am_cv_7_187 : am_cvP (7, 187, 107, 853, 855, 25, 46, 856) := ⟨am_gw 853 (by decide +kernel) (by decide +kernel), am_gw 855 (by decide +kernel) (by decide +kernel), am_gw 25 (by decide +kernel) (by decide +kernel), am_m_107, TX7, 33, rfl⟩
theorem am_cv_7_190 : am_cvP (7, 190, 111, 889, 891, 32, 46, 892) := ⟨am_gw 889 (by decide +kernel) (by decide +kernel), am_gw 891 (by decide +kernel) (by decide +kernel), am_gw 32 (by decide +kernel) (by decide +kernel), am_m_111, TX7, 33, rfl⟩
theorem am_cv_7_194 : am_cvP (7, 194, 113, 897, 899, 33, 46, 900) := ⟨am_gw 897 (by decide +kernel) (by decide +kernel), am_gw 899 (by decide +kernel) (by decide +kernel), am_gw 33 (by decide +kernel) (by decide +kernel), am_m_113, TX7, 33, rfl⟩
theorem am_cv_7_197 : am_cvP (7, 197, 115, 909, 911, 35, 46, 912) := ⟨am_gw 909 (by decide +kernel) (by decide +kernel), am_gw 911 (by decide +kernel) (by decide +kernel), am_gw 35 (by decide +kernel) (by decide +kernel), am_m_115, TX7, 33, rfl⟩
theorem am_cv_7_200 : am_cvP (7, 200, 116, 905, 907, 34, 46, 908) := ⟨am_gw 905 (by decide +kernel) (by decide +kernel), am_gw 907 (by decide +kernel) (by decide +kernel), am_gw 34 (by decide +kernel) (by decide +kernel), am_m_116, TX7, 33, rfl⟩
theorem am_cv_7_206 : am_cvP (7, 206, 124, 940, 942, 36, 46, 943) := ⟨am_gw 940 (by decide +kernel) (by decide +kernel), am_gw 942 (by decide +kernel) (by decide +kernel), am_gw 36 (by decide +kernel) (by decide +kernel), am_m_124, TX7, 33, rfl⟩
theorem am_cv_11_15 : am_cvP (11, 15, 35, 362, 363, 364, 38, 365) := ⟨am_gw 362 (by decide +kernel) (by decide +kernel), am_gw 363 (by decide +kernel) (by decide +kernel), am_gw 364 (by decide +kernel) (by decide +kernel), am_m_35, TX6, 11, rfl⟩
theorem am_cv_11_19 : am_cvP (11, 19, 81, 758, 759, 760, 46, 761) := ⟨am_gw 758 (by decide +kernel) (by decide +kernel), am_gw 759 (by decide +kernel) (by decide +kernel), am_gw 760 (by decide +kernel) (by decide +kernel), am_m_81, TX7, 33, rfl⟩
theorem am_cv_11_20 : am_cvP (11, 20, 36, 366, 367, 368, 38, 369) := ⟨am_gw 366 (by decide +kernel) (by decide +kernel), am_gw 367 (by decide +kernel) (by decide +kernel), am_gw 368 (by decide +kernel) (by decide +kernel), am_m_36, TX6, 11, rfl⟩
theorem am_cv_11_24 : am_cvP (11, 24, 82, 766, 767, 768, 46, 769) := ⟨am_gw 766 (by decide +kernel) (by decide +kernel), am_gw 767 (by decide +kernel) (by decide +kernel), am_gw 768 (by decide +kernel) (by decide +kernel), am_m_82, TX7, 33, rfl⟩
theorem am_cv_11_25 : am_cvP (11, 25, 37, 370, 371, 372, 38, 373) := ⟨am_gw 370 (by decide +kernel) (by decide +kernel), am_gw 371 (by decide +kernel) (by decide +kernel), am_gw 372 (by decide +kernel) (by decide +kernel), am_m_37, TX6, 11, rfl⟩
theorem am_cv_11_28 : am_cvP (11, 28, 91, 770, 771, 772, 46, 773) := ⟨am_gw 770 (by decide +kernel) (by decide +kernel), am_gw 771 (by decide +kernel) (by decide +kernel), am_gw 772 (by decide +kernel) (by decide +kernel), am_m_91, TX7, 33, rfl⟩
theorem am_cv_11_29 : am_cvP (11, 29, 38, 425, 426, 427, 38, 428) := ⟨am_gw 425 (by decide +kernel) (by decide +kernel), am_gw 426 (by decide +kernel) (by decide +kernel), am_gw 427 (by decide +kernel) (by decide +kernel), am_m_38, TX6, 11, rfl⟩
theorem am_cv_11_32 : am_cvP (11, 32, 92, 806, 807, 808, 46, 809) := ⟨am_gw 806 (by decide +kernel) (by decide +kernel), am_gw 807 (by decide +kernel) (by decide +kernel), am_gw 808 (by decide +kernel) (by decide +kernel), am_m_92, TX7, 33, rfl⟩
theorem am_cv_11_33 : am_cvP (11, 33, 39, 429, 430, 431, 38, 432) := ⟨am_gw 429 (by decide +kernel) (by decide +kernel), am_gw 430 (by decide +kernel) (by decide +kernel), am_gw 431 (by decide +kernel) (by decide +kernel), am_m_39, TX6, 11, rfl⟩
theorem am_cv_11_37 : am_cvP (11, 37, 95, 810, 811, 812, 46, 813) := ⟨am_gw 810 (by decide +kernel) (by decide +kernel), am_gw 811 (by decide +kernel) (by decide +kernel), am_gw 812 (by decide +kernel) (by decide +kernel), am_m_95, TX7, 33, rfl⟩
theorem am_cv_11_38 : am_cvP (11, 38, 40, 440, 441, 442, 38, 443) := ⟨am_gw 440 (by decide +kernel) (by decide +kernel), am_gw 441 (by decide +kernel) (by decide +kernel), am_gw 442 (by decide +kernel) (by decide +kernel), am_m_40, TX6, 11, rfl⟩
theorem am_cv_11_41 : am_cvP (11, 41, 96, 821, 822, 823, 46, 824) := ⟨am_gw 821 (by decide +kernel) (by decide +kernel), am_gw 822 (by decide +kernel) (by decide +kernel), am_gw 823 (by decide +kernel) (by decide +kernel), am_m_96, TX7, 33, rfl⟩
theorem am_cv_11_42 : am_cvP (11, 42, 41, 448, 449, 450, 38, 451) := ⟨am_gw 448 (by decide +kernel) (by decide +kernel), am_gw 449 (by decide +kernel) (by decide +kernel), am_gw 450 (by decide +kernel) (by decide +kernel), am_m_41, TX6, 11, rfl⟩
theorem am_cv_11_46 : am_cvP (11, 46, 97, 829, 830, 831, 46, 832) := ⟨am_gw 829 (by decide +kernel) (by decide +kernel), am_gw 830 (by decide +kernel) (by decide +kernel), am_gw 831 (by decide +kernel) (by decide +kernel), am_m_97, TX7, 33, rfl⟩
theorem am_cv_11_47 : am_cvP (11, 47, 42, 453, 454, 455, 38, 456) := ⟨am_gw 453 (by decide +kernel) (by decide +kernel), am_gw 454 (by decide +kernel) (by decide +kernel), am_gw 455 (by decide +kernel) (by decide +kernel), am_m_42, TX6, 11, rfl⟩
theorem am_cv_11_50 : am_cvP (11, 50, 98, 833, 834, 835, 46, 836) := ⟨am_gw 833 (by decide +kernel) (by decide +kernel), am_gw 834 (by decide +kernel) (by decide +kernel), am_gw 835 (by decide +kernel) (by decide +kernel), am_m_98, TX7, 33, rfl⟩
theorem am_cv_11_51 : am_cvP (11, 51, 43, 457, 458, 459, 38, 460) := ⟨am_gw 457 (by decide +kernel) (by decide +kernel), am_gw 458 (by decide +kernel) (by decide +kernel), am_gw 459 (by decide +kernel) (by decide +kernel), am_m_43, TX6, 11, rfl⟩
theorem am_cv_11_55 : am_cvP (11, 55, 101, 837, 838, 839, 46, 840) := ⟨am_gw 837 (by decide +kernel) (by decide +kernel), am_gw 838 (by decide +kernel) (by decide +kernel), am_gw 839 (by decide +kernel) (by decide +kernel), am_m_101, TX7, 33, rfl⟩
theorem am_cv_11_56 : am_cvP (11, 56, 44, 473, 474, 475, 38, 476) := ⟨am_gw 473 (by decide +kernel) (by decide +kernel), am_gw 474 (by decide +kernel) (by decide +kernel), am_gw 475 (by decide +kernel) (by decide +kernel), am_m_44, TX6, 11, rfl⟩
theorem am_cv_11_59 : am_cvP (11, 59, 109, 849, 850, 851, 46, 852) := ⟨am_gw 849 (by decide +kernel) (by decide +kernel), am_gw 850 (by decide +kernel) (by decide +kernel), am_gw 851 (by decide +kernel) (by decide +kernel), am_m_109, TX7, 33, rfl⟩
theorem am_cv_11_60 : am_cvP (11, 60, 45, 499, 500, 501, 38, 502) := ⟨am_gw 499 (by decide +kernel) (by decide +kernel), am_gw 500 (by decide +kernel) (by decide +kernel), am_gw 501 (by decide +kernel) (by decide +kernel), am_m_45, TX6, 11, rfl⟩
theorem am_cv_11_63 : am_cvP (11, 63, 110, 881, 882, 883, 46, 884) := ⟨am_gw 881 (by decide +kernel) (by decide +kernel), am_gw 882 (by decide +kernel) (by decide +kernel), am_gw 883 (by decide +kernel) (by decide +kernel), am_m_110, TX7, 33, rfl⟩
theorem am_cv_11_64 : am_cvP (11, 64, 46, 503, 504, 505, 38, 506) := ⟨am_gw 503 (by decide +kernel) (by decide +kernel), am_gw 504 (by decide +kernel) (by decide +kernel), am_gw 505 (by decide +kernel) (by decide +kernel), am_m_46, TX6, 11, rfl⟩
theorem am_cv_11_67 : am_cvP (11, 67, 112, 885, 886, 887, 46, 888) := ⟨am_gw 885 (by decide +kernel) (by decide +kernel), am_gw 886 (by decide +kernel) (by decide +kernel), am_gw 887 (by decide +kernel) (by decide +kernel), am_m_112, TX7, 33, rfl⟩
theorem am_cv_11_68 : am_cvP (11, 68, 47, 511, 512, 513, 38, 514) := ⟨am_gw 511 (by decide +kernel) (by decide +kernel), am_gw 512 (by decide +kernel) (by decide +kernel), am_gw 513 (by decide +kernel) (by decide +kernel), am_m_47, TX6, 11, rfl⟩
theorem am_cv_11_71 : am_cvP (11, 71, 114, 893, 894, 895, 46, 896) := ⟨am_gw 893 (by decide +kernel) (by decide +kernel), am_gw 894 (by decide +kernel) (by decide +kernel), am_gw 895 (by decide +kernel) (by decide +kernel), am_m_114, TX7, 33, rfl⟩
theorem am_cv_11_72 : am_cvP (11, 72, 48, 526, 527, 528, 38, 529) := ⟨am_gw 526 (by decide +kernel) (by decide +kernel), am_gw 527 (by decide +kernel) (by decide +kernel), am_gw 528 (by decide +kernel) (by decide +kernel), am_m_48, TX6, 11, rfl⟩
theorem am_cv_11_75 : am_cvP (11, 75, 117, 901, 902, 903, 46, 904) := ⟨am_gw 901 (by decide +kernel) (by decide +kernel), am_gw 902 (by decide +kernel) (by decide +kernel), am_gw 903 (by decide +kernel) (by decide +kernel), am_m_117, TX7, 33, rfl⟩
theorem am_cv_11_76 : am_cvP (11, 76, 49, 543, 544, 545, 38, 546) := ⟨am_gw 543 (by decide +kernel) (by decide +kernel), am_gw 544 (by decide +kernel) (by decide +kernel), am_gw 545 (by decide +kernel) (by decide +kernel), am_m_49, TX6, 11, rfl⟩
theorem am_cv_11_79 : am_cvP (11, 79, 119, 913, 914, 915, 46, 916) := ⟨am_gw 913 (by decide +kernel) (by decide +kernel), am_gw 914 (by decide +kernel) (by decide +kernel), am_gw 915 (by decide +kernel) (by decide +kernel), am_m_119, TX7, 33, rfl⟩
theorem am_cv_11_80 : am_cvP (11, 80, 50, 561, 562, 563, 38, 564) := ⟨am_gw 561 (by decide +kernel) (by decide +kernel), am_gw 562 (by decide +kernel) (by decide +kernel), am_gw 563 (by decide +kernel) (by decide +kernel), am_m_50, TX6, 11, rfl⟩
theorem am_cv_11_84 : am_cvP (11, 84, 120, 920, 921, 922, 46, 923) := ⟨am_gw 920 (by decide +kernel) (by decide +kernel), am_gw 921 (by decide +kernel) (by decide +kernel), am_gw 922 (by decide +kernel) (by decide +kernel), am_m_120, TX7, 33, rfl⟩
theorem am_cv_11_85 : am_cvP (11, 85, 51, 572, 573, 574, 38, 575) := ⟨am_gw 572 (by decide +kernel) (by decide +kernel), am_gw 573 (by decide +kernel) (by decide +kernel), am_gw 574 (by decide +kernel) (by decide +kernel), am_m_51, TX6, 11, rfl⟩
theorem am_cv_11_89 : am_cvP (11, 89, 121, 924, 925, 926, 46, 927) := ⟨am_gw 924 (by decide +kernel) (by decide +kernel), am_gw 925 (by decide +kernel) (by decide +kernel), am_gw 926 (by decide +kernel) (by decide +kernel), am_m_121, TX7, 33, rfl⟩
theorem am_cv_11_90 : am_cvP (11, 90, 52, 580, 581, 582, 38, 583) := ⟨am_gw 580 (by decide +kernel) (by decide +kernel), am_gw 581 (by decide +kernel) (by decide +kernel), am_gw 582 (by decide +kernel) (by decide +kernel), am_m_52, TX6, 11, rfl⟩
theorem am_cv_11_93 : am_cvP (11, 93, 122, 928, 929, 930, 46, 931) := ⟨am_gw 928 (by decide +kernel) (by decide +kernel), am_gw 929 (by decide +kernel) (by decide +kernel), am_gw 930 (by decide +kernel) (by decide +kernel), am_m_122, TX7, 33, rfl⟩
theorem am_cv_11_94 : am_cvP (11, 94, 53, 584, 585, 586, 38, 587) := ⟨am_gw 584 (by decide +kernel) (by decide +kernel), am_gw 585 (by decide +kernel) (by decide +kernel), am_gw 586 (by decide +kernel) (by decide +kernel), am_m_53, TX6, 11, rfl⟩
theorem am_cv_11_97 : am_cvP (11, 97, 123, 932, 933, 934, 46, 935) := ⟨am_gw 932 (by decide +kernel) (by decide +kernel), am_gw 933 (by decide +kernel) (by decide +kernel), am_gw 934 (by decide +kernel) (by decide +kernel), am_m_123, TX7, 33, rfl⟩
theorem am_cv_11_98 : am_cvP (11, 98, 54, 588, 589, 590, 38, 591) := ⟨am_gw 588 (by decide +kernel) (by decide +kernel), am_gw 589 (by decide +kernel) (by decide +kernel), am_gw 590 (by decide +kernel) (by decide +kernel), am_m_54, TX6, 11, rfl⟩
theorem am_cv_11_101 : am_cvP (11, 101, 125, 936, 937, 938, 46, 939) := ⟨am_gw 936 (by decide +kernel) (by decide +kernel), am_gw 937 (by decide +kernel) (by decide +kernel), am_gw 938 (by decide +kernel) (by decide +kernel), am_m_125, TX7, 33, rfl⟩
theorem am_cv_11_102 : am_cvP (11, 102, 55, 609, 610, 611, 38, 612) := ⟨am_gw 609 (by decide +kernel) (by decide +kernel), am_gw 610 (by decide +kernel) (by decide +kernel), am_gw 611 (by decide +kernel) (by decide +kernel), am_m_55, TX6, 11, rfl⟩
theorem am_cv_11_105 : am_cvP (11, 105, 126, 944, 945, 946, 46, 947) := ⟨am_gw 944 (by decide +kernel) (by decide +kernel), am_gw 945 (by decide +kernel) (by decide +kernel), am_gw 946 (by decide +kernel) (by decide +kernel), am_m_126, TX7, 33, rfl⟩
theorem am_cv_11_106 : am_cvP (11, 106, 56, 613, 614, 615, 38, 616) := ⟨am_gw 613 (by decide +kernel) (by decide +kernel), am_gw 614 (by decide +kernel) (by decide +kernel), am_gw 615 (by decide +kernel) (by decide +kernel), am_m_56, TX6, 11, rfl⟩
theorem am_cv_11_109 : am_cvP (11, 109, 127, 948, 949, 950, 46, 951) := ⟨am_gw 948 (by decide +kernel) (by decide +kernel), am_gw 949 (by decide +kernel) (by decide +kernel), am_gw 950 (by decide +kernel) (by decide +kernel), am_m_127, TX7, 33, rfl⟩
theorem am_cv_11_110 : am_cvP (11, 110, 57, 628, 629, 630, 38, 631) := ⟨am_gw 628 (by decide +kernel) (by decide +kernel), am_gw 629 (by decide +kernel) (by decide +kernel), am_gw 630 (by decide +kernel) (by decide +kernel), am_m_57, TX6, 11, rfl⟩
theorem am_cv_11_113 : am_cvP (11, 113, 128, 955, 956, 957, 46, 958) := ⟨am_gw 955 (by decide +kernel) (by decide +kernel), am_gw 956 (by decide +kernel) (by decide +kernel), am_gw 957 (by decide +kernel) (by decide +kernel), am_m_128, TX7, 33, rfl⟩
theorem am_cv_11_114 : am_cvP (11, 114, 58, 641, 642, 643, 38, 644) := ⟨am_gw 641 (by decide +kernel) (by decide +kernel), am_gw 642 (by decide +kernel) (by decide +kernel), am_gw 643 (by decide +kernel) (by decide +kernel), am_m_58, TX6, 11, rfl⟩
theorem am_cv_11_117 : am_cvP (11, 117, 129, 959, 960, 961, 46, 962) := ⟨am_gw 959 (by decide +kernel) (by decide +kernel), am_gw 960 (by decide +kernel) (by decide +kernel), am_gw 961 (by decide +kernel) (by decide +kernel), am_m_129, TX7, 33, rfl⟩
theorem am_cv_11_118 : am_cvP (11, 118, 59, 645, 646, 647, 38, 648) := ⟨am_gw 645 (by decide +kernel) (by decide +kernel), am_gw 646 (by decide +kernel) (by decide +kernel), am_gw 647 (by decide +kernel) (by decide +kernel), am_m_59, TX6, 11, rfl⟩
theorem am_cv_11_121 : am_cvP (11, 121, 130, 963, 964, 965, 46, 966) := ⟨am_gw 963 (by decide +kernel) (by decide +kernel), am_gw 964 (by decide +kernel) (by decide +kernel), am_gw 965 (by decide +kernel) (by decide +kernel), am_m_130, TX7, 33, rfl⟩
set_option maxRecDepth 20000 in
theorem am_cvl_ok : ∀ q ∈ am_cvl, am_cvP q := List.forall_mem_cons.mpr ⟨am_cv_0_53, List.forall_mem_cons.mpr ⟨am_cv_0_63, List.forall_mem_cons.mpr ⟨am_cv_0_69, List.forall_mem_cons.mpr ⟨am_cv_2_77, List.forall_mem_cons.mpr ⟨am_cv_2_81, List.forall_mem_cons.mpr ⟨am_cv_2_85, List.forall_mem_cons.mpr ⟨am_cv_2_89, List.forall_mem_cons.mpr ⟨am_cv_2_92, List.forall_mem_cons.mpr ⟨am_cv_2_99, List.forall_mem_cons.mpr ⟨am_cv_2_103, List.forall_mem_cons.mpr ⟨am_cv_2_107, List.forall_mem_cons.mpr ⟨am_cv_3_32, List.forall_mem_cons.mpr ⟨am_cv_3_37, List.forall_mem_cons.mpr ⟨am_cv_3_45, List.forall_mem_cons.mpr ⟨am_cv_3_49, List.forall_mem_cons.mpr ⟨am_cv_3_53, List.forall_mem_cons.mpr ⟨am_cv_5_43, List.forall_mem_cons.mpr ⟨am_cv_5_47, List.forall_mem_cons.mpr ⟨am_cv_5_50, List.forall_mem_cons.mpr ⟨am_cv_5_54, List.forall_mem_cons.mpr ⟨am_cv_6_64, List.forall_mem_cons.mpr ⟨am_cv_6_71, List.forall_mem_cons.mpr ⟨am_cv_6_78, List.forall_mem_cons.mpr ⟨am_cv_6_91, List.forall_mem_cons.mpr ⟨am_cv_6_115, List.forall_mem_cons.mpr ⟨am_cv_6_140, List.forall_mem_cons.mpr ⟨am_cv_6_144, List.forall_mem_cons.mpr ⟨am_cv_6_153, List.forall_mem_cons.mpr ⟨am_cv_6_159, List.forall_mem_cons.mpr ⟨am_cv_6_163, List.forall_mem_cons.mpr ⟨am_cv_6_166, List.forall_mem_cons.mpr ⟨am_cv_6_169, List.forall_mem_cons.mpr ⟨am_cv_6_173, List.forall_mem_cons.mpr ⟨am_cv_6_179, List.forall_mem_cons.mpr ⟨am_cv_6_183, List.forall_mem_cons.mpr ⟨am_cv_6_195, List.forall_mem_cons.mpr ⟨am_cv_6_199, List.forall_mem_cons.mpr ⟨am_cv_6_202, List.forall_mem_cons.mpr ⟨am_cv_6_206, List.forall_mem_cons.mpr ⟨am_cv_6_209, List.forall_mem_cons.mpr ⟨am_cv_6_215, List.forall_mem_cons.mpr ⟨am_cv_6_221, List.forall_mem_cons.mpr ⟨am_cv_6_225, List.forall_mem_cons.mpr ⟨am_cv_6_232, List.forall_mem_cons.mpr ⟨am_cv_6_239, List.forall_mem_cons.mpr ⟨am_cv_6_243, List.forall_mem_cons.mpr ⟨am_cv_6_257, List.forall_mem_cons.mpr ⟨am_cv_7_81, List.forall_mem_cons.mpr ⟨am_cv_7_88, List.forall_mem_cons.mpr ⟨am_cv_7_94, List.forall_mem_cons.mpr ⟨am_cv_7_98, List.forall_mem_cons.mpr ⟨am_cv_7_102, List.forall_mem_cons.mpr ⟨am_cv_7_106, List.forall_mem_cons.mpr ⟨am_cv_7_109, List.forall_mem_cons.mpr ⟨am_cv_7_112, List.forall_mem_cons.mpr ⟨am_cv_7_136, List.forall_mem_cons.mpr ⟨am_cv_7_143, List.forall_mem_cons.mpr ⟨am_cv_7_150, List.forall_mem_cons.mpr ⟨am_cv_7_166, List.forall_mem_cons.mpr ⟨am_cv_7_169, List.forall_mem_cons.mpr ⟨am_cv_7_173, List.forall_mem_cons.mpr ⟨am_cv_7_176, List.forall_mem_cons.mpr ⟨am_cv_7_180, List.forall_mem_cons.mpr ⟨am_cv_7_184, List.forall_mem_cons.mpr ⟨am_cv_7_187, List.forall_mem_cons.mpr ⟨am_cv_7_190, List.forall_mem_cons.mpr ⟨am_cv_7_194, List.forall_mem_cons.mpr ⟨am_cv_7_197, List.forall_mem_cons.mpr ⟨am_cv_7_200, List.forall_mem_cons.mpr ⟨am_cv_7_206, List.forall_mem_cons.mpr ⟨am_cv_11_15, List.forall_mem_cons.mpr ⟨am_cv_11_19, List.forall_mem_cons.mpr ⟨am_cv_11_20, List.forall_mem_cons.mpr ⟨am_cv_11_24, List.forall_mem_cons.mpr ⟨am_cv_11_25, List.forall_mem_cons.mpr ⟨am_cv_11_28, List.forall_mem_cons.mpr ⟨am_cv_11_29, List.forall_mem_cons.mpr ⟨am_cv_11_32, List.forall_mem_cons.mpr ⟨am_cv_11_33, List.forall_mem_cons.mpr ⟨am_cv_11_37, List.forall_mem_cons.mpr ⟨am_cv_11_38, List.forall_mem_cons.mpr ⟨am_cv_11_41, List.forall_mem_cons.mpr ⟨am_cv_11_42, List.forall_mem_cons.mpr ⟨am_cv_11_46, List.forall_mem_cons.mpr ⟨am_cv_11_47, List.forall_mem_cons.mpr ⟨am_cv_11_50, List.forall_mem_cons.mpr ⟨am_cv_11_51, List.forall_mem_cons.mpr ⟨am_cv_11_55, List.forall_mem_cons.mpr ⟨am_cv_11_56, List.forall_mem_cons.mpr ⟨am_cv_11_59, List.forall_mem_cons.mpr ⟨am_cv_11_60, List.forall_mem_cons.mpr ⟨am_cv_11_63, List.forall_mem_cons.mpr ⟨am_cv_11_64, List.forall_mem_cons.mpr ⟨am_cv_11_67, List.forall_mem_cons.mpr ⟨am_cv_11_68, List.forall_mem_cons.mpr ⟨am_cv_11_71, List.forall_mem_cons.mpr ⟨am_cv_11_72, List.forall_mem_cons.mpr ⟨am_cv_11_75, List.forall_mem_cons.mpr ⟨am_cv_11_76, List.forall_mem_cons.mpr ⟨am_cv_11_79, List.forall_mem_cons.mpr ⟨am_cv_11_80, List.forall_mem_cons.mpr ⟨am_cv_11_84, List.forall_mem_cons.mpr ⟨am_cv_11_85, List.forall_mem_cons.mpr ⟨am_cv_11_89, List.forall_mem_cons.mpr ⟨am_cv_11_90, List.forall_mem_cons.mpr ⟨am_cv_11_93, List.forall_mem_cons.mpr ⟨am_cv_11_94, List.forall_mem_cons.mpr ⟨am_cv_11_97, List.forall_mem_cons.mpr ⟨am_cv_11_98, List.forall_mem_cons.mpr ⟨am_cv_11_101, List.forall_mem_cons.mpr ⟨am_cv_11_102, List.forall_mem_cons.mpr ⟨am_cv_11_105, List.forall_mem_cons.mpr ⟨am_cv_11_106, List.forall_mem_cons.mpr ⟨am_cv_11_109, List.forall_mem_cons.mpr ⟨am_cv_11_110, List.forall_mem_cons.mpr ⟨am_cv_11_113, List.forall_mem_cons.mpr ⟨am_cv_11_114, List.forall_mem_cons.mpr ⟨am_cv_11_117, List.forall_mem_cons.mpr ⟨am_cv_11_118, List.forall_mem_cons.mpr ⟨am_cv_11_121, fun _ h => absurd h List.not_mem_nil⟩⟩⟩⟩⟩⟩⟩⟩⟩⟩⟩⟩⟩⟩⟩⟩⟩⟩⟩⟩⟩⟩⟩⟩⟩⟩⟩⟩⟩⟩⟩⟩⟩⟩⟩⟩⟩⟩⟩⟩⟩⟩⟩⟩⟩⟩⟩⟩⟩⟩⟩⟩⟩⟩⟩⟩⟩⟩⟩⟩⟩⟩⟩⟩⟩⟩⟩⟩⟩⟩⟩⟩⟩⟩⟩⟩⟩⟩⟩⟩⟩⟩⟩⟩⟩⟩⟩⟩⟩⟩⟩⟩⟩⟩⟩⟩⟩⟩⟩⟩⟩⟩⟩⟩⟩⟩⟩⟩⟩⟩⟩⟩⟩⟩⟩⟩⟩⟩⟩⟩
theorem am_cv_ok {o i M : Nat} (h : am_cv o i = some M) : Cond.methodLink (am_cn o) i (am_y M) ∈ lw_g ∧ Cond.instanceMethod (am_y M) ∈ lw_g ∧ Cond.selects (am_cn (am_ow M)) (am_y M) (am_y M) ∈ lw_g ∧ am_mok M ∧ ∃ (T : u_T) (n : Nat), vwCl[am_ow M]? = some (am_cn (am_ow M), T, n) := by
  unfold am_cv at h
  obtain ⟨q, hq, he⟩ := Option.map_eq_some_iff.mp h
  have h1 := List.find?_some hq
  have h2 := am_cvl_ok q (List.mem_of_find?_eq_some hq)
  simp only [Bool.and_eq_true] at h1
  have e1 := Nat.eq_of_beq_eq_true h1.1
  have e2 := Nat.eq_of_beq_eq_true h1.2
  unfold am_cvP at h2
  rw [e1, e2, he] at h2
  exact h2
def am_csP (q : Nat × Nat × Nat × Nat × Nat × Nat × Nat × Nat) : Prop := (Cond.methodLink (am_cn q.1) q.2.1 (am_y q.2.2.1) ∈ lw_g ∨ Cond.methodLinkNest (am_cn q.1) q.2.1 (am_y q.2.2.1) "CaveBreath" ∈ am_nest) ∧ Cond.static (am_y q.2.2.1) ∈ lw_g ∧ am_mok q.2.2.1
theorem am_cs_0_46 : am_csP (0, 46, 64, 485, 438, 38, 439, 1) := ⟨Or.inr (List.mem_of_getElem? (i := 6) (by decide +kernel)), am_gw 438 (by decide +kernel) (by decide +kernel), am_m_64⟩
theorem am_cs_0_57 : am_csP (0, 57, 132, 490, 326, 45, 327, 0) := ⟨Or.inl (am_gw 490 (by decide +kernel) (by decide +kernel)), am_gw 326 (by decide +kernel) (by decide +kernel), am_m_132⟩
theorem am_cs_2_95 : am_csP (2, 95, 65, 291, 292, 38, 293, 1) := ⟨Or.inr (List.mem_of_getElem? (i := 8) (by decide +kernel)), am_gw 292 (by decide +kernel) (by decide +kernel), am_m_65⟩
theorem am_cs_3_41 : am_csP (3, 41, 19, 386, 387, 39, 388, 0) := ⟨Or.inl (am_gw 386 (by decide +kernel) (by decide +kernel)), am_gw 387 (by decide +kernel) (by decide +kernel), am_m_19⟩
theorem am_cs_3_57 : am_csP (3, 57, 23, 397, 398, 39, 399, 0) := ⟨Or.inl (am_gw 397 (by decide +kernel) (by decide +kernel)), am_gw 398 (by decide +kernel) (by decide +kernel), am_m_23⟩
theorem am_cs_4_28 : am_csP (4, 28, 132, 325, 326, 45, 327, 0) := ⟨Or.inl (am_gw 325 (by decide +kernel) (by decide +kernel)), am_gw 326 (by decide +kernel) (by decide +kernel), am_m_132⟩
theorem am_cs_4_68 : am_csP (4, 68, 27, 519, 520, 42, 521, 0) := ⟨Or.inl (am_gw 519 (by decide +kernel) (by decide +kernel)), am_gw 520 (by decide +kernel) (by decide +kernel), am_m_27⟩
theorem am_cs_5_66 : am_csP (5, 66, 33, 314, 315, 41, 316, 0) := ⟨Or.inl (am_gw 314 (by decide +kernel) (by decide +kernel)), am_gw 315 (by decide +kernel) (by decide +kernel), am_m_33⟩
theorem am_cs_6_111 : am_csP (6, 111, 64, 437, 438, 38, 439, 0) := ⟨Or.inl (am_gw 437 (by decide +kernel) (by decide +kernel)), am_gw 438 (by decide +kernel) (by decide +kernel), am_m_64⟩
theorem am_cs_6_133 : am_csP (6, 133, 65, 452, 292, 38, 293, 0) := ⟨Or.inl (am_gw 452 (by decide +kernel) (by decide +kernel)), am_gw 292 (by decide +kernel) (by decide +kernel), am_m_65⟩
theorem am_cs_6_137 : am_csP (6, 137, 62, 461, 462, 38, 463, 0) := ⟨Or.inl (am_gw 461 (by decide +kernel) (by decide +kernel)), am_gw 462 (by decide +kernel) (by decide +kernel), am_m_62⟩
theorem am_cs_6_176 : am_csP (6, 176, 63, 565, 566, 38, 567, 0) := ⟨Or.inl (am_gw 565 (by decide +kernel) (by decide +kernel)), am_gw 566 (by decide +kernel) (by decide +kernel), am_m_63⟩
theorem am_cs_6_247 : am_csP (6, 247, 131, 555, 556, 48, 557, 0) := ⟨Or.inl (am_gw 555 (by decide +kernel) (by decide +kernel)), am_gw 556 (by decide +kernel) (by decide +kernel), am_m_131⟩
theorem am_cs_7_62 : am_csP (7, 62, 80, 655, 656, 46, 657, 0) := ⟨Or.inl (am_gw 655 (by decide +kernel) (by decide +kernel)), am_gw 656 (by decide +kernel) (by decide +kernel), am_m_80⟩
theorem am_cs_7_66 : am_csP (7, 66, 78, 762, 763, 46, 764, 0) := ⟨Or.inl (am_gw 762 (by decide +kernel) (by decide +kernel)), am_gw 763 (by decide +kernel) (by decide +kernel), am_m_78⟩
theorem am_cs_7_140 : am_csP (7, 140, 79, 818, 819, 46, 820, 0) := ⟨Or.inl (am_gw 818 (by decide +kernel) (by decide +kernel)), am_gw 819 (by decide +kernel) (by decide +kernel), am_m_79⟩
theorem am_cs_7_147 : am_csP (7, 147, 100, 841, 842, 46, 843, 0) := ⟨Or.inl (am_gw 841 (by decide +kernel) (by decide +kernel)), am_gw 842 (by decide +kernel) (by decide +kernel), am_m_100⟩
theorem am_cs_7_203 : am_csP (7, 203, 118, 917, 918, 46, 919, 0) := ⟨Or.inl (am_gw 917 (by decide +kernel) (by decide +kernel)), am_gw 918 (by decide +kernel) (by decide +kernel), am_m_118⟩
theorem am_csl_ok : ∀ q ∈ am_csl, am_csP q := List.forall_mem_cons.mpr ⟨am_cs_0_46, List.forall_mem_cons.mpr ⟨am_cs_0_57, List.forall_mem_cons.mpr ⟨am_cs_2_95, List.forall_mem_cons.mpr ⟨am_cs_3_41, List.forall_mem_cons.mpr ⟨am_cs_3_57, List.forall_mem_cons.mpr ⟨am_cs_4_28, List.forall_mem_cons.mpr ⟨am_cs_4_68, List.forall_mem_cons.mpr ⟨am_cs_5_66, List.forall_mem_cons.mpr ⟨am_cs_6_111, List.forall_mem_cons.mpr ⟨am_cs_6_133, List.forall_mem_cons.mpr ⟨am_cs_6_137, List.forall_mem_cons.mpr ⟨am_cs_6_176, List.forall_mem_cons.mpr ⟨am_cs_6_247, List.forall_mem_cons.mpr ⟨am_cs_7_62, List.forall_mem_cons.mpr ⟨am_cs_7_66, List.forall_mem_cons.mpr ⟨am_cs_7_140, List.forall_mem_cons.mpr ⟨am_cs_7_147, List.forall_mem_cons.mpr ⟨am_cs_7_203, fun _ h => absurd h List.not_mem_nil⟩⟩⟩⟩⟩⟩⟩⟩⟩⟩⟩⟩⟩⟩⟩⟩⟩⟩
theorem am_cs_ok {o i M : Nat} (h : am_cs o i = some M) : (Cond.methodLink (am_cn o) i (am_y M) ∈ lw_g ∨ Cond.methodLinkNest (am_cn o) i (am_y M) "CaveBreath" ∈ am_nest) ∧ Cond.static (am_y M) ∈ lw_g ∧ am_mok M := by
  unfold am_cs at h
  obtain ⟨q, hq, he⟩ := Option.map_eq_some_iff.mp h
  have h1 := List.find?_some hq
  have h2 := am_csl_ok q (List.mem_of_find?_eq_some hq)
  simp only [Bool.and_eq_true] at h1
  have e1 := Nat.eq_of_beq_eq_true h1.1
  have e2 := Nat.eq_of_beq_eq_true h1.2
  unfold am_csP at h2
  rw [e1, e2, he] at h2
  exact h2
theorem am_cil_ok : ∀ q ∈ am_cil, Cond.constant (am_cn q.1) q.2.1 q.2.2.1 ∈ lw_g := List.forall_mem_cons.mpr ⟨am_gw 464 (by decide +kernel) (by decide +kernel), List.forall_mem_cons.mpr ⟨am_gw 844 (by decide +kernel) (by decide +kernel), List.forall_mem_cons.mpr ⟨am_gw 558 (by decide +kernel) (by decide +kernel), List.forall_mem_cons.mpr ⟨am_gw 559 (by decide +kernel) (by decide +kernel), List.forall_mem_cons.mpr ⟨am_gw 560 (by decide +kernel) (by decide +kernel), fun _ h => absurd h List.not_mem_nil⟩⟩⟩⟩⟩
theorem am_ci_ok {o i : Nat} {v : Int32} (h : am_ci o i = some v) : Cond.constant (am_cn o) i v ∈ lw_g := by
  unfold am_ci at h
  obtain ⟨q, hq, he⟩ := Option.map_eq_some_iff.mp h
  have h1 := List.find?_some hq
  have h2 := am_cil_ok q (List.mem_of_find?_eq_some hq)
  simp only [Bool.and_eq_true] at h1
  have e1 := Nat.eq_of_beq_eq_true h1.1
  have e2 := Nat.eq_of_beq_eq_true h1.2
  rw [e1, e2, he] at h2
  exact h2
theorem am_cjl_ok : ∀ q ∈ am_cjl, Cond.constantLong (am_cn q.1) q.2.1 q.2.2.1 ∈ lw_g := List.forall_mem_cons.mpr ⟨am_gw 625 (by decide +kernel) (by decide +kernel), List.forall_mem_cons.mpr ⟨am_gw 626 (by decide +kernel) (by decide +kernel), List.forall_mem_cons.mpr ⟨am_gw 627 (by decide +kernel) (by decide +kernel), List.forall_mem_cons.mpr ⟨am_gw 967 (by decide +kernel) (by decide +kernel), List.forall_mem_cons.mpr ⟨am_gw 765 (by decide +kernel) (by decide +kernel), List.forall_mem_cons.mpr ⟨am_gw 952 (by decide +kernel) (by decide +kernel), List.forall_mem_cons.mpr ⟨am_gw 953 (by decide +kernel) (by decide +kernel), List.forall_mem_cons.mpr ⟨am_gw 954 (by decide +kernel) (by decide +kernel), fun _ h => absurd h List.not_mem_nil⟩⟩⟩⟩⟩⟩⟩⟩
theorem am_cj_ok {o i : Nat} {v : Int64} (h : am_cj o i = some v) : Cond.constantLong (am_cn o) i v ∈ lw_g := by
  unfold am_cj at h
  obtain ⟨q, hq, he⟩ := Option.map_eq_some_iff.mp h
  have h1 := List.find?_some hq
  have h2 := am_cjl_ok q (List.mem_of_find?_eq_some hq)
  simp only [Bool.and_eq_true] at h1
  have e1 := Nat.eq_of_beq_eq_true h1.1
  have e2 := Nat.eq_of_beq_eq_true h1.2
  rw [e1, e2, he] at h2
  exact h2
theorem am_mnl_ok : ∀ q ∈ am_mnl, Cond.methodLink (am_cn q.1) q.2.1 Lib.Math.min.name ∈ lw_g := List.forall_mem_cons.mpr ⟨am_gw 608 (by decide +kernel) (by decide +kernel), List.forall_mem_cons.mpr ⟨am_gw 378 (by decide +kernel) (by decide +kernel), fun _ h => absurd h List.not_mem_nil⟩⟩
theorem am_mn_ok {o i : Nat} (h : am_mn o i = true) : Cond.methodLink (am_cn o) i Lib.Math.min.name ∈ lw_g := by
  unfold am_mn at h
  obtain ⟨q, hq, h1⟩ := List.any_eq_true.mp h
  have h2 := am_mnl_ok q hq
  simp only [Bool.and_eq_true] at h1
  rw [Nat.eq_of_beq_eq_true h1.1, Nat.eq_of_beq_eq_true h1.2] at h2
  exact h2
theorem am_mnn : Cond.static Lib.Math.min.name ∈ lw_g ∧ Cond.initialized "java/lang/Math" ∈ lw_g ∧ Cond.code Lib.Math.min.name Lib.Math.min.code 2 (some .int) ∈ lw_g := ⟨am_gw 379 (by decide +kernel) (by decide +kernel), am_gw 47 (by decide +kernel) (by decide +kernel), am_gw 380 (by decide +kernel) (by decide +kernel)⟩
theorem am_cpl_ok : ∀ q ∈ am_cpl, Cond.methodLink (am_cn q.1) q.2.1 arraycopyName ∈ lw_g := List.forall_mem_cons.mpr ⟨am_gw 596 (by decide +kernel) (by decide +kernel), List.forall_mem_cons.mpr ⟨am_gw 640 (by decide +kernel) (by decide +kernel), fun _ h => absurd h List.not_mem_nil⟩⟩
theorem am_cp_ok {o i : Nat} (h : am_cp o i = true) : Cond.methodLink (am_cn o) i arraycopyName ∈ lw_g := by
  unfold am_cp at h
  obtain ⟨q, hq, h1⟩ := List.any_eq_true.mp h
  have h2 := am_cpl_ok q hq
  simp only [Bool.and_eq_true] at h1
  rw [Nat.eq_of_beq_eq_true h1.1, Nat.eq_of_beq_eq_true h1.2] at h2
  exact h2
theorem am_cpn : Cond.native arraycopyName ∈ lw_g ∧ Cond.static arraycopyName ∈ lw_g ∧ Cond.initialized "java/lang/System" ∈ lw_g := ⟨am_gw 598 (by decide +kernel) (by decide +kernel), am_gw 597 (by decide +kernel) (by decide +kernel), am_gw 49 (by decide +kernel) (by decide +kernel)⟩
/-- what is asked of a field's type, by its kind -/
def am_tk (k : Nat) (t : FieldType) : Bool := match k, t with
  | 0, .int => true
  | 1, .object _ => true
  | 1, .array _ => true
  | 2, .object _ => true
  | 2, .array _ => true
  | _, _ => false
def am_clP (c : Nat) (q : vw_C) : Prop := (∀ w ∈ u_ws q.1 q.2.1 q.2.2, w ∈ lw_g) ∧ ∃ ty : Nat → FieldType, (∀ k, k < q.2.2 → parseFieldDescriptor (q.2.1 k).2.2.1 = some (ty k)) ∧ (∀ a, a < q.2.2 → ∀ b, b < q.2.2 → a ≠ b → (q.2.1 a).2.1 ≠ (q.2.1 b).2.1) ∧ ∀ k, k < q.2.2 → am_tk (am_fk c k) (ty k) = true
theorem am_cl_0 : am_clP 0 (RX0, TX0, 5) := ⟨fun w h => List.mem_filter.mpr ⟨inX0 w h, List.all_eq_true.mp (show (u_ws RX0 TX0 5).all goodWord = true by decide +kernel) w h⟩, tyX0, tyX0_ok, nmX0, by decide +kernel⟩
theorem am_cl_1 : am_clP 1 (RX1, TX1, 4) := ⟨fun w h => List.mem_filter.mpr ⟨inX1 w h, List.all_eq_true.mp (show (u_ws RX1 TX1 4).all goodWord = true by decide +kernel) w h⟩, tyX1, tyX1_ok, nmX1, by decide +kernel⟩
theorem am_cl_2 : am_clP 2 (RX2, TX2, 18) := ⟨fun w h => List.mem_filter.mpr ⟨inX2 w h, List.all_eq_true.mp (show (u_ws RX2 TX2 18).all goodWord = true by decide +kernel) w h⟩, tyX2, tyX2_ok, nmX2, by decide +kernel⟩
theorem am_cl_3 : am_clP 3 (RX3, TX3, 4) := ⟨fun w h => List.mem_filter.mpr ⟨inX3 w h, List.all_eq_true.mp (show (u_ws RX3 TX3 4).all goodWord = true by decide +kernel) w h⟩, tyX3, tyX3_ok, nmX3, by decide +kernel⟩
theorem am_cl_4 : am_clP 4 (RX4, TX4, 5) := ⟨fun w h => List.mem_filter.mpr ⟨inX4 w h, List.all_eq_true.mp (show (u_ws RX4 TX4 5).all goodWord = true by decide +kernel) w h⟩, tyX4, tyX4_ok, nmX4, by decide +kernel⟩
theorem am_cl_5 : am_clP 5 (RX5, TX5, 7) := ⟨fun w h => List.mem_filter.mpr ⟨inX5 w h, List.all_eq_true.mp (show (u_ws RX5 TX5 7).all goodWord = true by decide +kernel) w h⟩, tyX5, tyX5_ok, nmX5, by decide +kernel⟩
theorem am_cl_6 : am_clP 6 (RX6, TX6, 11) := ⟨fun w h => List.mem_filter.mpr ⟨inX6 w h, List.all_eq_true.mp (show (u_ws RX6 TX6 11).all goodWord = true by decide +kernel) w h⟩, tyX6, tyX6_ok, nmX6, by decide +kernel⟩
theorem am_cl_7 : am_clP 7 (RX7, TX7, 33) := ⟨fun w h => List.mem_filter.mpr ⟨inX7 w h, List.all_eq_true.mp (show (u_ws RX7 TX7 33).all goodWord = true by decide +kernel) w h⟩, tyX7, tyX7_ok, nmX7, by decide +kernel⟩
theorem am_cl_ok {c : Nat} {q : vw_C} (h : vwCl[c]? = some q) : am_clP c q := by
  match c, h with
  | 0, h => cases h; exact am_cl_0
  | 1, h => cases h; exact am_cl_1
  | 2, h => cases h; exact am_cl_2
  | 3, h => cases h; exact am_cl_3
  | 4, h => cases h; exact am_cl_4
  | 5, h => cases h; exact am_cl_5
  | 6, h => cases h; exact am_cl_6
  | 7, h => cases h; exact am_cl_7
  | c + 8, h => exact absurd h (by simp [vwCl])
end
section
/-! ===== THE ABSTRACT MACHINE: the program's instructions over a store of int fields, int rows and references; no machine state ===== -/
abbrev am_F : Type := Nat → Nat → Int32
abbrev am_G : Type := Nat → Nat → Nat
/-- a place of a run: method, pc, locals, stack, int fields (cell, slot), rows (cell, index), moving references (cell, slot) -/
abbrev am_C : Type := Nat × Nat × List Value × List Value × am_F × am_F × am_G
abbrev am_V : Type := Value × am_F × am_F × am_G
/-- what an instruction asks for: to go on there; to call, and go on there with the answer; to end -/
abbrev am_Q : Type := Option (am_C ⊕ ((am_C × am_C) ⊕ am_V))
def am_u {α : Type} (f : Nat → Nat → α) (a k : Nat) (v : α) : Nat → Nat → α := fun b j => if b = a ∧ j = k then v else f b j
def am_ur (A : am_F) (a : Nat) (f : Nat → Int32) : am_F := fun b => if b = a then f else A b
def am_go (M pc : Nat) (L S : List Value) (I A : am_F) (R : am_G) : am_Q := some (.inl (M, pc, L, S, I, A, R))
def am_clr (v : Value) : Value := if v.category = 2 then .null else v
def am_cl (g : Bool) (L : List Value) (i : Nat) : List Value := match g with
  | false => L
  | true => (match i with
    | 0 => L
    | j + 1 => (match L[j]? with
      | some w => L.set j (am_clr w)
      | none => L))
def am_st (g : Bool) (L : List Value) (i : Nat) (v : Value) : List Value := (am_cl g L i).set i v
def am_p1 (S : List Value) (f : Int32 → List Value → am_Q) : am_Q := match S with
  | .int x :: S => f x S
  | _ => none
def am_p2 (S : List Value) (f : Int32 → Int32 → List Value → am_Q) : am_Q := match S with
  | .int y :: .int x :: S => f x y S
  | _ => none
def am_q1 (S : List Value) (f : Int64 → List Value → am_Q) : am_Q := match S with
  | .long x :: S => f x S
  | _ => none
def am_q2 (S : List Value) (f : Int64 → Int64 → List Value → am_Q) : am_Q := match S with
  | .long y :: .long x :: S => f x y S
  | _ => none
def am_qs (S : List Value) (f : Int64 → Int32 → List Value → am_Q) : am_Q := match S with
  | .int y :: .long x :: S => f x y S
  | _ => none
def am_pr (S : List Value) (f : Nat → List Value → am_Q) : am_Q := match S with
  | .ref a :: S => f a S
  | _ => none
def am_pa (S : List Value) (f : Nat → Int32 → List Value → am_Q) : am_Q := match S with
  | .int i :: .ref a :: S => f a i S
  | _ => none
def am_ps (S : List Value) (f : Nat → Int32 → Int32 → List Value → am_Q) : am_Q := match S with
  | .int x :: .int i :: .ref a :: S => f a i x S
  | _ => none
def am_pf (S : List Value) (f : Nat → Value → List Value → am_Q) : am_Q := match S with
  | v :: .ref a :: S => f a v S
  | _ => none
def am_gi (L : List Value) (i : Nat) (f : Int32 → am_Q) : am_Q := match L[i]? with
  | some (.int x) => f x
  | _ => none
def am_gl (L : List Value) (i : Nat) (f : Int64 → am_Q) : am_Q := match L[i]? with
  | some (.long x) => f x
  | _ => none
def am_gr (L : List Value) (i : Nat) (f : Nat → am_Q) : am_Q := match L[i]? with
  | some (.ref x) => f x
  | _ => none
def am_at (pc : Nat) (off : Int) (f : Nat → am_Q) : am_Q := match (pc : Int) + off with
  | .ofNat t => f t
  | .negSucc _ => none
def am_br (op : Jvm.ClassFile.Cond) (x y : Int32) (t f : am_Q) : am_Q := match op with
  | .eq => if x = y then t else f
  | .ne => if x = y then f else t
  | .lt => if x < y then t else f
  | .ge => if y ≤ x then t else f
  | .gt => if y < x then t else f
  | .le => if x ≤ y then t else f
/-- a switch by places: x.toInt is lo, lo + 1, .. -/
def am_sw (pc : Nat) (f : Nat → am_Q) (d : Int) (x : Int32) : Int → List Int → am_Q
  | _, [] => am_at pc d f
  | lo, o :: os => if x.toInt = lo then am_at pc o f else am_sw pc f d x (lo + 1) os
def am_sl (pc : Nat) (f : Nat → am_Q) (d : Int) (x : Int32) : List (Int × Int) → am_Q
  | [] => am_at pc d f
  | (v, o) :: os => if x.toInt = v then am_at pc o f else am_sl pc f d x os
/-- the cell is an object of the class -/
def am_isO (N a c : Nat) : Bool := Nat.blt a N && (match am_cell a with
  | .inr c' => Nat.beq c c'
  | _ => false)
/-- the length of a row, 0 if it is none of that kind -/
def am_len (N : Nat) (b : Bool) (a : Nat) : Nat := if Nat.blt a N then (match am_cell a with
  | .inl (b', n) => if b = b' then n else 0
  | _ => 0) else 0
def am_isA (N a : Nat) : Option Nat := if Nat.blt a N then (match am_cell a with
  | .inl (_, n) => some n
  | _ => none) else none
/-- a field's value -/
def am_fv (I : am_F) (R : am_G) (a c j : Nat) : Value := match am_fk c j with
  | 0 => .int (I a j)
  | 1 => .ref (am_rf a j)
  | _ => .ref (R a j)
def am_fin (c j : Nat) : Bool := (match vwCl[c]? with
  | some q => (q.2.1 j).2.2.2
  | none => true)
def am_put (M pc : Nat) (L : List Value) (I A : am_F) (R : am_G) (a c j : Nat) (v : Value) (S : List Value) : am_Q := match am_fk c j with
  | 0 => (match v with
    | .int x => am_go M (pc + 3) L S (am_u I a j x) A R
    | _ => none)
  | 2 => (match v with
    | .ref x => am_go M (pc + 3) L S I A (am_u R a j x)
    | _ => none)
  | _ => none
def am_lay : List Value → List Value
  | [] => []
  | v :: vs => if v.category = 2 then v :: .null :: am_lay vs else v :: am_lay vs
def am_ent (as : List Value) (n : Nat) : List Value := am_lay as ++ List.replicate (n - (am_lay as).length) .null
def am_push (v : Value) (S : List Value) : List Value := match v with
  | .null => S
  | v => v :: S
def am_cat (S : List Value) : Nat := (S.map fun v => v.category).sum
/-- room and shape of a call -/
def am_fit (M M' : Nat) (as rest : List Value) : Bool := Nat.ble (am_cat rest) 8 && (Nat.ble (am_fr M' + 1) (am_fr M) && (Nat.ble (8 + (am_l M' + 11) + am_lo M') (am_lo M) && (Nat.ble (am_lay as).length (am_l M') && (am_lg M' || as.all (fun v => Nat.beq v.category 1)))))
def am_call (M M' pc : Nat) (L as rest : List Value) (I A : am_F) (R : am_G) : am_Q :=
  if am_fit M M' as rest then some (.inr (.inl ((M', 0, am_ent as (am_l M'), [], I, A, R), (M, pc + 3, L, rest, I, A, R)))) else none
def am_cast (N M pc : Nat) (L S : List Value) (I A : am_F) (R : am_G) (M' : Nat) : am_Q :=
  if am_sc M' = true ∧ am_np M' ≤ S.length then am_call M M' pc L (S.take (am_np M')).reverse (S.drop (am_np M')) I A R else none
def am_cavi (N M pc : Nat) (L S : List Value) (I A : am_F) (R : am_G) (M' : Nat) : am_Q := match S.drop (am_np M') with
  | .ref a :: rest => if am_sc M' = false ∧ am_isO N a (am_ow M') = true then am_call M M' pc L (.ref a :: (S.take (am_np M')).reverse) rest I A R else none
  | _ => none
/-- System.arraycopy over int rows -/
def am_copy (N M pc : Nat) (L S : List Value) (I A : am_F) (R : am_G) : am_Q := match S with
  | [.int n, .int dp, .ref b, .int sp, .ref a] =>
    if Nat.ble 1 (am_fr M) && Nat.ble 18 (am_lo M) && Nat.blt a N && Nat.blt b N then (match am_cell a, am_cell b with
      | .inl (false, n0), .inl (false, n1) => if ¬ sp < 0 ∧ ¬ dp < 0 ∧ ¬ n < 0 ∧ sp.toNatClampNeg + n.toNatClampNeg ≤ n0 ∧ dp.toNatClampNeg + n.toNatClampNeg ≤ n1 then am_go M (pc + 3) L [] I (am_ur A b (va_cpy (A a) (A b) sp.toNatClampNeg dp.toNatClampNeg n.toNatClampNeg)) R else none
      | _, _ => none) else none
  | _ => none
def am_ret (M : Nat) (S : List Value) (I A : am_F) (R : am_G) : am_Q := match S with
  | [.int v] => (match am_rt M with
    | some .int => some (.inr (.inr (.int v, I, A, R)))
    | some .boolean => if v = 0 ∨ v = 1 then some (.inr (.inr (.int v, I, A, R))) else none
    | _ => none)
  | _ => none
def am_rtr (M : Nat) (S : List Value) (I A : am_F) (R : am_G) : am_Q := match S with
  | [.ref v] => (match am_rt M with
    | some (.object _) => some (.inr (.inr (.ref v, I, A, R)))
    | _ => none)
  | _ => none
def am_rtv (M : Nat) (S : List Value) (I A : am_F) (R : am_G) : am_Q := match S with
  | [] => (match am_rt M with
    | none => some (.inr (.inr (.null, I, A, R)))
    | _ => none)
  | _ => none
def am_ix (n : Nat) (i : Int32) (q : am_Q) : am_Q := if i < 0 ∨ n ≤ i.toNatClampNeg then none else q
def am_ln (i : Jvm.ClassFile.Instr) (n : Nat) : Bool := match i with
  | .tableswitch _ _ _ _ => true
  | .lookupswitch _ _ => true
  | .bipush _ => Nat.beq n 2
  | .ldc _ => Nat.beq n 2
  | .iload _ => Nat.beq n 2
  | .lload _ => Nat.beq n 2
  | .istore _ => Nat.beq n 2
  | .lstore _ => Nat.beq n 2
  | .sipush _ => Nat.beq n 3
  | .ldc_w _ => Nat.beq n 3
  | .ldc2_w _ => Nat.beq n 3
  | .iinc _ _ => Nat.beq n 3
  | .goto _ => Nat.beq n 3
  | .ifCond _ _ => Nat.beq n 3
  | .if_icmp _ _ => Nat.beq n 3
  | .getfield _ => Nat.beq n 3
  | .putfield _ => Nat.beq n 3
  | .invokevirtual _ => Nat.beq n 3
  | .invokestatic _ => Nat.beq n 3
  | _ => Nat.beq n 1
def am_in (N M pc : Nat) (i : Jvm.ClassFile.Instr) (L S : List Value) (I A : am_F) (R : am_G) : am_Q := match i with
  | .iconst n => am_go M (pc + 1) L (.int (Int32.ofInt n) :: S) I A R
  | .bipush n => am_go M (pc + 2) L (.int (Int8.ofInt n).toInt32 :: S) I A R
  | .sipush n => am_go M (pc + 3) L (.int (Int16.ofInt n).toInt32 :: S) I A R
  | .ldc k => (match am_ci (am_ow M) k with
    | some v => am_go M (pc + 2) L (.int v :: S) I A R
    | none => none)
  | .ldc_w k => (match am_ci (am_ow M) k with
    | some v => am_go M (pc + 3) L (.int v :: S) I A R
    | none => none)
  | .ldc2_w k => (match am_cj (am_ow M) k with
    | some v => am_go M (pc + 3) L (.long v :: S) I A R
    | none => none)
  | .lconst n => am_go M (pc + 1) L (.long (Int64.ofNat n) :: S) I A R
  | .iload_n k => am_gi L k fun x => am_go M (pc + 1) L (.int x :: S) I A R
  | .iload k => am_gi L k fun x => am_go M (pc + 2) L (.int x :: S) I A R
  | .lload_n k => am_gl L k fun x => am_go M (pc + 1) L (.long x :: S) I A R
  | .lload k => am_gl L k fun x => am_go M (pc + 2) L (.long x :: S) I A R
  | .aload_n k => am_gr L k fun x => am_go M (pc + 1) L (.ref x :: S) I A R
  | .istore_n k => am_p1 S fun x S => if Nat.blt k (am_l M) then am_go M (pc + 1) (am_st (am_lg M) L k (.int x)) S I A R else none
  | .istore k => am_p1 S fun x S => if Nat.blt k (am_l M) then am_go M (pc + 2) (am_st (am_lg M) L k (.int x)) S I A R else none
  | .astore_n k => am_pr S fun x S => if Nat.blt k (am_l M) then am_go M (pc + 1) (am_st (am_lg M) L k (.ref x)) S I A R else none
  | .lstore_n k => am_q1 S fun x S => if (Nat.blt (k + 1) (am_l M) && am_lg M) = true then am_go M (pc + 1) ((am_st true L k (.long x)).set (k + 1) .null) S I A R else none
  | .lstore k => am_q1 S fun x S => if (Nat.blt (k + 1) (am_l M) && am_lg M) = true then am_go M (pc + 2) ((am_st true L k (.long x)).set (k + 1) .null) S I A R else none
  | .iinc k n => am_gi L k fun x => if Nat.blt k (am_l M) then am_go M (pc + 3) (am_st (am_lg M) L k (.int (x + Int32.ofInt n))) S I A R else none
  | .iadd => am_p2 S fun x y S => am_go M (pc + 1) L (.int (x + y) :: S) I A R
  | .isub => am_p2 S fun x y S => am_go M (pc + 1) L (.int (x - y) :: S) I A R
  | .imul => am_p2 S fun x y S => am_go M (pc + 1) L (.int (x * y) :: S) I A R
  | .iand => am_p2 S fun x y S => am_go M (pc + 1) L (.int (x &&& y) :: S) I A R
  | .ior => am_p2 S fun x y S => am_go M (pc + 1) L (.int (x ||| y) :: S) I A R
  | .ixor => am_p2 S fun x y S => am_go M (pc + 1) L (.int (x ^^^ y) :: S) I A R
  | .ishl => am_p2 S fun x y S => am_go M (pc + 1) L (.int (x <<< (y &&& 31)) :: S) I A R
  | .ishr => am_p2 S fun x y S => am_go M (pc + 1) L (.int (x >>> (y &&& 31)) :: S) I A R
  | .iushr => am_p2 S fun x y S => am_go M (pc + 1) L (.int (x.toUInt32 >>> (y.toUInt32 &&& Int32.toUInt32 31)).toInt32 :: S) I A R
  | .idiv => am_p2 S fun x y S => if y = 0 then none else am_go M (pc + 1) L (.int (x / y) :: S) I A R
  | .irem => am_p2 S fun x y S => if y = 0 then none else am_go M (pc + 1) L (.int (x - x / y * y) :: S) I A R
  | .ladd => am_q2 S fun x y S => am_go M (pc + 1) L (.long (x + y) :: S) I A R
  | .lmul => am_q2 S fun x y S => am_go M (pc + 1) L (.long (x * y) :: S) I A R
  | .land => am_q2 S fun x y S => am_go M (pc + 1) L (.long (x &&& y) :: S) I A R
  | .lor => am_q2 S fun x y S => am_go M (pc + 1) L (.long (x ||| y) :: S) I A R
  | .ldiv => am_q2 S fun x y S => if y = 0 then none else am_go M (pc + 1) L (.long (x / y) :: S) I A R
  | .lrem => am_q2 S fun x y S => if y = 0 then none else am_go M (pc + 1) L (.long (x - x / y * y) :: S) I A R
  | .lshl => am_qs S fun x y S => am_go M (pc + 1) L (.long (x <<< (y.toInt64 &&& 63)) :: S) I A R
  | .lshr => am_qs S fun x y S => am_go M (pc + 1) L (.long (x >>> (y.toInt64 &&& 63)) :: S) I A R
  | .lushr => am_qs S fun x y S => am_go M (pc + 1) L (.long (x.toUInt64 >>> (y.toInt64.toUInt64 &&& Int64.toUInt64 63)).toInt64 :: S) I A R
  | .i2l => am_p1 S fun x S => am_go M (pc + 1) L (.long x.toInt64 :: S) I A R
  | .l2i => am_q1 S fun x S => am_go M (pc + 1) L (.int x.toInt32 :: S) I A R
  | .i2b => am_p1 S fun x S => am_go M (pc + 1) L (.int x.toInt8.toInt32 :: S) I A R
  | .dup => (match S with
    | v :: S => if Nat.beq v.category 1 then am_go M (pc + 1) L (v :: v :: S) I A R else none
    | _ => none)
  | .dup2 => (match S with
    | v :: w :: S => if (Nat.beq v.category 1 && Nat.beq w.category 1) = true then am_go M (pc + 1) L (v :: w :: v :: w :: S) I A R else none
    | _ => none)
  | .pop => (match S with
    | v :: S => if Nat.beq v.category 1 then am_go M (pc + 1) L S I A R else none
    | _ => none)
  | .goto off => am_at pc off fun t => am_go M t L S I A R
  | .ifCond op off => am_p1 S fun x S => am_at pc off fun t => am_br op x 0 (am_go M t L S I A R) (am_go M (pc + 3) L S I A R)
  | .if_icmp op off => am_p2 S fun x y S => am_at pc off fun t => am_br op x y (am_go M t L S I A R) (am_go M (pc + 3) L S I A R)
  | .tableswitch d lo hi offs => am_p1 S fun x S => if hi + 1 = lo + offs.toList.length then am_sw pc (fun t => am_go M t L S I A R) d x lo offs.toList else none
  | .lookupswitch d ps => am_p1 S fun x S => if (ps.toList.zip (ps.toList.drop 1)).all (fun (a, next) => a.1 < next.1) = true then am_sl pc (fun t => am_go M t L S I A R) d x ps.toList else none
  | .getfield k => am_pr S fun a S => (match am_fd (am_ow M) k with
    | some (c, j) => if am_isO N a c then am_go M (pc + 3) L (am_fv I R a c j :: S) I A R else none
    | none => none)
  | .putfield k => am_pf S fun a v S => (match am_fd (am_ow M) k with
    | some (c, j) => if (am_isO N a c && !am_fin c j) = true then am_put M pc L I A R a c j v S else none
    | none => none)
  | .iaload => am_pa S fun a i S => if Nat.beq M am_law then (if Nat.beq a N then am_ix (I N 0).toNatClampNeg i (am_go M (pc + 1) L (.int (A N i.toNatClampNeg) :: S) I A R) else none) else am_ix (am_len N false a) i (am_go M (pc + 1) L (.int (A a i.toNatClampNeg) :: S) I A R)
  | .baload => am_pa S fun a i S => am_ix (am_len N true a) i (am_go M (pc + 1) L (.int (A a i.toNatClampNeg) :: S) I A R)
  | .iastore => am_ps S fun a i x S => am_ix (am_len N false a) i (am_go M (pc + 1) L S I (am_u A a i.toNatClampNeg x) R)
  | .bastore => am_ps S fun a i x S => am_ix (am_len N true a) i (am_go M (pc + 1) L S I (am_u A a i.toNatClampNeg x.toInt8.toInt32) R)
  | .arraylength => am_pr S fun a S => if Nat.beq M am_law then (if Nat.beq a N then am_go M (pc + 1) L (.int (I N 0) :: S) I A R else none) else (match am_isA N a with
    | some n => am_go M (pc + 1) L (.int (Int32.ofNat n) :: S) I A R
    | none => none)
  | .invokevirtual k => (match am_cv (am_ow M) k with
    | some M' => am_cavi N M pc L S I A R M'
    | none => none)
  | .invokestatic k => (match am_cs (am_ow M) k with
    | some M' => am_cast N M pc L S I A R M'
    | none => if am_mn (am_ow M) k then (am_p2 S fun x y S => if (Nat.ble 1 (am_fr M) && Nat.ble (am_cat S + 13) (am_lo M)) = true then am_go M (pc + 3) L (.int (if y < x then y else x) :: S) I A R else none) else if am_cp (am_ow M) k then am_copy N M pc L S I A R else none)
  | .ireturn => am_ret M S I A R
  | .areturn => am_rtr M S I A R
  | .return_ => am_rtv M S I A R
  | _ => none
def am_do (N : Nat) (c : am_C) : am_Q := match decode (am_b c.1) c.2.1 with
  | .ok (i, n) => if am_ln i n then am_in N c.1 c.2.1 i c.2.2.1 c.2.2.2.1 c.2.2.2.2.1 c.2.2.2.2.2.1 c.2.2.2.2.2.2 else none
  | .error _ => none
/-- behind a call: the caller's place with the answer on its stack, and the callee's store -/
def am_back (c : am_C) (r : am_V) : am_C := (c.1, c.2.1, c.2.2.1, am_push r.1 c.2.2.2.1, r.2)
def am_stp (N : Nat) (k : am_C → Option am_V) (c : am_C) : Option am_V := match am_do N c with
  | none => none
  | some (.inl d) => k d
  | some (.inr (.inl (d, r))) => (k d).bind fun v => k (am_back r v)
  | some (.inr (.inr v)) => some v
def am_x (N : Nat) : Nat → am_C → Option am_V
  | 0 => fun _ => none
  | n + 1 => am_stp N (am_x N n)
theorem am_stp_mono {N : Nat} {k k' : am_C → Option am_V} (h : ∀ c r, k c = some r → k' c = some r) (c : am_C) (r : am_V) (hc : am_stp N k c = some r) : am_stp N k' c = some r := by
  unfold am_stp at hc ⊢
  split at hc
  · cases hc
  · exact h _ _ hc
  · rename_i d r' _
    obtain ⟨v, h1, h2⟩ := Option.bind_eq_some_iff.mp hc
    show (k' d).bind _ = some r
    rw [h _ _ h1]
    exact h _ _ h2
  · exact hc
theorem am_x_succ (N n : Nat) : ∀ (c : am_C) (r : am_V), am_x N n c = some r → am_x N (n + 1) c = some r := by
  induction n with
  | zero => intro c r h; cases h
  | succ n ih => exact fun c r h => am_stp_mono ih c r h
theorem am_x_le {N n m : Nat} (h : n ≤ m) {c : am_C} {r : am_V} (hc : am_x N n c = some r) : am_x N m c = some r := by
  induction h with
  | refl => exact hc
  | step _ ih => exact am_x_succ _ _ _ _ ih
noncomputable def am_ev (N : Nat) (c : am_C) : Option am_V := @dite (Option am_V) (∃ r, ∃ n, am_x N n c = some r) (Classical.propDecidable _) (fun h => some (Classical.choose h)) (fun _ => none)
theorem am_ev_iff {N : Nat} {c : am_C} {r : am_V} : am_ev N c = some r ↔ ∃ n, am_x N n c = some r := by
  have hd : ∀ r', (∃ n, am_x N n c = some r') → (∃ n, am_x N n c = some r) → r' = r := by
    rintro r' ⟨n, hn⟩ ⟨m, hm⟩
    have h1 := am_x_le (Nat.le_max_left n m) hn
    have h2 := am_x_le (Nat.le_max_right n m) hm
    rw [h1] at h2
    exact Option.some.inj h2
  unfold am_ev
  constructor
  · intro h
    split at h
    · rename_i hx
      rw [← Option.some.inj h]
      exact Classical.choose_spec hx
    · cases h
  · intro h
    have hx : ∃ r, ∃ n, am_x N n c = some r := ⟨r, h⟩
    rw [dif_pos hx, hd _ (Classical.choose_spec hx) h]
theorem am_ev_eq (N : Nat) (c : am_C) : am_ev N c = am_stp N (am_ev N) c := by
  apply Option.ext
  intro r
  rw [am_ev_iff]
  constructor
  · rintro ⟨n, h⟩
    cases n with
    | zero => cases h
    | succ n => exact am_stp_mono (fun c r h => am_ev_iff.mpr ⟨n, h⟩) c r h
  · intro h
    unfold am_stp at h
    have key : ∀ n, am_x N (n + 1) c = am_stp N (am_x N n) c := fun _ => rfl
    cases hd : am_do N c with
    | none => rw [hd] at h; cases h
    | some q =>
      rw [hd] at h
      rcases q with d | ⟨d, r'⟩ | v
      · obtain ⟨n, hn⟩ := am_ev_iff.mp (show am_ev N d = some r from h)
        exact ⟨n + 1, by rw [key]; unfold am_stp; rw [hd]; exact hn⟩
      · obtain ⟨v, h1, h2⟩ := Option.bind_eq_some_iff.mp (show (am_ev N d).bind _ = some r from h)
        obtain ⟨n, hn⟩ := am_ev_iff.mp h1
        obtain ⟨m, hm⟩ := am_ev_iff.mp h2
        refine ⟨max n m + 1, ?_⟩
        rw [key]
        unfold am_stp
        rw [hd]
        show (am_x N (max n m) d).bind _ = some r
        rw [am_x_le (Nat.le_max_left n m) hn]
        exact am_x_le (Nat.le_max_right n m) hm
      · exact ⟨1, by rw [key]; unfold am_stp; rw [hd]; exact h⟩
end
section
/-! ===== what the abstract machine's places say of the machine: the store's cells, the locals ===== -/
def am_co (ad : Nat → Nat) (v : Value) : Value := match v with
  | .ref a => .ref (ad a)
  | v => v
theorem am_co_cat (ad : Nat → Nat) (v : Value) : (am_co ad v).category = v.category := by cases v <;> rfl
def am_nf (c : Nat) : Nat := match vwCl[c]? with
  | some q => q.2.2
  | none => 0
def am_ce (cI cB : ClassId) (ad : Nat → Nat) (I A : am_F) (R : am_G) (k : Nat) : va_E := match am_cell k with
  | .inl (b, n) => .inl ((if b = true then cB else cI), n, .inl (A k))
  | .inr c => .inr (c, (List.range (am_nf c)).map (fun j => am_co ad (am_fv I R k c j)))
def am_w (N : Nat) (cI cB : ClassId) (ad : Nat → Nat) (I A : am_F) (R : am_G) : va_W := (List.range N).map (fun k => (ad k, am_ce cI cB ad I A R k))
theorem am_w_at {N k : Nat} (h : k < N) (cI cB : ClassId) (ad : Nat → Nat) (I A : am_F) (R : am_G) : (am_w N cI cB ad I A R)[k]? = some (ad k, am_ce cI cB ad I A R k) := by
  unfold am_w
  rw [List.getElem?_map, List.getElem?_range h]
  rfl
theorem am_w_set {N k : Nat} {cI cB : ClassId} {ad : Nat → Nat} {I A I' A' : am_F} {R R' : am_G} (h : ∀ j, j ≠ k → am_ce cI cB ad I' A' R' j = am_ce cI cB ad I A R j) {e : va_E} (he : am_ce cI cB ad I' A' R' k = e) : (am_w N cI cB ad I A R).set k (ad k, e) = am_w N cI cB ad I' A' R' := by
  subst he
  apply List.ext_getElem?
  intro j
  unfold am_w
  rw [List.getElem?_set]
  by_cases hj : k = j
  · subst hj
    rw [if_pos rfl]
    by_cases hk : k < N
    · rw [if_pos (by simpa using hk), List.getElem?_map, List.getElem?_range hk]
      rfl
    · rw [if_neg (by simpa using hk), List.getElem?_map, List.getElem?_eq_none (by simpa using hk)]
      rfl
  · rw [if_neg hj, List.getElem?_map, List.getElem?_map]
    by_cases hk : j < N
    · rw [List.getElem?_range hk]
      show some (ad j, _) = some (ad j, _)
      rw [h j (fun e => hj e.symm)]
    · rw [List.getElem?_eq_none (by simpa using hk)]
      rfl
theorem am_ce_arr {cI cB : ClassId} {ad : Nat → Nat} {I A : am_F} {R : am_G} {k n : Nat} {b : Bool} (h : am_cell k = .inl (b, n)) : am_ce cI cB ad I A R k = .inl ((if b = true then cB else cI), n, .inl (A k)) := by unfold am_ce; rw [h]
theorem am_ce_obj {cI cB : ClassId} {ad : Nat → Nat} {I A : am_F} {R : am_G} {k c : Nat} (h : am_cell k = .inr c) : am_ce cI cB ad I A R k = .inr (c, (List.range (am_nf c)).map (fun j => am_co ad (am_fv I R k c j))) := by unfold am_ce; rw [h]
/-- a write into a row touches that cell alone -/
theorem am_ce_row {cI cB : ClassId} {ad : Nat → Nat} {I A A' : am_F} {R : am_G} {k : Nat} (h : ∀ j, j ≠ k → A' j = A j) : ∀ j, j ≠ k → am_ce cI cB ad I A' R j = am_ce cI cB ad I A R j := by
  intro j hj
  unfold am_ce
  split
  · rw [h j hj]
  · rfl
theorem am_ce_fld {cI cB : ClassId} {ad : Nat → Nat} {I I' A : am_F} {R R' : am_G} {k : Nat} (h : ∀ j, j ≠ k → I' j = I j ∧ R' j = R j) : ∀ j, j ≠ k → am_ce cI cB ad I' A R' j = am_ce cI cB ad I A R j := by
  intro j hj
  obtain ⟨h1, h2⟩ := h j hj
  unfold am_ce
  split
  · rfl
  · unfold am_fv
    rw [h1, h2]
/-- locals -/
def am_ls (ad : Nat → Nat) (g : Bool) (nL : Nat) (ls : Array Slot) (L : List Value) : Prop := ls.size = nL ∧ lv_wf ls ∧ (∀ (i : Nat) (v : Value), L[i]? = some v → v ≠ .null → ls[i]? = some (.val (am_co ad v))) ∧ (g = false → ∀ v ∈ L, v.category = 1)
def am_lv (ad : Nat → Nat) (L : List Value) : List (Nat × Value) := L.zipIdx.filterMap (fun q => if q.1 = .null then none else some (q.2, am_co ad q.1))
theorem am_lv_mem {ad : Nat → Nat} {L : List Value} {i : Nat} {w : Value} : (i, w) ∈ am_lv ad L ↔ ∃ v, L[i]? = some v ∧ v ≠ .null ∧ w = am_co ad v := by
  unfold am_lv
  rw [List.mem_filterMap]
  constructor
  · rintro ⟨⟨v, j⟩, h1, h2⟩
    rw [List.mem_zipIdx_iff_getElem?] at h1
    dsimp only at h1 h2
    by_cases hn : v = .null
    · rw [if_pos hn] at h2; cases h2
    · rw [if_neg hn] at h2; cases h2
      exact ⟨v, h1, hn, rfl⟩
  · rintro ⟨v, h1, h2, rfl⟩
    refine ⟨(v, i), List.mem_zipIdx_iff_getElem?.mpr h1, ?_⟩
    dsimp only
    rw [if_neg h2]
theorem am_ls.has {ad : Nat → Nat} {g : Bool} {nL : Nat} {ls : Array Slot} {L : List Value} (h : am_ls ad g nL ls L) : lv_has ls nL (am_lv ad L) := by
  refine ⟨h.1, h.2.1, fun q hq => ?_⟩
  obtain ⟨i, w⟩ := q
  obtain ⟨v, h1, h2, rfl⟩ := am_lv_mem.mp hq
  exact h.2.2.1 i v h1 h2
theorem am_cl_false (L : List Value) (i : Nat) : am_cl false L i = L := rfl
theorem am_cl_at {g : Bool} {L : List Value} {i j : Nat} {w : Value} (h : (am_cl g L i)[j]? = some w) (hw : w ≠ .null) : L[j]? = some w ∧ (g = true → j + 1 = i → w.category ≠ 2) := by
  cases g with
  | false => exact ⟨h, fun h => by cases h⟩
  | true =>
    cases i with
    | zero => exact ⟨h, fun _ h => by omega⟩
    | succ i =>
      unfold am_cl at h
      dsimp only at h
      split at h
      · rename_i w0 hw0
        rw [List.getElem?_set] at h
        by_cases hij : i = j
        · subst hij
          rw [if_pos rfl] at h
          split at h
          · have e := Option.some.inj h
            unfold am_clr at e
            split at e
            · exact absurd e.symm hw
            · rename_i hc
              subst e
              exact ⟨hw0, fun _ _ => hc⟩
          · cases h
        · rw [if_neg hij] at h
          exact ⟨h, fun _ h => by omega⟩
      · rename_i hn
        refine ⟨h, fun _ hj => ?_⟩
        have : j = i := by omega
        subst this
        rw [hn] at h
        cases h
theorem am_cl_len {g : Bool} {L : List Value} {i : Nat} : (am_cl g L i).length = L.length := by
  unfold am_cl
  split
  · rfl
  · split
    · rfl
    · split
      · simp
      · rfl
theorem am_ls_store {ad : Nat → Nat} {g : Bool} {nL i : Nat} {ls' : Array Slot} {L : List Value} {v : Value} (hc : v.category = 1) (h4 : g = false → ∀ v ∈ L, v.category = 1)
    (h : lv_has ls' nL ((i, am_co ad v) :: (am_lv ad L).filter (fun q => !(q.1 == i) && !(q.1 + 1 == i && q.2.category == 2)))) : am_ls ad g nL ls' (am_st g L i v) := by
  refine ⟨h.1, h.2.1, fun j w hj hw => ?_, fun hg w hw => ?_⟩
  · unfold am_st at hj
    rw [List.getElem?_set] at hj
    by_cases hij : i = j
    · subst hij
      rw [if_pos rfl] at hj
      split at hj
      · cases hj
        exact h.2.2 (i, _) List.mem_cons_self
      · cases hj
    · rw [if_neg hij] at hj
      obtain ⟨h1, h2⟩ := am_cl_at hj hw
      refine h.2.2 (j, _) (List.mem_cons_of_mem _ (List.mem_filter.mpr ⟨am_lv_mem.mpr ⟨w, h1, hw, rfl⟩, ?_⟩))
      have hne : (j == i) = false := by simpa using fun e => hij e.symm
      show (!(j == i) && !(j + 1 == i && (am_co ad w).category == 2)) = true
      rw [hne, am_co_cat]
      by_cases hji : j + 1 = i
      · have hcat : w.category ≠ 2 := by
          cases g with
          | false => rw [h4 rfl w (List.mem_of_getElem? h1)]; decide
          | true => exact h2 rfl hji
        have : (w.category == 2) = false := by simpa using hcat
        rw [this, Bool.and_false]
        rfl
      · have : (j + 1 == i) = false := by simpa using hji
        rw [this]
        rfl
  · subst hg
    unfold am_st at hw
    rw [am_cl_false] at hw
    rcases List.mem_or_eq_of_mem_set hw with h5 | h5
    · exact h4 rfl w h5
    · rw [h5]; exact hc
theorem am_ls_storeL {ad : Nat → Nat} {nL i : Nat} {ls' : Array Slot} {L : List Value} {x : Int64}
    (h : lv_has ls' nL ((i, .long x) :: (am_lv ad L).filter (fun q => !(q.1 == i) && (!(q.1 == i + 1) && !(q.1 + 1 == i && q.2.category == 2))))) : am_ls ad true nL ls' ((am_st true L i (.long x)).set (i + 1) .null) := by
  refine ⟨h.1, h.2.1, fun j w hj hw => ?_, fun hg => by cases hg⟩
  rw [List.getElem?_set] at hj
  by_cases hij1 : i + 1 = j
  · subst hij1
    rw [if_pos rfl] at hj
    split at hj
    · exact absurd (Option.some.inj hj).symm hw
    · cases hj
  · rw [if_neg hij1] at hj
    unfold am_st at hj
    rw [List.getElem?_set] at hj
    by_cases hij : i = j
    · subst hij
      rw [if_pos rfl] at hj
      split at hj
      · cases hj
        exact h.2.2 (i, _) List.mem_cons_self
      · cases hj
    · rw [if_neg hij] at hj
      obtain ⟨h1, h2⟩ := am_cl_at hj hw
      refine h.2.2 (j, _) (List.mem_cons_of_mem _ (List.mem_filter.mpr ⟨am_lv_mem.mpr ⟨w, h1, hw, rfl⟩, ?_⟩))
      have hne : (j == i) = false := by simpa using fun e => hij e.symm
      have hne1 : (j == i + 1) = false := by simpa using fun e => hij1 e.symm
      show (!(j == i) && (!(j == i + 1) && !(j + 1 == i && (am_co ad w).category == 2))) = true
      rw [hne, hne1, am_co_cat]
      by_cases hji : j + 1 = i
      · have : (w.category == 2) = false := by simpa using h2 rfl hji
        rw [this, Bool.and_false]
        rfl
      · have : (j + 1 == i) = false := by simpa using hji
        rw [this]
        rfl
/-- a method's first locals -/
theorem am_lay_sl (ad : Nat → Nat) : ∀ (as : List Value), (lg_sl (as.map (am_co ad))).length = (am_lay as).length
  | [] => rfl
  | v :: vs => by
    have ih := am_lay_sl ad vs
    unfold lg_sl at ih ⊢
    rw [List.map_cons, List.flatMap_cons, List.length_append, ih, am_co_cat, show am_lay (v :: vs) = if v.category = 2 then v :: .null :: am_lay vs else v :: am_lay vs from rfl]
    by_cases hc : v.category = 2
    · rw [if_pos hc, if_pos hc]; simp; omega
    · rw [if_neg hc, if_neg hc]; simp; omega
theorem am_lay_at (ad : Nat → Nat) : ∀ (as : List Value) (n i : Nat) (v : Value), (am_lay as)[i]? = some v → v ≠ .null → (n + i, am_co ad v) ∈ lv_args n (as.map (am_co ad))
  | [], n, i, v, h, _ => by simp [am_lay] at h
  | a :: as, n, i, v, h, hv => by
    rw [List.map_cons]
    unfold lv_args
    rw [am_co_cat]
    unfold am_lay at h
    by_cases hc : a.category = 2
    · rw [if_pos hc] at h ⊢
      match i, h with
      | 0, h => cases h; exact List.mem_cons_self
      | 1, h => exact absurd (Option.some.inj h).symm hv
      | i + 2, h =>
        have := am_lay_at ad as (n + 2) i v (by simpa using h) hv
        rw [show n + (i + 2) = n + 2 + i by omega]
        exact List.mem_cons_of_mem _ this
    · rw [if_neg hc] at h ⊢
      match i, h with
      | 0, h => cases h; exact List.mem_cons_self
      | i + 1, h =>
        have := am_lay_at ad as (n + 1) i v (by simpa using h) hv
        rw [show n + (i + 1) = n + 1 + i by omega]
        exact List.mem_cons_of_mem _ this
theorem am_lay_cat : ∀ (as : List Value), (∀ v ∈ as, v.category = 1) → ∀ v ∈ am_lay as, v.category = 1
  | [], _, v, h => by cases h
  | a :: as, ha, v, h => by
    unfold am_lay at h
    have h1 := ha a List.mem_cons_self
    rw [if_neg (by omega)] at h
    rcases List.mem_cons.mp h with rfl | h
    · exact h1
    · exact am_lay_cat as (fun w hw => ha w (List.mem_cons_of_mem _ hw)) v h
theorem am_ls_entry (ad : Nat → Nat) (g : Bool) {n : Nat} {as : List Value} (hn : (am_lay as).length ≤ n) (hg : g = false → ∀ v ∈ as, v.category = 1) : am_ls ad g n ((lg_sl (as.map (am_co ad)) ++ List.replicate (n - (lg_sl (as.map (am_co ad))).length) Slot.unset).toArray) (am_ent as n) := by
  have h := lv_entry (as.map (am_co ad)) (n := n) (by rw [am_lay_sl]; exact hn)
  refine ⟨h.1, h.2.1, fun i v hi hv => ?_, fun hg0 v hv => ?_⟩
  · unfold am_ent at hi
    by_cases hl : i < (am_lay as).length
    · rw [List.getElem?_append_left hl] at hi
      have := am_lay_at ad as 0 i v hi hv
      rw [Nat.zero_add] at this
      exact h.2.2 _ this
    · rw [List.getElem?_append_right (by omega)] at hi
      exact absurd (List.eq_of_mem_replicate (List.mem_of_getElem? hi)) hv
  · unfold am_ent at hv
    rcases List.mem_append.mp hv with h1 | h1
    · exact am_lay_cat as (hg hg0) v h1
    · rw [List.eq_of_mem_replicate h1]; rfl
end
section
/-! ===== the abstract machine's steps are the machine's ===== -/
theorem am_p1_i {S : List Value} {f : Int32 → List Value → am_Q} {r} (h : am_p1 S f = some r) : ∃ x S', S = .int x :: S' ∧ f x S' = some r := by
  unfold am_p1 at h; split at h
  · exact ⟨_, _, rfl, h⟩
  · cases h
theorem am_p2_i {S : List Value} {f : Int32 → Int32 → List Value → am_Q} {r} (h : am_p2 S f = some r) : ∃ x y S', S = .int y :: .int x :: S' ∧ f x y S' = some r := by
  unfold am_p2 at h; split at h
  · exact ⟨_, _, _, rfl, h⟩
  · cases h
theorem am_q1_i {S : List Value} {f : Int64 → List Value → am_Q} {r} (h : am_q1 S f = some r) : ∃ x S', S = .long x :: S' ∧ f x S' = some r := by
  unfold am_q1 at h; split at h
  · exact ⟨_, _, rfl, h⟩
  · cases h
theorem am_q2_i {S : List Value} {f : Int64 → Int64 → List Value → am_Q} {r} (h : am_q2 S f = some r) : ∃ x y S', S = .long y :: .long x :: S' ∧ f x y S' = some r := by
  unfold am_q2 at h; split at h
  · exact ⟨_, _, _, rfl, h⟩
  · cases h
theorem am_qs_i {S : List Value} {f : Int64 → Int32 → List Value → am_Q} {r} (h : am_qs S f = some r) : ∃ x y S', S = .int y :: .long x :: S' ∧ f x y S' = some r := by
  unfold am_qs at h; split at h
  · exact ⟨_, _, _, rfl, h⟩
  · cases h
theorem am_pr_i {S : List Value} {f : Nat → List Value → am_Q} {r} (h : am_pr S f = some r) : ∃ x S', S = .ref x :: S' ∧ f x S' = some r := by
  unfold am_pr at h; split at h
  · exact ⟨_, _, rfl, h⟩
  · cases h
theorem am_pa_i {S : List Value} {f : Nat → Int32 → List Value → am_Q} {r} (h : am_pa S f = some r) : ∃ a i S', S = .int i :: .ref a :: S' ∧ f a i S' = some r := by
  unfold am_pa at h; split at h
  · exact ⟨_, _, _, rfl, h⟩
  · cases h
theorem am_ps_i {S : List Value} {f : Nat → Int32 → Int32 → List Value → am_Q} {r} (h : am_ps S f = some r) : ∃ a i x S', S = .int x :: .int i :: .ref a :: S' ∧ f a i x S' = some r := by
  unfold am_ps at h; split at h
  · exact ⟨_, _, _, _, rfl, h⟩
  · cases h
theorem am_pf_i {S : List Value} {f : Nat → Value → List Value → am_Q} {r} (h : am_pf S f = some r) : ∃ a v S', S = v :: .ref a :: S' ∧ f a v S' = some r := by
  unfold am_pf at h; split at h
  · exact ⟨_, _, _, rfl, h⟩
  · cases h
theorem am_gi_i {L : List Value} {i : Nat} {f : Int32 → am_Q} {r} (h : am_gi L i f = some r) : ∃ x, L[i]? = some (.int x) ∧ f x = some r := by
  unfold am_gi at h; split at h
  · rename_i hx; exact ⟨_, hx, h⟩
  · cases h
theorem am_gl_i {L : List Value} {i : Nat} {f : Int64 → am_Q} {r} (h : am_gl L i f = some r) : ∃ x, L[i]? = some (.long x) ∧ f x = some r := by
  unfold am_gl at h; split at h
  · rename_i hx; exact ⟨_, hx, h⟩
  · cases h
theorem am_gr_i {L : List Value} {i : Nat} {f : Nat → am_Q} {r} (h : am_gr L i f = some r) : ∃ x, L[i]? = some (.ref x) ∧ f x = some r := by
  unfold am_gr at h; split at h
  · rename_i hx; exact ⟨_, hx, h⟩
  · cases h
theorem am_at_i {pc : Nat} {off : Int} {f : Nat → am_Q} {r} (h : am_at pc off f = some r) : ∃ t : Nat, (pc : Int) + off = (t : Int) ∧ f t = some r := by
  unfold am_at at h; split at h
  · rename_i t ht; exact ⟨t, ht, h⟩
  · cases h
theorem am_ix_i {n : Nat} {i : Int32} {q : am_Q} {r} (h : am_ix n i q = some r) : vp_in i n ∧ q = some r := by
  unfold am_ix at h; split at h
  · cases h
  · rename_i hn; exact ⟨hn, h⟩
theorem am_blt {a b : Nat} (h : Nat.blt a b = true) : a < b := Nat.le_of_ble_eq_true h
theorem am_isO_i {N a c : Nat} (h : am_isO N a c = true) : a < N ∧ am_cell a = .inr c := by
  unfold am_isO at h
  rw [Bool.and_eq_true] at h
  refine ⟨am_blt h.1, ?_⟩
  have h2 := h.2
  split at h2
  · rename_i c' hc
    rw [hc, Nat.eq_of_beq_eq_true h2]
  · cases h2
theorem am_len_i {N a : Nat} {b : Bool} {i : Int32} (h : vp_in i (am_len N b a)) : ∃ n, a < N ∧ am_cell a = .inl (b, n) ∧ vp_in i n := by
  have hz : ¬ vp_in i 0 := fun h => h (Or.inr (Nat.zero_le _))
  unfold am_len at h
  split at h
  · rename_i ha
    split at h
    · rename_i b' n hc
      split at h
      · rename_i hb
        subst hb
        exact ⟨n, am_blt ha, hc, h⟩
      · exact absurd h hz
    · exact absurd h hz
  · exact absurd h hz
theorem am_isA_i {N a n : Nat} (h : am_isA N a = some n) : a < N ∧ ∃ b, am_cell a = .inl (b, n) := by
  unfold am_isA at h
  split at h
  · rename_i ha
    split at h
    · rename_i b n' hc
      cases h
      exact ⟨am_blt ha, b, hc⟩
    · cases h
  · cases h
theorem am_sw_i {pc : Nat} {f : Nat → am_Q} {d : Int} {x : Int32} {r} : ∀ (os : List Int) (lo : Int), am_sw pc f d x lo os = some r →
    ((x.toInt < lo ∨ lo + os.length ≤ x.toInt) ∧ am_at pc d f = some r) ∨ (¬ x.toInt < lo ∧ x.toInt < lo + os.length ∧ ∃ o, os[(x.toInt - lo).toNat]? = some o ∧ am_at pc o f = some r)
  | [], lo, h => Or.inl ⟨by simp only [List.length_nil, Int.ofNat_zero, Int.add_zero]; omega, h⟩
  | o :: os, lo, h => by
    unfold am_sw at h
    simp only [List.length_cons, Int.natCast_add, Int.natCast_one]
    split at h
    · rename_i he
      refine Or.inr ⟨by omega, by omega, o, ?_, h⟩
      rw [he, Int.sub_self]
      rfl
    · rename_i he
      rcases am_sw_i os (lo + 1) h with ⟨h1, h2⟩ | ⟨h1, h2, o', h3, h4⟩
      · exact Or.inl ⟨by omega, h2⟩
      · refine Or.inr ⟨by omega, by omega, o', ?_, h4⟩
        have : (x.toInt - lo).toNat = (x.toInt - (lo + 1)).toNat + 1 := by omega
        rw [this, List.getElem?_cons_succ]
        exact h3
theorem am_sl_i {pc : Nat} {f : Nat → am_Q} {d : Int} {x : Int32} {r} : ∀ (os : List (Int × Int)), am_sl pc f d x os = some r → am_at pc (Op.lookupswitch.offset os d x.toInt) f = some r
  | [], h => h
  | (v, o) :: os, h => by
    unfold am_sl at h
    rw [Op.lookupswitch.offset_cons]
    split at h
    · rename_i he
      rw [if_pos (by first | exact he | exact he.symm | simpa using he | simpa using he.symm)]
      exact h
    · rename_i he
      rw [if_neg (by first | exact he | exact fun q => he q.symm | simpa using he | simpa using fun q => he q.symm)]
      exact am_sl_i os h
theorem am_map_set {n j : Nat} {f f' : Nat → Value} {v : Value} (hj : f' j = v) (hi : ∀ i, i ≠ j → f' i = f i) : ((List.range n).map f).set j v = (List.range n).map f' := by
  apply List.ext_getElem?
  intro i
  rw [List.getElem?_set]
  by_cases h : j = i
  · subst h
    rw [if_pos rfl]
    by_cases hn : j < n
    · rw [if_pos (by simpa using hn), List.getElem?_map, List.getElem?_range hn, ← hj]
      rfl
    · rw [if_neg (by simpa using hn), List.getElem?_map, List.getElem?_eq_none (by simpa using hn)]
      rfl
  · rw [if_neg h, List.getElem?_map, List.getElem?_map]
    by_cases hn : i < n
    · rw [List.getElem?_range hn]
      show some (f i) = some (f' i)
      rw [hi i (fun e => h e.symm)]
    · rw [List.getElem?_eq_none (by simpa using hn)]
      rfl
theorem am_u_ne {α : Type} {f : Nat → Nat → α} {a k b : Nat} {v : α} (h : b ≠ a) : am_u f a k v b = f b := funext fun j => if_neg (fun q => h q.1)
theorem am_u_upd {A : am_F} {a k : Nat} {x : Int32} : am_u A a k x a = upd (A a) k x := funext fun j => by
  unfold am_u upd
  by_cases h : j = k
  · rw [if_pos ⟨rfl, h⟩, if_pos h]
  · rw [if_neg (fun q => h q.2), if_neg h]
/-- what holds in a method of the abstract machine: the machine, its code, the words, room -/
def am_cx (p : Program) (R : Room) (s : State) (m : MethodId) (args : Array Value) (c : Code) (cells slots M : Nat) : Prop :=
  p.tables.exec = Jvm.exec ∧ c.code = am_b M ∧ c.maxLocals = am_l M ∧ s.vm.findClass (am_cn (am_ow M)) = some m.cls ∧ (∀ w ∈ lw_g, w.before args s = true) ∧ (∀ w ∈ am_nest, va_Nw w s) ∧ am_fr M ≤ R.frames ∧ am_lo M ≤ R.locals ∧ cells ≤ R.cells ∧ slots ≤ R.slots
/-- the law's script, which nobody writes: cell N of the abstract machine -/
def am_scr (M N : Nat) (ad : Nat → Nat) (I A : am_F) (s : State) (H0 : Heap) (A0 : Nat → Prop) : Prop :=
  M = am_law → ∃ (Ls : Nat) (xs : Nat → Int32), va_X (ad N) Ls xs s H0 ∧ ad N < H0.size ∧ ¬ A0 (ad N) ∧ Ls < 2 ^ 31 ∧ I N 0 = Int32.ofNat Ls ∧ ∀ j, A N j = xs j
theorem am_scr.to {M N : Nat} {ad : Nat → Nat} {I A I' A' : am_F} {s : State} {H0 : Heap} {A0 : Nat → Prop} (h : am_scr M N ad I A s H0 A0) (hI : I' N = I N) (hA : A' N = A N) : am_scr M N ad I' A' s H0 A0 := fun hM => by
  obtain ⟨Ls, xs, h1, h2, h3, h4, h5, h6⟩ := h hM
  exact ⟨Ls, xs, h1, h2, h3, h4, by rw [hI]; exact h5, fun j => by rw [hA]; exact h6 j⟩
section AMS
variable {p : Program} {l : Launch} {e : Env} {R : Room} {s : State} {m : MethodId} {args : Array Value} {below : List Frame} {meth : Method} {c : Code} {cells slots : Nat} {Q : State → Prop}
variable {dC : Nat → ClassId} {dI : Nat → Nat → Nat} {cI cB : ClassId} {ad : Nat → Nat} {N : Nat} {A0 : Nat → Prop} {H0 : Heap}
variable {M pc : Nat} {L S : List Value} {I A : am_F} {G : am_G} {d : am_C} {ls : Array Slot} {H : Heap} {locs : List Loc}
/-- from every later place that d names the machine comes to Q -/
def am_kk (p : Program) (l : Launch) (e : Env) (R : Room) (s : State) (m : MethodId) (args : Array Value) (below : List Frame) (meth : Method) (c : Code) (cells slots : Nat) (Q : State → Prop) (dC : Nat → ClassId) (dI : Nat → Nat → Nat) (cI cB : ClassId) (ad : Nat → Nat) (N : Nat) (A0 : Nat → Prop) (H0 : Heap) (d : am_C) : Prop :=
  ∀ (M pc' : Nat) (L' S' : List Value) (I' A' : am_F) (G' : am_G), d = (M, pc', L', S', I', A', G') → ∀ (ls' : Array Slot) (H' : Heap) (locs' : List Loc), am_ls ad (am_lg M) (am_l M) ls' L' → am_scr M N ad I' A' s H0 A0 → va_P (dC, dI) vwCl (am_w N cI cB ad I' A' G') H' → va_D A0 (am_w N cI cB ad I' A' G') → va_S A0 H0 H' locs' → W p l e R s m args below meth c H' locs' cells slots Q (F0 m pc' ls' (S'.map (am_co ad)))

theorem am_s_iconst (X : am_cx p R s m args c cells slots M) (hK : va_K (dC, dI) vwCl [(cI, .int), (cB, .byte)] s) (hscr : am_scr M N ad I A s H0 A0) (hl : am_ls ad (am_lg M) (am_l M) ls L) (hP : va_P (dC, dI) vwCl (am_w N cI cB ad I A G) H) (hD : va_D A0 (am_w N cI cB ad I A G)) (hS : va_S A0 H0 H locs) (kk : am_kk p l e R s m args below meth c cells slots Q dC dI cI cB ad N A0 H0 d) {k : Int} (hdg : decode (am_b M) pc = .ok (.iconst k, 1)) (hd : am_in N M pc (.iconst k) L S I A G = some (.inl d)) : W p l e R s m args below meth c H locs cells slots Q (F0 m pc ls (S.map (am_co ad))) := by
  obtain ⟨hx, hb, hml, hown, hts, hnst, hfr, hlo, hc0, hs0⟩ := X
  cases hd
  exact lv_iconst hx hb hdg rfl (kk _ _ _ _ _ _ _ rfl ls H locs hl hscr hP hD hS)
theorem am_s_bipush (X : am_cx p R s m args c cells slots M) (hK : va_K (dC, dI) vwCl [(cI, .int), (cB, .byte)] s) (hscr : am_scr M N ad I A s H0 A0) (hl : am_ls ad (am_lg M) (am_l M) ls L) (hP : va_P (dC, dI) vwCl (am_w N cI cB ad I A G) H) (hD : va_D A0 (am_w N cI cB ad I A G)) (hS : va_S A0 H0 H locs) (kk : am_kk p l e R s m args below meth c cells slots Q dC dI cI cB ad N A0 H0 d) {k : Int} (hdg : decode (am_b M) pc = .ok (.bipush k, 2)) (hd : am_in N M pc (.bipush k) L S I A G = some (.inl d)) : W p l e R s m args below meth c H locs cells slots Q (F0 m pc ls (S.map (am_co ad))) := by
  obtain ⟨hx, hb, hml, hown, hts, hnst, hfr, hlo, hc0, hs0⟩ := X
  cases hd
  exact lv_bipush hx hb hdg rfl (kk _ _ _ _ _ _ _ rfl ls H locs hl hscr hP hD hS)
theorem am_s_sipush (X : am_cx p R s m args c cells slots M) (hK : va_K (dC, dI) vwCl [(cI, .int), (cB, .byte)] s) (hscr : am_scr M N ad I A s H0 A0) (hl : am_ls ad (am_lg M) (am_l M) ls L) (hP : va_P (dC, dI) vwCl (am_w N cI cB ad I A G) H) (hD : va_D A0 (am_w N cI cB ad I A G)) (hS : va_S A0 H0 H locs) (kk : am_kk p l e R s m args below meth c cells slots Q dC dI cI cB ad N A0 H0 d) {k : Int} (hdg : decode (am_b M) pc = .ok (.sipush k, 3)) (hd : am_in N M pc (.sipush k) L S I A G = some (.inl d)) : W p l e R s m args below meth c H locs cells slots Q (F0 m pc ls (S.map (am_co ad))) := by
  obtain ⟨hx, hb, hml, hown, hts, hnst, hfr, hlo, hc0, hs0⟩ := X
  cases hd
  exact lv_sipush hx hb hdg rfl (kk _ _ _ _ _ _ _ rfl ls H locs hl hscr hP hD hS)
theorem am_s_lconst (X : am_cx p R s m args c cells slots M) (hK : va_K (dC, dI) vwCl [(cI, .int), (cB, .byte)] s) (hscr : am_scr M N ad I A s H0 A0) (hl : am_ls ad (am_lg M) (am_l M) ls L) (hP : va_P (dC, dI) vwCl (am_w N cI cB ad I A G) H) (hD : va_D A0 (am_w N cI cB ad I A G)) (hS : va_S A0 H0 H locs) (kk : am_kk p l e R s m args below meth c cells slots Q dC dI cI cB ad N A0 H0 d) {k : Fin 2} (hdg : decode (am_b M) pc = .ok (.lconst k, 1)) (hd : am_in N M pc (.lconst k) L S I A G = some (.inl d)) : W p l e R s m args below meth c H locs cells slots Q (F0 m pc ls (S.map (am_co ad))) := by
  obtain ⟨hx, hb, hml, hown, hts, hnst, hfr, hlo, hc0, hs0⟩ := X
  cases hd
  exact lv_lconst hx hb hdg rfl (kk _ _ _ _ _ _ _ rfl ls H locs hl hscr hP hD hS)
theorem am_s_ldc (X : am_cx p R s m args c cells slots M) (hK : va_K (dC, dI) vwCl [(cI, .int), (cB, .byte)] s) (hscr : am_scr M N ad I A s H0 A0) (hl : am_ls ad (am_lg M) (am_l M) ls L) (hP : va_P (dC, dI) vwCl (am_w N cI cB ad I A G) H) (hD : va_D A0 (am_w N cI cB ad I A G)) (hS : va_S A0 H0 H locs) (kk : am_kk p l e R s m args below meth c cells slots Q dC dI cI cB ad N A0 H0 d) {k : Nat} (hdg : decode (am_b M) pc = .ok (.ldc k, 2)) (hd : am_in N M pc (.ldc k) L S I A G = some (.inl d)) : W p l e R s m args below meth c H locs cells slots Q (F0 m pc ls (S.map (am_co ad))) := by
  obtain ⟨hx, hb, hml, hown, hts, hnst, hfr, hlo, hc0, hs0⟩ := X
  cases hc : am_ci (am_ow M) k with
  | none => unfold am_in at hd; simp only [hc] at hd; cases hd
  | some v =>
    unfold am_in at hd
    simp only [hc] at hd
    cases hd
    exact lv_ldc hx hb hown (hts _ (am_ci_ok hc)) hdg (kk _ _ _ _ _ _ _ rfl ls H locs hl hscr hP hD hS)
theorem am_s_ldc_w (X : am_cx p R s m args c cells slots M) (hK : va_K (dC, dI) vwCl [(cI, .int), (cB, .byte)] s) (hscr : am_scr M N ad I A s H0 A0) (hl : am_ls ad (am_lg M) (am_l M) ls L) (hP : va_P (dC, dI) vwCl (am_w N cI cB ad I A G) H) (hD : va_D A0 (am_w N cI cB ad I A G)) (hS : va_S A0 H0 H locs) (kk : am_kk p l e R s m args below meth c cells slots Q dC dI cI cB ad N A0 H0 d) {k : Nat} (hdg : decode (am_b M) pc = .ok (.ldc_w k, 3)) (hd : am_in N M pc (.ldc_w k) L S I A G = some (.inl d)) : W p l e R s m args below meth c H locs cells slots Q (F0 m pc ls (S.map (am_co ad))) := by
  obtain ⟨hx, hb, hml, hown, hts, hnst, hfr, hlo, hc0, hs0⟩ := X
  cases hc : am_ci (am_ow M) k with
  | none => unfold am_in at hd; simp only [hc] at hd; cases hd
  | some v =>
    unfold am_in at hd
    simp only [hc] at hd
    cases hd
    exact lv_ldcw hx hb hown (hts _ (am_ci_ok hc)) hdg (kk _ _ _ _ _ _ _ rfl ls H locs hl hscr hP hD hS)
theorem am_s_ldc2_w (X : am_cx p R s m args c cells slots M) (hK : va_K (dC, dI) vwCl [(cI, .int), (cB, .byte)] s) (hscr : am_scr M N ad I A s H0 A0) (hl : am_ls ad (am_lg M) (am_l M) ls L) (hP : va_P (dC, dI) vwCl (am_w N cI cB ad I A G) H) (hD : va_D A0 (am_w N cI cB ad I A G)) (hS : va_S A0 H0 H locs) (kk : am_kk p l e R s m args below meth c cells slots Q dC dI cI cB ad N A0 H0 d) {k : Nat} (hdg : decode (am_b M) pc = .ok (.ldc2_w k, 3)) (hd : am_in N M pc (.ldc2_w k) L S I A G = some (.inl d)) : W p l e R s m args below meth c H locs cells slots Q (F0 m pc ls (S.map (am_co ad))) := by
  obtain ⟨hx, hb, hml, hown, hts, hnst, hfr, hlo, hc0, hs0⟩ := X
  cases hc : am_cj (am_ow M) k with
  | none => unfold am_in at hd; simp only [hc] at hd; cases hd
  | some v =>
    unfold am_in at hd
    simp only [hc] at hd
    cases hd
    exact lv_ldc2 hx hb hown (hts _ (am_cj_ok hc)) hdg (kk _ _ _ _ _ _ _ rfl ls H locs hl hscr hP hD hS)
theorem am_s_iload_n (X : am_cx p R s m args c cells slots M) (hK : va_K (dC, dI) vwCl [(cI, .int), (cB, .byte)] s) (hscr : am_scr M N ad I A s H0 A0) (hl : am_ls ad (am_lg M) (am_l M) ls L) (hP : va_P (dC, dI) vwCl (am_w N cI cB ad I A G) H) (hD : va_D A0 (am_w N cI cB ad I A G)) (hS : va_S A0 H0 H locs) (kk : am_kk p l e R s m args below meth c cells slots Q dC dI cI cB ad N A0 H0 d) {k : Fin 4} (hdg : decode (am_b M) pc = .ok (.iload_n k, 1)) (hd : am_in N M pc (.iload_n k) L S I A G = some (.inl d)) : W p l e R s m args below meth c H locs cells slots Q (F0 m pc ls (S.map (am_co ad))) := by
  obtain ⟨hx, hb, hml, hown, hts, hnst, hfr, hlo, hc0, hs0⟩ := X
  replace hd := am_gi_i (show am_gi L k _ = some _ from hd)
  obtain ⟨x, hx1, hd⟩ := hd
  cases hd
  exact lv_iload_n hx hb hdg rfl (hl.2.2.1 _ _ hx1 (fun h => by cases h)) (kk _ _ _ _ _ _ _ rfl ls H locs hl hscr hP hD hS)
theorem am_s_iload (X : am_cx p R s m args c cells slots M) (hK : va_K (dC, dI) vwCl [(cI, .int), (cB, .byte)] s) (hscr : am_scr M N ad I A s H0 A0) (hl : am_ls ad (am_lg M) (am_l M) ls L) (hP : va_P (dC, dI) vwCl (am_w N cI cB ad I A G) H) (hD : va_D A0 (am_w N cI cB ad I A G)) (hS : va_S A0 H0 H locs) (kk : am_kk p l e R s m args below meth c cells slots Q dC dI cI cB ad N A0 H0 d) {k : Nat} (hdg : decode (am_b M) pc = .ok (.iload k, 2)) (hd : am_in N M pc (.iload k) L S I A G = some (.inl d)) : W p l e R s m args below meth c H locs cells slots Q (F0 m pc ls (S.map (am_co ad))) := by
  obtain ⟨hx, hb, hml, hown, hts, hnst, hfr, hlo, hc0, hs0⟩ := X
  replace hd := am_gi_i (show am_gi L k _ = some _ from hd)
  obtain ⟨x, hx1, hd⟩ := hd
  cases hd
  exact lv_iload hx hb hdg (hl.2.2.1 _ _ hx1 (fun h => by cases h)) (kk _ _ _ _ _ _ _ rfl ls H locs hl hscr hP hD hS)
theorem am_s_lload_n (X : am_cx p R s m args c cells slots M) (hK : va_K (dC, dI) vwCl [(cI, .int), (cB, .byte)] s) (hscr : am_scr M N ad I A s H0 A0) (hl : am_ls ad (am_lg M) (am_l M) ls L) (hP : va_P (dC, dI) vwCl (am_w N cI cB ad I A G) H) (hD : va_D A0 (am_w N cI cB ad I A G)) (hS : va_S A0 H0 H locs) (kk : am_kk p l e R s m args below meth c cells slots Q dC dI cI cB ad N A0 H0 d) {k : Fin 4} (hdg : decode (am_b M) pc = .ok (.lload_n k, 1)) (hd : am_in N M pc (.lload_n k) L S I A G = some (.inl d)) : W p l e R s m args below meth c H locs cells slots Q (F0 m pc ls (S.map (am_co ad))) := by
  obtain ⟨hx, hb, hml, hown, hts, hnst, hfr, hlo, hc0, hs0⟩ := X
  replace hd := am_gl_i (show am_gl L k _ = some _ from hd)
  obtain ⟨x, hx1, hd⟩ := hd
  cases hd
  exact lv_lload_n hx hb hdg rfl (hl.2.2.1 _ _ hx1 (fun h => by cases h)) (kk _ _ _ _ _ _ _ rfl ls H locs hl hscr hP hD hS)
theorem am_s_lload (X : am_cx p R s m args c cells slots M) (hK : va_K (dC, dI) vwCl [(cI, .int), (cB, .byte)] s) (hscr : am_scr M N ad I A s H0 A0) (hl : am_ls ad (am_lg M) (am_l M) ls L) (hP : va_P (dC, dI) vwCl (am_w N cI cB ad I A G) H) (hD : va_D A0 (am_w N cI cB ad I A G)) (hS : va_S A0 H0 H locs) (kk : am_kk p l e R s m args below meth c cells slots Q dC dI cI cB ad N A0 H0 d) {k : Nat} (hdg : decode (am_b M) pc = .ok (.lload k, 2)) (hd : am_in N M pc (.lload k) L S I A G = some (.inl d)) : W p l e R s m args below meth c H locs cells slots Q (F0 m pc ls (S.map (am_co ad))) := by
  obtain ⟨hx, hb, hml, hown, hts, hnst, hfr, hlo, hc0, hs0⟩ := X
  replace hd := am_gl_i (show am_gl L k _ = some _ from hd)
  obtain ⟨x, hx1, hd⟩ := hd
  cases hd
  exact lv_lload hx hb hdg (hl.2.2.1 _ _ hx1 (fun h => by cases h)) (kk _ _ _ _ _ _ _ rfl ls H locs hl hscr hP hD hS)
theorem am_s_aload_n (X : am_cx p R s m args c cells slots M) (hK : va_K (dC, dI) vwCl [(cI, .int), (cB, .byte)] s) (hscr : am_scr M N ad I A s H0 A0) (hl : am_ls ad (am_lg M) (am_l M) ls L) (hP : va_P (dC, dI) vwCl (am_w N cI cB ad I A G) H) (hD : va_D A0 (am_w N cI cB ad I A G)) (hS : va_S A0 H0 H locs) (kk : am_kk p l e R s m args below meth c cells slots Q dC dI cI cB ad N A0 H0 d) {k : Fin 4} (hdg : decode (am_b M) pc = .ok (.aload_n k, 1)) (hd : am_in N M pc (.aload_n k) L S I A G = some (.inl d)) : W p l e R s m args below meth c H locs cells slots Q (F0 m pc ls (S.map (am_co ad))) := by
  obtain ⟨hx, hb, hml, hown, hts, hnst, hfr, hlo, hc0, hs0⟩ := X
  replace hd := am_gr_i (show am_gr L k _ = some _ from hd)
  obtain ⟨x, hx1, hd⟩ := hd
  cases hd
  exact lv_aload_n hx hb hdg rfl (hl.2.2.1 _ _ hx1 (fun h => by cases h)) (kk _ _ _ _ _ _ _ rfl ls H locs hl hscr hP hD hS)
theorem am_s_istore_n (X : am_cx p R s m args c cells slots M) (hK : va_K (dC, dI) vwCl [(cI, .int), (cB, .byte)] s) (hscr : am_scr M N ad I A s H0 A0) (hl : am_ls ad (am_lg M) (am_l M) ls L) (hP : va_P (dC, dI) vwCl (am_w N cI cB ad I A G) H) (hD : va_D A0 (am_w N cI cB ad I A G)) (hS : va_S A0 H0 H locs) (kk : am_kk p l e R s m args below meth c cells slots Q dC dI cI cB ad N A0 H0 d) {k : Fin 4} (hdg : decode (am_b M) pc = .ok (.istore_n k, 1)) (hd : am_in N M pc (.istore_n k) L S I A G = some (.inl d)) : W p l e R s m args below meth c H locs cells slots Q (F0 m pc ls (S.map (am_co ad))) := by
  obtain ⟨hx, hb, hml, hown, hts, hnst, hfr, hlo, hc0, hs0⟩ := X
  replace hd := am_p1_i (show am_p1 S _ = some _ from hd)
  obtain ⟨x, S', rfl, hd⟩ := hd
  split at hd
  · rename_i hn
    cases hd
    exact lv_istore_n hx hb hdg rfl hl.has (am_blt hn) rfl (fun ls' h' => kk _ _ _ _ _ _ _ rfl ls' H locs (am_ls_store rfl hl.2.2.2 h') hscr hP hD hS)
  · cases hd
theorem am_s_istore (X : am_cx p R s m args c cells slots M) (hK : va_K (dC, dI) vwCl [(cI, .int), (cB, .byte)] s) (hscr : am_scr M N ad I A s H0 A0) (hl : am_ls ad (am_lg M) (am_l M) ls L) (hP : va_P (dC, dI) vwCl (am_w N cI cB ad I A G) H) (hD : va_D A0 (am_w N cI cB ad I A G)) (hS : va_S A0 H0 H locs) (kk : am_kk p l e R s m args below meth c cells slots Q dC dI cI cB ad N A0 H0 d) {k : Nat} (hdg : decode (am_b M) pc = .ok (.istore k, 2)) (hd : am_in N M pc (.istore k) L S I A G = some (.inl d)) : W p l e R s m args below meth c H locs cells slots Q (F0 m pc ls (S.map (am_co ad))) := by
  obtain ⟨hx, hb, hml, hown, hts, hnst, hfr, hlo, hc0, hs0⟩ := X
  replace hd := am_p1_i (show am_p1 S _ = some _ from hd)
  obtain ⟨x, S', rfl, hd⟩ := hd
  split at hd
  · rename_i hn
    cases hd
    exact lv_istore hx hb hdg hl.has (am_blt hn) rfl (fun ls' h' => kk _ _ _ _ _ _ _ rfl ls' H locs (am_ls_store rfl hl.2.2.2 h') hscr hP hD hS)
  · cases hd
theorem am_s_astore_n (X : am_cx p R s m args c cells slots M) (hK : va_K (dC, dI) vwCl [(cI, .int), (cB, .byte)] s) (hscr : am_scr M N ad I A s H0 A0) (hl : am_ls ad (am_lg M) (am_l M) ls L) (hP : va_P (dC, dI) vwCl (am_w N cI cB ad I A G) H) (hD : va_D A0 (am_w N cI cB ad I A G)) (hS : va_S A0 H0 H locs) (kk : am_kk p l e R s m args below meth c cells slots Q dC dI cI cB ad N A0 H0 d) {k : Fin 4} (hdg : decode (am_b M) pc = .ok (.astore_n k, 1)) (hd : am_in N M pc (.astore_n k) L S I A G = some (.inl d)) : W p l e R s m args below meth c H locs cells slots Q (F0 m pc ls (S.map (am_co ad))) := by
  obtain ⟨hx, hb, hml, hown, hts, hnst, hfr, hlo, hc0, hs0⟩ := X
  replace hd := am_pr_i (show am_pr S _ = some _ from hd)
  obtain ⟨x, S', rfl, hd⟩ := hd
  split at hd
  · rename_i hn
    cases hd
    exact lv_astore_n hx hb hdg rfl hl.has (am_blt hn) rfl (fun ls' h' => kk _ _ _ _ _ _ _ rfl ls' H locs (am_ls_store rfl hl.2.2.2 h') hscr hP hD hS)
  · cases hd
theorem am_s_lstore_n (X : am_cx p R s m args c cells slots M) (hK : va_K (dC, dI) vwCl [(cI, .int), (cB, .byte)] s) (hscr : am_scr M N ad I A s H0 A0) (hl : am_ls ad (am_lg M) (am_l M) ls L) (hP : va_P (dC, dI) vwCl (am_w N cI cB ad I A G) H) (hD : va_D A0 (am_w N cI cB ad I A G)) (hS : va_S A0 H0 H locs) (kk : am_kk p l e R s m args below meth c cells slots Q dC dI cI cB ad N A0 H0 d) {k : Fin 4} (hdg : decode (am_b M) pc = .ok (.lstore_n k, 1)) (hd : am_in N M pc (.lstore_n k) L S I A G = some (.inl d)) : W p l e R s m args below meth c H locs cells slots Q (F0 m pc ls (S.map (am_co ad))) := by
  obtain ⟨hx, hb, hml, hown, hts, hnst, hfr, hlo, hc0, hs0⟩ := X
  replace hd := am_q1_i (show am_q1 S _ = some _ from hd)
  obtain ⟨x, S', rfl, hd⟩ := hd
  split at hd
  · rename_i hn
    rw [Bool.and_eq_true] at hn
    cases hd
    refine lv_lstore_n hx hb hdg rfl hl.has (am_blt hn.1) rfl (fun ls' h' => kk _ _ _ _ _ _ _ rfl ls' H locs ?_ hscr hP hD hS)
    rw [hn.2]
    exact am_ls_storeL h'
  · cases hd
theorem am_s_lstore (X : am_cx p R s m args c cells slots M) (hK : va_K (dC, dI) vwCl [(cI, .int), (cB, .byte)] s) (hscr : am_scr M N ad I A s H0 A0) (hl : am_ls ad (am_lg M) (am_l M) ls L) (hP : va_P (dC, dI) vwCl (am_w N cI cB ad I A G) H) (hD : va_D A0 (am_w N cI cB ad I A G)) (hS : va_S A0 H0 H locs) (kk : am_kk p l e R s m args below meth c cells slots Q dC dI cI cB ad N A0 H0 d) {k : Nat} (hdg : decode (am_b M) pc = .ok (.lstore k, 2)) (hd : am_in N M pc (.lstore k) L S I A G = some (.inl d)) : W p l e R s m args below meth c H locs cells slots Q (F0 m pc ls (S.map (am_co ad))) := by
  obtain ⟨hx, hb, hml, hown, hts, hnst, hfr, hlo, hc0, hs0⟩ := X
  replace hd := am_q1_i (show am_q1 S _ = some _ from hd)
  obtain ⟨x, S', rfl, hd⟩ := hd
  split at hd
  · rename_i hn
    rw [Bool.and_eq_true] at hn
    cases hd
    refine lv_lstore hx hb hdg hl.has (am_blt hn.1) rfl (fun ls' h' => kk _ _ _ _ _ _ _ rfl ls' H locs ?_ hscr hP hD hS)
    rw [hn.2]
    exact am_ls_storeL h'
  · cases hd
theorem am_s_iinc (X : am_cx p R s m args c cells slots M) (hK : va_K (dC, dI) vwCl [(cI, .int), (cB, .byte)] s) (hscr : am_scr M N ad I A s H0 A0) (hl : am_ls ad (am_lg M) (am_l M) ls L) (hP : va_P (dC, dI) vwCl (am_w N cI cB ad I A G) H) (hD : va_D A0 (am_w N cI cB ad I A G)) (hS : va_S A0 H0 H locs) (kk : am_kk p l e R s m args below meth c cells slots Q dC dI cI cB ad N A0 H0 d) {k : Nat} {n : Int} (hdg : decode (am_b M) pc = .ok (.iinc k n, 3)) (hd : am_in N M pc (.iinc k n) L S I A G = some (.inl d)) : W p l e R s m args below meth c H locs cells slots Q (F0 m pc ls (S.map (am_co ad))) := by
  obtain ⟨hx, hb, hml, hown, hts, hnst, hfr, hlo, hc0, hs0⟩ := X
  replace hd := am_gi_i (show am_gi L k _ = some _ from hd)
  obtain ⟨x, hx1, hd⟩ := hd
  split at hd
  · rename_i hn
    cases hd
    obtain ⟨k0, hk0⟩ := List.getElem?_of_mem (am_lv_mem.mpr ⟨_, hx1, (fun h => by cases h), rfl⟩ : (k, am_co ad (.int x)) ∈ am_lv ad L)
    exact lv_iinc hx hb hdg hl.has hk0 rfl (am_blt hn) rfl (fun ls' h' => kk _ _ _ _ _ _ _ rfl ls' H locs (am_ls_store rfl hl.2.2.2 h') hscr hP hD hS)
  · cases hd
theorem am_s_iadd (X : am_cx p R s m args c cells slots M) (hK : va_K (dC, dI) vwCl [(cI, .int), (cB, .byte)] s) (hscr : am_scr M N ad I A s H0 A0) (hl : am_ls ad (am_lg M) (am_l M) ls L) (hP : va_P (dC, dI) vwCl (am_w N cI cB ad I A G) H) (hD : va_D A0 (am_w N cI cB ad I A G)) (hS : va_S A0 H0 H locs) (kk : am_kk p l e R s m args below meth c cells slots Q dC dI cI cB ad N A0 H0 d) (hdg : decode (am_b M) pc = .ok (.iadd, 1)) (hd : am_in N M pc (.iadd) L S I A G = some (.inl d)) : W p l e R s m args below meth c H locs cells slots Q (F0 m pc ls (S.map (am_co ad))) := by
  obtain ⟨hx, hb, hml, hown, hts, hnst, hfr, hlo, hc0, hs0⟩ := X
  replace hd := am_p2_i (show am_p2 S _ = some _ from hd)
  obtain ⟨x, y, S', rfl, hd⟩ := hd
  cases hd
  exact lv_iadd hx hb hdg (kk _ _ _ _ _ _ _ rfl ls H locs hl hscr hP hD hS)
theorem am_s_isub (X : am_cx p R s m args c cells slots M) (hK : va_K (dC, dI) vwCl [(cI, .int), (cB, .byte)] s) (hscr : am_scr M N ad I A s H0 A0) (hl : am_ls ad (am_lg M) (am_l M) ls L) (hP : va_P (dC, dI) vwCl (am_w N cI cB ad I A G) H) (hD : va_D A0 (am_w N cI cB ad I A G)) (hS : va_S A0 H0 H locs) (kk : am_kk p l e R s m args below meth c cells slots Q dC dI cI cB ad N A0 H0 d) (hdg : decode (am_b M) pc = .ok (.isub, 1)) (hd : am_in N M pc (.isub) L S I A G = some (.inl d)) : W p l e R s m args below meth c H locs cells slots Q (F0 m pc ls (S.map (am_co ad))) := by
  obtain ⟨hx, hb, hml, hown, hts, hnst, hfr, hlo, hc0, hs0⟩ := X
  replace hd := am_p2_i (show am_p2 S _ = some _ from hd)
  obtain ⟨x, y, S', rfl, hd⟩ := hd
  cases hd
  exact lv_isub hx hb hdg (kk _ _ _ _ _ _ _ rfl ls H locs hl hscr hP hD hS)
theorem am_s_imul (X : am_cx p R s m args c cells slots M) (hK : va_K (dC, dI) vwCl [(cI, .int), (cB, .byte)] s) (hscr : am_scr M N ad I A s H0 A0) (hl : am_ls ad (am_lg M) (am_l M) ls L) (hP : va_P (dC, dI) vwCl (am_w N cI cB ad I A G) H) (hD : va_D A0 (am_w N cI cB ad I A G)) (hS : va_S A0 H0 H locs) (kk : am_kk p l e R s m args below meth c cells slots Q dC dI cI cB ad N A0 H0 d) (hdg : decode (am_b M) pc = .ok (.imul, 1)) (hd : am_in N M pc (.imul) L S I A G = some (.inl d)) : W p l e R s m args below meth c H locs cells slots Q (F0 m pc ls (S.map (am_co ad))) := by
  obtain ⟨hx, hb, hml, hown, hts, hnst, hfr, hlo, hc0, hs0⟩ := X
  replace hd := am_p2_i (show am_p2 S _ = some _ from hd)
  obtain ⟨x, y, S', rfl, hd⟩ := hd
  cases hd
  exact lv_imul hx hb hdg (kk _ _ _ _ _ _ _ rfl ls H locs hl hscr hP hD hS)
theorem am_s_iand (X : am_cx p R s m args c cells slots M) (hK : va_K (dC, dI) vwCl [(cI, .int), (cB, .byte)] s) (hscr : am_scr M N ad I A s H0 A0) (hl : am_ls ad (am_lg M) (am_l M) ls L) (hP : va_P (dC, dI) vwCl (am_w N cI cB ad I A G) H) (hD : va_D A0 (am_w N cI cB ad I A G)) (hS : va_S A0 H0 H locs) (kk : am_kk p l e R s m args below meth c cells slots Q dC dI cI cB ad N A0 H0 d) (hdg : decode (am_b M) pc = .ok (.iand, 1)) (hd : am_in N M pc (.iand) L S I A G = some (.inl d)) : W p l e R s m args below meth c H locs cells slots Q (F0 m pc ls (S.map (am_co ad))) := by
  obtain ⟨hx, hb, hml, hown, hts, hnst, hfr, hlo, hc0, hs0⟩ := X
  replace hd := am_p2_i (show am_p2 S _ = some _ from hd)
  obtain ⟨x, y, S', rfl, hd⟩ := hd
  cases hd
  exact lv_iand hx hb hdg (kk _ _ _ _ _ _ _ rfl ls H locs hl hscr hP hD hS)
theorem am_s_ior (X : am_cx p R s m args c cells slots M) (hK : va_K (dC, dI) vwCl [(cI, .int), (cB, .byte)] s) (hscr : am_scr M N ad I A s H0 A0) (hl : am_ls ad (am_lg M) (am_l M) ls L) (hP : va_P (dC, dI) vwCl (am_w N cI cB ad I A G) H) (hD : va_D A0 (am_w N cI cB ad I A G)) (hS : va_S A0 H0 H locs) (kk : am_kk p l e R s m args below meth c cells slots Q dC dI cI cB ad N A0 H0 d) (hdg : decode (am_b M) pc = .ok (.ior, 1)) (hd : am_in N M pc (.ior) L S I A G = some (.inl d)) : W p l e R s m args below meth c H locs cells slots Q (F0 m pc ls (S.map (am_co ad))) := by
  obtain ⟨hx, hb, hml, hown, hts, hnst, hfr, hlo, hc0, hs0⟩ := X
  replace hd := am_p2_i (show am_p2 S _ = some _ from hd)
  obtain ⟨x, y, S', rfl, hd⟩ := hd
  cases hd
  exact lv_ior hx hb hdg (kk _ _ _ _ _ _ _ rfl ls H locs hl hscr hP hD hS)
theorem am_s_ixor (X : am_cx p R s m args c cells slots M) (hK : va_K (dC, dI) vwCl [(cI, .int), (cB, .byte)] s) (hscr : am_scr M N ad I A s H0 A0) (hl : am_ls ad (am_lg M) (am_l M) ls L) (hP : va_P (dC, dI) vwCl (am_w N cI cB ad I A G) H) (hD : va_D A0 (am_w N cI cB ad I A G)) (hS : va_S A0 H0 H locs) (kk : am_kk p l e R s m args below meth c cells slots Q dC dI cI cB ad N A0 H0 d) (hdg : decode (am_b M) pc = .ok (.ixor, 1)) (hd : am_in N M pc (.ixor) L S I A G = some (.inl d)) : W p l e R s m args below meth c H locs cells slots Q (F0 m pc ls (S.map (am_co ad))) := by
  obtain ⟨hx, hb, hml, hown, hts, hnst, hfr, hlo, hc0, hs0⟩ := X
  replace hd := am_p2_i (show am_p2 S _ = some _ from hd)
  obtain ⟨x, y, S', rfl, hd⟩ := hd
  cases hd
  exact lv_ixor hx hb hdg (kk _ _ _ _ _ _ _ rfl ls H locs hl hscr hP hD hS)
theorem am_s_ishl (X : am_cx p R s m args c cells slots M) (hK : va_K (dC, dI) vwCl [(cI, .int), (cB, .byte)] s) (hscr : am_scr M N ad I A s H0 A0) (hl : am_ls ad (am_lg M) (am_l M) ls L) (hP : va_P (dC, dI) vwCl (am_w N cI cB ad I A G) H) (hD : va_D A0 (am_w N cI cB ad I A G)) (hS : va_S A0 H0 H locs) (kk : am_kk p l e R s m args below meth c cells slots Q dC dI cI cB ad N A0 H0 d) (hdg : decode (am_b M) pc = .ok (.ishl, 1)) (hd : am_in N M pc (.ishl) L S I A G = some (.inl d)) : W p l e R s m args below meth c H locs cells slots Q (F0 m pc ls (S.map (am_co ad))) := by
  obtain ⟨hx, hb, hml, hown, hts, hnst, hfr, hlo, hc0, hs0⟩ := X
  replace hd := am_p2_i (show am_p2 S _ = some _ from hd)
  obtain ⟨x, y, S', rfl, hd⟩ := hd
  cases hd
  exact lv_ishl hx hb hdg (kk _ _ _ _ _ _ _ rfl ls H locs hl hscr hP hD hS)
theorem am_s_ishr (X : am_cx p R s m args c cells slots M) (hK : va_K (dC, dI) vwCl [(cI, .int), (cB, .byte)] s) (hscr : am_scr M N ad I A s H0 A0) (hl : am_ls ad (am_lg M) (am_l M) ls L) (hP : va_P (dC, dI) vwCl (am_w N cI cB ad I A G) H) (hD : va_D A0 (am_w N cI cB ad I A G)) (hS : va_S A0 H0 H locs) (kk : am_kk p l e R s m args below meth c cells slots Q dC dI cI cB ad N A0 H0 d) (hdg : decode (am_b M) pc = .ok (.ishr, 1)) (hd : am_in N M pc (.ishr) L S I A G = some (.inl d)) : W p l e R s m args below meth c H locs cells slots Q (F0 m pc ls (S.map (am_co ad))) := by
  obtain ⟨hx, hb, hml, hown, hts, hnst, hfr, hlo, hc0, hs0⟩ := X
  replace hd := am_p2_i (show am_p2 S _ = some _ from hd)
  obtain ⟨x, y, S', rfl, hd⟩ := hd
  cases hd
  exact lv_ishr hx hb hdg (kk _ _ _ _ _ _ _ rfl ls H locs hl hscr hP hD hS)
theorem am_s_iushr (X : am_cx p R s m args c cells slots M) (hK : va_K (dC, dI) vwCl [(cI, .int), (cB, .byte)] s) (hscr : am_scr M N ad I A s H0 A0) (hl : am_ls ad (am_lg M) (am_l M) ls L) (hP : va_P (dC, dI) vwCl (am_w N cI cB ad I A G) H) (hD : va_D A0 (am_w N cI cB ad I A G)) (hS : va_S A0 H0 H locs) (kk : am_kk p l e R s m args below meth c cells slots Q dC dI cI cB ad N A0 H0 d) (hdg : decode (am_b M) pc = .ok (.iushr, 1)) (hd : am_in N M pc (.iushr) L S I A G = some (.inl d)) : W p l e R s m args below meth c H locs cells slots Q (F0 m pc ls (S.map (am_co ad))) := by
  obtain ⟨hx, hb, hml, hown, hts, hnst, hfr, hlo, hc0, hs0⟩ := X
  replace hd := am_p2_i (show am_p2 S _ = some _ from hd)
  obtain ⟨x, y, S', rfl, hd⟩ := hd
  cases hd
  exact lv_iushr hx hb hdg rfl (kk _ _ _ _ _ _ _ rfl ls H locs hl hscr hP hD hS)
theorem am_s_idiv (X : am_cx p R s m args c cells slots M) (hK : va_K (dC, dI) vwCl [(cI, .int), (cB, .byte)] s) (hscr : am_scr M N ad I A s H0 A0) (hl : am_ls ad (am_lg M) (am_l M) ls L) (hP : va_P (dC, dI) vwCl (am_w N cI cB ad I A G) H) (hD : va_D A0 (am_w N cI cB ad I A G)) (hS : va_S A0 H0 H locs) (kk : am_kk p l e R s m args below meth c cells slots Q dC dI cI cB ad N A0 H0 d) (hdg : decode (am_b M) pc = .ok (.idiv, 1)) (hd : am_in N M pc (.idiv) L S I A G = some (.inl d)) : W p l e R s m args below meth c H locs cells slots Q (F0 m pc ls (S.map (am_co ad))) := by
  obtain ⟨hx, hb, hml, hown, hts, hnst, hfr, hlo, hc0, hs0⟩ := X
  replace hd := am_p2_i (show am_p2 S _ = some _ from hd)
  obtain ⟨x, y, S', rfl, hd⟩ := hd
  split at hd
  · cases hd
  · rename_i hy
    cases hd
    exact lv_idiv hx hb hdg hy (kk _ _ _ _ _ _ _ rfl ls H locs hl hscr hP hD hS)
theorem am_s_irem (X : am_cx p R s m args c cells slots M) (hK : va_K (dC, dI) vwCl [(cI, .int), (cB, .byte)] s) (hscr : am_scr M N ad I A s H0 A0) (hl : am_ls ad (am_lg M) (am_l M) ls L) (hP : va_P (dC, dI) vwCl (am_w N cI cB ad I A G) H) (hD : va_D A0 (am_w N cI cB ad I A G)) (hS : va_S A0 H0 H locs) (kk : am_kk p l e R s m args below meth c cells slots Q dC dI cI cB ad N A0 H0 d) (hdg : decode (am_b M) pc = .ok (.irem, 1)) (hd : am_in N M pc (.irem) L S I A G = some (.inl d)) : W p l e R s m args below meth c H locs cells slots Q (F0 m pc ls (S.map (am_co ad))) := by
  obtain ⟨hx, hb, hml, hown, hts, hnst, hfr, hlo, hc0, hs0⟩ := X
  replace hd := am_p2_i (show am_p2 S _ = some _ from hd)
  obtain ⟨x, y, S', rfl, hd⟩ := hd
  split at hd
  · cases hd
  · rename_i hy
    cases hd
    exact lv_irem hx hb hdg hy (kk _ _ _ _ _ _ _ rfl ls H locs hl hscr hP hD hS)
theorem am_s_ladd (X : am_cx p R s m args c cells slots M) (hK : va_K (dC, dI) vwCl [(cI, .int), (cB, .byte)] s) (hscr : am_scr M N ad I A s H0 A0) (hl : am_ls ad (am_lg M) (am_l M) ls L) (hP : va_P (dC, dI) vwCl (am_w N cI cB ad I A G) H) (hD : va_D A0 (am_w N cI cB ad I A G)) (hS : va_S A0 H0 H locs) (kk : am_kk p l e R s m args below meth c cells slots Q dC dI cI cB ad N A0 H0 d) (hdg : decode (am_b M) pc = .ok (.ladd, 1)) (hd : am_in N M pc (.ladd) L S I A G = some (.inl d)) : W p l e R s m args below meth c H locs cells slots Q (F0 m pc ls (S.map (am_co ad))) := by
  obtain ⟨hx, hb, hml, hown, hts, hnst, hfr, hlo, hc0, hs0⟩ := X
  replace hd := am_q2_i (show am_q2 S _ = some _ from hd)
  obtain ⟨x, y, S', rfl, hd⟩ := hd
  cases hd
  exact lv_ladd hx hb hdg (kk _ _ _ _ _ _ _ rfl ls H locs hl hscr hP hD hS)
theorem am_s_lmul (X : am_cx p R s m args c cells slots M) (hK : va_K (dC, dI) vwCl [(cI, .int), (cB, .byte)] s) (hscr : am_scr M N ad I A s H0 A0) (hl : am_ls ad (am_lg M) (am_l M) ls L) (hP : va_P (dC, dI) vwCl (am_w N cI cB ad I A G) H) (hD : va_D A0 (am_w N cI cB ad I A G)) (hS : va_S A0 H0 H locs) (kk : am_kk p l e R s m args below meth c cells slots Q dC dI cI cB ad N A0 H0 d) (hdg : decode (am_b M) pc = .ok (.lmul, 1)) (hd : am_in N M pc (.lmul) L S I A G = some (.inl d)) : W p l e R s m args below meth c H locs cells slots Q (F0 m pc ls (S.map (am_co ad))) := by
  obtain ⟨hx, hb, hml, hown, hts, hnst, hfr, hlo, hc0, hs0⟩ := X
  replace hd := am_q2_i (show am_q2 S _ = some _ from hd)
  obtain ⟨x, y, S', rfl, hd⟩ := hd
  cases hd
  exact lv_lmul hx hb hdg (kk _ _ _ _ _ _ _ rfl ls H locs hl hscr hP hD hS)
theorem am_s_land (X : am_cx p R s m args c cells slots M) (hK : va_K (dC, dI) vwCl [(cI, .int), (cB, .byte)] s) (hscr : am_scr M N ad I A s H0 A0) (hl : am_ls ad (am_lg M) (am_l M) ls L) (hP : va_P (dC, dI) vwCl (am_w N cI cB ad I A G) H) (hD : va_D A0 (am_w N cI cB ad I A G)) (hS : va_S A0 H0 H locs) (kk : am_kk p l e R s m args below meth c cells slots Q dC dI cI cB ad N A0 H0 d) (hdg : decode (am_b M) pc = .ok (.land, 1)) (hd : am_in N M pc (.land) L S I A G = some (.inl d)) : W p l e R s m args below meth c H locs cells slots Q (F0 m pc ls (S.map (am_co ad))) := by
  obtain ⟨hx, hb, hml, hown, hts, hnst, hfr, hlo, hc0, hs0⟩ := X
  replace hd := am_q2_i (show am_q2 S _ = some _ from hd)
  obtain ⟨x, y, S', rfl, hd⟩ := hd
  cases hd
  exact lv_land hx hb hdg (kk _ _ _ _ _ _ _ rfl ls H locs hl hscr hP hD hS)
theorem am_s_lor (X : am_cx p R s m args c cells slots M) (hK : va_K (dC, dI) vwCl [(cI, .int), (cB, .byte)] s) (hscr : am_scr M N ad I A s H0 A0) (hl : am_ls ad (am_lg M) (am_l M) ls L) (hP : va_P (dC, dI) vwCl (am_w N cI cB ad I A G) H) (hD : va_D A0 (am_w N cI cB ad I A G)) (hS : va_S A0 H0 H locs) (kk : am_kk p l e R s m args below meth c cells slots Q dC dI cI cB ad N A0 H0 d) (hdg : decode (am_b M) pc = .ok (.lor, 1)) (hd : am_in N M pc (.lor) L S I A G = some (.inl d)) : W p l e R s m args below meth c H locs cells slots Q (F0 m pc ls (S.map (am_co ad))) := by
  obtain ⟨hx, hb, hml, hown, hts, hnst, hfr, hlo, hc0, hs0⟩ := X
  replace hd := am_q2_i (show am_q2 S _ = some _ from hd)
  obtain ⟨x, y, S', rfl, hd⟩ := hd
  cases hd
  exact lv_lor hx hb hdg (kk _ _ _ _ _ _ _ rfl ls H locs hl hscr hP hD hS)
theorem am_s_ldiv (X : am_cx p R s m args c cells slots M) (hK : va_K (dC, dI) vwCl [(cI, .int), (cB, .byte)] s) (hscr : am_scr M N ad I A s H0 A0) (hl : am_ls ad (am_lg M) (am_l M) ls L) (hP : va_P (dC, dI) vwCl (am_w N cI cB ad I A G) H) (hD : va_D A0 (am_w N cI cB ad I A G)) (hS : va_S A0 H0 H locs) (kk : am_kk p l e R s m args below meth c cells slots Q dC dI cI cB ad N A0 H0 d) (hdg : decode (am_b M) pc = .ok (.ldiv, 1)) (hd : am_in N M pc (.ldiv) L S I A G = some (.inl d)) : W p l e R s m args below meth c H locs cells slots Q (F0 m pc ls (S.map (am_co ad))) := by
  obtain ⟨hx, hb, hml, hown, hts, hnst, hfr, hlo, hc0, hs0⟩ := X
  replace hd := am_q2_i (show am_q2 S _ = some _ from hd)
  obtain ⟨x, y, S', rfl, hd⟩ := hd
  split at hd
  · cases hd
  · rename_i hy
    cases hd
    exact lv_ldiv hx hb hdg hy (kk _ _ _ _ _ _ _ rfl ls H locs hl hscr hP hD hS)
theorem am_s_lrem (X : am_cx p R s m args c cells slots M) (hK : va_K (dC, dI) vwCl [(cI, .int), (cB, .byte)] s) (hscr : am_scr M N ad I A s H0 A0) (hl : am_ls ad (am_lg M) (am_l M) ls L) (hP : va_P (dC, dI) vwCl (am_w N cI cB ad I A G) H) (hD : va_D A0 (am_w N cI cB ad I A G)) (hS : va_S A0 H0 H locs) (kk : am_kk p l e R s m args below meth c cells slots Q dC dI cI cB ad N A0 H0 d) (hdg : decode (am_b M) pc = .ok (.lrem, 1)) (hd : am_in N M pc (.lrem) L S I A G = some (.inl d)) : W p l e R s m args below meth c H locs cells slots Q (F0 m pc ls (S.map (am_co ad))) := by
  obtain ⟨hx, hb, hml, hown, hts, hnst, hfr, hlo, hc0, hs0⟩ := X
  replace hd := am_q2_i (show am_q2 S _ = some _ from hd)
  obtain ⟨x, y, S', rfl, hd⟩ := hd
  split at hd
  · cases hd
  · rename_i hy
    cases hd
    exact lv_lrem hx hb hdg hy (kk _ _ _ _ _ _ _ rfl ls H locs hl hscr hP hD hS)
theorem am_s_lshl (X : am_cx p R s m args c cells slots M) (hK : va_K (dC, dI) vwCl [(cI, .int), (cB, .byte)] s) (hscr : am_scr M N ad I A s H0 A0) (hl : am_ls ad (am_lg M) (am_l M) ls L) (hP : va_P (dC, dI) vwCl (am_w N cI cB ad I A G) H) (hD : va_D A0 (am_w N cI cB ad I A G)) (hS : va_S A0 H0 H locs) (kk : am_kk p l e R s m args below meth c cells slots Q dC dI cI cB ad N A0 H0 d) (hdg : decode (am_b M) pc = .ok (.lshl, 1)) (hd : am_in N M pc (.lshl) L S I A G = some (.inl d)) : W p l e R s m args below meth c H locs cells slots Q (F0 m pc ls (S.map (am_co ad))) := by
  obtain ⟨hx, hb, hml, hown, hts, hnst, hfr, hlo, hc0, hs0⟩ := X
  replace hd := am_qs_i (show am_qs S _ = some _ from hd)
  obtain ⟨x, y, S', rfl, hd⟩ := hd
  cases hd
  exact lv_lshl hx hb hdg rfl (kk _ _ _ _ _ _ _ rfl ls H locs hl hscr hP hD hS)
theorem am_s_lshr (X : am_cx p R s m args c cells slots M) (hK : va_K (dC, dI) vwCl [(cI, .int), (cB, .byte)] s) (hscr : am_scr M N ad I A s H0 A0) (hl : am_ls ad (am_lg M) (am_l M) ls L) (hP : va_P (dC, dI) vwCl (am_w N cI cB ad I A G) H) (hD : va_D A0 (am_w N cI cB ad I A G)) (hS : va_S A0 H0 H locs) (kk : am_kk p l e R s m args below meth c cells slots Q dC dI cI cB ad N A0 H0 d) (hdg : decode (am_b M) pc = .ok (.lshr, 1)) (hd : am_in N M pc (.lshr) L S I A G = some (.inl d)) : W p l e R s m args below meth c H locs cells slots Q (F0 m pc ls (S.map (am_co ad))) := by
  obtain ⟨hx, hb, hml, hown, hts, hnst, hfr, hlo, hc0, hs0⟩ := X
  replace hd := am_qs_i (show am_qs S _ = some _ from hd)
  obtain ⟨x, y, S', rfl, hd⟩ := hd
  cases hd
  exact lv_lshr hx hb hdg rfl (kk _ _ _ _ _ _ _ rfl ls H locs hl hscr hP hD hS)
theorem am_s_lushr (X : am_cx p R s m args c cells slots M) (hK : va_K (dC, dI) vwCl [(cI, .int), (cB, .byte)] s) (hscr : am_scr M N ad I A s H0 A0) (hl : am_ls ad (am_lg M) (am_l M) ls L) (hP : va_P (dC, dI) vwCl (am_w N cI cB ad I A G) H) (hD : va_D A0 (am_w N cI cB ad I A G)) (hS : va_S A0 H0 H locs) (kk : am_kk p l e R s m args below meth c cells slots Q dC dI cI cB ad N A0 H0 d) (hdg : decode (am_b M) pc = .ok (.lushr, 1)) (hd : am_in N M pc (.lushr) L S I A G = some (.inl d)) : W p l e R s m args below meth c H locs cells slots Q (F0 m pc ls (S.map (am_co ad))) := by
  obtain ⟨hx, hb, hml, hown, hts, hnst, hfr, hlo, hc0, hs0⟩ := X
  replace hd := am_qs_i (show am_qs S _ = some _ from hd)
  obtain ⟨x, y, S', rfl, hd⟩ := hd
  cases hd
  exact lv_lushr hx hb hdg rfl (kk _ _ _ _ _ _ _ rfl ls H locs hl hscr hP hD hS)
theorem am_s_i2l (X : am_cx p R s m args c cells slots M) (hK : va_K (dC, dI) vwCl [(cI, .int), (cB, .byte)] s) (hscr : am_scr M N ad I A s H0 A0) (hl : am_ls ad (am_lg M) (am_l M) ls L) (hP : va_P (dC, dI) vwCl (am_w N cI cB ad I A G) H) (hD : va_D A0 (am_w N cI cB ad I A G)) (hS : va_S A0 H0 H locs) (kk : am_kk p l e R s m args below meth c cells slots Q dC dI cI cB ad N A0 H0 d) (hdg : decode (am_b M) pc = .ok (.i2l, 1)) (hd : am_in N M pc (.i2l) L S I A G = some (.inl d)) : W p l e R s m args below meth c H locs cells slots Q (F0 m pc ls (S.map (am_co ad))) := by
  obtain ⟨hx, hb, hml, hown, hts, hnst, hfr, hlo, hc0, hs0⟩ := X
  replace hd := am_p1_i (show am_p1 S _ = some _ from hd)
  obtain ⟨x, S', rfl, hd⟩ := hd
  cases hd
  exact lv_i2l hx hb hdg rfl (kk _ _ _ _ _ _ _ rfl ls H locs hl hscr hP hD hS)
theorem am_s_l2i (X : am_cx p R s m args c cells slots M) (hK : va_K (dC, dI) vwCl [(cI, .int), (cB, .byte)] s) (hscr : am_scr M N ad I A s H0 A0) (hl : am_ls ad (am_lg M) (am_l M) ls L) (hP : va_P (dC, dI) vwCl (am_w N cI cB ad I A G) H) (hD : va_D A0 (am_w N cI cB ad I A G)) (hS : va_S A0 H0 H locs) (kk : am_kk p l e R s m args below meth c cells slots Q dC dI cI cB ad N A0 H0 d) (hdg : decode (am_b M) pc = .ok (.l2i, 1)) (hd : am_in N M pc (.l2i) L S I A G = some (.inl d)) : W p l e R s m args below meth c H locs cells slots Q (F0 m pc ls (S.map (am_co ad))) := by
  obtain ⟨hx, hb, hml, hown, hts, hnst, hfr, hlo, hc0, hs0⟩ := X
  replace hd := am_q1_i (show am_q1 S _ = some _ from hd)
  obtain ⟨x, S', rfl, hd⟩ := hd
  cases hd
  exact lv_l2i hx hb hdg rfl (kk _ _ _ _ _ _ _ rfl ls H locs hl hscr hP hD hS)
theorem am_s_i2b (X : am_cx p R s m args c cells slots M) (hK : va_K (dC, dI) vwCl [(cI, .int), (cB, .byte)] s) (hscr : am_scr M N ad I A s H0 A0) (hl : am_ls ad (am_lg M) (am_l M) ls L) (hP : va_P (dC, dI) vwCl (am_w N cI cB ad I A G) H) (hD : va_D A0 (am_w N cI cB ad I A G)) (hS : va_S A0 H0 H locs) (kk : am_kk p l e R s m args below meth c cells slots Q dC dI cI cB ad N A0 H0 d) (hdg : decode (am_b M) pc = .ok (.i2b, 1)) (hd : am_in N M pc (.i2b) L S I A G = some (.inl d)) : W p l e R s m args below meth c H locs cells slots Q (F0 m pc ls (S.map (am_co ad))) := by
  obtain ⟨hx, hb, hml, hown, hts, hnst, hfr, hlo, hc0, hs0⟩ := X
  replace hd := am_p1_i (show am_p1 S _ = some _ from hd)
  obtain ⟨x, S', rfl, hd⟩ := hd
  cases hd
  exact lv_i2b hx hb hdg rfl (kk _ _ _ _ _ _ _ rfl ls H locs hl hscr hP hD hS)
theorem am_s_dup (X : am_cx p R s m args c cells slots M) (hK : va_K (dC, dI) vwCl [(cI, .int), (cB, .byte)] s) (hscr : am_scr M N ad I A s H0 A0) (hl : am_ls ad (am_lg M) (am_l M) ls L) (hP : va_P (dC, dI) vwCl (am_w N cI cB ad I A G) H) (hD : va_D A0 (am_w N cI cB ad I A G)) (hS : va_S A0 H0 H locs) (kk : am_kk p l e R s m args below meth c cells slots Q dC dI cI cB ad N A0 H0 d) (hdg : decode (am_b M) pc = .ok (.dup, 1)) (hd : am_in N M pc (.dup) L S I A G = some (.inl d)) : W p l e R s m args below meth c H locs cells slots Q (F0 m pc ls (S.map (am_co ad))) := by
  obtain ⟨hx, hb, hml, hown, hts, hnst, hfr, hlo, hc0, hs0⟩ := X
  match S, hd with
  | [], hd => cases hd
  | v :: S, hd =>
    unfold am_in at hd
    dsimp only at hd
    split at hd
    · rename_i hv
      cases hd
      exact lv_dup hx hb hdg (by rw [am_co_cat]; exact Nat.eq_of_beq_eq_true hv) (kk _ _ _ _ _ _ _ rfl ls H locs hl hscr hP hD hS)
    · cases hd
theorem am_s_pop (X : am_cx p R s m args c cells slots M) (hK : va_K (dC, dI) vwCl [(cI, .int), (cB, .byte)] s) (hscr : am_scr M N ad I A s H0 A0) (hl : am_ls ad (am_lg M) (am_l M) ls L) (hP : va_P (dC, dI) vwCl (am_w N cI cB ad I A G) H) (hD : va_D A0 (am_w N cI cB ad I A G)) (hS : va_S A0 H0 H locs) (kk : am_kk p l e R s m args below meth c cells slots Q dC dI cI cB ad N A0 H0 d) (hdg : decode (am_b M) pc = .ok (.pop, 1)) (hd : am_in N M pc (.pop) L S I A G = some (.inl d)) : W p l e R s m args below meth c H locs cells slots Q (F0 m pc ls (S.map (am_co ad))) := by
  obtain ⟨hx, hb, hml, hown, hts, hnst, hfr, hlo, hc0, hs0⟩ := X
  match S, hd with
  | [], hd => cases hd
  | v :: S, hd =>
    unfold am_in at hd
    dsimp only at hd
    split at hd
    · rename_i hv
      cases hd
      exact lv_pop hx hb hdg (by rw [am_co_cat]; exact Nat.eq_of_beq_eq_true hv) (kk _ _ _ _ _ _ _ rfl ls H locs hl hscr hP hD hS)
    · cases hd
theorem am_s_dup2 (X : am_cx p R s m args c cells slots M) (hK : va_K (dC, dI) vwCl [(cI, .int), (cB, .byte)] s) (hscr : am_scr M N ad I A s H0 A0) (hl : am_ls ad (am_lg M) (am_l M) ls L) (hP : va_P (dC, dI) vwCl (am_w N cI cB ad I A G) H) (hD : va_D A0 (am_w N cI cB ad I A G)) (hS : va_S A0 H0 H locs) (kk : am_kk p l e R s m args below meth c cells slots Q dC dI cI cB ad N A0 H0 d) (hdg : decode (am_b M) pc = .ok (.dup2, 1)) (hd : am_in N M pc (.dup2) L S I A G = some (.inl d)) : W p l e R s m args below meth c H locs cells slots Q (F0 m pc ls (S.map (am_co ad))) := by
  obtain ⟨hx, hb, hml, hown, hts, hnst, hfr, hlo, hc0, hs0⟩ := X
  match S, hd with
  | [], hd => cases hd
  | [_], hd => cases hd
  | v :: w :: S, hd =>
    unfold am_in at hd
    dsimp only at hd
    split at hd
    · rename_i hv
      rw [Bool.and_eq_true] at hv
      cases hd
      exact lv_dup2_11 hx hb hdg (by rw [am_co_cat]; exact Nat.eq_of_beq_eq_true hv.1) (by rw [am_co_cat]; exact Nat.eq_of_beq_eq_true hv.2) (kk _ _ _ _ _ _ _ rfl ls H locs hl hscr hP hD hS)
    · cases hd
theorem am_s_goto (X : am_cx p R s m args c cells slots M) (hK : va_K (dC, dI) vwCl [(cI, .int), (cB, .byte)] s) (hscr : am_scr M N ad I A s H0 A0) (hl : am_ls ad (am_lg M) (am_l M) ls L) (hP : va_P (dC, dI) vwCl (am_w N cI cB ad I A G) H) (hD : va_D A0 (am_w N cI cB ad I A G)) (hS : va_S A0 H0 H locs) (kk : am_kk p l e R s m args below meth c cells slots Q dC dI cI cB ad N A0 H0 d) {off : Int} (hdg : decode (am_b M) pc = .ok (.goto off, 3)) (hd : am_in N M pc (.goto off) L S I A G = some (.inl d)) : W p l e R s m args below meth c H locs cells slots Q (F0 m pc ls (S.map (am_co ad))) := by
  obtain ⟨hx, hb, hml, hown, hts, hnst, hfr, hlo, hc0, hs0⟩ := X
  replace hd := am_at_i (show am_at pc off _ = some _ from hd)
  obtain ⟨t, ht, hd⟩ := hd
  cases hd
  exact lv_goto hx hb hdg ht (kk _ _ _ _ _ _ _ rfl ls H locs hl hscr hP hD hS)
theorem am_s_ifCond (X : am_cx p R s m args c cells slots M) (hK : va_K (dC, dI) vwCl [(cI, .int), (cB, .byte)] s) (hscr : am_scr M N ad I A s H0 A0) (hl : am_ls ad (am_lg M) (am_l M) ls L) (hP : va_P (dC, dI) vwCl (am_w N cI cB ad I A G) H) (hD : va_D A0 (am_w N cI cB ad I A G)) (hS : va_S A0 H0 H locs) (kk : am_kk p l e R s m args below meth c cells slots Q dC dI cI cB ad N A0 H0 d) {op : Jvm.ClassFile.Cond} {off : Int} (hdg : decode (am_b M) pc = .ok (.ifCond op off, 3)) (hd : am_in N M pc (.ifCond op off) L S I A G = some (.inl d)) : W p l e R s m args below meth c H locs cells slots Q (F0 m pc ls (S.map (am_co ad))) := by
  obtain ⟨hx, hb, hml, hown, hts, hnst, hfr, hlo, hc0, hs0⟩ := X
  replace hd := am_p1_i (show am_p1 S _ = some _ from hd)
  obtain ⟨x, S', rfl, hd⟩ := hd
  replace hd := am_at_i hd
  obtain ⟨t, ht, hd⟩ := hd
  cases op with
  | eq =>
    unfold am_br at hd
    dsimp only at hd
    refine lv_if_eq hx hb hdg ht (fun hq => ?_) (fun hq => ?_)
    · rw [if_pos hq] at hd
      cases hd
      exact kk _ _ _ _ _ _ _ rfl ls H locs hl hscr hP hD hS
    · rw [if_neg hq] at hd
      cases hd
      exact kk _ _ _ _ _ _ _ rfl ls H locs hl hscr hP hD hS
  | ne =>
    unfold am_br at hd
    dsimp only at hd
    refine lv_if_ne hx hb hdg ht (fun hq => ?_) (fun hq => ?_)
    · rw [if_neg hq] at hd
      cases hd
      exact kk _ _ _ _ _ _ _ rfl ls H locs hl hscr hP hD hS
    · rw [if_pos hq] at hd
      cases hd
      exact kk _ _ _ _ _ _ _ rfl ls H locs hl hscr hP hD hS
  | lt =>
    unfold am_br at hd
    dsimp only at hd
    refine lv_if_lt hx hb hdg ht (fun hq => ?_) (fun hq => ?_)
    · rw [if_pos hq] at hd
      cases hd
      exact kk _ _ _ _ _ _ _ rfl ls H locs hl hscr hP hD hS
    · rw [if_neg hq] at hd
      cases hd
      exact kk _ _ _ _ _ _ _ rfl ls H locs hl hscr hP hD hS
  | ge =>
    unfold am_br at hd
    dsimp only at hd
    refine lv_if_ge hx hb hdg ht (fun hq => ?_) (fun hq => ?_)
    · rw [if_pos hq] at hd
      cases hd
      exact kk _ _ _ _ _ _ _ rfl ls H locs hl hscr hP hD hS
    · rw [if_neg hq] at hd
      cases hd
      exact kk _ _ _ _ _ _ _ rfl ls H locs hl hscr hP hD hS
  | gt =>
    unfold am_br at hd
    dsimp only at hd
    refine lv_if_gt hx hb hdg ht (fun hq => ?_) (fun hq => ?_)
    · rw [if_pos hq] at hd
      cases hd
      exact kk _ _ _ _ _ _ _ rfl ls H locs hl hscr hP hD hS
    · rw [if_neg hq] at hd
      cases hd
      exact kk _ _ _ _ _ _ _ rfl ls H locs hl hscr hP hD hS
  | le =>
    unfold am_br at hd
    dsimp only at hd
    refine lv_if_le hx hb hdg ht (fun hq => ?_) (fun hq => ?_)
    · rw [if_pos hq] at hd
      cases hd
      exact kk _ _ _ _ _ _ _ rfl ls H locs hl hscr hP hD hS
    · rw [if_neg hq] at hd
      cases hd
      exact kk _ _ _ _ _ _ _ rfl ls H locs hl hscr hP hD hS
theorem am_s_if_icmp (X : am_cx p R s m args c cells slots M) (hK : va_K (dC, dI) vwCl [(cI, .int), (cB, .byte)] s) (hscr : am_scr M N ad I A s H0 A0) (hl : am_ls ad (am_lg M) (am_l M) ls L) (hP : va_P (dC, dI) vwCl (am_w N cI cB ad I A G) H) (hD : va_D A0 (am_w N cI cB ad I A G)) (hS : va_S A0 H0 H locs) (kk : am_kk p l e R s m args below meth c cells slots Q dC dI cI cB ad N A0 H0 d) {op : Jvm.ClassFile.Cond} {off : Int} (hdg : decode (am_b M) pc = .ok (.if_icmp op off, 3)) (hd : am_in N M pc (.if_icmp op off) L S I A G = some (.inl d)) : W p l e R s m args below meth c H locs cells slots Q (F0 m pc ls (S.map (am_co ad))) := by
  obtain ⟨hx, hb, hml, hown, hts, hnst, hfr, hlo, hc0, hs0⟩ := X
  replace hd := am_p2_i (show am_p2 S _ = some _ from hd)
  obtain ⟨x, y, S', rfl, hd⟩ := hd
  replace hd := am_at_i hd
  obtain ⟨t, ht, hd⟩ := hd
  cases op with
  | eq =>
    unfold am_br at hd
    dsimp only at hd
    refine lv_icmp_eq hx hb hdg ht (fun hq => ?_) (fun hq => ?_)
    · rw [if_pos hq] at hd
      cases hd
      exact kk _ _ _ _ _ _ _ rfl ls H locs hl hscr hP hD hS
    · rw [if_neg hq] at hd
      cases hd
      exact kk _ _ _ _ _ _ _ rfl ls H locs hl hscr hP hD hS
  | ne =>
    unfold am_br at hd
    dsimp only at hd
    refine lv_icmp_ne hx hb hdg ht (fun hq => ?_) (fun hq => ?_)
    · rw [if_neg hq] at hd
      cases hd
      exact kk _ _ _ _ _ _ _ rfl ls H locs hl hscr hP hD hS
    · rw [if_pos hq] at hd
      cases hd
      exact kk _ _ _ _ _ _ _ rfl ls H locs hl hscr hP hD hS
  | lt =>
    unfold am_br at hd
    dsimp only at hd
    refine lv_icmp_lt hx hb hdg ht (fun hq => ?_) (fun hq => ?_)
    · rw [if_pos hq] at hd
      cases hd
      exact kk _ _ _ _ _ _ _ rfl ls H locs hl hscr hP hD hS
    · rw [if_neg hq] at hd
      cases hd
      exact kk _ _ _ _ _ _ _ rfl ls H locs hl hscr hP hD hS
  | ge =>
    unfold am_br at hd
    dsimp only at hd
    refine lv_icmp_ge hx hb hdg ht (fun hq => ?_) (fun hq => ?_)
    · rw [if_pos hq] at hd
      cases hd
      exact kk _ _ _ _ _ _ _ rfl ls H locs hl hscr hP hD hS
    · rw [if_neg hq] at hd
      cases hd
      exact kk _ _ _ _ _ _ _ rfl ls H locs hl hscr hP hD hS
  | gt =>
    unfold am_br at hd
    dsimp only at hd
    refine lv_icmp_gt hx hb hdg ht (fun hq => ?_) (fun hq => ?_)
    · rw [if_pos hq] at hd
      cases hd
      exact kk _ _ _ _ _ _ _ rfl ls H locs hl hscr hP hD hS
    · rw [if_neg hq] at hd
      cases hd
      exact kk _ _ _ _ _ _ _ rfl ls H locs hl hscr hP hD hS
  | le =>
    unfold am_br at hd
    dsimp only at hd
    refine lv_icmp_le hx hb hdg ht (fun hq => ?_) (fun hq => ?_)
    · rw [if_pos hq] at hd
      cases hd
      exact kk _ _ _ _ _ _ _ rfl ls H locs hl hscr hP hD hS
    · rw [if_neg hq] at hd
      cases hd
      exact kk _ _ _ _ _ _ _ rfl ls H locs hl hscr hP hD hS
theorem am_s_tableswitch (X : am_cx p R s m args c cells slots M) (hK : va_K (dC, dI) vwCl [(cI, .int), (cB, .byte)] s) (hscr : am_scr M N ad I A s H0 A0) (hl : am_ls ad (am_lg M) (am_l M) ls L) (hP : va_P (dC, dI) vwCl (am_w N cI cB ad I A G) H) (hD : va_D A0 (am_w N cI cB ad I A G)) (hS : va_S A0 H0 H locs) (kk : am_kk p l e R s m args below meth c cells slots Q dC dI cI cB ad N A0 H0 d) {df lo hi : Int} {offs : Array Int} {n : Nat} (hdg : decode (am_b M) pc = .ok (.tableswitch df lo hi offs, n)) (hd : am_in N M pc (.tableswitch df lo hi offs) L S I A G = some (.inl d)) : W p l e R s m args below meth c H locs cells slots Q (F0 m pc ls (S.map (am_co ad))) := by
  obtain ⟨hx, hb, hml, hown, hts, hnst, hfr, hlo, hc0, hs0⟩ := X
  replace hd := am_p1_i (show am_p1 S _ = some _ from hd)
  obtain ⟨x, S', rfl, hd⟩ := hd
  split at hd
  · rename_i hh
    rcases am_sw_i _ _ hd with ⟨h1, h2⟩ | ⟨h1, h2, o, h3, h4⟩
    · obtain ⟨t, ht, h2⟩ := am_at_i h2
      cases h2
      exact lv_tableOut hx hb hdg (by omega) ht (kk _ _ _ _ _ _ _ rfl ls H locs hl hscr hP hD hS)
    · obtain ⟨t, ht, h4⟩ := am_at_i h4
      cases h4
      exact lv_tableIn hx hb hdg h1 (by omega) (by rw [← Array.getElem?_toList]; exact h3) ht (kk _ _ _ _ _ _ _ rfl ls H locs hl hscr hP hD hS)
  · cases hd
theorem am_s_lookupswitch (X : am_cx p R s m args c cells slots M) (hK : va_K (dC, dI) vwCl [(cI, .int), (cB, .byte)] s) (hscr : am_scr M N ad I A s H0 A0) (hl : am_ls ad (am_lg M) (am_l M) ls L) (hP : va_P (dC, dI) vwCl (am_w N cI cB ad I A G) H) (hD : va_D A0 (am_w N cI cB ad I A G)) (hS : va_S A0 H0 H locs) (kk : am_kk p l e R s m args below meth c cells slots Q dC dI cI cB ad N A0 H0 d) {df : Int} {ps : Array (Int × Int)} {n : Nat} (hdg : decode (am_b M) pc = .ok (.lookupswitch df ps, n)) (hd : am_in N M pc (.lookupswitch df ps) L S I A G = some (.inl d)) : W p l e R s m args below meth c H locs cells slots Q (F0 m pc ls (S.map (am_co ad))) := by
  obtain ⟨hx, hb, hml, hown, hts, hnst, hfr, hlo, hc0, hs0⟩ := X
  replace hd := am_p1_i (show am_p1 S _ = some _ from hd)
  obtain ⟨x, S', rfl, hd⟩ := hd
  split at hd
  · rename_i hh
    replace hd := am_at_i (am_sl_i _ hd)
    obtain ⟨t, ht, hd⟩ := hd
    cases hd
    exact lv_lookup hx hb hdg hh rfl ht (kk _ _ _ _ _ _ _ rfl ls H locs hl hscr hP hD hS)
  · cases hd
theorem am_s_getfield (X : am_cx p R s m args c cells slots M) (hK : va_K (dC, dI) vwCl [(cI, .int), (cB, .byte)] s) (hscr : am_scr M N ad I A s H0 A0) (hl : am_ls ad (am_lg M) (am_l M) ls L) (hP : va_P (dC, dI) vwCl (am_w N cI cB ad I A G) H) (hD : va_D A0 (am_w N cI cB ad I A G)) (hS : va_S A0 H0 H locs) (kk : am_kk p l e R s m args below meth c cells slots Q dC dI cI cB ad N A0 H0 d) {k : Nat} (hdg : decode (am_b M) pc = .ok (.getfield k, 3)) (hd : am_in N M pc (.getfield k) L S I A G = some (.inl d)) : W p l e R s m args below meth c H locs cells slots Q (F0 m pc ls (S.map (am_co ad))) := by
  obtain ⟨hx, hb, hml, hown, hts, hnst, hfr, hlo, hc0, hs0⟩ := X
  replace hd := am_pr_i (show am_pr S _ = some _ from hd)
  obtain ⟨a, S', rfl, hd⟩ := hd
  cases hf : am_fd (am_ow M) k with
  | none => rw [hf] at hd; cases hd
  | some q =>
    obtain ⟨c0, j⟩ := q
    rw [hf] at hd
    dsimp only at hd
    split at hd
    · rename_i ho
      cases hd
      obtain ⟨ha, hc⟩ := am_isO_i ho
      obtain ⟨C, T, n, hcl, hj, hlink⟩ := am_fd_ok hf
      have hn : am_nf c0 = n := by unfold am_nf; rw [hcl]
      refine va_get (D := (dC, dI)) hx hb hts (am_cl_ok hcl).1 hown hK hP a (by rw [am_w_at ha, am_ce_obj hc]) hcl j hj (hts _ hlink) (fun _ h => h) (v := am_co ad (am_fv I G a c0 j)) (by rw [List.getElem?_map, List.getElem?_range (by rw [hn]; exact hj)]; rfl) hdg (kk _ _ _ _ _ _ _ rfl ls H locs hl hscr hP hD hS)
    · cases hd
theorem am_s_putfield (X : am_cx p R s m args c cells slots M) (hK : va_K (dC, dI) vwCl [(cI, .int), (cB, .byte)] s) (hscr : am_scr M N ad I A s H0 A0) (hl : am_ls ad (am_lg M) (am_l M) ls L) (hP : va_P (dC, dI) vwCl (am_w N cI cB ad I A G) H) (hD : va_D A0 (am_w N cI cB ad I A G)) (hS : va_S A0 H0 H locs) (kk : am_kk p l e R s m args below meth c cells slots Q dC dI cI cB ad N A0 H0 d) {k : Nat} (hdg : decode (am_b M) pc = .ok (.putfield k, 3)) (hd : am_in N M pc (.putfield k) L S I A G = some (.inl d)) : W p l e R s m args below meth c H locs cells slots Q (F0 m pc ls (S.map (am_co ad))) := by
  obtain ⟨hx, hb, hml, hown, hts, hnst, hfr, hlo, hc0, hs0⟩ := X
  replace hd := am_pf_i (show am_pf S _ = some _ from hd)
  obtain ⟨a, v, S', rfl, hd⟩ := hd
  cases hf : am_fd (am_ow M) k with
  | none => rw [hf] at hd; cases hd
  | some q =>
    obtain ⟨c0, j⟩ := q
    rw [hf] at hd
    dsimp only at hd
    split at hd
    · rename_i ho
      rw [Bool.and_eq_true] at ho
      obtain ⟨ha, hc⟩ := am_isO_i ho.1
      obtain ⟨C, T, n, hcl, hj, hlink⟩ := am_fd_ok hf
      have hn : am_nf c0 = n := by unfold am_nf; rw [hcl]
      obtain ⟨hin, ty, hty, hnm, htk⟩ := am_cl_ok hcl
      have hfin : (T j).2.2.2 = false := by
        have h1 := ho.2
        unfold am_fin at h1
        rw [hcl] at h1
        simpa using h1
      have hk := htk j hj
      have haN : a ≠ N := Nat.ne_of_lt ha
      unfold am_put at hd
      split at hd
      · rename_i hk0
        rw [hk0] at hk
        have htyj : ty j = .int := by
          generalize ty j = t0 at hk
          cases t0 <;> first | rfl | (exact absurd hk (by decide)) | (simp [am_tk] at hk)
        split at hd
        · rename_i x
          cases hd
          refine va_put (D := (dC, dI)) hx hb hts hin ty hty hnm hown hK hP hD hS a (by rw [am_w_at ha, am_ce_obj hc]) hcl j hj (hts _ hlink) (fun _ h => h) hfin (ty := ty j) (hty j hj) (by rw [htyj]; rfl) (by rw [htyj]; rfl) (by simp only [List.length_map, List.length_range]; rw [hn]; exact hj) hdg (fun H1 locs1 hP1 hD1 hS1 => ?_)
          have he : ∀ e', e' = am_ce cI cB ad (am_u I a j x) A G a → (am_w N cI cB ad I A G).set a (ad a, e') = am_w N cI cB ad (am_u I a j x) A G := fun e' he => am_w_set (am_ce_fld fun i hi => ⟨am_u_ne hi, rfl⟩) he.symm
          have hs1 : (Sum.inr (c0, ((List.range (am_nf c0)).map (fun j => am_co ad (am_fv I G a c0 j))).set j (Value.int x)) : va_E) = am_ce cI cB ad (am_u I a j x) A G a := by
            rw [am_ce_obj hc, am_map_set (f' := fun i => am_co ad (am_fv (am_u I a j x) G a c0 i))]
            · show am_co ad (am_fv (am_u I a j x) G a c0 j) = .int x
              unfold am_fv
              rw [hk0]
              show Value.int (am_u I a j x a j) = _
              unfold am_u
              rw [if_pos ⟨rfl, rfl⟩]
            · intro i hi
              show am_co ad (am_fv (am_u I a j x) G a c0 i) = _
              unfold am_fv am_u
              rw [if_neg (fun q => hi q.2)]
          have hP1 : va_P (dC, dI) vwCl ((am_w N cI cB ad I A G).set a (ad a, .inr (c0, ((List.range (am_nf c0)).map (fun j => am_co ad (am_fv I G a c0 j))).set j (Value.int x)))) H1 := hP1
          have hD1 : va_D A0 ((am_w N cI cB ad I A G).set a (ad a, .inr (c0, ((List.range (am_nf c0)).map (fun j => am_co ad (am_fv I G a c0 j))).set j (Value.int x)))) := hD1
          rw [he _ hs1] at hP1 hD1
          exact kk _ _ _ _ _ _ _ rfl ls H1 locs1 hl (hscr.to (am_u_ne haN.symm) rfl) hP1 hD1 hS1
        · cases hd
      · rename_i hk0
        rw [hk0] at hk
        have htyj : ∀ x : Nat, narrow (ty j) (.ref x) = .ref x ∧ fits (ty j) (.ref x) = true := by
          intro x
          generalize ty j = t0 at hk
          cases t0 <;> first | exact ⟨rfl, rfl⟩ | (exact absurd hk (by decide)) | (simp [am_tk] at hk)
        split at hd
        · rename_i x
          cases hd
          refine va_put (D := (dC, dI)) (v := .ref (ad x)) hx hb hts hin ty hty hnm hown hK hP hD hS a (by rw [am_w_at ha, am_ce_obj hc]) hcl j hj (hts _ hlink) (fun _ h => h) hfin (ty := ty j) (hty j hj) (htyj _).1 (htyj _).2 (by simp only [List.length_map, List.length_range]; rw [hn]; exact hj) hdg (fun H1 locs1 hP1 hD1 hS1 => ?_)
          have he : ∀ e', e' = am_ce cI cB ad I A (am_u G a j x) a → (am_w N cI cB ad I A G).set a (ad a, e') = am_w N cI cB ad I A (am_u G a j x) := fun e' he => am_w_set (am_ce_fld fun i hi => ⟨rfl, am_u_ne hi⟩) he.symm
          have hs1 : (Sum.inr (c0, ((List.range (am_nf c0)).map (fun j => am_co ad (am_fv I G a c0 j))).set j (Value.ref (ad x))) : va_E) = am_ce cI cB ad I A (am_u G a j x) a := by
            rw [am_ce_obj hc, am_map_set (f' := fun i => am_co ad (am_fv I (am_u G a j x) a c0 i))]
            · show am_co ad (am_fv I (am_u G a j x) a c0 j) = .ref (ad x)
              unfold am_fv
              rw [hk0]
              show Value.ref (ad (am_u G a j x a j)) = _
              unfold am_u
              rw [if_pos ⟨rfl, rfl⟩]
            · intro i hi
              show am_co ad (am_fv I (am_u G a j x) a c0 i) = _
              unfold am_fv am_u
              rw [if_neg (fun q => hi q.2)]
          have hP1 : va_P (dC, dI) vwCl ((am_w N cI cB ad I A G).set a (ad a, .inr (c0, ((List.range (am_nf c0)).map (fun j => am_co ad (am_fv I G a c0 j))).set j (Value.ref (ad x))))) H1 := hP1
          have hD1 : va_D A0 ((am_w N cI cB ad I A G).set a (ad a, .inr (c0, ((List.range (am_nf c0)).map (fun j => am_co ad (am_fv I G a c0 j))).set j (Value.ref (ad x))))) := hD1
          rw [he _ hs1] at hP1 hD1
          exact kk _ _ _ _ _ _ _ rfl ls H1 locs1 hl hscr hP1 hD1 hS1
        · cases hd
      · cases hd
    · cases hd
theorem am_s_iaload (X : am_cx p R s m args c cells slots M) (hK : va_K (dC, dI) vwCl [(cI, .int), (cB, .byte)] s) (hscr : am_scr M N ad I A s H0 A0) (hl : am_ls ad (am_lg M) (am_l M) ls L) (hP : va_P (dC, dI) vwCl (am_w N cI cB ad I A G) H) (hD : va_D A0 (am_w N cI cB ad I A G)) (hS : va_S A0 H0 H locs) (kk : am_kk p l e R s m args below meth c cells slots Q dC dI cI cB ad N A0 H0 d) (hdg : decode (am_b M) pc = .ok (.iaload, 1)) (hd : am_in N M pc (.iaload) L S I A G = some (.inl d)) : W p l e R s m args below meth c H locs cells slots Q (F0 m pc ls (S.map (am_co ad))) := by
  obtain ⟨hx, hb, hml, hown, hts, hnst, hfr, hlo, hc0, hs0⟩ := X
  replace hd := am_pa_i (show am_pa S _ = some _ from hd)
  obtain ⟨a, i, S', rfl, hd⟩ := hd
  split at hd
  · rename_i hM
    split at hd
    · rename_i haN
      have haN := Nat.eq_of_beq_eq_true haN
      subst haN
      replace hd := am_ix_i hd
      obtain ⟨hin, hd⟩ := hd
      cases hd
      obtain ⟨Ls, xs, h1, h2, h3, h4, h5, h6⟩ := hscr (Nat.eq_of_beq_eq_true hM)
      rw [h5, show (Int32.ofNat Ls).toNatClampNeg = Ls from nI_clamp h4] at hin
      refine va_sld hx hb h1 h2 h3 hS hin hdg ?_
      rw [← h6]
      exact kk _ _ _ _ _ _ _ rfl ls H locs hl hscr hP hD hS
    · cases hd
  · replace hd := am_ix_i hd
    obtain ⟨hin, hd⟩ := hd
    cases hd
    obtain ⟨n, ha, hc, hin⟩ := am_len_i hin
    exact va_iald hx hb hK hP a 0 (by rw [am_w_at ha, am_ce_arr hc]; rfl) rfl hin hdg (kk _ _ _ _ _ _ _ rfl ls H locs hl hscr hP hD hS)
theorem am_s_baload (X : am_cx p R s m args c cells slots M) (hK : va_K (dC, dI) vwCl [(cI, .int), (cB, .byte)] s) (hscr : am_scr M N ad I A s H0 A0) (hl : am_ls ad (am_lg M) (am_l M) ls L) (hP : va_P (dC, dI) vwCl (am_w N cI cB ad I A G) H) (hD : va_D A0 (am_w N cI cB ad I A G)) (hS : va_S A0 H0 H locs) (kk : am_kk p l e R s m args below meth c cells slots Q dC dI cI cB ad N A0 H0 d) (hdg : decode (am_b M) pc = .ok (.baload, 1)) (hd : am_in N M pc (.baload) L S I A G = some (.inl d)) : W p l e R s m args below meth c H locs cells slots Q (F0 m pc ls (S.map (am_co ad))) := by
  obtain ⟨hx, hb, hml, hown, hts, hnst, hfr, hlo, hc0, hs0⟩ := X
  replace hd := am_pa_i (show am_pa S _ = some _ from hd)
  obtain ⟨a, i, S', rfl, hd⟩ := hd
  replace hd := am_ix_i hd
  obtain ⟨hin, hd⟩ := hd
  cases hd
  obtain ⟨n, ha, hc, hin⟩ := am_len_i hin
  exact va_bald hx hb hK hP a 1 (by rw [am_w_at ha, am_ce_arr hc]; rfl) rfl hin hdg (kk _ _ _ _ _ _ _ rfl ls H locs hl hscr hP hD hS)
theorem am_s_iastore (X : am_cx p R s m args c cells slots M) (hK : va_K (dC, dI) vwCl [(cI, .int), (cB, .byte)] s) (hscr : am_scr M N ad I A s H0 A0) (hl : am_ls ad (am_lg M) (am_l M) ls L) (hP : va_P (dC, dI) vwCl (am_w N cI cB ad I A G) H) (hD : va_D A0 (am_w N cI cB ad I A G)) (hS : va_S A0 H0 H locs) (kk : am_kk p l e R s m args below meth c cells slots Q dC dI cI cB ad N A0 H0 d) (hdg : decode (am_b M) pc = .ok (.iastore, 1)) (hd : am_in N M pc (.iastore) L S I A G = some (.inl d)) : W p l e R s m args below meth c H locs cells slots Q (F0 m pc ls (S.map (am_co ad))) := by
  obtain ⟨hx, hb, hml, hown, hts, hnst, hfr, hlo, hc0, hs0⟩ := X
  replace hd := am_ps_i (show am_ps S _ = some _ from hd)
  obtain ⟨a, i, x, S', rfl, hd⟩ := hd
  replace hd := am_ix_i hd
  obtain ⟨hin, hd⟩ := hd
  cases hd
  obtain ⟨n, ha, hc, hin⟩ := am_len_i hin
  have haN : a ≠ N := Nat.ne_of_lt ha
  refine va_iast hx hb hK hP hD hS a 0 (by rw [am_w_at ha, am_ce_arr hc]; rfl) rfl hin hdg (fun H1 locs1 hP1 hD1 hS1 => ?_)
  have he : (am_w N cI cB ad I A G).set a (ad a, .inl ((if false = true then cB else cI), n, .inl (upd (A a) i.toNatClampNeg (x)))) = am_w N cI cB ad I (am_u A a i.toNatClampNeg (x)) G := am_w_set (am_ce_row fun j hj => am_u_ne hj) (by rw [am_ce_arr hc, am_u_upd])
  have hP1 : va_P (dC, dI) vwCl ((am_w N cI cB ad I A G).set a (ad a, .inl ((if false = true then cB else cI), n, .inl (upd (A a) i.toNatClampNeg (x))))) H1 := hP1
  have hD1 : va_D A0 ((am_w N cI cB ad I A G).set a (ad a, .inl ((if false = true then cB else cI), n, .inl (upd (A a) i.toNatClampNeg (x))))) := hD1
  rw [he] at hP1 hD1
  exact kk _ _ _ _ _ _ _ rfl ls H1 locs1 hl (hscr.to rfl (am_u_ne haN.symm)) hP1 hD1 hS1
theorem am_s_bastore (X : am_cx p R s m args c cells slots M) (hK : va_K (dC, dI) vwCl [(cI, .int), (cB, .byte)] s) (hscr : am_scr M N ad I A s H0 A0) (hl : am_ls ad (am_lg M) (am_l M) ls L) (hP : va_P (dC, dI) vwCl (am_w N cI cB ad I A G) H) (hD : va_D A0 (am_w N cI cB ad I A G)) (hS : va_S A0 H0 H locs) (kk : am_kk p l e R s m args below meth c cells slots Q dC dI cI cB ad N A0 H0 d) (hdg : decode (am_b M) pc = .ok (.bastore, 1)) (hd : am_in N M pc (.bastore) L S I A G = some (.inl d)) : W p l e R s m args below meth c H locs cells slots Q (F0 m pc ls (S.map (am_co ad))) := by
  obtain ⟨hx, hb, hml, hown, hts, hnst, hfr, hlo, hc0, hs0⟩ := X
  replace hd := am_ps_i (show am_ps S _ = some _ from hd)
  obtain ⟨a, i, x, S', rfl, hd⟩ := hd
  replace hd := am_ix_i hd
  obtain ⟨hin, hd⟩ := hd
  cases hd
  obtain ⟨n, ha, hc, hin⟩ := am_len_i hin
  have haN : a ≠ N := Nat.ne_of_lt ha
  refine va_bast hx hb hK hP hD hS a 1 (by rw [am_w_at ha, am_ce_arr hc]; rfl) rfl hin hdg (fun H1 locs1 hP1 hD1 hS1 => ?_)
  have he : (am_w N cI cB ad I A G).set a (ad a, .inl ((if true = true then cB else cI), n, .inl (upd (A a) i.toNatClampNeg (x.toInt8.toInt32)))) = am_w N cI cB ad I (am_u A a i.toNatClampNeg (x.toInt8.toInt32)) G := am_w_set (am_ce_row fun j hj => am_u_ne hj) (by rw [am_ce_arr hc, am_u_upd])
  have hP1 : va_P (dC, dI) vwCl ((am_w N cI cB ad I A G).set a (ad a, .inl ((if true = true then cB else cI), n, .inl (upd (A a) i.toNatClampNeg (x.toInt8.toInt32))))) H1 := hP1
  have hD1 : va_D A0 ((am_w N cI cB ad I A G).set a (ad a, .inl ((if true = true then cB else cI), n, .inl (upd (A a) i.toNatClampNeg (x.toInt8.toInt32))))) := hD1
  rw [he] at hP1 hD1
  exact kk _ _ _ _ _ _ _ rfl ls H1 locs1 hl (hscr.to rfl (am_u_ne haN.symm)) hP1 hD1 hS1
theorem am_s_arraylength (X : am_cx p R s m args c cells slots M) (hK : va_K (dC, dI) vwCl [(cI, .int), (cB, .byte)] s) (hscr : am_scr M N ad I A s H0 A0) (hl : am_ls ad (am_lg M) (am_l M) ls L) (hP : va_P (dC, dI) vwCl (am_w N cI cB ad I A G) H) (hD : va_D A0 (am_w N cI cB ad I A G)) (hS : va_S A0 H0 H locs) (kk : am_kk p l e R s m args below meth c cells slots Q dC dI cI cB ad N A0 H0 d) (hdg : decode (am_b M) pc = .ok (.arraylength, 1)) (hd : am_in N M pc (.arraylength) L S I A G = some (.inl d)) : W p l e R s m args below meth c H locs cells slots Q (F0 m pc ls (S.map (am_co ad))) := by
  obtain ⟨hx, hb, hml, hown, hts, hnst, hfr, hlo, hc0, hs0⟩ := X
  replace hd := am_pr_i (show am_pr S _ = some _ from hd)
  obtain ⟨a, S', rfl, hd⟩ := hd
  split at hd
  · rename_i hM
    split at hd
    · rename_i haN
      have haN := Nat.eq_of_beq_eq_true haN
      subst haN
      cases hd
      obtain ⟨Ls, xs, h1, h2, h3, h4, h5, h6⟩ := hscr (Nat.eq_of_beq_eq_true hM)
      refine va_slen hx hb h1 h2 h3 hS hdg ?_
      rw [← h5]
      exact kk _ _ _ _ _ _ _ rfl ls H locs hl hscr hP hD hS
    · cases hd
  · split at hd
    · rename_i n hn
      cases hd
      obtain ⟨ha, b, hc⟩ := am_isA_i hn
      cases b with
      | false => exact va_alen (x := (n, .inl (A a))) (cA := cI) hx hb hK hP a 0 (by rw [am_w_at ha, am_ce_arr hc]; rfl) rfl rfl hdg (kk _ _ _ _ _ _ _ rfl ls H locs hl hscr hP hD hS)
      | true => exact va_alen (x := (n, .inl (A a))) (cA := cB) hx hb hK hP a 1 (by rw [am_w_at ha, am_ce_arr hc]; rfl) rfl rfl hdg (kk _ _ _ _ _ _ _ rfl ls H locs hl hscr hP hD hS)
    · cases hd
end AMS
end
section
/-! ===== one step; which instructions only go on ===== -/
def am_nl (q : am_Q) : Prop := ∀ x, q ≠ some (.inr x)
theorem am_nl_no : am_nl none := fun _ h => by cases h
theorem am_nl_go {M pc : Nat} {L S : List Value} {I A : am_F} {R : am_G} : am_nl (am_go M pc L S I A R) := fun _ h => by cases h
theorem am_nl_p1 {S : List Value} {f : Int32 → List Value → am_Q} (h : ∀ v0 v1, am_nl (f v0 v1)) : am_nl (am_p1 S f) := by
  unfold am_p1; split
  · exact h _ _
  · exact am_nl_no
theorem am_nl_p2 {S : List Value} {f : Int32 → Int32 → List Value → am_Q} (h : ∀ v0 v1 v2, am_nl (f v0 v1 v2)) : am_nl (am_p2 S f) := by
  unfold am_p2; split
  · exact h _ _ _
  · exact am_nl_no
theorem am_nl_q1 {S : List Value} {f : Int64 → List Value → am_Q} (h : ∀ v0 v1, am_nl (f v0 v1)) : am_nl (am_q1 S f) := by
  unfold am_q1; split
  · exact h _ _
  · exact am_nl_no
theorem am_nl_q2 {S : List Value} {f : Int64 → Int64 → List Value → am_Q} (h : ∀ v0 v1 v2, am_nl (f v0 v1 v2)) : am_nl (am_q2 S f) := by
  unfold am_q2; split
  · exact h _ _ _
  · exact am_nl_no
theorem am_nl_qs {S : List Value} {f : Int64 → Int32 → List Value → am_Q} (h : ∀ v0 v1 v2, am_nl (f v0 v1 v2)) : am_nl (am_qs S f) := by
  unfold am_qs; split
  · exact h _ _ _
  · exact am_nl_no
theorem am_nl_pr {S : List Value} {f : Nat → List Value → am_Q} (h : ∀ v0 v1, am_nl (f v0 v1)) : am_nl (am_pr S f) := by
  unfold am_pr; split
  · exact h _ _
  · exact am_nl_no
theorem am_nl_pa {S : List Value} {f : Nat → Int32 → List Value → am_Q} (h : ∀ v0 v1 v2, am_nl (f v0 v1 v2)) : am_nl (am_pa S f) := by
  unfold am_pa; split
  · exact h _ _ _
  · exact am_nl_no
theorem am_nl_ps {S : List Value} {f : Nat → Int32 → Int32 → List Value → am_Q} (h : ∀ v0 v1 v2 v3, am_nl (f v0 v1 v2 v3)) : am_nl (am_ps S f) := by
  unfold am_ps; split
  · exact h _ _ _ _
  · exact am_nl_no
theorem am_nl_pf {S : List Value} {f : Nat → Value → List Value → am_Q} (h : ∀ v0 v1 v2, am_nl (f v0 v1 v2)) : am_nl (am_pf S f) := by
  unfold am_pf; split
  · exact h _ _ _
  · exact am_nl_no
theorem am_nl_gi {L : List Value} {i : Nat} {f : Int32 → am_Q} (h : ∀ x, am_nl (f x)) : am_nl (am_gi L i f) := by
  unfold am_gi; split
  · exact h _
  · exact am_nl_no
theorem am_nl_gl {L : List Value} {i : Nat} {f : Int64 → am_Q} (h : ∀ x, am_nl (f x)) : am_nl (am_gl L i f) := by
  unfold am_gl; split
  · exact h _
  · exact am_nl_no
theorem am_nl_gr {L : List Value} {i : Nat} {f : Nat → am_Q} (h : ∀ x, am_nl (f x)) : am_nl (am_gr L i f) := by
  unfold am_gr; split
  · exact h _
  · exact am_nl_no
theorem am_nl_at {pc : Nat} {off : Int} {f : Nat → am_Q} (h : ∀ t, am_nl (f t)) : am_nl (am_at pc off f) := by
  unfold am_at; split
  · exact h _
  · exact am_nl_no
theorem am_nl_br {op : Jvm.ClassFile.Cond} {x y : Int32} {t f : am_Q} (ht : am_nl t) (hf : am_nl f) : am_nl (am_br op x y t f) := by
  cases op <;> (unfold am_br; dsimp only; split <;> assumption)
theorem am_nl_ix {n : Nat} {i : Int32} {q : am_Q} (h : am_nl q) : am_nl (am_ix n i q) := by
  unfold am_ix; split
  · exact am_nl_no
  · exact h
theorem am_nl_sw {pc : Nat} {f : Nat → am_Q} {d : Int} {x : Int32} (h : ∀ t, am_nl (f t)) : ∀ (os : List Int) (lo : Int), am_nl (am_sw pc f d x lo os)
  | [], lo => am_nl_at h
  | o :: os, lo => by
    unfold am_sw; split
    · exact am_nl_at h
    · exact am_nl_sw h os _
theorem am_nl_sl {pc : Nat} {f : Nat → am_Q} {d : Int} {x : Int32} (h : ∀ t, am_nl (f t)) : ∀ (os : List (Int × Int)), am_nl (am_sl pc f d x os)
  | [] => am_nl_at h
  | (v, o) :: os => by
    unfold am_sl; split
    · exact am_nl_at h
    · exact am_nl_sl h os
theorem am_nl_put {M pc : Nat} {L : List Value} {I A : am_F} {R : am_G} {a c j : Nat} {v : Value} {S : List Value} : am_nl (am_put M pc L I A R a c j v S) := by
  unfold am_put
  repeat' split
  all_goals first | exact am_nl_go | exact am_nl_no
theorem am_nl_copy {N M pc : Nat} {L S : List Value} {I A : am_F} {R : am_G} : am_nl (am_copy N M pc L S I A R) := by
  unfold am_copy
  repeat' split
  all_goals first | exact am_nl_go | exact am_nl_no
def am_calls (i : Jvm.ClassFile.Instr) : Bool := match i with
  | .invokevirtual _ => true
  | .invokestatic _ => true
  | .ireturn => true
  | .areturn => true
  | .return_ => true
  | _ => false
set_option maxHeartbeats 4000000 in
theorem am_nl_in {N M pc : Nat} {i : Jvm.ClassFile.Instr} {L S : List Value} {I A : am_F} {R : am_G} (hi : am_calls i = false) : am_nl (am_in N M pc i L S I A R) := by
  cases i <;> first
    | exact am_nl_no
    | exact am_nl_go
    | exact absurd hi (by decide)
    | (cases hi; done)
    | (unfold am_in; dsimp only; repeat' first
        | exact am_nl_no
        | exact am_nl_go
        | exact am_nl_put
        | refine am_nl_p1 fun _ _ => ?_
        | refine am_nl_p2 fun _ _ _ => ?_
        | refine am_nl_q1 fun _ _ => ?_
        | refine am_nl_q2 fun _ _ _ => ?_
        | refine am_nl_qs fun _ _ _ => ?_
        | refine am_nl_pr fun _ _ => ?_
        | refine am_nl_pa fun _ _ _ => ?_
        | refine am_nl_ps fun _ _ _ _ => ?_
        | refine am_nl_pf fun _ _ _ => ?_
        | refine am_nl_gi fun _ => ?_
        | refine am_nl_gl fun _ => ?_
        | refine am_nl_gr fun _ => ?_
        | refine am_nl_at fun _ => ?_
        | refine am_nl_br ?_ ?_
        | refine am_nl_ix ?_
        | refine am_nl_sw (fun _ => am_nl_go) _ _
        | refine am_nl_sl (fun _ => am_nl_go) _
        | split)
theorem am_call_i {M M' pc : Nat} {L as rest : List Value} {I A : am_F} {R : am_G} {q} (h : am_call M M' pc L as rest I A R = some q) : am_fit M M' as rest = true ∧ q = .inr (.inl ((M', 0, am_ent as (am_l M'), [], I, A, R), (M, pc + 3, L, rest, I, A, R))) := by
  unfold am_call at h
  split at h
  · rename_i hf; exact ⟨hf, (Option.some.inj h).symm⟩
  · cases h
theorem am_cast_i {N M pc : Nat} {L S : List Value} {I A : am_F} {R : am_G} {M' : Nat} {q} (h : am_cast N M pc L S I A R M' = some q) : am_sc M' = true ∧ am_np M' ≤ S.length ∧ am_call M M' pc L (S.take (am_np M')).reverse (S.drop (am_np M')) I A R = some q := by
  unfold am_cast at h
  split at h
  · rename_i hf; exact ⟨hf.1, hf.2, h⟩
  · cases h
theorem am_cavi_i {N M pc : Nat} {L S : List Value} {I A : am_F} {R : am_G} {M' : Nat} {q} (h : am_cavi N M pc L S I A R M' = some q) : ∃ a rest, S.drop (am_np M') = .ref a :: rest ∧ am_isO N a (am_ow M') = true ∧ am_call M M' pc L (.ref a :: (S.take (am_np M')).reverse) rest I A R = some q := by
  unfold am_cavi at h
  split at h
  · rename_i a rest hd
    split at h
    · rename_i hf; exact ⟨a, rest, hd, hf.2, h⟩
    · cases h
  · cases h
theorem am_ret_i {M : Nat} {S : List Value} {I A : am_F} {R : am_G} {q} (h : am_ret M S I A R = some q) : ∃ v ty, S = [.int v] ∧ q = .inr (.inr (.int v, I, A, R)) ∧ am_rt M = some ty ∧ narrow ty (.int v) = .int v := by
  unfold am_ret at h
  split at h
  · split at h
    · rename_i hr; cases h; exact ⟨_, _, rfl, rfl, hr, rfl⟩
    · rename_i hr
      split at h
      · rename_i hv
        cases h
        refine ⟨_, _, rfl, rfl, hr, ?_⟩
        rcases hv with rfl | rfl <;> rfl
      · cases h
    · cases h
  · cases h
theorem am_rtr_i {M : Nat} {S : List Value} {I A : am_F} {R : am_G} {q} (h : am_rtr M S I A R = some q) : ∃ v n, S = [.ref v] ∧ q = .inr (.inr (.ref v, I, A, R)) ∧ am_rt M = some (.object n) := by
  unfold am_rtr at h
  split at h
  · split at h
    · rename_i hr; cases h; exact ⟨_, _, rfl, rfl, hr⟩
    · cases h
  · cases h
theorem am_rtv_i {M : Nat} {S : List Value} {I A : am_F} {R : am_G} {q} (h : am_rtv M S I A R = some q) : S = [] ∧ q = .inr (.inr (.null, I, A, R)) ∧ am_rt M = none := by
  unfold am_rtv at h
  split at h
  · split at h
    · rename_i hr; cases h; exact ⟨rfl, rfl, hr⟩
    · cases h
  · cases h
section AMS2
variable {p : Program} {l : Launch} {e : Env} {R : Room} {s : State} {m : MethodId} {args : Array Value} {below : List Frame} {meth : Method} {c : Code} {cells slots : Nat} {Q : State → Prop}
variable {dC : Nat → ClassId} {dI : Nat → Nat → Nat} {cI cB : ClassId} {ad : Nat → Nat} {N : Nat} {A0 : Nat → Prop} {H0 : Heap}
variable {M pc : Nat} {L S : List Value} {I A : am_F} {G : am_G} {d : am_C} {ls : Array Slot} {H : Heap} {locs : List Loc}
theorem am_s_copy (X : am_cx p R s m args c cells slots M) (hK : va_K (dC, dI) vwCl [(cI, .int), (cB, .byte)] s) (hscr : am_scr M N ad I A s H0 A0) (hl : am_ls ad (am_lg M) (am_l M) ls L) (hP : va_P (dC, dI) vwCl (am_w N cI cB ad I A G) H) (hD : va_D A0 (am_w N cI cB ad I A G)) (hS : va_S A0 H0 H locs) (kk : am_kk p l e R s m args below meth c cells slots Q dC dI cI cB ad N A0 H0 d) {k : Nat} (hcp : am_cp (am_ow M) k = true) (hdg : decode (am_b M) pc = .ok (.invokestatic k, 3)) (hd : am_copy N M pc L S I A G = some (.inl d)) : W p l e R s m args below meth c H locs cells slots Q (F0 m pc ls (S.map (am_co ad))) := by
  obtain ⟨hx, hb, hml, hown, hts, hnst, hfr, hlo, hc0, hs0⟩ := X
  unfold am_copy at hd
  split at hd
  · rename_i n dp b sp a
    split at hd
    · rename_i hb1
      simp only [Bool.and_eq_true] at hb1
      split at hd
      · rename_i n0 n1 hca hcb
        split at hd
        · rename_i hh
          cases hd
          obtain ⟨g1, g2, g3, g4, g5⟩ := hh
          have hbN : b ≠ N := Nat.ne_of_lt (am_blt hb1.2)
          refine va_copyi (f := A a) (g := A b) (n0 := n0) (n1 := n1) (c0 := cI) (c1 := cI) (a0 := ad a) (a := ad b) (ty := .int) hx hb (by rw [hml]; exact hl.1.symm) hown (hts _ (am_cp_ok hcp)) (hts _ am_cpn.1) (hts _ am_cpn.2.1) (hts _ am_cpn.2.2) hK hP hD hS a b 0 0 (by rw [am_w_at (am_blt hb1.1.2), am_ce_arr hca]; rfl) (by rw [am_w_at (am_blt hb1.2), am_ce_arr hcb]; rfl) rfl rfl rfl g1 g2 g3 g4 g5 (fun _ _ => rfl) (Nat.le_trans (Nat.le_of_ble_eq_true hb1.1.1.1) hfr) (Nat.le_trans (Nat.le_of_ble_eq_true hb1.1.1.2) hlo) hdg (fun H1 locs1 hP1 hD1 hS1 => ?_)
          have he : (am_w N cI cB ad I A G).set b (ad b, .inl ((if false = true then cB else cI), n1, .inl (va_cpy (A a) (A b) sp.toNatClampNeg dp.toNatClampNeg n.toNatClampNeg))) = am_w N cI cB ad I (am_ur A b (va_cpy (A a) (A b) sp.toNatClampNeg dp.toNatClampNeg n.toNatClampNeg)) G := am_w_set (am_ce_row fun j hj => if_neg hj) (by rw [am_ce_arr hcb]; first | rw [if_pos rfl] | (unfold am_ur; rw [if_pos rfl]))
          have hP1 : va_P (dC, dI) vwCl ((am_w N cI cB ad I A G).set b (ad b, .inl ((if false = true then cB else cI), n1, .inl (va_cpy (A a) (A b) sp.toNatClampNeg dp.toNatClampNeg n.toNatClampNeg)))) H1 := hP1
          have hD1 : va_D A0 ((am_w N cI cB ad I A G).set b (ad b, .inl ((if false = true then cB else cI), n1, .inl (va_cpy (A a) (A b) sp.toNatClampNeg dp.toNatClampNeg n.toNatClampNeg)))) := hD1
          rw [he] at hP1 hD1
          exact kk _ _ _ _ _ _ _ rfl ls H1 locs1 hl (hscr.to rfl (if_neg hbN.symm)) hP1 hD1 hS1
        · cases hd
      · cases hd
    · cases hd
  · cases hd
set_option maxHeartbeats 4000000 in
theorem am_s1 (X : am_cx p R s m args c cells slots M) (hK : va_K (dC, dI) vwCl [(cI, .int), (cB, .byte)] s) (hscr : am_scr M N ad I A s H0 A0) (hl : am_ls ad (am_lg M) (am_l M) ls L) (hP : va_P (dC, dI) vwCl (am_w N cI cB ad I A G) H) (hD : va_D A0 (am_w N cI cB ad I A G)) (hS : va_S A0 H0 H locs) (kk : am_kk p l e R s m args below meth c cells slots Q dC dI cI cB ad N A0 H0 d) (hd : am_do N (M, pc, L, S, I, A, G) = some (.inl d)) : W p l e R s m args below meth c H locs cells slots Q (F0 m pc ls (S.map (am_co ad))) := by
  unfold am_do at hd
  dsimp only at hd
  cases hdg : decode (am_b M) pc with
  | error er => rw [hdg] at hd; cases hd
  | ok q =>
    obtain ⟨i, n⟩ := q
    rw [hdg] at hd
    dsimp only at hd
    split at hd
    · rename_i hn
      cases i <;> first
        | exact absurd (show (none : am_Q) = some (.inl d) from hd) (fun h => by cases h)
        | skip
      case iconst => have hn := Nat.eq_of_beq_eq_true (show Nat.beq n 1 = true from hn); subst hn; exact am_s_iconst X hK hscr hl hP hD hS kk hdg hd
      case lconst => have hn := Nat.eq_of_beq_eq_true (show Nat.beq n 1 = true from hn); subst hn; exact am_s_lconst X hK hscr hl hP hD hS kk hdg hd
      case iload_n => have hn := Nat.eq_of_beq_eq_true (show Nat.beq n 1 = true from hn); subst hn; exact am_s_iload_n X hK hscr hl hP hD hS kk hdg hd
      case lload_n => have hn := Nat.eq_of_beq_eq_true (show Nat.beq n 1 = true from hn); subst hn; exact am_s_lload_n X hK hscr hl hP hD hS kk hdg hd
      case aload_n => have hn := Nat.eq_of_beq_eq_true (show Nat.beq n 1 = true from hn); subst hn; exact am_s_aload_n X hK hscr hl hP hD hS kk hdg hd
      case istore_n => have hn := Nat.eq_of_beq_eq_true (show Nat.beq n 1 = true from hn); subst hn; exact am_s_istore_n X hK hscr hl hP hD hS kk hdg hd
      case astore_n => have hn := Nat.eq_of_beq_eq_true (show Nat.beq n 1 = true from hn); subst hn; exact am_s_astore_n X hK hscr hl hP hD hS kk hdg hd
      case lstore_n => have hn := Nat.eq_of_beq_eq_true (show Nat.beq n 1 = true from hn); subst hn; exact am_s_lstore_n X hK hscr hl hP hD hS kk hdg hd
      case iadd => have hn := Nat.eq_of_beq_eq_true (show Nat.beq n 1 = true from hn); subst hn; exact am_s_iadd X hK hscr hl hP hD hS kk hdg hd
      case isub => have hn := Nat.eq_of_beq_eq_true (show Nat.beq n 1 = true from hn); subst hn; exact am_s_isub X hK hscr hl hP hD hS kk hdg hd
      case imul => have hn := Nat.eq_of_beq_eq_true (show Nat.beq n 1 = true from hn); subst hn; exact am_s_imul X hK hscr hl hP hD hS kk hdg hd
      case iand => have hn := Nat.eq_of_beq_eq_true (show Nat.beq n 1 = true from hn); subst hn; exact am_s_iand X hK hscr hl hP hD hS kk hdg hd
      case ior => have hn := Nat.eq_of_beq_eq_true (show Nat.beq n 1 = true from hn); subst hn; exact am_s_ior X hK hscr hl hP hD hS kk hdg hd
      case ixor => have hn := Nat.eq_of_beq_eq_true (show Nat.beq n 1 = true from hn); subst hn; exact am_s_ixor X hK hscr hl hP hD hS kk hdg hd
      case ishl => have hn := Nat.eq_of_beq_eq_true (show Nat.beq n 1 = true from hn); subst hn; exact am_s_ishl X hK hscr hl hP hD hS kk hdg hd
      case ishr => have hn := Nat.eq_of_beq_eq_true (show Nat.beq n 1 = true from hn); subst hn; exact am_s_ishr X hK hscr hl hP hD hS kk hdg hd
      case iushr => have hn := Nat.eq_of_beq_eq_true (show Nat.beq n 1 = true from hn); subst hn; exact am_s_iushr X hK hscr hl hP hD hS kk hdg hd
      case idiv => have hn := Nat.eq_of_beq_eq_true (show Nat.beq n 1 = true from hn); subst hn; exact am_s_idiv X hK hscr hl hP hD hS kk hdg hd
      case irem => have hn := Nat.eq_of_beq_eq_true (show Nat.beq n 1 = true from hn); subst hn; exact am_s_irem X hK hscr hl hP hD hS kk hdg hd
      case ladd => have hn := Nat.eq_of_beq_eq_true (show Nat.beq n 1 = true from hn); subst hn; exact am_s_ladd X hK hscr hl hP hD hS kk hdg hd
      case lmul => have hn := Nat.eq_of_beq_eq_true (show Nat.beq n 1 = true from hn); subst hn; exact am_s_lmul X hK hscr hl hP hD hS kk hdg hd
      case land => have hn := Nat.eq_of_beq_eq_true (show Nat.beq n 1 = true from hn); subst hn; exact am_s_land X hK hscr hl hP hD hS kk hdg hd
      case lor => have hn := Nat.eq_of_beq_eq_true (show Nat.beq n 1 = true from hn); subst hn; exact am_s_lor X hK hscr hl hP hD hS kk hdg hd
      case ldiv => have hn := Nat.eq_of_beq_eq_true (show Nat.beq n 1 = true from hn); subst hn; exact am_s_ldiv X hK hscr hl hP hD hS kk hdg hd
      case lrem => have hn := Nat.eq_of_beq_eq_true (show Nat.beq n 1 = true from hn); subst hn; exact am_s_lrem X hK hscr hl hP hD hS kk hdg hd
      case lshl => have hn := Nat.eq_of_beq_eq_true (show Nat.beq n 1 = true from hn); subst hn; exact am_s_lshl X hK hscr hl hP hD hS kk hdg hd
      case lshr => have hn := Nat.eq_of_beq_eq_true (show Nat.beq n 1 = true from hn); subst hn; exact am_s_lshr X hK hscr hl hP hD hS kk hdg hd
      case lushr => have hn := Nat.eq_of_beq_eq_true (show Nat.beq n 1 = true from hn); subst hn; exact am_s_lushr X hK hscr hl hP hD hS kk hdg hd
      case i2l => have hn := Nat.eq_of_beq_eq_true (show Nat.beq n 1 = true from hn); subst hn; exact am_s_i2l X hK hscr hl hP hD hS kk hdg hd
      case l2i => have hn := Nat.eq_of_beq_eq_true (show Nat.beq n 1 = true from hn); subst hn; exact am_s_l2i X hK hscr hl hP hD hS kk hdg hd
      case i2b => have hn := Nat.eq_of_beq_eq_true (show Nat.beq n 1 = true from hn); subst hn; exact am_s_i2b X hK hscr hl hP hD hS kk hdg hd
      case dup => have hn := Nat.eq_of_beq_eq_true (show Nat.beq n 1 = true from hn); subst hn; exact am_s_dup X hK hscr hl hP hD hS kk hdg hd
      case dup2 => have hn := Nat.eq_of_beq_eq_true (show Nat.beq n 1 = true from hn); subst hn; exact am_s_dup2 X hK hscr hl hP hD hS kk hdg hd
      case pop => have hn := Nat.eq_of_beq_eq_true (show Nat.beq n 1 = true from hn); subst hn; exact am_s_pop X hK hscr hl hP hD hS kk hdg hd
      case iaload => have hn := Nat.eq_of_beq_eq_true (show Nat.beq n 1 = true from hn); subst hn; exact am_s_iaload X hK hscr hl hP hD hS kk hdg hd
      case baload => have hn := Nat.eq_of_beq_eq_true (show Nat.beq n 1 = true from hn); subst hn; exact am_s_baload X hK hscr hl hP hD hS kk hdg hd
      case iastore => have hn := Nat.eq_of_beq_eq_true (show Nat.beq n 1 = true from hn); subst hn; exact am_s_iastore X hK hscr hl hP hD hS kk hdg hd
      case bastore => have hn := Nat.eq_of_beq_eq_true (show Nat.beq n 1 = true from hn); subst hn; exact am_s_bastore X hK hscr hl hP hD hS kk hdg hd
      case arraylength => have hn := Nat.eq_of_beq_eq_true (show Nat.beq n 1 = true from hn); subst hn; exact am_s_arraylength X hK hscr hl hP hD hS kk hdg hd
      case bipush => have hn := Nat.eq_of_beq_eq_true (show Nat.beq n 2 = true from hn); subst hn; exact am_s_bipush X hK hscr hl hP hD hS kk hdg hd
      case ldc => have hn := Nat.eq_of_beq_eq_true (show Nat.beq n 2 = true from hn); subst hn; exact am_s_ldc X hK hscr hl hP hD hS kk hdg hd
      case iload => have hn := Nat.eq_of_beq_eq_true (show Nat.beq n 2 = true from hn); subst hn; exact am_s_iload X hK hscr hl hP hD hS kk hdg hd
      case lload => have hn := Nat.eq_of_beq_eq_true (show Nat.beq n 2 = true from hn); subst hn; exact am_s_lload X hK hscr hl hP hD hS kk hdg hd
      case istore => have hn := Nat.eq_of_beq_eq_true (show Nat.beq n 2 = true from hn); subst hn; exact am_s_istore X hK hscr hl hP hD hS kk hdg hd
      case lstore => have hn := Nat.eq_of_beq_eq_true (show Nat.beq n 2 = true from hn); subst hn; exact am_s_lstore X hK hscr hl hP hD hS kk hdg hd
      case sipush => have hn := Nat.eq_of_beq_eq_true (show Nat.beq n 3 = true from hn); subst hn; exact am_s_sipush X hK hscr hl hP hD hS kk hdg hd
      case ldc_w => have hn := Nat.eq_of_beq_eq_true (show Nat.beq n 3 = true from hn); subst hn; exact am_s_ldc_w X hK hscr hl hP hD hS kk hdg hd
      case ldc2_w => have hn := Nat.eq_of_beq_eq_true (show Nat.beq n 3 = true from hn); subst hn; exact am_s_ldc2_w X hK hscr hl hP hD hS kk hdg hd
      case iinc => have hn := Nat.eq_of_beq_eq_true (show Nat.beq n 3 = true from hn); subst hn; exact am_s_iinc X hK hscr hl hP hD hS kk hdg hd
      case goto => have hn := Nat.eq_of_beq_eq_true (show Nat.beq n 3 = true from hn); subst hn; exact am_s_goto X hK hscr hl hP hD hS kk hdg hd
      case ifCond => have hn := Nat.eq_of_beq_eq_true (show Nat.beq n 3 = true from hn); subst hn; exact am_s_ifCond X hK hscr hl hP hD hS kk hdg hd
      case if_icmp => have hn := Nat.eq_of_beq_eq_true (show Nat.beq n 3 = true from hn); subst hn; exact am_s_if_icmp X hK hscr hl hP hD hS kk hdg hd
      case getfield => have hn := Nat.eq_of_beq_eq_true (show Nat.beq n 3 = true from hn); subst hn; exact am_s_getfield X hK hscr hl hP hD hS kk hdg hd
      case putfield => have hn := Nat.eq_of_beq_eq_true (show Nat.beq n 3 = true from hn); subst hn; exact am_s_putfield X hK hscr hl hP hD hS kk hdg hd
      case tableswitch => exact am_s_tableswitch X hK hscr hl hP hD hS kk hdg hd
      case lookupswitch => exact am_s_lookupswitch X hK hscr hl hP hD hS kk hdg hd
      case invokevirtual k =>
        unfold am_in at hd
        dsimp only at hd
        split at hd
        · obtain ⟨a, rest, -, -, h⟩ := am_cavi_i hd
          exact absurd (am_call_i h).2 (fun h => by cases h)
        · cases hd
      case invokestatic k =>
        have hn := Nat.eq_of_beq_eq_true (show Nat.beq n 3 = true from hn)
        subst hn
        unfold am_in at hd
        dsimp only at hd
        split at hd
        · obtain ⟨-, -, h⟩ := am_cast_i hd
          exact absurd (am_call_i h).2 (fun h => by cases h)
        · split at hd
          · rename_i hmn
            replace hd := am_p2_i hd
            obtain ⟨x, y, S', rfl, hd⟩ := hd
            split at hd
            · rename_i hr
              rw [Bool.and_eq_true] at hr
              cases hd
              obtain ⟨hx, hb, hml, hown, hts, hnst, hfr, hlo, hc0, hs0⟩ := X
              exact va_mmin hx hb (by rw [hml]; exact hl.1.symm) hown (hts _ (am_mn_ok hmn)) (hts _ am_mnn.1) (hts _ am_mnn.2.1) (hts _ am_mnn.2.2) (Nat.le_trans (Nat.le_of_ble_eq_true hr.1) hfr) (by
                have h1 := Nat.le_of_ble_eq_true hr.2
                have h2 : ((S'.map (am_co ad)).map fun v => v.category).sum = am_cat S' := by
                  unfold am_cat
                  rw [List.map_map]
                  congr 1
                  exact List.map_congr_left fun v _ => am_co_cat ad v
                rw [h2]
                exact Nat.le_trans h1 hlo) hc0 hs0 hdg (kk _ _ _ _ _ _ _ rfl ls H locs hl hscr hP hD hS)
            · cases hd
          · split at hd
            · rename_i hcp
              exact am_s_copy X hK hscr hl hP hD hS kk hcp hdg hd
            · cases hd
      case ireturn => obtain ⟨v, ty, -, h, -⟩ := am_ret_i hd; cases h
      case areturn => obtain ⟨v, n, -, h, -⟩ := am_rtr_i hd; cases h
      case return_ => obtain ⟨-, h, -⟩ := am_rtv_i hd; cases h
    · cases hd
end AMS2
end
section
/-! ===== a run of the abstract machine is a run of the machine: by induction on its length; every method of it is a contract ===== -/
def am_rv (ad : Nat → Nat) (v : Value) : Option Value := match v with
  | .null => none
  | v => some (am_co ad v)
theorem am_push_rv (ad : Nat → Nat) (v : Value) (S : List Value) : (am_push v S).map (am_co ad) = (am_rv ad v).toList ++ S.map (am_co ad) := by cases v <;> rfl
/-- the return that a run ends with -/
def am_fi (M pc : Nat) (v : Value) : Prop := (v = .null ∧ am_rt M = none ∧ decode (am_b M) pc = .ok (.return_, 1)) ∨ (∃ x ty, v = .int x ∧ am_rt M = some ty ∧ narrow ty (.int x) = .int x ∧ decode (am_b M) pc = .ok (.ireturn, 1)) ∨ (∃ a n, v = .ref a ∧ am_rt M = some (.object n) ∧ decode (am_b M) pc = .ok (.areturn, 1))
def am_ws (M : Nat) : List Cond := Cond.code (am_y M) (am_b M) (am_l M) (am_rt M) :: lw_g
def am_rm (M : Nat) : Room := { frames := am_fr M, cells := 0, slots := 0, locals := am_lo M }
def am_Pc (N : Nat) (dC : Nat → ClassId) (dI : Nat → Nat → Nat) (cI cB : ClassId) (ad : Nat → Nat) (as : List Value) (I A : am_F) (G : am_G) (sz : Nat) : Array Value → State → Prop :=
  va_Pc (as.map (am_co ad)) (fun U => U.heap.size = sz ∧ va_P (dC, dI) vwCl (am_w N cI cB ad I A G) U.heap ∧ va_K (dC, dI) vwCl [(cI, .int), (cB, .byte)] U ∧ va_D (fun _ => True) (am_w N cI cB ad I A G) ∧ ∀ w ∈ am_nest, va_Nw w U)
def am_Qc (N : Nat) (dC : Nat → ClassId) (dI : Nat → Nat → Nat) (cI cB : ClassId) (ad : Nat → Nat) (F : Nat → Prop) (r : am_V) : Array Value → State → Outcome → State → Prop := fun _ st o t =>
  (o = .returned (am_rv ad r.1) ∧ va_P (dC, dI) vwCl (am_w N cI cB ad r.2.1 r.2.2.1 r.2.2.2) t.heap ∧ va_K (dC, dI) vwCl [(cI, .int), (cB, .byte)] t ∧ va_D F (am_w N cI cB ad r.2.1 r.2.2.1 r.2.2.2)) ∧ va_F F st t
theorem am_nest_warm {s U : State} (hW : s.WarmedH U.vm) (h : ∀ w ∈ am_nest, va_Nw w s) : ∀ w ∈ am_nest, va_Nw w U := by
  intro w hw
  have h1 := h w hw
  simp only [am_nest, List.mem_cons, List.not_mem_nil, or_false] at hw
  rcases hw with rfl | rfl | rfl | rfl | rfl | rfl | rfl | rfl | rfl <;> exact va_Nw.warmM hW h1
theorem am_nest_same {s U : State} (hv : s.vm = U.vm) (h : ∀ w ∈ am_nest, va_Nw w s) : ∀ w ∈ am_nest, va_Nw w U := by
  intro w hw
  have h1 := h w hw
  simp only [am_nest, List.mem_cons, List.not_mem_nil, or_false] at hw
  rcases hw with rfl | rfl | rfl | rfl | rfl | rfl | rfl | rfl | rfl <;> exact va_Nw.same rfl hv h1
theorem am_good : ∀ w ∈ lw_g, (w.onTables && w.keeps) = true ∨ ∃ ty, w = .arrayClass ty := fun w h => good_of_word (List.mem_filter.mp h).2
theorem am_goodIn {M : Nat} (h : Cond.code (am_y M) (am_b M) (am_l M) (am_rt M) ∈ lw_g) : GoodIn lw_g (am_ws M) := by
  intro w hw
  rcases List.mem_cons.mp hw with rfl | hw
  · exact ⟨h, am_good _ h⟩
  · exact ⟨hw, am_good _ hw⟩
section AMR
variable {p : Program} {l : Launch} {e : Env} {R : Room} {s : State} {m : MethodId} {args : Array Value} {below : List Frame} {meth : Method} {c : Code} {cells slots : Nat} {Q : State → Prop}
variable {dC : Nat → ClassId} {dI : Nat → Nat → Nat} {cI cB : ClassId} {ad : Nat → Nat} {N : Nat} {A0 : Nat → Prop} {H0 : Heap}
/-- behind a call of a contract of ours -/
theorem am_callgo {pc : Nat} {ls : Array Slot} {st0 rest : List Value} {a : Array Value} {H : Heap} {locs : List Loc} {F free : Nat → Prop} {r : am_V} (hr : va_Run p l e R s m args below meth c H locs cells slots 0 0 (F0 m pc ls st0) rest (am_Qc N dC dI cI cB ad F r a) free) (hS : va_S A0 H0 H locs) (hA : ∀ q, F q → A0 q) (hf : ∀ q, free q → A0 q)
    (kk : ∀ (H1 : Heap) (locs1 : List Loc), va_P (dC, dI) vwCl (am_w N cI cB ad r.2.1 r.2.2.1 r.2.2.2) H1 → va_D A0 (am_w N cI cB ad r.2.1 r.2.2.1 r.2.2.2) → va_S A0 H0 H1 locs1 → W p l e R s m args below meth c H1 locs1 cells slots Q (F0 m (pc + 3) ls ((am_rv ad r.1).toList ++ rest))) : W p l e R s m args below meth c H locs cells slots Q (F0 m pc ls st0) := by
  intro T hT X
  obtain ⟨v, st₀, t, T', L, h0, X', hL, e1, e2, ⟨⟨hv, hP1, hK1, hD1⟩, hz, hk⟩, st⟩ := hr T hT X
  cases hv
  rw [h0] at hz hk
  obtain ⟨t2, a1, b1⟩ := kk T'.heap (locs ++ L) (by rw [e1]; exact hP1) (hD1.weaken fun _ _ _ h => hA _ h)
    ⟨Nat.le_trans hS.1 (by rw [e1]; exact hz), fun q h1 h2 => by rw [e1, hk q (Nat.lt_of_lt_of_le h1 hS.1) (fun z => h2 (hA q z))]; exact hS.2.1 q h1 h2, fun q hq => by
      rcases List.mem_append.mp hq with h | h
      · exact hS.2.2 q h
      · exact hf _ (hL q h)⟩ T' rfl X'
  exact ⟨t2, st t2 a1, b1⟩
end AMR
/-- what a run of length n promises, in every method and on every launch -/
def am_sound (l : Launch) (n : Nat) : Prop := ∀ {p : Program} {e : Env} {R : Room} {s : State} {m : MethodId} {args : Array Value} {below : List Frame} {meth : Method} {c : Code} {cells slots : Nat} {Q : State → Prop}
  {dC : Nat → ClassId} {dI : Nat → Nat → Nat} {cI cB : ClassId} {ad : Nat → Nat} {N : Nat} {A0 : Nat → Prop} {H0 : Heap} {M pc : Nat} {L S : List Value} {I A : am_F} {G : am_G} {r : am_V} {ls : Array Slot} {H : Heap} {locs : List Loc},
  am_x N n (M, pc, L, S, I, A, G) = some r → am_cx p R s m args c cells slots M → va_K (dC, dI) vwCl [(cI, .int), (cB, .byte)] s → am_scr M N ad I A s H0 A0 → am_ls ad (am_lg M) (am_l M) ls L → va_P (dC, dI) vwCl (am_w N cI cB ad I A G) H → va_D A0 (am_w N cI cB ad I A G) → va_S A0 H0 H locs → (∀ q, H0.size ≤ q → A0 q) →
  (∀ (pc' : Nat) (ls' : Array Slot) (H' : Heap) (locs' : List Loc), am_fi M pc' r.1 → va_P (dC, dI) vwCl (am_w N cI cB ad r.2.1 r.2.2.1 r.2.2.2) H' → va_D A0 (am_w N cI cB ad r.2.1 r.2.2.1 r.2.2.2) → va_S A0 H0 H' locs' → W p l e R s m args below meth c H' locs' cells slots Q (F0 m pc' ls' ((am_push r.1 []).map (am_co ad)))) →
  W p l e R s m args below meth c H locs cells slots Q (F0 m pc ls (S.map (am_co ad)))
/-- a method's contract out of a run -/
theorem am_met_of {l : Launch} {n N : Nat} (ih : am_sound l n) {M : Nat} (hM : am_mok M) (hnl : M ≠ am_law) {as : List Value} {I A : am_F} {G : am_G} {r : am_V} (hfit : (am_lay as).length ≤ am_l M ∧ (am_lg M = false → ∀ v ∈ as, v.category = 1)) (h : am_x N n (M, 0, am_ent as (am_l M), [], I, A, G) = some r)
    (dC : Nat → ClassId) (dI : Nat → Nat → Nat) (cI cB : ClassId) (ad : Nat → Nat) (sz : Nat) :
    Met l (am_y M) (am_ws M) (am_rm M) (am_Pc N dC dI cI cB ad as I A G sz) (am_Qc N dC dI cI cB ad (va_A (am_w N cI cB ad I A G) sz) r) 0 0 (va_A (am_w N cI cB ad I A G) sz) := by
  obtain ⟨m1, m2, m3, m4, m5⟩ := hM
  refine Met.ofW (cc := am_b M) (maxL := am_l M) (ret := am_rt M) m5 rfl ?_
  intro p e s m args below meth c s₁ B hml hv
  obtain ⟨rfl, hsz, hP, hK, hD0, hN⟩ := hv
  have hx := B.exec
  have hb := B.bytes
  have hr := B.returns
  have hts0 := atoms_spec (ws := am_ws M) B.pre
  have hown : s.vm.findClass (am_y M).cls = some m.cls := findClass_of_methodNamed B.named
  have hlocks := B.notSynchronized
  subst hsz
  rw [lg_entry_eq]
  refine ih (L := am_ent as (am_l M)) (S := []) (N := N) (A0 := va_A (am_w N cI cB ad I A G) s.heap.size) (H0 := s.heap) h ⟨hx, hb, hml, by rw [← m3]; exact hown, fun w hw => hts0 w (List.mem_cons_of_mem _ hw), hN, Nat.le_refl _, Nat.le_refl _, Nat.le_refl _, Nat.le_refl _⟩ hK (fun hq => absurd hq hnl) (am_ls_entry ad _ hfit.1 hfit.2) hP hD0.self va_S.rf (fun q h => Or.inr h) ?_
  intro pc' ls' H' locs' hfi hP' hD' hS'
  rcases hfi with ⟨e1, e2, e3⟩ | ⟨x, ty, e1, e2, e3, e4⟩ | ⟨a, nm, e1, e2, e3⟩
  · rw [e1]
    exact W.vret hx hb (by rw [hr, e2]) (fun t ht hW => ⟨⟨by rw [e1]; rfl, by rw [ht]; exact hP', va_K.moved hW.alike hK, hD'⟩, hS'.F ht⟩) hS'.2.2 e3 hlocks
  · rw [e1]
    exact W.zret (v := x) (ty := ty) hx hb (by rw [hr, e2]) e3 (fun t ht hW => ⟨⟨by rw [e1]; rfl, by rw [ht]; exact hP', va_K.moved hW.alike hK, hD'⟩, hS'.F ht⟩) hS'.2.2 e4 hlocks
  · rw [e1]
    exact W.aret (v := .ref (ad a)) hx hb (by rw [hr, e2]) (Or.inl ⟨nm, rfl⟩) (Or.inr ⟨ad a, rfl⟩) (fun t ht hW => ⟨⟨by rw [e1]; rfl, by rw [ht]; exact hP', va_K.moved hW.alike hK, hD'⟩, hS'.F ht⟩) hS'.2.2 e3 hlocks
theorem am_fit_i {M M' : Nat} {as rest : List Value} (h : am_fit M M' as rest = true) : am_cat rest ≤ 8 ∧ am_fr M' + 1 ≤ am_fr M ∧ 8 + (am_l M' + 11) + am_lo M' ≤ am_lo M ∧ (am_lay as).length ≤ am_l M' ∧ (am_lg M' = false → ∀ v ∈ as, v.category = 1) := by
  unfold am_fit at h
  simp only [Bool.and_eq_true, Bool.or_eq_true] at h
  obtain ⟨h1, h2, h3, h4, h5⟩ := h
  refine ⟨Nat.le_of_ble_eq_true h1, Nat.le_of_ble_eq_true h2, Nat.le_of_ble_eq_true h3, Nat.le_of_ble_eq_true h4, fun hg v hv => ?_⟩
  rcases h5 with h5 | h5
  · rw [hg] at h5; cases h5
  · exact Nat.eq_of_beq_eq_true (List.all_eq_true.mp h5 v hv)
theorem am_cat_co (ad : Nat → Nat) (S : List Value) : ((S.map (am_co ad)).map fun v => v.category).sum = am_cat S := by
  unfold am_cat
  rw [List.map_map]
  congr 1
  exact List.map_congr_left fun v _ => am_co_cat ad v
end
section
/-! ===== what a step keeps: the method, and the script's cell ===== -/
def am_kp (N M : Nat) (I A : am_F) (q : am_Q) : Prop := ∀ d, q = some (.inl d) → d.1 = M ∧ d.2.2.2.2.1 N = I N ∧ d.2.2.2.2.2.1 N = A N
section KP
variable {N M : Nat} {I A : am_F}
theorem am_kp_no : am_kp N M I A none := fun _ h => by cases h
theorem am_kp_nr {x} : am_kp N M I A (some (.inr x)) := fun _ h => by cases h
theorem am_kp_go {pc : Nat} {L S : List Value} {R : am_G} : am_kp N M I A (am_go M pc L S I A R) := fun _ h => by cases h; exact ⟨rfl, rfl, rfl⟩
theorem am_kp_goI {pc : Nat} {L S : List Value} {R : am_G} {I' : am_F} (h' : I' N = I N) : am_kp N M I A (am_go M pc L S I' A R) := fun _ h => by cases h; exact ⟨rfl, h', rfl⟩
theorem am_kp_goA {pc : Nat} {L S : List Value} {R : am_G} {A' : am_F} (h' : A' N = A N) : am_kp N M I A (am_go M pc L S I A' R) := fun _ h => by cases h; exact ⟨rfl, rfl, h'⟩
theorem am_kp_p1 {S : List Value} {f : Int32 → List Value → am_Q} (h : ∀ v0 v1, am_kp N M I A (f v0 v1)) : am_kp N M I A (am_p1 S f) := by
  unfold am_p1; split
  · exact h _ _
  · exact am_kp_no
theorem am_kp_p2 {S : List Value} {f : Int32 → Int32 → List Value → am_Q} (h : ∀ v0 v1 v2, am_kp N M I A (f v0 v1 v2)) : am_kp N M I A (am_p2 S f) := by
  unfold am_p2; split
  · exact h _ _ _
  · exact am_kp_no
theorem am_kp_q1 {S : List Value} {f : Int64 → List Value → am_Q} (h : ∀ v0 v1, am_kp N M I A (f v0 v1)) : am_kp N M I A (am_q1 S f) := by
  unfold am_q1; split
  · exact h _ _
  · exact am_kp_no
theorem am_kp_q2 {S : List Value} {f : Int64 → Int64 → List Value → am_Q} (h : ∀ v0 v1 v2, am_kp N M I A (f v0 v1 v2)) : am_kp N M I A (am_q2 S f) := by
  unfold am_q2; split
  · exact h _ _ _
  · exact am_kp_no
theorem am_kp_qs {S : List Value} {f : Int64 → Int32 → List Value → am_Q} (h : ∀ v0 v1 v2, am_kp N M I A (f v0 v1 v2)) : am_kp N M I A (am_qs S f) := by
  unfold am_qs; split
  · exact h _ _ _
  · exact am_kp_no
theorem am_kp_pr {S : List Value} {f : Nat → List Value → am_Q} (h : ∀ v0 v1, am_kp N M I A (f v0 v1)) : am_kp N M I A (am_pr S f) := by
  unfold am_pr; split
  · exact h _ _
  · exact am_kp_no
theorem am_kp_pa {S : List Value} {f : Nat → Int32 → List Value → am_Q} (h : ∀ v0 v1 v2, am_kp N M I A (f v0 v1 v2)) : am_kp N M I A (am_pa S f) := by
  unfold am_pa; split
  · exact h _ _ _
  · exact am_kp_no
theorem am_kp_ps {S : List Value} {f : Nat → Int32 → Int32 → List Value → am_Q} (h : ∀ v0 v1 v2 v3, am_kp N M I A (f v0 v1 v2 v3)) : am_kp N M I A (am_ps S f) := by
  unfold am_ps; split
  · exact h _ _ _ _
  · exact am_kp_no
theorem am_kp_pf {S : List Value} {f : Nat → Value → List Value → am_Q} (h : ∀ v0 v1 v2, am_kp N M I A (f v0 v1 v2)) : am_kp N M I A (am_pf S f) := by
  unfold am_pf; split
  · exact h _ _ _
  · exact am_kp_no
theorem am_kp_gi {L : List Value} {i : Nat} {f : Int32 → am_Q} (h : ∀ x, am_kp N M I A (f x)) : am_kp N M I A (am_gi L i f) := by
  unfold am_gi; split
  · exact h _
  · exact am_kp_no
theorem am_kp_gl {L : List Value} {i : Nat} {f : Int64 → am_Q} (h : ∀ x, am_kp N M I A (f x)) : am_kp N M I A (am_gl L i f) := by
  unfold am_gl; split
  · exact h _
  · exact am_kp_no
theorem am_kp_gr {L : List Value} {i : Nat} {f : Nat → am_Q} (h : ∀ x, am_kp N M I A (f x)) : am_kp N M I A (am_gr L i f) := by
  unfold am_gr; split
  · exact h _
  · exact am_kp_no
theorem am_kp_at {pc : Nat} {off : Int} {f : Nat → am_Q} (h : ∀ t, am_kp N M I A (f t)) : am_kp N M I A (am_at pc off f) := by
  unfold am_at; split
  · exact h _
  · exact am_kp_no
theorem am_kp_br {op : Jvm.ClassFile.Cond} {x y : Int32} {t f : am_Q} (ht : am_kp N M I A t) (hf : am_kp N M I A f) : am_kp N M I A (am_br op x y t f) := by
  cases op <;> (unfold am_br; dsimp only; split <;> assumption)
theorem am_kp_ix {n : Nat} {i : Int32} {q : am_Q} (h : vp_in i n → am_kp N M I A q) : am_kp N M I A (am_ix n i q) := by
  unfold am_ix; split
  · exact am_kp_no
  · rename_i hn; exact h hn
theorem am_kp_sw {pc : Nat} {f : Nat → am_Q} {d : Int} {x : Int32} (h : ∀ t, am_kp N M I A (f t)) : ∀ (os : List Int) (lo : Int), am_kp N M I A (am_sw pc f d x lo os)
  | [], lo => am_kp_at h
  | o :: os, lo => by
    unfold am_sw; split
    · exact am_kp_at h
    · exact am_kp_sw h os _
theorem am_kp_sl {pc : Nat} {f : Nat → am_Q} {d : Int} {x : Int32} (h : ∀ t, am_kp N M I A (f t)) : ∀ (os : List (Int × Int)), am_kp N M I A (am_sl pc f d x os)
  | [] => am_kp_at h
  | (v, o) :: os => by
    unfold am_sl; split
    · exact am_kp_at h
    · exact am_kp_sl h os
theorem am_kp_put {pc : Nat} {L : List Value} {R : am_G} {a c j : Nat} {v : Value} {S : List Value} (ha : a < N) : am_kp N M I A (am_put M pc L I A R a c j v S) := by
  unfold am_put
  repeat' split
  all_goals first | exact am_kp_go | exact am_kp_no | exact am_kp_goI (am_u_ne (Nat.ne_of_gt ha))
theorem am_kp_copy {pc : Nat} {L S : List Value} {R : am_G} : am_kp N M I A (am_copy N M pc L S I A R) := by
  unfold am_copy
  split
  · split
    · rename_i hb
      simp only [Bool.and_eq_true] at hb
      split
      · split
        · exact am_kp_goA (if_neg (Nat.ne_of_gt (am_blt hb.2)))
        · exact am_kp_no
      · exact am_kp_no
    · exact am_kp_no
  · exact am_kp_no
theorem am_kp_call {M' pc : Nat} {L as rest : List Value} {R : am_G} : am_kp N M I A (am_call M M' pc L as rest I A R) := by
  unfold am_call; split
  · exact am_kp_nr
  · exact am_kp_no
theorem am_kp_cast {M' pc : Nat} {L S : List Value} {R : am_G} : am_kp N M I A (am_cast N M pc L S I A R M') := by
  unfold am_cast; split
  · exact am_kp_call
  · exact am_kp_no
theorem am_kp_cavi {M' pc : Nat} {L S : List Value} {R : am_G} : am_kp N M I A (am_cavi N M pc L S I A R M') := by
  unfold am_cavi; split
  · split
    · exact am_kp_call
    · exact am_kp_no
  · exact am_kp_no
theorem am_kp_ret {S : List Value} {R : am_G} : am_kp N M I A (am_ret M S I A R) := by
  unfold am_ret
  repeat' split
  all_goals first | exact am_kp_nr | exact am_kp_no
theorem am_kp_rtr {S : List Value} {R : am_G} : am_kp N M I A (am_rtr M S I A R) := by
  unfold am_rtr
  repeat' split
  all_goals first | exact am_kp_nr | exact am_kp_no
theorem am_kp_rtv {S : List Value} {R : am_G} : am_kp N M I A (am_rtv M S I A R) := by
  unfold am_rtv
  repeat' split
  all_goals first | exact am_kp_nr | exact am_kp_no
set_option maxHeartbeats 4000000 in
theorem am_kp_in {pc : Nat} {i : Jvm.ClassFile.Instr} {L S : List Value} {R : am_G} : am_kp N M I A (am_in N M pc i L S I A R) := by
  cases i <;> first
    | exact am_kp_no
    | exact am_kp_go
    | exact am_kp_ret
    | exact am_kp_rtr
    | exact am_kp_rtv
    | (unfold am_in; dsimp only; repeat' first
        | exact am_kp_no
        | exact am_kp_go
        | exact am_kp_copy
        | exact am_kp_cast
        | exact am_kp_cavi
        | refine am_kp_p1 fun _ _ => ?_
        | refine am_kp_p2 fun _ _ _ => ?_
        | refine am_kp_q1 fun _ _ => ?_
        | refine am_kp_q2 fun _ _ _ => ?_
        | refine am_kp_qs fun _ _ _ => ?_
        | refine am_kp_pr fun _ _ => ?_
        | refine am_kp_pa fun _ _ _ => ?_
        | refine am_kp_ps fun _ _ _ _ => ?_
        | refine am_kp_pf fun _ _ _ => ?_
        | refine am_kp_gi fun _ => ?_
        | refine am_kp_gl fun _ => ?_
        | refine am_kp_gr fun _ => ?_
        | refine am_kp_at fun _ => ?_
        | refine am_kp_br ?_ ?_
        | (refine am_kp_ix fun _ => ?_; exact am_kp_go)
        | (refine am_kp_ix fun hin => ?_; obtain ⟨n, ha, -, -⟩ := am_len_i hin; exact am_kp_goA (am_u_ne (Nat.ne_of_gt ha)))
        | refine am_kp_sw (fun _ => am_kp_go) _ _
        | refine am_kp_sl (fun _ => am_kp_go) _
        | (rename_i hq; rw [Bool.and_eq_true] at hq; exact am_kp_put (am_isO_i hq.1).1)
        | split)
end KP
theorem am_do_in {N M pc : Nat} {L S : List Value} {I A : am_F} {G : am_G} {q} (h : am_do N (M, pc, L, S, I, A, G) = some q) : ∃ i n, decode (am_b M) pc = .ok (i, n) ∧ am_ln i n = true ∧ am_in N M pc i L S I A G = some q := by
  unfold am_do at h
  dsimp only at h
  cases hdg : decode (am_b M) pc with
  | error er => rw [hdg] at h; cases h
  | ok x =>
    obtain ⟨i, n⟩ := x
    rw [hdg] at h
    dsimp only at h
    split at h
    · rename_i hn; exact ⟨i, n, rfl, hn, h⟩
    · cases h
theorem am_do_kp {N M pc : Nat} {L S : List Value} {I A : am_F} {G : am_G} {d : am_C} (h : am_do N (M, pc, L, S, I, A, G) = some (.inl d)) : d.1 = M ∧ d.2.2.2.2.1 N = I N ∧ d.2.2.2.2.2.1 N = A N := by
  obtain ⟨i, n, -, -, h⟩ := am_do_in h
  exact am_kp_in d h
theorem am_calls_i {i : Jvm.ClassFile.Instr} (h : am_calls i = true) : (∃ k, i = .invokevirtual k) ∨ (∃ k, i = .invokestatic k) ∨ i = .ireturn ∨ i = .areturn ∨ i = .return_ := by
  cases i <;> first | exact Or.inl ⟨_, rfl⟩ | exact Or.inr (Or.inl ⟨_, rfl⟩) | exact Or.inr (Or.inr (Or.inl rfl)) | exact Or.inr (Or.inr (Or.inr (Or.inl rfl))) | exact Or.inr (Or.inr (Or.inr (Or.inr rfl))) | cases h
/-- a call: of which method, with what, and by which instruction -/
theorem am_do_call {N M pc : Nat} {L S : List Value} {I A : am_F} {G : am_G} {d d2 : am_C} (h : am_do N (M, pc, L, S, I, A, G) = some (.inr (.inl (d, d2)))) :
    ∃ (M' k : Nat) (as rest : List Value), d = (M', 0, am_ent as (am_l M'), [], I, A, G) ∧ d2 = (M, pc + 3, L, rest, I, A, G) ∧ am_fit M M' as rest = true ∧
      ((decode (am_b M) pc = .ok (.invokestatic k, 3) ∧ am_cs (am_ow M) k = some M' ∧ as.length = am_np M' ∧ S = as.reverse ++ rest) ∨
       (∃ (a : Nat) (as' : List Value), decode (am_b M) pc = .ok (.invokevirtual k, 3) ∧ am_cv (am_ow M) k = some M' ∧ as = .ref a :: as' ∧ as'.length = am_np M' ∧ S = as'.reverse ++ .ref a :: rest ∧ am_isO N a (am_ow M') = true)) := by
  obtain ⟨i, n, hdg, hn, h⟩ := am_do_in h
  cases hc : am_calls i with
  | false => exact absurd h (am_nl_in hc _)
  | true =>
    rcases am_calls_i hc with ⟨k, rfl⟩ | ⟨k, rfl⟩ | rfl | rfl | rfl
    · have hn := Nat.eq_of_beq_eq_true (show Nat.beq n 3 = true from hn)
      subst hn
      unfold am_in at h
      dsimp only at h
      split at h
      · rename_i M' hcv
        obtain ⟨a, rest, h1, h2, h3⟩ := am_cavi_i h
        obtain ⟨h4, h5⟩ := am_call_i h3
        cases h5
        have hlen : am_np M' ≤ S.length := by
          have := congrArg List.length h1
          simp at this
          omega
        refine ⟨M', k, _, rest, rfl, rfl, h4, Or.inr ⟨a, (S.take (am_np M')).reverse, hdg, hcv, rfl, by simp; omega, ?_, h2⟩⟩
        rw [List.reverse_reverse, ← h1, List.take_append_drop]
      · cases h
    · have hn := Nat.eq_of_beq_eq_true (show Nat.beq n 3 = true from hn)
      subst hn
      unfold am_in at h
      dsimp only at h
      split at h
      · rename_i M' hcs
        obtain ⟨h1, h2, h3⟩ := am_cast_i h
        obtain ⟨h4, h5⟩ := am_call_i h3
        cases h5
        refine ⟨M', k, _, _, rfl, rfl, h4, Or.inl ⟨hdg, hcs, by simp; omega, ?_⟩⟩
        rw [List.reverse_reverse, List.take_append_drop]
      · split at h
        · exact absurd h (am_nl_p2 (fun x y S => by split; exact am_nl_go; exact am_nl_no) _)
        · split at h
          · exact absurd h (am_nl_copy _)
          · cases h
    · obtain ⟨v, ty, -, h1, -⟩ := am_ret_i h; cases h1
    · obtain ⟨v, n, -, h1, -⟩ := am_rtr_i h; cases h1
    · obtain ⟨-, h1, -⟩ := am_rtv_i h; cases h1
theorem am_do_end {N M pc : Nat} {L S : List Value} {I A : am_F} {G : am_G} {v : am_V} (h : am_do N (M, pc, L, S, I, A, G) = some (.inr (.inr v))) : S = am_push v.1 [] ∧ v.2 = (I, A, G) ∧ am_fi M pc v.1 := by
  obtain ⟨i, n, hdg, hn, h⟩ := am_do_in h
  cases hc : am_calls i with
  | false => exact absurd h (am_nl_in hc _)
  | true =>
    rcases am_calls_i hc with ⟨k, rfl⟩ | ⟨k, rfl⟩ | rfl | rfl | rfl
    · unfold am_in at h
      dsimp only at h
      split at h
      · obtain ⟨a, rest, h1, h2, h3⟩ := am_cavi_i h
        obtain ⟨h4, h5⟩ := am_call_i h3
        cases h5
      · cases h
    · unfold am_in at h
      dsimp only at h
      split at h
      · obtain ⟨h1, h2, h3⟩ := am_cast_i h
        obtain ⟨h4, h5⟩ := am_call_i h3
        cases h5
      · split at h
        · exact absurd h (am_nl_p2 (fun x y S => by split; exact am_nl_go; exact am_nl_no) _)
        · split at h
          · exact absurd h (am_nl_copy _)
          · cases h
    · have hn := Nat.eq_of_beq_eq_true (show Nat.beq n 1 = true from hn)
      subst hn
      obtain ⟨x, ty, rfl, h1, h2, h3⟩ := am_ret_i h; cases h1
      exact ⟨rfl, rfl, Or.inr (Or.inl ⟨x, ty, rfl, h2, h3, hdg⟩)⟩
    · have hn := Nat.eq_of_beq_eq_true (show Nat.beq n 1 = true from hn)
      subst hn
      obtain ⟨x, nm, rfl, h1, h2⟩ := am_rtr_i h; cases h1
      exact ⟨rfl, rfl, Or.inr (Or.inr ⟨x, nm, rfl, h2, hdg⟩)⟩
    · have hn := Nat.eq_of_beq_eq_true (show Nat.beq n 1 = true from hn)
      subst hn
      obtain ⟨rfl, h1, h2⟩ := am_rtv_i h; cases h1
      exact ⟨rfl, rfl, Or.inl ⟨rfl, h2, hdg⟩⟩
theorem am_x_kp {N : Nat} : ∀ (n M pc : Nat) (L S : List Value) (I A : am_F) (G : am_G) (r : am_V), am_x N n (M, pc, L, S, I, A, G) = some r → r.2.1 N = I N ∧ r.2.2.1 N = A N
  | 0, _, _, _, _, _, _, _, _, h => by cases h
  | n + 1, M, pc, L, S, I, A, G, r, h => by
    replace h : am_stp N (am_x N n) (M, pc, L, S, I, A, G) = some r := h
    unfold am_stp at h
    cases hdo : am_do N (M, pc, L, S, I, A, G) with
    | none => rw [hdo] at h; cases h
    | some q =>
      rw [hdo] at h
      rcases q with d | ⟨d, d2⟩ | v
      · obtain ⟨M', pc', L', S', I', A', G'⟩ := d
        obtain ⟨e1, e2, e3⟩ := am_do_kp hdo
        obtain ⟨f1, f2⟩ := am_x_kp n _ _ _ _ _ _ _ _ (show am_x N n (M', pc', L', S', I', A', G') = some r from h)
        exact ⟨f1.trans e2, f2.trans e3⟩
      · obtain ⟨M', k, as, rest, rfl, rfl, -, -⟩ := am_do_call hdo
        obtain ⟨v, h1, h2⟩ := Option.bind_eq_some_iff.mp (show (am_x N n _).bind _ = some r from h)
        obtain ⟨f1, f2⟩ := am_x_kp n _ _ _ _ _ _ _ _ h1
        obtain ⟨g1, g2⟩ := am_x_kp n _ _ _ _ _ _ _ _ (show am_x N n (M, pc + 3, L, am_push v.1 rest, v.2.1, v.2.2.1, v.2.2.2) = some r from h2)
        exact ⟨g1.trans f1, g2.trans f2⟩
      · obtain ⟨-, e2, -⟩ := am_do_end hdo
        cases h
        rw [e2]
        exact ⟨rfl, rfl⟩
theorem am_cv_nl {o i M : Nat} (h : am_cv o i = some M) : M ≠ am_law := by
  unfold am_cv at h
  obtain ⟨q, hq, he⟩ := Option.map_eq_some_iff.mp h
  have h1 : am_cvl.all (fun q => !Nat.beq q.2.2.1 am_law) = true := by decide +kernel
  have h2 := List.all_eq_true.mp h1 q (List.mem_of_find?_eq_some hq)
  rw [he] at h2
  intro e
  rw [e] at h2
  exact absurd h2 (by decide)
theorem am_cs_nl {o i M : Nat} (h : am_cs o i = some M) : M ≠ am_law := by
  unfold am_cs at h
  obtain ⟨q, hq, he⟩ := Option.map_eq_some_iff.mp h
  have h1 : am_csl.all (fun q => !Nat.beq q.2.2.1 am_law) = true := by decide +kernel
  have h2 := List.all_eq_true.mp h1 q (List.mem_of_find?_eq_some hq)
  rw [he] at h2
  intro e
  rw [e] at h2
  exact absurd h2 (by decide)

theorem am_preS {s : State} {H : Heap} {N : Nat} {dC : Nat → ClassId} {dI : Nat → Nat → Nat} {cI cB : ClassId} {ad : Nat → Nat} {as : List Value} {I A : am_F} {G : am_G} {A0 : Nat → Prop} (hK : va_K (dC, dI) vwCl [(cI, .int), (cB, .byte)] s) (hP : va_P (dC, dI) vwCl (am_w N cI cB ad I A G) H) (hD : va_D A0 (am_w N cI cB ad I A G)) (hN : ∀ w ∈ am_nest, va_Nw w s) : PreS s H (am_Pc N dC dI cI cB ad as I A G H.size) (as.map (am_co ad)) := by
  refine ⟨fun a U g mk q => ?_, fun U hU hW => ?_⟩
  · obtain ⟨q0, q1, qP, qK, qD, qN⟩ := q
    exact ⟨q0, q1, qP, va_K.moved (u := U) (U := U.calling g mk a) (Vm.Alike.refl U.vm) qK, qD, am_nest_same (s := U) (U := U.calling g mk a) rfl qN⟩
  · exact ⟨rfl, by rw [hU], by rw [hU]; exact hP, va_K.moved hW.alike hK, hD.weaken fun _ _ _ _ => trivial, am_nest_warm hW hN⟩
set_option maxHeartbeats 4000000 in
theorem am_all (l : Launch) (n : Nat) : am_sound l n := by
  induction n with
  | zero =>
    unfold am_sound
    intro p e R s m args below meth c cells slots Q dC dI cI cB ad N A0 H0 M pc L S I A G r ls H locs h
    cases h
  | succ n ih =>
    unfold am_sound
    intro p e R s m args below meth c cells slots Q dC dI cI cB ad N A0 H0 M pc L S I A G r ls H locs h X hK hscr hl hP hD hS hA kf
    replace h : am_stp N (am_x N n) (M, pc, L, S, I, A, G) = some r := h
    unfold am_stp at h
    cases hdo : am_do N (M, pc, L, S, I, A, G) with
    | none => rw [hdo] at h; cases h
    | some q =>
      rw [hdo] at h
      rcases q with d | ⟨d, d2⟩ | v
      · refine am_s1 X hK hscr hl hP hD hS (d := d) ?_ hdo
        intro M' pc' L' S' I' A' G' hd ls' H' locs' hl' hscr' hP' hD' hS'
        have hM : M' = M := by
          have := (am_do_kp hdo).1
          rw [hd] at this
          exact this
        subst hM
        subst hd
        exact ih h X hK hscr' hl' hP' hD' hS' hA kf
      · obtain ⟨M', k, as, rest, rfl, rfl, hfit, hcall⟩ := am_do_call hdo
        obtain ⟨v, h1, h2⟩ := Option.bind_eq_some_iff.mp (show (am_x N n _).bind _ = some r from h)
        obtain ⟨f1, f2, f3, f4, f5⟩ := am_fit_i hfit
        obtain ⟨k1, k2⟩ := am_x_kp _ _ _ _ _ _ _ _ _ h1
        have X0 := X
        obtain ⟨hx, hb, hml, hown, hts, hnst, hfr, hlo, hc0, hs0⟩ := X
        have hFA : ∀ q, va_A (am_w N cI cB ad I A G) H.size q → A0 q := by
          rintro q (⟨k, e, hk⟩ | hq)
          · exact hD.2 k (q, e) hk
          · exact hA q (Nat.le_trans hS.1 hq)
        have hgo : ∀ (H1 : Heap) (locs1 : List Loc), va_P (dC, dI) vwCl (am_w N cI cB ad v.2.1 v.2.2.1 v.2.2.2) H1 → va_D A0 (am_w N cI cB ad v.2.1 v.2.2.1 v.2.2.2) → va_S A0 H0 H1 locs1 → W p l e R s m args below meth c H1 locs1 cells slots Q (F0 m (pc + 3) ls ((am_rv ad v.1).toList ++ rest.map (am_co ad))) := by
          intro H1 locs1 hP1 hD1 hS1
          rw [← am_push_rv]
          exact ih (show am_x N n (M, pc + 3, L, am_push v.1 rest, v.2.1, v.2.2.1, v.2.2.2) = some r from h2) X0 hK (hscr.to k1 k2) hl hP1 hD1 hS1 hA kf
        rcases hcall with ⟨hdg, hcs, hlen, rfl⟩ | ⟨a, as', hdg, hcv, rfl, hlen, rfl, hO⟩
        · obtain ⟨g1, g2, g3⟩ := am_cs_ok hcs
          have hMet := am_met_of ih g3 (am_cs_nl hcs) ⟨f4, f5⟩ h1 dC dI cI cB ad H.size
          obtain ⟨m1, m2, m3, m4, m5⟩ := g3
          rcases g1 with g1 | g1
          · refine am_callgo (st0 := (as.reverse ++ rest).map (am_co ad)) (rest := rest.map (am_co ad)) (va_runS (As := as.map (am_co ad)) (Ts := lw_g) ⟨hx, hb, hml, hown, hts⟩ hMet ⟨callB_of (am_np M') hts (am_goodIn m1) rfl rfl rfl (hts _ m2) (hts _ g1) m4 ⟨Nat.le_trans f2 hfr, Nat.le_trans f3 hlo⟩, hts _ g2⟩ (am_preS hK hP hD hnst) rfl (by rw [List.length_map]; exact hlen) hl.1 ?_ ?_ hdg ⟨hc0, hs0⟩) hS hFA hFA hgo
            · show (as.reverse ++ rest).map (am_co ad) = _
              rw [List.map_append, List.map_reverse]
            · show 2 * 0 + ((rest.map (am_co ad)).map fun v => v.category).sum ≤ 8
              rw [am_cat_co]
              omega
          · refine am_callgo (st0 := (as.reverse ++ rest).map (am_co ad)) (rest := rest.map (am_co ad)) (va_runSN (As := as.map (am_co ad)) (Ts := lw_g) ⟨hx, hb, hml, hown, hts⟩ hMet ⟨va_cnB (am_np M') hts (am_goodIn m1) rfl rfl rfl (hnst _ g1) (hts _ m2) m4 ⟨Nat.le_trans f2 hfr, Nat.le_trans f3 hlo⟩, hts _ g2, trivial⟩ (am_preS hK hP hD hnst) rfl (by rw [List.length_map]; exact hlen) hl.1 ?_ ?_ hdg ⟨hc0, hs0⟩) hS hFA hFA hgo
            · show (as.reverse ++ rest).map (am_co ad) = _
              rw [List.map_append, List.map_reverse]
            · show 2 * 0 + ((rest.map (am_co ad)).map fun v => v.category).sum ≤ 8
              rw [am_cat_co]
              omega
        · obtain ⟨g1, g2, g4, g3, T0, n0, g5⟩ := am_cv_ok hcv
          have hMet := am_met_of ih g3 (am_cv_nl hcv) ⟨f4, f5⟩ h1 dC dI cI cB ad H.size
          obtain ⟨m1, m2, m3, m4, m5⟩ := g3
          obtain ⟨ha, hca⟩ := am_isO_i hO
          have hrecv := va_recv hK hP g5 (q0 := a) (by rw [am_w_at ha, am_ce_obj hca])
          have hpre := am_preS (as := .ref a :: as') hK hP hD hnst
          refine am_callgo (st0 := (as'.reverse ++ .ref a :: rest).map (am_co ad)) (rest := rest.map (am_co ad)) (va_runV (b := ad a) (C := am_cn (am_ow M')) (As := as'.map (am_co ad)) (Ts := lw_g) ⟨hx, hb, hml, hown, hts⟩ hMet ⟨callB_of (am_np M') hts (am_goodIn m1) rfl rfl rfl (hts _ m2) (hts _ g1) m4 ⟨Nat.le_trans f2 hfr, Nat.le_trans f3 hlo⟩, hts _ g2, hts _ g4⟩ ⟨hpre.1, hrecv, hpre.2⟩ rfl (by rw [List.length_map]; exact hlen) hl.1 ?_ ?_ hdg ⟨hc0, hs0⟩) hS hFA hFA hgo
          · show (as'.reverse ++ .ref a :: rest).map (am_co ad) = _
            rw [List.map_append, List.map_reverse]
            rfl
          · show 2 * 0 + ((rest.map (am_co ad)).map fun v => v.category).sum ≤ 8
            rw [am_cat_co]
            omega
      · obtain ⟨e1, e2, e3⟩ := am_do_end hdo
        cases h
        subst e1
        obtain ⟨v0, v1⟩ := r
        dsimp only at e2
        subst e2
        exact kf pc ls H locs e3 hP hD hS
end
section
/-! ===== the run's end, by its parts; one step ===== -/
noncomputable def am_e (M pc : Nat) (L S : List Value) (I A : am_F) (G : am_G) : Option am_V := am_ev 86 (M, pc, L, S, I, A, G)
def am_k (o : Option am_V) (f : Value → am_F → am_F → am_G → Option am_V) : Option am_V := match o with
  | some (v, I, A, G) => f v I A G
  | none => none
theorem am_k_some {v : Value} {I A : am_F} {G : am_G} {f : Value → am_F → am_F → am_G → Option am_V} : am_k (some (v, I, A, G)) f = f v I A G := rfl
theorem am_k_none {f : Value → am_F → am_F → am_G → Option am_V} : am_k none f = none := rfl
theorem am_push_i {x : Int32} {S : List Value} : am_push (.int x) S = .int x :: S := rfl
theorem am_push_r {x : Nat} {S : List Value} : am_push (.ref x) S = .ref x :: S := rfl
theorem am_push_n {S : List Value} : am_push .null S = S := rfl
noncomputable def am_qe (q : am_Q) : Option am_V := match q with
  | none => none
  | some (.inl d) => am_ev 86 d
  | some (.inr (.inl (d, r))) => (am_ev 86 d).bind fun v => am_ev 86 (am_back r v)
  | some (.inr (.inr v)) => some v
section EV
variable {M pc n : Nat} {i : Jvm.ClassFile.Instr} {L S : List Value} {I A : am_F} {G : am_G}
theorem am_e_do (hdg : decode (am_b M) pc = .ok (i, n)) (hn : am_ln i n = true) : am_do 86 (M, pc, L, S, I, A, G) = am_in 86 M pc i L S I A G := by
  unfold am_do
  dsimp only
  rw [hdg]
  dsimp only
  rw [if_pos hn]
theorem am_e_st {q} (hdg : decode (am_b M) pc = .ok (i, n)) (hn : am_ln i n = true) (h : am_in 86 M pc i L S I A G = q) : am_e M pc L S I A G = am_qe q := by
  unfold am_e
  rw [am_ev_eq]
  unfold am_stp am_qe
  rw [am_e_do hdg hn, h]
  rcases q with _ | d | ⟨d, r⟩ | v <;> rfl
theorem am_e_go {M' pc' : Nat} {L' S' : List Value} {I' A' : am_F} {G' : am_G} (hdg : decode (am_b M) pc = .ok (i, n)) (hn : am_ln i n = true) (h : am_in 86 M pc i L S I A G = am_go M' pc' L' S' I' A' G') : am_e M pc L S I A G = am_e M' pc' L' S' I' A' G' := by
  rw [am_e_st hdg hn h]
  rfl
theorem am_e_if {c : Prop} [hc : Decidable c] {M1 pc1 M2 pc2 : Nat} {L1 S1 L2 S2 : List Value} {I1 A1 I2 A2 : am_F} {G1 G2 : am_G} (hdg : decode (am_b M) pc = .ok (i, n)) (hn : am_ln i n = true) (h : am_in 86 M pc i L S I A G = if c then am_go M1 pc1 L1 S1 I1 A1 G1 else am_go M2 pc2 L2 S2 I2 A2 G2) : am_e M pc L S I A G = if c then am_e M1 pc1 L1 S1 I1 A1 G1 else am_e M2 pc2 L2 S2 I2 A2 G2 := by
  by_cases h0 : c
  · rw [if_pos h0] at h ⊢
    exact am_e_go hdg hn h
  · rw [if_neg h0] at h ⊢
    exact am_e_go hdg hn h
theorem am_e_nif {c : Prop} [hc : Decidable c] {M2 pc2 : Nat} {L2 S2 : List Value} {I2 A2 : am_F} {G2 : am_G} (hdg : decode (am_b M) pc = .ok (i, n)) (hn : am_ln i n = true) (h : am_in 86 M pc i L S I A G = if c then none else am_go M2 pc2 L2 S2 I2 A2 G2) : am_e M pc L S I A G = if c then none else am_e M2 pc2 L2 S2 I2 A2 G2 := by
  by_cases h0 : c
  · rw [if_pos h0] at h ⊢
    rw [am_e_st hdg hn h]; rfl
  · rw [if_neg h0] at h ⊢
    exact am_e_go hdg hn h
theorem am_e_pif {c : Prop} [hc : Decidable c] {M2 pc2 : Nat} {L2 S2 : List Value} {I2 A2 : am_F} {G2 : am_G} (hdg : decode (am_b M) pc = .ok (i, n)) (hn : am_ln i n = true) (h : am_in 86 M pc i L S I A G = if c then am_go M2 pc2 L2 S2 I2 A2 G2 else none) : am_e M pc L S I A G = if c then am_e M2 pc2 L2 S2 I2 A2 G2 else none := by
  by_cases h0 : c
  · rw [if_pos h0] at h ⊢
    exact am_e_go hdg hn h
  · rw [if_neg h0] at h ⊢
    rw [am_e_st hdg hn h]; rfl
theorem am_e_call {M' pc' : Nat} {L' L2 R2 : List Value} (hdg : decode (am_b M) pc = .ok (i, n)) (hn : am_ln i n = true) (h : am_in 86 M pc i L S I A G = some (.inr (.inl ((M', 0, L', [], I, A, G), (M, pc', L2, R2, I, A, G))))) : am_e M pc L S I A G = am_k (am_e M' 0 L' [] I A G) (fun v I A G => am_e M pc' L2 (am_push v R2) I A G) := by
  rw [am_e_st hdg hn h]
  unfold am_e am_qe
  dsimp only
  cases am_ev 86 (M', 0, L', [], I, A, G) <;> rfl
theorem am_e_rt {v : am_V} (hdg : decode (am_b M) pc = .ok (i, n)) (hn : am_ln i n = true) (h : am_in 86 M pc i L S I A G = some (.inr (.inr v))) : am_e M pc L S I A G = some v := by
  rw [am_e_st hdg hn h]; rfl
theorem am_e_rb {c : Prop} [hc : Decidable c] {v : am_V} (hdg : decode (am_b M) pc = .ok (i, n)) (hn : am_ln i n = true) (h : am_in 86 M pc i L S I A G = if c then some (.inr (.inr v)) else none) : am_e M pc L S I A G = if c then some v else none := by
  by_cases h0 : c
  · rw [if_pos h0] at h ⊢
    rw [am_e_st hdg hn h]; rfl
  · rw [if_neg h0] at h ⊢
    rw [am_e_st hdg hn h]; rfl
end EV
def am_swe (f : Nat → Option am_V) (d : Nat) (x : Int32) : List (Int32 × Nat) → Option am_V
  | [] => f d
  | (v, t) :: ps => if x = v then f t else am_swe f d x ps
def am_swc (pc : Nat) : Int → List Int → List (Int32 × Nat) → Bool
  | _, [], [] => true
  | lo, o :: os, (v, t) :: ps => decide (v.toInt = lo) && (decide ((pc : Int) + o = (t : Int)) && am_swc pc (lo + 1) os ps)
  | _, _, _ => false
def am_slc (pc : Nat) : List (Int × Int) → List (Int32 × Nat) → Bool
  | [], [] => true
  | (k, o) :: os, (v, t) :: ps => decide (v.toInt = k) && (decide ((pc : Int) + o = (t : Int)) && am_slc pc os ps)
  | _, _ => false
section EV2
variable {M pc n : Nat} {L S : List Value} {I A : am_F} {G : am_G}
theorem am_at_qe {off : Int} {t : Nat} (h : (pc : Int) + off = (t : Int)) : am_qe (am_at pc off fun t => am_go M t L S I A G) = am_e M t L S I A G := by
  unfold am_at
  rw [h]
  rfl
theorem am_sw_qe {d : Int} {dt : Nat} (hd : (pc : Int) + d = (dt : Int)) {x : Int32} : ∀ (os : List Int) (lo : Int) (ps : List (Int32 × Nat)), am_swc pc lo os ps = true → am_qe (am_sw pc (fun t => am_go M t L S I A G) d x lo os) = am_swe (fun t => am_e M t L S I A G) dt x ps
  | [], lo, [], _ => am_at_qe hd
  | [], lo, _ :: _, h => by cases h
  | _ :: _, lo, [], h => by cases h
  | o :: os, lo, (v, t) :: ps, h => by
    unfold am_swc at h
    simp only [Bool.and_eq_true, decide_eq_true_eq] at h
    obtain ⟨h1, h2, h3⟩ := h
    unfold am_sw am_swe
    by_cases hx : x = v
    · rw [if_pos hx, if_pos (by rw [hx]; exact h1)]
      exact am_at_qe h2
    · rw [if_neg hx, if_neg (fun e => hx (Int32.toInt_inj.mp (e.trans h1.symm)))]
      exact am_sw_qe hd os (lo + 1) ps h3
theorem am_sl_qe {d : Int} {dt : Nat} (hd : (pc : Int) + d = (dt : Int)) {x : Int32} : ∀ (os : List (Int × Int)) (ps : List (Int32 × Nat)), am_slc pc os ps = true → am_qe (am_sl pc (fun t => am_go M t L S I A G) d x os) = am_swe (fun t => am_e M t L S I A G) dt x ps
  | [], [], _ => am_at_qe hd
  | [], _ :: _, h => by cases h
  | _ :: _, [], h => by cases h
  | (k, o) :: os, (v, t) :: ps, h => by
    unfold am_slc at h
    simp only [Bool.and_eq_true, decide_eq_true_eq] at h
    obtain ⟨h1, h2, h3⟩ := h
    unfold am_sl am_swe
    by_cases hx : x = v
    · rw [if_pos hx, if_pos (by rw [hx]; exact h1)]
      exact am_at_qe h2
    · rw [if_neg hx, if_neg (fun e => hx (Int32.toInt_inj.mp (e.trans h1.symm)))]
      exact am_sl_qe hd os ps h3
theorem am_e_sw {df lo hi : Int} {offs : Array Int} {ps : List (Int32 × Nat)} {dt : Nat} {x : Int32} (hdg : decode (am_b M) pc = .ok (.tableswitch df lo hi offs, n)) (hl : hi + 1 = lo + offs.toList.length) (hc : am_swc pc lo offs.toList ps = true) (hd : (pc : Int) + df = (dt : Int)) : am_e M pc L (.int x :: S) I A G = am_swe (fun t => am_e M t L S I A G) dt x ps := by
  rw [am_e_st hdg rfl rfl]
  rw [← am_sw_qe hd offs.toList lo ps hc]
  show am_qe (if hi + 1 = lo + offs.toList.length then _ else none) = _
  rw [if_pos hl]
theorem am_e_sl {df : Int} {os : Array (Int × Int)} {ps : List (Int32 × Nat)} {dt : Nat} {x : Int32} (hdg : decode (am_b M) pc = .ok (.lookupswitch df os, n)) (hl : (os.toList.zip (os.toList.drop 1)).all (fun (a, next) => a.1 < next.1) = true) (hc : am_slc pc os.toList ps = true) (hd : (pc : Int) + df = (dt : Int)) : am_e M pc L (.int x :: S) I A G = am_swe (fun t => am_e M t L S I A G) dt x ps := by
  rw [am_e_st hdg rfl rfl]
  rw [← am_sl_qe hd os.toList ps hc]
  show am_qe (if (os.toList.zip (os.toList.drop 1)).all (fun (a, next) => a.1 < next.1) = true then _ else none) = _
  rw [if_pos hl]
end EV2
theorem am_len_1 : am_len 86 true 1 = 400 := by decide +kernel
theorem am_len_3 : am_len 86 false 3 = 4 := by decide +kernel
theorem am_len_4 : am_len 86 true 4 = 0 := by decide +kernel
theorem am_len_6 : am_len 86 false 6 = 8 := by decide +kernel
theorem am_len_7 : am_len 86 false 7 = 8 := by decide +kernel
theorem am_len_8 : am_len 86 false 8 = 8 := by decide +kernel
theorem am_len_9 : am_len 86 false 9 = 10 := by decide +kernel
theorem am_len_10 : am_len 86 false 10 = 10 := by decide +kernel
theorem am_len_11 : am_len 86 false 11 = 10 := by decide +kernel
theorem am_len_12 : am_len 86 false 12 = 10 := by decide +kernel
theorem am_len_14 : am_len 86 false 14 = 10 := by decide +kernel
theorem am_len_15 : am_len 86 false 15 = 10 := by decide +kernel
theorem am_len_16 : am_len 86 false 16 = 9 := by decide +kernel
theorem am_len_17 : am_len 86 false 17 = 10 := by decide +kernel
theorem am_len_18 : am_len 86 false 18 = 9 := by decide +kernel
theorem am_len_20 : am_len 86 false 20 = 10 := by decide +kernel
theorem am_len_21 : am_len 86 false 21 = 10 := by decide +kernel
theorem am_len_22 : am_len 86 false 22 = 9 := by decide +kernel
theorem am_len_23 : am_len 86 false 23 = 10 := by decide +kernel
theorem am_len_24 : am_len 86 false 24 = 9 := by decide +kernel
theorem am_len_26 : am_len 86 false 26 = 8 := by decide +kernel
theorem am_len_27 : am_len 86 false 27 = 8 := by decide +kernel
theorem am_len_28 : am_len 86 false 28 = 8 := by decide +kernel
theorem am_len_29 : am_len 86 false 29 = 10 := by decide +kernel
theorem am_len_30 : am_len 86 false 30 = 10 := by decide +kernel
theorem am_len_31 : am_len 86 false 31 = 10 := by decide +kernel
theorem am_len_32 : am_len 86 false 32 = 10 := by decide +kernel
theorem am_len_34 : am_len 86 false 34 = 10 := by decide +kernel
theorem am_len_35 : am_len 86 false 35 = 10 := by decide +kernel
theorem am_len_36 : am_len 86 false 36 = 9 := by decide +kernel
theorem am_len_37 : am_len 86 false 37 = 10 := by decide +kernel
theorem am_len_38 : am_len 86 false 38 = 9 := by decide +kernel
theorem am_len_40 : am_len 86 false 40 = 10 := by decide +kernel
theorem am_len_41 : am_len 86 false 41 = 10 := by decide +kernel
theorem am_len_42 : am_len 86 false 42 = 9 := by decide +kernel
theorem am_len_43 : am_len 86 false 43 = 10 := by decide +kernel
theorem am_len_44 : am_len 86 false 44 = 9 := by decide +kernel
theorem am_len_46 : am_len 86 false 46 = 9 := by decide +kernel
theorem am_len_47 : am_len 86 false 47 = 9 := by decide +kernel
theorem am_len_49 : am_len 86 false 49 = 9 := by decide +kernel
theorem am_len_50 : am_len 86 false 50 = 9 := by decide +kernel
theorem am_len_52 : am_len 86 false 52 = 9 := by decide +kernel
theorem am_len_53 : am_len 86 false 53 = 9 := by decide +kernel
theorem am_len_55 : am_len 86 false 55 = 10 := by decide +kernel
theorem am_len_56 : am_len 86 false 56 = 10 := by decide +kernel
theorem am_len_57 : am_len 86 false 57 = 10 := by decide +kernel
theorem am_len_59 : am_len 86 false 59 = 9 := by decide +kernel
theorem am_len_60 : am_len 86 false 60 = 10 := by decide +kernel
theorem am_len_61 : am_len 86 false 61 = 10 := by decide +kernel
theorem am_len_62 : am_len 86 false 62 = 9 := by decide +kernel
theorem am_len_64 : am_len 86 false 64 = 10 := by decide +kernel
theorem am_len_65 : am_len 86 false 65 = 10 := by decide +kernel
theorem am_len_66 : am_len 86 false 66 = 9 := by decide +kernel
theorem am_len_67 : am_len 86 false 67 = 10 := by decide +kernel
theorem am_len_68 : am_len 86 false 68 = 9 := by decide +kernel
theorem am_len_70 : am_len 86 false 70 = 400 := by decide +kernel
theorem am_len_71 : am_len 86 false 71 = 24 := by decide +kernel
theorem am_len_72 : am_len 86 false 72 = 40 := by decide +kernel
theorem am_len_73 : am_len 86 false 73 = 6 := by decide +kernel
theorem am_len_74 : am_len 86 false 74 = 24 := by decide +kernel
theorem am_len_75 : am_len 86 false 75 = 44 := by decide +kernel
theorem am_len_76 : am_len 86 false 76 = 6 := by decide +kernel
theorem am_len_77 : am_len 86 false 77 = 8 := by decide +kernel
theorem am_len_78 : am_len 86 false 78 = 24 := by decide +kernel
theorem am_len_79 : am_len 86 false 79 = 30 := by decide +kernel
theorem am_len_80 : am_len 86 false 80 = 8 := by decide +kernel
theorem am_len_81 : am_len 86 false 81 = 11 := by decide +kernel
theorem am_len_82 : am_len 86 false 82 = 11 := by decide +kernel
theorem am_len_83 : am_len 86 false 83 = 11 := by decide +kernel
theorem am_len_84 : am_len 86 false 84 = 11 := by decide +kernel
theorem am_len_85 : am_len 86 false 85 = 8 := by decide +kernel
end
section
theorem s_X0_blow_0 {l1 l2 l3 l4 l5 l6 : Value} {x : Nat} {S : List Value} {I A : am_F} {G : am_G} : am_e 0 0 [.ref x, l1, l2, l3, l4, l5, l6] S I A G = am_e 0 1 [.ref x, l1, l2, l3, l4, l5, l6] (.ref x :: S) I A G := am_e_go (i := .aload_n 0) (n := 1) (by decide +kernel) rfl rfl
theorem s_X0_blow_1 {l0 l1 l2 l3 l5 l6 : Value} {x : Int32} {S : List Value} {I A : am_F} {G : am_G} : am_e 0 1 [l0, l1, l2, l3, .int x, l5, l6] S I A G = am_e 0 3 [l0, l1, l2, l3, .int x, l5, l6] (.int x :: S) I A G := am_e_go (i := .iload 4) (n := 2) (by decide +kernel) rfl rfl
theorem s_X0_blow_3 {L : List Value} {S : List Value} {I A : am_F} {G : am_G} : am_e 0 3 L S I A G = am_e 0 4 L (.int 2 :: S) I A G := am_e_go (i := .iconst 2) (n := 1) (by decide +kernel) rfl (by first | rfl | (show am_go _ _ _ (.int _ :: _) _ _ _ = am_go _ _ _ (.int _ :: _) _ _ _; congr 1 <;> decide))
theorem s_X0_blow_4 {L : List Value} {x y : Int32} {S : List Value} {I A : am_F} {G : am_G} : am_e 0 4 L (.int y :: .int x :: S) I A G = if x = y then am_e 0 7 L S I A G else am_e 0 14 L S I A G := am_e_if (i := .if_icmp .ne 10) (n := 3) (by decide +kernel) rfl rfl
theorem s_X0_blow_7 {l0 l2 l3 l4 l5 l6 : Value} {x : Nat} {S : List Value} {I A : am_F} {G : am_G} : am_e 0 7 [l0, .ref x, l2, l3, l4, l5, l6] S I A G = am_e 0 8 [l0, .ref x, l2, l3, l4, l5, l6] (.ref x :: S) I A G := am_e_go (i := .aload_n 1) (n := 1) (by decide +kernel) rfl rfl
theorem s_X0_blow_8_at5 {L : List Value} {S : List Value} {I A : am_F} {G : am_G} : am_e 0 8 L (.ref 5 :: S) I A G = am_e 0 11 L (.ref 19 :: S) I A G := am_e_go (i := .getfield 31) (n := 3) (by decide +kernel) rfl rfl
theorem s_X0_blow_8_at25 {L : List Value} {S : List Value} {I A : am_F} {G : am_G} : am_e 0 8 L (.ref 25 :: S) I A G = am_e 0 11 L (.ref 39 :: S) I A G := am_e_go (i := .getfield 31) (n := 3) (by decide +kernel) rfl rfl
theorem s_X0_blow_11 {L : List Value} {S : List Value} {I A : am_F} {G : am_G} : am_e 0 11 L S I A G = am_e 0 18 L S I A G := am_e_go (i := .goto 7) (n := 3) (by decide +kernel) rfl rfl
theorem s_X0_blow_14 {l0 l2 l3 l4 l5 l6 : Value} {x : Nat} {S : List Value} {I A : am_F} {G : am_G} : am_e 0 14 [l0, .ref x, l2, l3, l4, l5, l6] S I A G = am_e 0 15 [l0, .ref x, l2, l3, l4, l5, l6] (.ref x :: S) I A G := am_e_go (i := .aload_n 1) (n := 1) (by decide +kernel) rfl rfl
theorem s_X0_blow_15_at5 {L : List Value} {S : List Value} {I A : am_F} {G : am_G} : am_e 0 15 L (.ref 5 :: S) I A G = am_e 0 18 L (.ref 13 :: S) I A G := am_e_go (i := .getfield 36) (n := 3) (by decide +kernel) rfl rfl
theorem s_X0_blow_15_at25 {L : List Value} {S : List Value} {I A : am_F} {G : am_G} : am_e 0 15 L (.ref 25 :: S) I A G = am_e 0 18 L (.ref 33 :: S) I A G := am_e_go (i := .getfield 36) (n := 3) (by decide +kernel) rfl rfl
theorem s_X0_blow_18 {L : List Value} {x : Nat} {S : List Value} {I A : am_F} {G : am_G} : am_e 0 18 L (.ref x :: .ref 58 :: S) I A G = am_e 0 21 L S I A (am_u G 58 4 x) := am_e_go (i := .putfield 27) (n := 3) (by decide +kernel) rfl rfl
theorem s_X0_blow_21 {L : List Value} {S : List Value} {I A : am_F} {G : am_G} : am_e 0 21 L S I A G = am_e 0 22 L (.int 0 :: S) I A G := am_e_go (i := .iconst 0) (n := 1) (by decide +kernel) rfl (by first | rfl | (show am_go _ _ _ (.int _ :: _) _ _ _ = am_go _ _ _ (.int _ :: _) _ _ _; congr 1 <;> decide))
theorem s_X0_blow_22 {l0 l1 l2 l3 l4 l5 l6 : Value} {x : Int32} {S : List Value} {I A : am_F} {G : am_G} : am_e 0 22 [l0, l1, l2, l3, l4, l5, l6] (.int x :: S) I A G = am_e 0 24 [l0, l1, l2, l3, l4, .int x, l6] S I A G := am_e_go (i := .istore 5) (n := 2) (by decide +kernel) rfl rfl
theorem s_X0_blow_24 {l0 l1 l2 l3 l4 l6 : Value} {x : Int32} {S : List Value} {I A : am_F} {G : am_G} : am_e 0 24 [l0, l1, l2, l3, l4, .int x, l6] S I A G = am_e 0 26 [l0, l1, l2, l3, l4, .int x, l6] (.int x :: S) I A G := am_e_go (i := .iload 5) (n := 2) (by decide +kernel) rfl rfl
theorem s_X0_blow_26 {l0 l2 l3 l4 l5 l6 : Value} {x : Nat} {S : List Value} {I A : am_F} {G : am_G} : am_e 0 26 [l0, .ref x, l2, l3, l4, l5, l6] S I A G = am_e 0 27 [l0, .ref x, l2, l3, l4, l5, l6] (.ref x :: S) I A G := am_e_go (i := .aload_n 1) (n := 1) (by decide +kernel) rfl rfl
theorem s_X0_blow_27_at5 {L : List Value} {S : List Value} {I A : am_F} {G : am_G} : am_e 0 27 L (.ref 5 :: S) I A G = am_e 0 30 L (.int (I 5 10) :: S) I A G := am_e_go (i := .getfield 39) (n := 3) (by decide +kernel) rfl rfl
theorem s_X0_blow_27_at25 {L : List Value} {S : List Value} {I A : am_F} {G : am_G} : am_e 0 27 L (.ref 25 :: S) I A G = am_e 0 30 L (.int (I 25 10) :: S) I A G := am_e_go (i := .getfield 39) (n := 3) (by decide +kernel) rfl rfl
theorem s_X0_blow_30 {L : List Value} {x y : Int32} {S : List Value} {I A : am_F} {G : am_G} : am_e 0 30 L (.int y :: .int x :: S) I A G = if y ≤ x then am_e 0 104 L S I A G else am_e 0 33 L S I A G := am_e_if (i := .if_icmp .ge 74) (n := 3) (by decide +kernel) rfl rfl
theorem s_X0_blow_33 {l0 l1 l2 l4 l5 l6 : Value} {x : Int32} {S : List Value} {I A : am_F} {G : am_G} : am_e 0 33 [l0, l1, l2, .int x, l4, l5, l6] S I A G = am_e 0 34 [l0, l1, l2, .int x, l4, l5, l6] (.int x :: S) I A G := am_e_go (i := .iload_n 3) (n := 1) (by decide +kernel) rfl rfl
theorem s_X0_blow_34 {l0 l2 l3 l4 l5 l6 : Value} {x : Nat} {S : List Value} {I A : am_F} {G : am_G} : am_e 0 34 [l0, .ref x, l2, l3, l4, l5, l6] S I A G = am_e 0 35 [l0, .ref x, l2, l3, l4, l5, l6] (.ref x :: S) I A G := am_e_go (i := .aload_n 1) (n := 1) (by decide +kernel) rfl rfl
theorem s_X0_blow_35_at5 {L : List Value} {S : List Value} {I A : am_F} {G : am_G} : am_e 0 35 L (.ref 5 :: S) I A G = am_e 0 38 L (.ref 9 :: S) I A G := am_e_go (i := .getfield 43) (n := 3) (by decide +kernel) rfl rfl
theorem s_X0_blow_35_at25 {L : List Value} {S : List Value} {I A : am_F} {G : am_G} : am_e 0 35 L (.ref 25 :: S) I A G = am_e 0 38 L (.ref 29 :: S) I A G := am_e_go (i := .getfield 43) (n := 3) (by decide +kernel) rfl rfl
theorem s_X0_blow_38 {l0 l1 l2 l3 l4 l6 : Value} {x : Int32} {S : List Value} {I A : am_F} {G : am_G} : am_e 0 38 [l0, l1, l2, l3, l4, .int x, l6] S I A G = am_e 0 40 [l0, l1, l2, l3, l4, .int x, l6] (.int x :: S) I A G := am_e_go (i := .iload 5) (n := 2) (by decide +kernel) rfl rfl
theorem s_X0_blow_40 {L : List Value} {i : Int32} {a : Nat} {S : List Value} {I A : am_F} {G : am_G} : am_e 0 40 L (.int i :: .ref a :: S) I A G = if i < 0 ∨ am_len 86 false a ≤ i.toNatClampNeg then none else am_e 0 41 L (.int (A a i.toNatClampNeg) :: S) I A G := am_e_nif (i := .iaload) (n := 1) (by decide +kernel) rfl rfl
theorem s_X0_blow_41 {L : List Value} {a0 : Int32} {a1 : Int32} {I A : am_F} {G : am_G} : am_e 0 41 L (.int a1 :: .int a0 :: []) I A G = am_k (am_e 64 0 [.int a0, .int a1] [] I A G) (fun v I A G => am_e 0 44 L (am_push v []) I A G) := am_e_call (i := .invokestatic 46) (n := 3) (by decide +kernel) rfl rfl
theorem s_X0_blow_44 {l0 l1 l2 l4 l5 l6 : Value} {x : Int32} {S : List Value} {I A : am_F} {G : am_G} : am_e 0 44 [l0, l1, l2, .int x, l4, l5, l6] S I A G = am_e 0 45 [l0, l1, l2, .int x, l4, l5, l6] (.int x :: S) I A G := am_e_go (i := .iload_n 3) (n := 1) (by decide +kernel) rfl rfl
theorem s_X0_blow_45 {l0 l2 l3 l4 l5 l6 : Value} {x : Nat} {S : List Value} {I A : am_F} {G : am_G} : am_e 0 45 [l0, .ref x, l2, l3, l4, l5, l6] S I A G = am_e 0 46 [l0, .ref x, l2, l3, l4, l5, l6] (.ref x :: S) I A G := am_e_go (i := .aload_n 1) (n := 1) (by decide +kernel) rfl rfl
theorem s_X0_blow_46_at5 {L : List Value} {S : List Value} {I A : am_F} {G : am_G} : am_e 0 46 L (.ref 5 :: S) I A G = am_e 0 49 L (.ref 10 :: S) I A G := am_e_go (i := .getfield 50) (n := 3) (by decide +kernel) rfl rfl
theorem s_X0_blow_46_at25 {L : List Value} {S : List Value} {I A : am_F} {G : am_G} : am_e 0 46 L (.ref 25 :: S) I A G = am_e 0 49 L (.ref 30 :: S) I A G := am_e_go (i := .getfield 50) (n := 3) (by decide +kernel) rfl rfl
theorem s_X0_blow_49 {l0 l1 l2 l3 l4 l6 : Value} {x : Int32} {S : List Value} {I A : am_F} {G : am_G} : am_e 0 49 [l0, l1, l2, l3, l4, .int x, l6] S I A G = am_e 0 51 [l0, l1, l2, l3, l4, .int x, l6] (.int x :: S) I A G := am_e_go (i := .iload 5) (n := 2) (by decide +kernel) rfl rfl
theorem s_X0_blow_51 {L : List Value} {i : Int32} {a : Nat} {S : List Value} {I A : am_F} {G : am_G} : am_e 0 51 L (.int i :: .ref a :: S) I A G = if i < 0 ∨ am_len 86 false a ≤ i.toNatClampNeg then none else am_e 0 52 L (.int (A a i.toNatClampNeg) :: S) I A G := am_e_nif (i := .iaload) (n := 1) (by decide +kernel) rfl rfl
theorem s_X0_blow_52 {L : List Value} {a0 : Int32} {a1 : Int32} {r0 : Int32} {I A : am_F} {G : am_G} : am_e 0 52 L (.int a1 :: .int a0 :: [.int r0]) I A G = am_k (am_e 64 0 [.int a0, .int a1] [] I A G) (fun v I A G => am_e 0 55 L (am_push v [.int r0]) I A G) := am_e_call (i := .invokestatic 46) (n := 3) (by decide +kernel) rfl rfl
theorem s_X0_blow_55 {L : List Value} {x y : Int32} {S : List Value} {I A : am_F} {G : am_G} : am_e 0 55 L (.int y :: .int x :: S) I A G = am_e 0 56 L (.int (x ||| y) :: S) I A G := am_e_go (i := .ior) (n := 1) (by decide +kernel) rfl rfl
theorem s_X0_blow_56 {l0 l1 l2 l3 l4 l5 l6 : Value} {x : Int32} {S : List Value} {I A : am_F} {G : am_G} : am_e 0 56 [l0, l1, l2, l3, l4, l5, l6] (.int x :: S) I A G = am_e 0 58 [l0, l1, l2, l3, l4, l5, .int x] S I A G := am_e_go (i := .istore 6) (n := 2) (by decide +kernel) rfl rfl
theorem s_X0_blow_58 {l1 l2 l3 l4 l5 l6 : Value} {x : Nat} {S : List Value} {I A : am_F} {G : am_G} : am_e 0 58 [.ref x, l1, l2, l3, l4, l5, l6] S I A G = am_e 0 59 [.ref x, l1, l2, l3, l4, l5, l6] (.ref x :: S) I A G := am_e_go (i := .aload_n 0) (n := 1) (by decide +kernel) rfl rfl
theorem s_X0_blow_59 {L : List Value} {S : List Value} {I A : am_F} {G : am_G} : am_e 0 59 L (.ref 58 :: S) I A G = am_e 0 62 L (.ref 61 :: S) I A G := am_e_go (i := .getfield 18) (n := 3) (by decide +kernel) rfl rfl
theorem s_X0_blow_62 {l0 l1 l2 l3 l4 l6 : Value} {x : Int32} {S : List Value} {I A : am_F} {G : am_G} : am_e 0 62 [l0, l1, l2, l3, l4, .int x, l6] S I A G = am_e 0 64 [l0, l1, l2, l3, l4, .int x, l6] (.int x :: S) I A G := am_e_go (i := .iload 5) (n := 2) (by decide +kernel) rfl rfl
theorem s_X0_blow_64 {l0 l1 l2 l3 l4 l5 : Value} {x : Int32} {S : List Value} {I A : am_F} {G : am_G} : am_e 0 64 [l0, l1, l2, l3, l4, l5, .int x] S I A G = am_e 0 66 [l0, l1, l2, l3, l4, l5, .int x] (.int x :: S) I A G := am_e_go (i := .iload 6) (n := 2) (by decide +kernel) rfl rfl
theorem s_X0_blow_66 {L : List Value} {S : List Value} {I A : am_F} {G : am_G} : am_e 0 66 L S I A G = am_e 0 67 L (.int 1 :: S) I A G := am_e_go (i := .iconst 1) (n := 1) (by decide +kernel) rfl (by first | rfl | (show am_go _ _ _ (.int _ :: _) _ _ _ = am_go _ _ _ (.int _ :: _) _ _ _; congr 1 <;> decide))
theorem s_X0_blow_67 {L : List Value} {x y : Int32} {S : List Value} {I A : am_F} {G : am_G} : am_e 0 67 L (.int y :: .int x :: S) I A G = if x = y then am_e 0 70 L S I A G else am_e 0 74 L S I A G := am_e_if (i := .if_icmp .ne 7) (n := 3) (by decide +kernel) rfl rfl
theorem s_X0_blow_70 {L : List Value} {S : List Value} {I A : am_F} {G : am_G} : am_e 0 70 L S I A G = am_e 0 71 L (.int 0 :: S) I A G := am_e_go (i := .iconst 0) (n := 1) (by decide +kernel) rfl (by first | rfl | (show am_go _ _ _ (.int _ :: _) _ _ _ = am_go _ _ _ (.int _ :: _) _ _ _; congr 1 <;> decide))
theorem s_X0_blow_71 {L : List Value} {S : List Value} {I A : am_F} {G : am_G} : am_e 0 71 L S I A G = am_e 0 97 L S I A G := am_e_go (i := .goto 26) (n := 3) (by decide +kernel) rfl rfl
theorem s_X0_blow_74 {l0 l2 l3 l4 l5 l6 : Value} {x : Nat} {S : List Value} {I A : am_F} {G : am_G} : am_e 0 74 [l0, .ref x, l2, l3, l4, l5, l6] S I A G = am_e 0 75 [l0, .ref x, l2, l3, l4, l5, l6] (.ref x :: S) I A G := am_e_go (i := .aload_n 1) (n := 1) (by decide +kernel) rfl rfl
theorem s_X0_blow_75 {l0 l1 l2 l3 l4 l6 : Value} {x : Int32} {S : List Value} {I A : am_F} {G : am_G} : am_e 0 75 [l0, l1, l2, l3, l4, .int x, l6] S I A G = am_e 0 77 [l0, l1, l2, l3, l4, .int x, l6] (.int x :: S) I A G := am_e_go (i := .iload 5) (n := 2) (by decide +kernel) rfl rfl
theorem s_X0_blow_77 {l0 l1 l3 l4 l5 l6 : Value} {x : Int32} {S : List Value} {I A : am_F} {G : am_G} : am_e 0 77 [l0, l1, .int x, l3, l4, l5, l6] S I A G = am_e 0 78 [l0, l1, .int x, l3, l4, l5, l6] (.int x :: S) I A G := am_e_go (i := .iload_n 2) (n := 1) (by decide +kernel) rfl rfl
theorem s_X0_blow_78 {l0 l1 l2 l3 l4 l6 : Value} {x : Int32} {S : List Value} {I A : am_F} {G : am_G} : am_e 0 78 [l0, l1, l2, l3, l4, .int x, l6] S I A G = am_e 0 80 [l0, l1, l2, l3, l4, .int x, l6] (.int x :: S) I A G := am_e_go (i := .iload 5) (n := 2) (by decide +kernel) rfl rfl
theorem s_X0_blow_80 {L : List Value} {a0 : Int32} {a1 : Int32} {r0 : Int32} {r1 : Nat} {r2 : Int32} {r3 : Nat} {I A : am_F} {G : am_G} : am_e 0 80 L (.int a1 :: .int a0 :: [.int r0, .ref r1, .int r2, .ref r3]) I A G = am_k (am_e 64 0 [.int a0, .int a1] [] I A G) (fun v I A G => am_e 0 83 L (am_push v [.int r0, .ref r1, .int r2, .ref r3]) I A G) := am_e_call (i := .invokestatic 46) (n := 3) (by decide +kernel) rfl rfl
theorem s_X0_blow_83 {L : List Value} {S : List Value} {I A : am_F} {G : am_G} : am_e 0 83 L S I A G = am_e 0 84 L (.int 1 :: S) I A G := am_e_go (i := .iconst 1) (n := 1) (by decide +kernel) rfl (by first | rfl | (show am_go _ _ _ (.int _ :: _) _ _ _ = am_go _ _ _ (.int _ :: _) _ _ _; congr 1 <;> decide))
theorem s_X0_blow_84 {L : List Value} {x y : Int32} {S : List Value} {I A : am_F} {G : am_G} : am_e 0 84 L (.int y :: .int x :: S) I A G = if x = y then am_e 0 87 L S I A G else am_e 0 91 L S I A G := am_e_if (i := .if_icmp .ne 7) (n := 3) (by decide +kernel) rfl rfl
theorem s_X0_blow_87 {L : List Value} {S : List Value} {I A : am_F} {G : am_G} : am_e 0 87 L S I A G = am_e 0 88 L (.int 1 :: S) I A G := am_e_go (i := .iconst 1) (n := 1) (by decide +kernel) rfl (by first | rfl | (show am_go _ _ _ (.int _ :: _) _ _ _ = am_go _ _ _ (.int _ :: _) _ _ _; congr 1 <;> decide))
theorem s_X0_blow_88 {L : List Value} {S : List Value} {I A : am_F} {G : am_G} : am_e 0 88 L S I A G = am_e 0 92 L S I A G := am_e_go (i := .goto 4) (n := 3) (by decide +kernel) rfl rfl
theorem s_X0_blow_91 {L : List Value} {S : List Value} {I A : am_F} {G : am_G} : am_e 0 91 L S I A G = am_e 0 92 L (.int 0 :: S) I A G := am_e_go (i := .iconst 0) (n := 1) (by decide +kernel) rfl (by first | rfl | (show am_go _ _ _ (.int _ :: _) _ _ _ = am_go _ _ _ (.int _ :: _) _ _ _; congr 1 <;> decide))
theorem s_X0_blow_92 {l0 l1 l2 l3 l5 l6 : Value} {x : Int32} {S : List Value} {I A : am_F} {G : am_G} : am_e 0 92 [l0, l1, l2, l3, .int x, l5, l6] S I A G = am_e 0 94 [l0, l1, l2, l3, .int x, l5, l6] (.int x :: S) I A G := am_e_go (i := .iload 4) (n := 2) (by decide +kernel) rfl rfl
theorem s_X0_blow_94_at5 {L : List Value} {a0 : Int32} {a1 : Int32} {a2 : Int32} {r0 : Int32} {r1 : Nat} {I A : am_F} {G : am_G} : am_e 0 94 L (.int a2 :: .int a1 :: .int a0 :: .ref 5 :: [.int r0, .ref r1]) I A G = am_k (am_e 17 0 [.ref 5, .int a0, .int a1, .int a2] [] I A G) (fun v I A G => am_e 0 97 L (am_push v [.int r0, .ref r1]) I A G) := am_e_call (i := .invokevirtual 53) (n := 3) (by decide +kernel) rfl rfl
theorem s_X0_blow_94_at25 {L : List Value} {a0 : Int32} {a1 : Int32} {a2 : Int32} {r0 : Int32} {r1 : Nat} {I A : am_F} {G : am_G} : am_e 0 94 L (.int a2 :: .int a1 :: .int a0 :: .ref 25 :: [.int r0, .ref r1]) I A G = am_k (am_e 17 0 [.ref 25, .int a0, .int a1, .int a2] [] I A G) (fun v I A G => am_e 0 97 L (am_push v [.int r0, .ref r1]) I A G) := am_e_call (i := .invokevirtual 53) (n := 3) (by decide +kernel) rfl rfl
theorem s_X0_blow_97 {L : List Value} {i x : Int32} {a : Nat} {S : List Value} {I A : am_F} {G : am_G} : am_e 0 97 L (.int x :: .int i :: .ref a :: S) I A G = if i < 0 ∨ am_len 86 false a ≤ i.toNatClampNeg then none else am_e 0 98 L S I (am_u A a i.toNatClampNeg x) G := am_e_nif (i := .iastore) (n := 1) (by decide +kernel) rfl rfl
theorem s_X0_blow_98 {l0 l1 l2 l3 l4 l6 : Value} {x : Int32} {S : List Value} {I A : am_F} {G : am_G} : am_e 0 98 [l0, l1, l2, l3, l4, .int x, l6] S I A G = am_e 0 101 [l0, l1, l2, l3, l4, .int (x + 1), l6] S I A G := am_e_go (i := .iinc 5 1) (n := 3) (by decide +kernel) rfl (by first | rfl | (rw [show (1 : Int32) = Int32.ofInt 1 by decide]; rfl))
theorem s_X0_blow_101 {L : List Value} {S : List Value} {I A : am_F} {G : am_G} : am_e 0 101 L S I A G = am_e 0 24 L S I A G := am_e_go (i := .goto (-77)) (n := 3) (by decide +kernel) rfl rfl
theorem s_X0_blow_104 {l1 l2 l3 l4 l5 l6 : Value} {x : Nat} {S : List Value} {I A : am_F} {G : am_G} : am_e 0 104 [.ref x, l1, l2, l3, l4, l5, l6] S I A G = am_e 0 105 [.ref x, l1, l2, l3, l4, l5, l6] (.ref x :: S) I A G := am_e_go (i := .aload_n 0) (n := 1) (by decide +kernel) rfl rfl
theorem s_X0_blow_105 {L : List Value} {S : List Value} {I A : am_F} {G : am_G} : am_e 0 105 L (.ref 58 :: S) I A G = am_e 0 108 L (.ref 59 :: S) I A G := am_e_go (i := .getfield 9) (n := 3) (by decide +kernel) rfl rfl
theorem s_X0_blow_108 {L : List Value} {S : List Value} {I A : am_F} {G : am_G} : am_e 0 108 L S I A G = am_e 0 109 L (.int 0 :: S) I A G := am_e_go (i := .iconst 0) (n := 1) (by decide +kernel) rfl (by first | rfl | (show am_go _ _ _ (.int _ :: _) _ _ _ = am_go _ _ _ (.int _ :: _) _ _ _; congr 1 <;> decide))
theorem s_X0_blow_109 {L : List Value} {a0 : Nat} {a1 : Int32} {I A : am_F} {G : am_G} : am_e 0 109 L (.int a1 :: .ref a0 :: []) I A G = am_k (am_e 132 0 [.ref a0, .int a1, .null, .null] [] I A G) (fun v I A G => am_e 0 112 L (am_push v []) I A G) := am_e_call (i := .invokestatic 57) (n := 3) (by decide +kernel) rfl rfl
theorem s_X0_blow_112 {l1 l2 l3 l4 l5 l6 : Value} {x : Nat} {S : List Value} {I A : am_F} {G : am_G} : am_e 0 112 [.ref x, l1, l2, l3, l4, l5, l6] S I A G = am_e 0 113 [.ref x, l1, l2, l3, l4, l5, l6] (.ref x :: S) I A G := am_e_go (i := .aload_n 0) (n := 1) (by decide +kernel) rfl rfl
theorem s_X0_blow_113 {L : List Value} {S : List Value} {I A : am_F} {G : am_G} : am_e 0 113 L (.ref 58 :: S) I A G = am_e 0 116 L (.ref 62 :: S) I A G := am_e_go (i := .getfield 21) (n := 3) (by decide +kernel) rfl rfl
theorem s_X0_blow_116 {L : List Value} {S : List Value} {I A : am_F} {G : am_G} : am_e 0 116 L S I A G = am_e 0 117 L (.int 0 :: S) I A G := am_e_go (i := .iconst 0) (n := 1) (by decide +kernel) rfl (by first | rfl | (show am_go _ _ _ (.int _ :: _) _ _ _ = am_go _ _ _ (.int _ :: _) _ _ _; congr 1 <;> decide))
theorem s_X0_blow_117 {L : List Value} {a0 : Nat} {a1 : Int32} {I A : am_F} {G : am_G} : am_e 0 117 L (.int a1 :: .ref a0 :: []) I A G = am_k (am_e 132 0 [.ref a0, .int a1, .null, .null] [] I A G) (fun v I A G => am_e 0 120 L (am_push v []) I A G) := am_e_call (i := .invokestatic 57) (n := 3) (by decide +kernel) rfl rfl
theorem s_X0_blow_120 {l1 l2 l3 l4 l5 l6 : Value} {x : Nat} {S : List Value} {I A : am_F} {G : am_G} : am_e 0 120 [.ref x, l1, l2, l3, l4, l5, l6] S I A G = am_e 0 121 [.ref x, l1, l2, l3, l4, l5, l6] (.ref x :: S) I A G := am_e_go (i := .aload_n 0) (n := 1) (by decide +kernel) rfl rfl
theorem s_X0_blow_121 {L : List Value} {I A : am_F} {G : am_G} : am_e 0 121 L (.ref 58 :: []) I A G = am_k (am_e 1 0 [.ref 58, .null, .null, .null] [] I A G) (fun v I A G => am_e 0 124 L (am_push v []) I A G) := am_e_call (i := .invokevirtual 63) (n := 3) (by decide +kernel) rfl rfl
theorem s_X0_blow_124 {l1 l2 l3 l4 l5 l6 : Value} {x : Nat} {S : List Value} {I A : am_F} {G : am_G} : am_e 0 124 [.ref x, l1, l2, l3, l4, l5, l6] S I A G = am_e 0 125 [.ref x, l1, l2, l3, l4, l5, l6] (.ref x :: S) I A G := am_e_go (i := .aload_n 0) (n := 1) (by decide +kernel) rfl rfl
theorem s_X0_blow_125 {L : List Value} {S : List Value} {I A : am_F} {G : am_G} : am_e 0 125 L (.ref 58 :: S) I A G = am_e 0 128 L (.ref 59 :: S) I A G := am_e_go (i := .getfield 9) (n := 3) (by decide +kernel) rfl rfl
theorem s_X0_blow_128 {L : List Value} {S : List Value} {I A : am_F} {G : am_G} : am_e 0 128 L S I A G = am_e 0 130 L (.int 8 :: S) I A G := am_e_go (i := .bipush 8) (n := 2) (by decide +kernel) rfl (by first | rfl | (show am_go _ _ _ (.int _ :: _) _ _ _ = am_go _ _ _ (.int _ :: _) _ _ _; congr 1 <;> decide))
theorem s_X0_blow_130 {l1 l2 l3 l4 l5 l6 : Value} {x : Nat} {S : List Value} {I A : am_F} {G : am_G} : am_e 0 130 [.ref x, l1, l2, l3, l4, l5, l6] S I A G = am_e 0 131 [.ref x, l1, l2, l3, l4, l5, l6] (.ref x :: S) I A G := am_e_go (i := .aload_n 0) (n := 1) (by decide +kernel) rfl rfl
theorem s_X0_blow_131 {L : List Value} {S : List Value} {I A : am_F} {G : am_G} : am_e 0 131 L (.ref 58 :: S) I A G = am_e 0 134 L (.ref 62 :: S) I A G := am_e_go (i := .getfield 21) (n := 3) (by decide +kernel) rfl rfl
theorem s_X0_blow_134 {L : List Value} {S : List Value} {I A : am_F} {G : am_G} : am_e 0 134 L S I A G = am_e 0 136 L (.int 8 :: S) I A G := am_e_go (i := .bipush 8) (n := 2) (by decide +kernel) rfl (by first | rfl | (show am_go _ _ _ (.int _ :: _) _ _ _ = am_go _ _ _ (.int _ :: _) _ _ _; congr 1 <;> decide))
theorem s_X0_blow_136 {L : List Value} {i : Int32} {a : Nat} {S : List Value} {I A : am_F} {G : am_G} : am_e 0 136 L (.int i :: .ref a :: S) I A G = if i < 0 ∨ am_len 86 false a ≤ i.toNatClampNeg then none else am_e 0 137 L (.int (A a i.toNatClampNeg) :: S) I A G := am_e_nif (i := .iaload) (n := 1) (by decide +kernel) rfl rfl
theorem s_X0_blow_137 {L : List Value} {i x : Int32} {a : Nat} {S : List Value} {I A : am_F} {G : am_G} : am_e 0 137 L (.int x :: .int i :: .ref a :: S) I A G = if i < 0 ∨ am_len 86 false a ≤ i.toNatClampNeg then none else am_e 0 138 L S I (am_u A a i.toNatClampNeg x) G := am_e_nif (i := .iastore) (n := 1) (by decide +kernel) rfl rfl
theorem s_X0_blow_138 {L : List Value} {S : List Value} {I A : am_F} {G : am_G} : am_e 0 138 L S I A G = am_e 0 139 L (.int 0 :: S) I A G := am_e_go (i := .iconst 0) (n := 1) (by decide +kernel) rfl (by first | rfl | (show am_go _ _ _ (.int _ :: _) _ _ _ = am_go _ _ _ (.int _ :: _) _ _ _; congr 1 <;> decide))
theorem s_X0_blow_139 {l0 l1 l2 l3 l4 l5 l6 : Value} {x : Int32} {S : List Value} {I A : am_F} {G : am_G} : am_e 0 139 [l0, l1, l2, l3, l4, l5, l6] (.int x :: S) I A G = am_e 0 141 [l0, l1, l2, l3, l4, .int x, l6] S I A G := am_e_go (i := .istore 5) (n := 2) (by decide +kernel) rfl rfl
theorem s_X0_blow_141 {l0 l1 l2 l3 l4 l6 : Value} {x : Int32} {S : List Value} {I A : am_F} {G : am_G} : am_e 0 141 [l0, l1, l2, l3, l4, .int x, l6] S I A G = am_e 0 143 [l0, l1, l2, l3, l4, .int x, l6] (.int x :: S) I A G := am_e_go (i := .iload 5) (n := 2) (by decide +kernel) rfl rfl
theorem s_X0_blow_143 {l1 l2 l3 l4 l5 l6 : Value} {x : Nat} {S : List Value} {I A : am_F} {G : am_G} : am_e 0 143 [.ref x, l1, l2, l3, l4, l5, l6] S I A G = am_e 0 144 [.ref x, l1, l2, l3, l4, l5, l6] (.ref x :: S) I A G := am_e_go (i := .aload_n 0) (n := 1) (by decide +kernel) rfl rfl
theorem s_X0_blow_144 {L : List Value} {S : List Value} {I A : am_F} {G : am_G} : am_e 0 144 L (.ref 58 :: S) I A G = am_e 0 147 L (.ref (G 58 4) :: S) I A G := am_e_go (i := .getfield 27) (n := 3) (by decide +kernel) rfl rfl
theorem s_X0_blow_147_at13 {L : List Value} {S : List Value} {I A : am_F} {G : am_G} : am_e 0 147 L (.ref 13 :: S) I A G = am_e 0 150 L (.int (I 13 3) :: S) I A G := am_e_go (i := .getfield 66) (n := 3) (by decide +kernel) rfl rfl
theorem s_X0_blow_147_at19 {L : List Value} {S : List Value} {I A : am_F} {G : am_G} : am_e 0 147 L (.ref 19 :: S) I A G = am_e 0 150 L (.int (I 19 3) :: S) I A G := am_e_go (i := .getfield 66) (n := 3) (by decide +kernel) rfl rfl
theorem s_X0_blow_147_at33 {L : List Value} {S : List Value} {I A : am_F} {G : am_G} : am_e 0 147 L (.ref 33 :: S) I A G = am_e 0 150 L (.int (I 33 3) :: S) I A G := am_e_go (i := .getfield 66) (n := 3) (by decide +kernel) rfl rfl
theorem s_X0_blow_147_at39 {L : List Value} {S : List Value} {I A : am_F} {G : am_G} : am_e 0 147 L (.ref 39 :: S) I A G = am_e 0 150 L (.int (I 39 3) :: S) I A G := am_e_go (i := .getfield 66) (n := 3) (by decide +kernel) rfl rfl
theorem s_X0_blow_150 {L : List Value} {x y : Int32} {S : List Value} {I A : am_F} {G : am_G} : am_e 0 150 L (.int y :: .int x :: S) I A G = if y ≤ x then am_e 0 165 L S I A G else am_e 0 153 L S I A G := am_e_if (i := .if_icmp .ge 15) (n := 3) (by decide +kernel) rfl rfl
theorem s_X0_blow_153 {l1 l2 l3 l4 l5 l6 : Value} {x : Nat} {S : List Value} {I A : am_F} {G : am_G} : am_e 0 153 [.ref x, l1, l2, l3, l4, l5, l6] S I A G = am_e 0 154 [.ref x, l1, l2, l3, l4, l5, l6] (.ref x :: S) I A G := am_e_go (i := .aload_n 0) (n := 1) (by decide +kernel) rfl rfl
theorem s_X0_blow_154 {l0 l1 l2 l3 l4 l6 : Value} {x : Int32} {S : List Value} {I A : am_F} {G : am_G} : am_e 0 154 [l0, l1, l2, l3, l4, .int x, l6] S I A G = am_e 0 156 [l0, l1, l2, l3, l4, .int x, l6] (.int x :: S) I A G := am_e_go (i := .iload 5) (n := 2) (by decide +kernel) rfl rfl
theorem s_X0_blow_156 {L : List Value} {a0 : Int32} {I A : am_F} {G : am_G} : am_e 0 156 L (.int a0 :: .ref 58 :: []) I A G = am_k (am_e 2 0 [.ref 58, .int a0, .null, .null, .null, .null, .null] [] I A G) (fun v I A G => am_e 0 159 L (am_push v []) I A G) := am_e_call (i := .invokevirtual 69) (n := 3) (by decide +kernel) rfl rfl
theorem s_X0_blow_159 {l0 l1 l2 l3 l4 l6 : Value} {x : Int32} {S : List Value} {I A : am_F} {G : am_G} : am_e 0 159 [l0, l1, l2, l3, l4, .int x, l6] S I A G = am_e 0 162 [l0, l1, l2, l3, l4, .int (x + 1), l6] S I A G := am_e_go (i := .iinc 5 1) (n := 3) (by decide +kernel) rfl (by first | rfl | (rw [show (1 : Int32) = Int32.ofInt 1 by decide]; rfl))
theorem s_X0_blow_162 {L : List Value} {S : List Value} {I A : am_F} {G : am_G} : am_e 0 162 L S I A G = am_e 0 141 L S I A G := am_e_go (i := .goto (-21)) (n := 3) (by decide +kernel) rfl rfl
theorem s_X0_blow_165 {L : List Value} {I A : am_F} {G : am_G} : am_e 0 165 L [] I A G = some (.null, I, A, G) := am_e_rt (i := .return_) (n := 1) (by decide +kernel) rfl rfl
theorem s_X0_shutDeadEnds_0 {L : List Value} {S : List Value} {I A : am_F} {G : am_G} : am_e 1 0 L S I A G = am_e 1 3 L (.int 256 :: S) I A G := am_e_go (i := .sipush 256) (n := 3) (by decide +kernel) rfl (by first | rfl | (show am_go _ _ _ (.int _ :: _) _ _ _ = am_go _ _ _ (.int _ :: _) _ _ _; congr 1 <;> decide))
theorem s_X0_shutDeadEnds_3 {l0 l1 l2 l3 : Value} {x : Int32} {S : List Value} {I A : am_F} {G : am_G} : am_e 1 3 [l0, l1, l2, l3] (.int x :: S) I A G = am_e 1 4 [l0, .int x, l2, l3] S I A G := am_e_go (i := .istore_n 1) (n := 1) (by decide +kernel) rfl rfl
theorem s_X0_shutDeadEnds_4 {l1 l2 l3 : Value} {x : Nat} {S : List Value} {I A : am_F} {G : am_G} : am_e 1 4 [.ref x, l1, l2, l3] S I A G = am_e 1 5 [.ref x, l1, l2, l3] (.ref x :: S) I A G := am_e_go (i := .aload_n 0) (n := 1) (by decide +kernel) rfl rfl
theorem s_X0_shutDeadEnds_5 {L : List Value} {S : List Value} {I A : am_F} {G : am_G} : am_e 1 5 L (.ref 58 :: S) I A G = am_e 1 8 L (.ref (G 58 4) :: S) I A G := am_e_go (i := .getfield 27) (n := 3) (by decide +kernel) rfl rfl
theorem s_X0_shutDeadEnds_8_at13 {L : List Value} {S : List Value} {I A : am_F} {G : am_G} : am_e 1 8 L (.ref 13 :: S) I A G = am_e 1 11 L (.int (I 13 6) :: S) I A G := am_e_go (i := .getfield 73) (n := 3) (by decide +kernel) rfl rfl
theorem s_X0_shutDeadEnds_8_at19 {L : List Value} {S : List Value} {I A : am_F} {G : am_G} : am_e 1 8 L (.ref 19 :: S) I A G = am_e 1 11 L (.int (I 19 6) :: S) I A G := am_e_go (i := .getfield 73) (n := 3) (by decide +kernel) rfl rfl
theorem s_X0_shutDeadEnds_8_at33 {L : List Value} {S : List Value} {I A : am_F} {G : am_G} : am_e 1 8 L (.ref 33 :: S) I A G = am_e 1 11 L (.int (I 33 6) :: S) I A G := am_e_go (i := .getfield 73) (n := 3) (by decide +kernel) rfl rfl
theorem s_X0_shutDeadEnds_8_at39 {L : List Value} {S : List Value} {I A : am_F} {G : am_G} : am_e 1 8 L (.ref 39 :: S) I A G = am_e 1 11 L (.int (I 39 6) :: S) I A G := am_e_go (i := .getfield 73) (n := 3) (by decide +kernel) rfl rfl
theorem s_X0_shutDeadEnds_11 {L : List Value} {S : List Value} {I A : am_F} {G : am_G} : am_e 1 11 L S I A G = am_e 1 12 L (.int 1 :: S) I A G := am_e_go (i := .iconst 1) (n := 1) (by decide +kernel) rfl (by first | rfl | (show am_go _ _ _ (.int _ :: _) _ _ _ = am_go _ _ _ (.int _ :: _) _ _ _; congr 1 <;> decide))
theorem s_X0_shutDeadEnds_12 {L : List Value} {x y : Int32} {S : List Value} {I A : am_F} {G : am_G} : am_e 1 12 L (.int y :: .int x :: S) I A G = am_e 1 13 L (.int (x - y) :: S) I A G := am_e_go (i := .isub) (n := 1) (by decide +kernel) rfl rfl
theorem s_X0_shutDeadEnds_13 {l0 l1 l2 l3 : Value} {x : Int32} {S : List Value} {I A : am_F} {G : am_G} : am_e 1 13 [l0, l1, l2, l3] (.int x :: S) I A G = am_e 1 14 [l0, l1, .int x, l3] S I A G := am_e_go (i := .istore_n 2) (n := 1) (by decide +kernel) rfl rfl
theorem s_X0_shutDeadEnds_14 {l0 l1 l3 : Value} {x : Int32} {S : List Value} {I A : am_F} {G : am_G} : am_e 1 14 [l0, l1, .int x, l3] S I A G = am_e 1 15 [l0, l1, .int x, l3] (.int x :: S) I A G := am_e_go (i := .iload_n 2) (n := 1) (by decide +kernel) rfl rfl
theorem s_X0_shutDeadEnds_15 {L : List Value} {x : Int32} {S : List Value} {I A : am_F} {G : am_G} : am_e 1 15 L (.int x :: S) I A G = if x < 0 then am_e 1 106 L S I A G else am_e 1 18 L S I A G := am_e_if (i := .ifCond .lt 91) (n := 3) (by decide +kernel) rfl rfl
theorem s_X0_shutDeadEnds_18 {l1 l2 l3 : Value} {x : Nat} {S : List Value} {I A : am_F} {G : am_G} : am_e 1 18 [.ref x, l1, l2, l3] S I A G = am_e 1 19 [.ref x, l1, l2, l3] (.ref x :: S) I A G := am_e_go (i := .aload_n 0) (n := 1) (by decide +kernel) rfl rfl
theorem s_X0_shutDeadEnds_19 {L : List Value} {S : List Value} {I A : am_F} {G : am_G} : am_e 1 19 L (.ref 58 :: S) I A G = am_e 1 22 L (.ref (G 58 4) :: S) I A G := am_e_go (i := .getfield 27) (n := 3) (by decide +kernel) rfl rfl
theorem s_X0_shutDeadEnds_22_at13 {L : List Value} {S : List Value} {I A : am_F} {G : am_G} : am_e 1 22 L (.ref 13 :: S) I A G = am_e 1 25 L (.ref 17 :: S) I A G := am_e_go (i := .getfield 74) (n := 3) (by decide +kernel) rfl rfl
theorem s_X0_shutDeadEnds_22_at19 {L : List Value} {S : List Value} {I A : am_F} {G : am_G} : am_e 1 22 L (.ref 19 :: S) I A G = am_e 1 25 L (.ref 23 :: S) I A G := am_e_go (i := .getfield 74) (n := 3) (by decide +kernel) rfl rfl
theorem s_X0_shutDeadEnds_22_at33 {L : List Value} {S : List Value} {I A : am_F} {G : am_G} : am_e 1 22 L (.ref 33 :: S) I A G = am_e 1 25 L (.ref 37 :: S) I A G := am_e_go (i := .getfield 74) (n := 3) (by decide +kernel) rfl rfl
theorem s_X0_shutDeadEnds_22_at39 {L : List Value} {S : List Value} {I A : am_F} {G : am_G} : am_e 1 22 L (.ref 39 :: S) I A G = am_e 1 25 L (.ref 43 :: S) I A G := am_e_go (i := .getfield 74) (n := 3) (by decide +kernel) rfl rfl
theorem s_X0_shutDeadEnds_25 {l0 l1 l3 : Value} {x : Int32} {S : List Value} {I A : am_F} {G : am_G} : am_e 1 25 [l0, l1, .int x, l3] S I A G = am_e 1 26 [l0, l1, .int x, l3] (.int x :: S) I A G := am_e_go (i := .iload_n 2) (n := 1) (by decide +kernel) rfl rfl
theorem s_X0_shutDeadEnds_26 {L : List Value} {i : Int32} {a : Nat} {S : List Value} {I A : am_F} {G : am_G} : am_e 1 26 L (.int i :: .ref a :: S) I A G = if i < 0 ∨ am_len 86 false a ≤ i.toNatClampNeg then none else am_e 1 27 L (.int (A a i.toNatClampNeg) :: S) I A G := am_e_nif (i := .iaload) (n := 1) (by decide +kernel) rfl rfl
theorem s_X0_shutDeadEnds_27 {l0 l1 l2 l3 : Value} {x : Int32} {S : List Value} {I A : am_F} {G : am_G} : am_e 1 27 [l0, l1, l2, l3] (.int x :: S) I A G = am_e 1 28 [l0, l1, l2, .int x] S I A G := am_e_go (i := .istore_n 3) (n := 1) (by decide +kernel) rfl rfl
theorem s_X0_shutDeadEnds_28 {l0 l2 l3 : Value} {x : Int32} {S : List Value} {I A : am_F} {G : am_G} : am_e 1 28 [l0, .int x, l2, l3] S I A G = am_e 1 29 [l0, .int x, l2, l3] (.int x :: S) I A G := am_e_go (i := .iload_n 1) (n := 1) (by decide +kernel) rfl rfl
theorem s_X0_shutDeadEnds_29 {l1 l2 l3 : Value} {x : Nat} {S : List Value} {I A : am_F} {G : am_G} : am_e 1 29 [.ref x, l1, l2, l3] S I A G = am_e 1 30 [.ref x, l1, l2, l3] (.ref x :: S) I A G := am_e_go (i := .aload_n 0) (n := 1) (by decide +kernel) rfl rfl
theorem s_X0_shutDeadEnds_30 {L : List Value} {S : List Value} {I A : am_F} {G : am_G} : am_e 1 30 L (.ref 58 :: S) I A G = am_e 1 33 L (.ref (G 58 4) :: S) I A G := am_e_go (i := .getfield 27) (n := 3) (by decide +kernel) rfl rfl
theorem s_X0_shutDeadEnds_33_at13 {L : List Value} {S : List Value} {I A : am_F} {G : am_G} : am_e 1 33 L (.ref 13 :: S) I A G = am_e 1 36 L (.ref 15 :: S) I A G := am_e_go (i := .getfield 77) (n := 3) (by decide +kernel) rfl rfl
theorem s_X0_shutDeadEnds_33_at19 {L : List Value} {S : List Value} {I A : am_F} {G : am_G} : am_e 1 33 L (.ref 19 :: S) I A G = am_e 1 36 L (.ref 21 :: S) I A G := am_e_go (i := .getfield 77) (n := 3) (by decide +kernel) rfl rfl
theorem s_X0_shutDeadEnds_33_at33 {L : List Value} {S : List Value} {I A : am_F} {G : am_G} : am_e 1 33 L (.ref 33 :: S) I A G = am_e 1 36 L (.ref 35 :: S) I A G := am_e_go (i := .getfield 77) (n := 3) (by decide +kernel) rfl rfl
theorem s_X0_shutDeadEnds_33_at39 {L : List Value} {S : List Value} {I A : am_F} {G : am_G} : am_e 1 33 L (.ref 39 :: S) I A G = am_e 1 36 L (.ref 41 :: S) I A G := am_e_go (i := .getfield 77) (n := 3) (by decide +kernel) rfl rfl
theorem s_X0_shutDeadEnds_36 {l0 l1 l2 : Value} {x : Int32} {S : List Value} {I A : am_F} {G : am_G} : am_e 1 36 [l0, l1, l2, .int x] S I A G = am_e 1 37 [l0, l1, l2, .int x] (.int x :: S) I A G := am_e_go (i := .iload_n 3) (n := 1) (by decide +kernel) rfl rfl
theorem s_X0_shutDeadEnds_37 {L : List Value} {i : Int32} {a : Nat} {S : List Value} {I A : am_F} {G : am_G} : am_e 1 37 L (.int i :: .ref a :: S) I A G = if i < 0 ∨ am_len 86 false a ≤ i.toNatClampNeg then none else am_e 1 38 L (.int (A a i.toNatClampNeg) :: S) I A G := am_e_nif (i := .iaload) (n := 1) (by decide +kernel) rfl rfl
theorem s_X0_shutDeadEnds_38 {L : List Value} {a0 : Int32} {a1 : Int32} {I A : am_F} {G : am_G} : am_e 1 38 L (.int a1 :: .int a0 :: []) I A G = am_k (am_e 64 0 [.int a0, .int a1] [] I A G) (fun v I A G => am_e 1 41 L (am_push v []) I A G) := am_e_call (i := .invokestatic 46) (n := 3) (by decide +kernel) rfl rfl
theorem s_X0_shutDeadEnds_41 {L : List Value} {x : Int32} {S : List Value} {I A : am_F} {G : am_G} : am_e 1 41 L (.int x :: S) I A G = if x = 0 then am_e 1 44 L S I A G else am_e 1 54 L S I A G := am_e_if (i := .ifCond .ne 13) (n := 3) (by decide +kernel) rfl rfl
theorem s_X0_shutDeadEnds_44 {l1 l2 l3 : Value} {x : Nat} {S : List Value} {I A : am_F} {G : am_G} : am_e 1 44 [.ref x, l1, l2, l3] S I A G = am_e 1 45 [.ref x, l1, l2, l3] (.ref x :: S) I A G := am_e_go (i := .aload_n 0) (n := 1) (by decide +kernel) rfl rfl
theorem s_X0_shutDeadEnds_45 {L : List Value} {S : List Value} {I A : am_F} {G : am_G} : am_e 1 45 L (.ref 58 :: S) I A G = am_e 1 48 L (.ref 61 :: S) I A G := am_e_go (i := .getfield 18) (n := 3) (by decide +kernel) rfl rfl
theorem s_X0_shutDeadEnds_48 {l0 l1 l2 : Value} {x : Int32} {S : List Value} {I A : am_F} {G : am_G} : am_e 1 48 [l0, l1, l2, .int x] S I A G = am_e 1 49 [l0, l1, l2, .int x] (.int x :: S) I A G := am_e_go (i := .iload_n 3) (n := 1) (by decide +kernel) rfl rfl
theorem s_X0_shutDeadEnds_49 {L : List Value} {S : List Value} {I A : am_F} {G : am_G} : am_e 1 49 L S I A G = am_e 1 50 L (.int 0 :: S) I A G := am_e_go (i := .iconst 0) (n := 1) (by decide +kernel) rfl (by first | rfl | (show am_go _ _ _ (.int _ :: _) _ _ _ = am_go _ _ _ (.int _ :: _) _ _ _; congr 1 <;> decide))
theorem s_X0_shutDeadEnds_50 {L : List Value} {i x : Int32} {a : Nat} {S : List Value} {I A : am_F} {G : am_G} : am_e 1 50 L (.int x :: .int i :: .ref a :: S) I A G = if i < 0 ∨ am_len 86 false a ≤ i.toNatClampNeg then none else am_e 1 51 L S I (am_u A a i.toNatClampNeg x) G := am_e_nif (i := .iastore) (n := 1) (by decide +kernel) rfl rfl
theorem s_X0_shutDeadEnds_51 {L : List Value} {S : List Value} {I A : am_F} {G : am_G} : am_e 1 51 L S I A G = am_e 1 100 L S I A G := am_e_go (i := .goto 49) (n := 3) (by decide +kernel) rfl rfl
theorem s_X0_shutDeadEnds_54 {l1 l2 l3 : Value} {x : Nat} {S : List Value} {I A : am_F} {G : am_G} : am_e 1 54 [.ref x, l1, l2, l3] S I A G = am_e 1 55 [.ref x, l1, l2, l3] (.ref x :: S) I A G := am_e_go (i := .aload_n 0) (n := 1) (by decide +kernel) rfl rfl
theorem s_X0_shutDeadEnds_55 {L : List Value} {S : List Value} {I A : am_F} {G : am_G} : am_e 1 55 L (.ref 58 :: S) I A G = am_e 1 58 L (.ref 61 :: S) I A G := am_e_go (i := .getfield 18) (n := 3) (by decide +kernel) rfl rfl
theorem s_X0_shutDeadEnds_58 {l0 l1 l2 : Value} {x : Int32} {S : List Value} {I A : am_F} {G : am_G} : am_e 1 58 [l0, l1, l2, .int x] S I A G = am_e 1 59 [l0, l1, l2, .int x] (.int x :: S) I A G := am_e_go (i := .iload_n 3) (n := 1) (by decide +kernel) rfl rfl
theorem s_X0_shutDeadEnds_59 {L : List Value} {i : Int32} {a : Nat} {S : List Value} {I A : am_F} {G : am_G} : am_e 1 59 L (.int i :: .ref a :: S) I A G = if i < 0 ∨ am_len 86 false a ≤ i.toNatClampNeg then none else am_e 1 60 L (.int (A a i.toNatClampNeg) :: S) I A G := am_e_nif (i := .iaload) (n := 1) (by decide +kernel) rfl rfl
theorem s_X0_shutDeadEnds_60 {L : List Value} {x : Int32} {S : List Value} {I A : am_F} {G : am_G} : am_e 1 60 L (.int x :: S) I A G = if x ≤ 0 then am_e 1 100 L S I A G else am_e 1 63 L S I A G := am_e_if (i := .ifCond .le 40) (n := 3) (by decide +kernel) rfl rfl
theorem s_X0_shutDeadEnds_63 {l0 l2 l3 : Value} {x : Int32} {S : List Value} {I A : am_F} {G : am_G} : am_e 1 63 [l0, .int x, l2, l3] S I A G = am_e 1 64 [l0, .int x, l2, l3] (.int x :: S) I A G := am_e_go (i := .iload_n 1) (n := 1) (by decide +kernel) rfl rfl
theorem s_X0_shutDeadEnds_64 {L : List Value} {S : List Value} {I A : am_F} {G : am_G} : am_e 1 64 L S I A G = am_e 1 65 L (.int 1 :: S) I A G := am_e_go (i := .iconst 1) (n := 1) (by decide +kernel) rfl (by first | rfl | (show am_go _ _ _ (.int _ :: _) _ _ _ = am_go _ _ _ (.int _ :: _) _ _ _; congr 1 <;> decide))
theorem s_X0_shutDeadEnds_65 {l1 l2 l3 : Value} {x : Nat} {S : List Value} {I A : am_F} {G : am_G} : am_e 1 65 [.ref x, l1, l2, l3] S I A G = am_e 1 66 [.ref x, l1, l2, l3] (.ref x :: S) I A G := am_e_go (i := .aload_n 0) (n := 1) (by decide +kernel) rfl rfl
theorem s_X0_shutDeadEnds_66 {L : List Value} {S : List Value} {I A : am_F} {G : am_G} : am_e 1 66 L (.ref 58 :: S) I A G = am_e 1 69 L (.ref (G 58 4) :: S) I A G := am_e_go (i := .getfield 27) (n := 3) (by decide +kernel) rfl rfl
theorem s_X0_shutDeadEnds_69_at13 {L : List Value} {S : List Value} {I A : am_F} {G : am_G} : am_e 1 69 L (.ref 13 :: S) I A G = am_e 1 72 L (.ref 14 :: S) I A G := am_e_go (i := .getfield 80) (n := 3) (by decide +kernel) rfl rfl
theorem s_X0_shutDeadEnds_69_at19 {L : List Value} {S : List Value} {I A : am_F} {G : am_G} : am_e 1 69 L (.ref 19 :: S) I A G = am_e 1 72 L (.ref 20 :: S) I A G := am_e_go (i := .getfield 80) (n := 3) (by decide +kernel) rfl rfl
theorem s_X0_shutDeadEnds_69_at33 {L : List Value} {S : List Value} {I A : am_F} {G : am_G} : am_e 1 69 L (.ref 33 :: S) I A G = am_e 1 72 L (.ref 34 :: S) I A G := am_e_go (i := .getfield 80) (n := 3) (by decide +kernel) rfl rfl
theorem s_X0_shutDeadEnds_69_at39 {L : List Value} {S : List Value} {I A : am_F} {G : am_G} : am_e 1 69 L (.ref 39 :: S) I A G = am_e 1 72 L (.ref 40 :: S) I A G := am_e_go (i := .getfield 80) (n := 3) (by decide +kernel) rfl rfl
theorem s_X0_shutDeadEnds_72 {l0 l1 l2 : Value} {x : Int32} {S : List Value} {I A : am_F} {G : am_G} : am_e 1 72 [l0, l1, l2, .int x] S I A G = am_e 1 73 [l0, l1, l2, .int x] (.int x :: S) I A G := am_e_go (i := .iload_n 3) (n := 1) (by decide +kernel) rfl rfl
theorem s_X0_shutDeadEnds_73 {L : List Value} {i : Int32} {a : Nat} {S : List Value} {I A : am_F} {G : am_G} : am_e 1 73 L (.int i :: .ref a :: S) I A G = if i < 0 ∨ am_len 86 false a ≤ i.toNatClampNeg then none else am_e 1 74 L (.int (A a i.toNatClampNeg) :: S) I A G := am_e_nif (i := .iaload) (n := 1) (by decide +kernel) rfl rfl
theorem s_X0_shutDeadEnds_74 {L : List Value} {x y : Int32} {S : List Value} {I A : am_F} {G : am_G} : am_e 1 74 L (.int y :: .int x :: S) I A G = am_e 1 75 L (.int (x <<< (y &&& 31)) :: S) I A G := am_e_go (i := .ishl) (n := 1) (by decide +kernel) rfl rfl
theorem s_X0_shutDeadEnds_75 {L : List Value} {x y : Int32} {S : List Value} {I A : am_F} {G : am_G} : am_e 1 75 L (.int y :: .int x :: S) I A G = am_e 1 76 L (.int (x ||| y) :: S) I A G := am_e_go (i := .ior) (n := 1) (by decide +kernel) rfl rfl
theorem s_X0_shutDeadEnds_76 {l0 l1 l2 l3 : Value} {x : Int32} {S : List Value} {I A : am_F} {G : am_G} : am_e 1 76 [l0, l1, l2, l3] (.int x :: S) I A G = am_e 1 77 [l0, .int x, l2, l3] S I A G := am_e_go (i := .istore_n 1) (n := 1) (by decide +kernel) rfl rfl
theorem s_X0_shutDeadEnds_77 {l1 l2 l3 : Value} {x : Nat} {S : List Value} {I A : am_F} {G : am_G} : am_e 1 77 [.ref x, l1, l2, l3] S I A G = am_e 1 78 [.ref x, l1, l2, l3] (.ref x :: S) I A G := am_e_go (i := .aload_n 0) (n := 1) (by decide +kernel) rfl rfl
theorem s_X0_shutDeadEnds_78 {L : List Value} {S : List Value} {I A : am_F} {G : am_G} : am_e 1 78 L (.ref 58 :: S) I A G = am_e 1 81 L (.ref 62 :: S) I A G := am_e_go (i := .getfield 21) (n := 3) (by decide +kernel) rfl rfl
theorem s_X0_shutDeadEnds_81 {l1 l2 l3 : Value} {x : Nat} {S : List Value} {I A : am_F} {G : am_G} : am_e 1 81 [.ref x, l1, l2, l3] S I A G = am_e 1 82 [.ref x, l1, l2, l3] (.ref x :: S) I A G := am_e_go (i := .aload_n 0) (n := 1) (by decide +kernel) rfl rfl
theorem s_X0_shutDeadEnds_82 {L : List Value} {S : List Value} {I A : am_F} {G : am_G} : am_e 1 82 L (.ref 58 :: S) I A G = am_e 1 85 L (.ref (G 58 4) :: S) I A G := am_e_go (i := .getfield 27) (n := 3) (by decide +kernel) rfl rfl
theorem s_X0_shutDeadEnds_85_at13 {L : List Value} {S : List Value} {I A : am_F} {G : am_G} : am_e 1 85 L (.ref 13 :: S) I A G = am_e 1 88 L (.ref 14 :: S) I A G := am_e_go (i := .getfield 80) (n := 3) (by decide +kernel) rfl rfl
theorem s_X0_shutDeadEnds_85_at19 {L : List Value} {S : List Value} {I A : am_F} {G : am_G} : am_e 1 85 L (.ref 19 :: S) I A G = am_e 1 88 L (.ref 20 :: S) I A G := am_e_go (i := .getfield 80) (n := 3) (by decide +kernel) rfl rfl
theorem s_X0_shutDeadEnds_85_at33 {L : List Value} {S : List Value} {I A : am_F} {G : am_G} : am_e 1 85 L (.ref 33 :: S) I A G = am_e 1 88 L (.ref 34 :: S) I A G := am_e_go (i := .getfield 80) (n := 3) (by decide +kernel) rfl rfl
theorem s_X0_shutDeadEnds_85_at39 {L : List Value} {S : List Value} {I A : am_F} {G : am_G} : am_e 1 85 L (.ref 39 :: S) I A G = am_e 1 88 L (.ref 40 :: S) I A G := am_e_go (i := .getfield 80) (n := 3) (by decide +kernel) rfl rfl
theorem s_X0_shutDeadEnds_88 {l0 l1 l2 : Value} {x : Int32} {S : List Value} {I A : am_F} {G : am_G} : am_e 1 88 [l0, l1, l2, .int x] S I A G = am_e 1 89 [l0, l1, l2, .int x] (.int x :: S) I A G := am_e_go (i := .iload_n 3) (n := 1) (by decide +kernel) rfl rfl
theorem s_X0_shutDeadEnds_89 {L : List Value} {i : Int32} {a : Nat} {S : List Value} {I A : am_F} {G : am_G} : am_e 1 89 L (.int i :: .ref a :: S) I A G = if i < 0 ∨ am_len 86 false a ≤ i.toNatClampNeg then none else am_e 1 90 L (.int (A a i.toNatClampNeg) :: S) I A G := am_e_nif (i := .iaload) (n := 1) (by decide +kernel) rfl rfl
theorem s_X0_shutDeadEnds_90 {L : List Value} {y : Int32} {x : Nat} {S : List Value} {I A : am_F} {G : am_G} : am_e 1 90 L (.int y :: .ref x :: S) I A G = am_e 1 91 L (.int y :: .ref x :: .int y :: .ref x :: S) I A G := am_e_go (i := .dup2) (n := 1) (by decide +kernel) rfl rfl
theorem s_X0_shutDeadEnds_91 {L : List Value} {i : Int32} {a : Nat} {S : List Value} {I A : am_F} {G : am_G} : am_e 1 91 L (.int i :: .ref a :: S) I A G = if i < 0 ∨ am_len 86 false a ≤ i.toNatClampNeg then none else am_e 1 92 L (.int (A a i.toNatClampNeg) :: S) I A G := am_e_nif (i := .iaload) (n := 1) (by decide +kernel) rfl rfl
theorem s_X0_shutDeadEnds_92 {l1 l2 l3 : Value} {x : Nat} {S : List Value} {I A : am_F} {G : am_G} : am_e 1 92 [.ref x, l1, l2, l3] S I A G = am_e 1 93 [.ref x, l1, l2, l3] (.ref x :: S) I A G := am_e_go (i := .aload_n 0) (n := 1) (by decide +kernel) rfl rfl
theorem s_X0_shutDeadEnds_93 {L : List Value} {S : List Value} {I A : am_F} {G : am_G} : am_e 1 93 L (.ref 58 :: S) I A G = am_e 1 96 L (.ref 61 :: S) I A G := am_e_go (i := .getfield 18) (n := 3) (by decide +kernel) rfl rfl
theorem s_X0_shutDeadEnds_96 {l0 l1 l2 : Value} {x : Int32} {S : List Value} {I A : am_F} {G : am_G} : am_e 1 96 [l0, l1, l2, .int x] S I A G = am_e 1 97 [l0, l1, l2, .int x] (.int x :: S) I A G := am_e_go (i := .iload_n 3) (n := 1) (by decide +kernel) rfl rfl
theorem s_X0_shutDeadEnds_97 {L : List Value} {i : Int32} {a : Nat} {S : List Value} {I A : am_F} {G : am_G} : am_e 1 97 L (.int i :: .ref a :: S) I A G = if i < 0 ∨ am_len 86 false a ≤ i.toNatClampNeg then none else am_e 1 98 L (.int (A a i.toNatClampNeg) :: S) I A G := am_e_nif (i := .iaload) (n := 1) (by decide +kernel) rfl rfl
theorem s_X0_shutDeadEnds_98 {L : List Value} {x y : Int32} {S : List Value} {I A : am_F} {G : am_G} : am_e 1 98 L (.int y :: .int x :: S) I A G = am_e 1 99 L (.int (x + y) :: S) I A G := am_e_go (i := .iadd) (n := 1) (by decide +kernel) rfl rfl
theorem s_X0_shutDeadEnds_99 {L : List Value} {i x : Int32} {a : Nat} {S : List Value} {I A : am_F} {G : am_G} : am_e 1 99 L (.int x :: .int i :: .ref a :: S) I A G = if i < 0 ∨ am_len 86 false a ≤ i.toNatClampNeg then none else am_e 1 100 L S I (am_u A a i.toNatClampNeg x) G := am_e_nif (i := .iastore) (n := 1) (by decide +kernel) rfl rfl
theorem s_X0_shutDeadEnds_100 {l0 l1 l3 : Value} {x : Int32} {S : List Value} {I A : am_F} {G : am_G} : am_e 1 100 [l0, l1, .int x, l3] S I A G = am_e 1 103 [l0, l1, .int (x + (-1)), l3] S I A G := am_e_go (i := .iinc 2 (-1)) (n := 3) (by decide +kernel) rfl (by first | rfl | (rw [show ((-1) : Int32) = Int32.ofInt (-1) by decide]; rfl))
theorem s_X0_shutDeadEnds_103 {L : List Value} {S : List Value} {I A : am_F} {G : am_G} : am_e 1 103 L S I A G = am_e 1 14 L S I A G := am_e_go (i := .goto (-89)) (n := 3) (by decide +kernel) rfl rfl
theorem s_X0_shutDeadEnds_106 {L : List Value} {I A : am_F} {G : am_G} : am_e 1 106 L [] I A G = some (.null, I, A, G) := am_e_rt (i := .return_) (n := 1) (by decide +kernel) rfl rfl
theorem s_X0_handOn_0 {l1 l2 l3 l4 l5 l6 : Value} {x : Nat} {S : List Value} {I A : am_F} {G : am_G} : am_e 2 0 [.ref x, l1, l2, l3, l4, l5, l6] S I A G = am_e 2 1 [.ref x, l1, l2, l3, l4, l5, l6] (.ref x :: S) I A G := am_e_go (i := .aload_n 0) (n := 1) (by decide +kernel) rfl rfl
theorem s_X0_handOn_1 {L : List Value} {S : List Value} {I A : am_F} {G : am_G} : am_e 2 1 L (.ref 58 :: S) I A G = am_e 2 4 L (.ref (G 58 4) :: S) I A G := am_e_go (i := .getfield 27) (n := 3) (by decide +kernel) rfl rfl
theorem s_X0_handOn_4_at13 {L : List Value} {S : List Value} {I A : am_F} {G : am_G} : am_e 2 4 L (.ref 13 :: S) I A G = am_e 2 7 L (.ref 16 :: S) I A G := am_e_go (i := .getfield 83) (n := 3) (by decide +kernel) rfl rfl
theorem s_X0_handOn_4_at19 {L : List Value} {S : List Value} {I A : am_F} {G : am_G} : am_e 2 4 L (.ref 19 :: S) I A G = am_e 2 7 L (.ref 22 :: S) I A G := am_e_go (i := .getfield 83) (n := 3) (by decide +kernel) rfl rfl
theorem s_X0_handOn_4_at33 {L : List Value} {S : List Value} {I A : am_F} {G : am_G} : am_e 2 4 L (.ref 33 :: S) I A G = am_e 2 7 L (.ref 36 :: S) I A G := am_e_go (i := .getfield 83) (n := 3) (by decide +kernel) rfl rfl
theorem s_X0_handOn_4_at39 {L : List Value} {S : List Value} {I A : am_F} {G : am_G} : am_e 2 4 L (.ref 39 :: S) I A G = am_e 2 7 L (.ref 42 :: S) I A G := am_e_go (i := .getfield 83) (n := 3) (by decide +kernel) rfl rfl
theorem s_X0_handOn_7 {l0 l2 l3 l4 l5 l6 : Value} {x : Int32} {S : List Value} {I A : am_F} {G : am_G} : am_e 2 7 [l0, .int x, l2, l3, l4, l5, l6] S I A G = am_e 2 8 [l0, .int x, l2, l3, l4, l5, l6] (.int x :: S) I A G := am_e_go (i := .iload_n 1) (n := 1) (by decide +kernel) rfl rfl
theorem s_X0_handOn_8 {L : List Value} {i : Int32} {a : Nat} {S : List Value} {I A : am_F} {G : am_G} : am_e 2 8 L (.int i :: .ref a :: S) I A G = if i < 0 ∨ am_len 86 false a ≤ i.toNatClampNeg then none else am_e 2 9 L (.int (A a i.toNatClampNeg) :: S) I A G := am_e_nif (i := .iaload) (n := 1) (by decide +kernel) rfl rfl
theorem s_X0_handOn_9 {l0 l1 l2 l3 l4 l5 l6 : Value} {x : Int32} {S : List Value} {I A : am_F} {G : am_G} : am_e 2 9 [l0, l1, l2, l3, l4, l5, l6] (.int x :: S) I A G = am_e 2 10 [l0, l1, .int x, l3, l4, l5, l6] S I A G := am_e_go (i := .istore_n 2) (n := 1) (by decide +kernel) rfl rfl
theorem s_X0_handOn_10 {l0 l2 l3 l4 l5 l6 : Value} {x : Int32} {S : List Value} {I A : am_F} {G : am_G} : am_e 2 10 [l0, .int x, l2, l3, l4, l5, l6] S I A G = am_e 2 11 [l0, .int x, l2, l3, l4, l5, l6] (.int x :: S) I A G := am_e_go (i := .iload_n 1) (n := 1) (by decide +kernel) rfl rfl
theorem s_X0_handOn_11 {L : List Value} {x : Int32} {S : List Value} {I A : am_F} {G : am_G} : am_e 2 11 L (.int x :: S) I A G = if x = 0 then am_e 2 14 L S I A G else am_e 2 18 L S I A G := am_e_if (i := .ifCond .ne 7) (n := 3) (by decide +kernel) rfl rfl
theorem s_X0_handOn_14 {L : List Value} {S : List Value} {I A : am_F} {G : am_G} : am_e 2 14 L S I A G = am_e 2 15 L (.int 0 :: S) I A G := am_e_go (i := .iconst 0) (n := 1) (by decide +kernel) rfl (by first | rfl | (show am_go _ _ _ (.int _ :: _) _ _ _ = am_go _ _ _ (.int _ :: _) _ _ _; congr 1 <;> decide))
theorem s_X0_handOn_15 {L : List Value} {S : List Value} {I A : am_F} {G : am_G} : am_e 2 15 L S I A G = am_e 2 29 L S I A G := am_e_go (i := .goto 14) (n := 3) (by decide +kernel) rfl rfl
theorem s_X0_handOn_18 {l1 l2 l3 l4 l5 l6 : Value} {x : Nat} {S : List Value} {I A : am_F} {G : am_G} : am_e 2 18 [.ref x, l1, l2, l3, l4, l5, l6] S I A G = am_e 2 19 [.ref x, l1, l2, l3, l4, l5, l6] (.ref x :: S) I A G := am_e_go (i := .aload_n 0) (n := 1) (by decide +kernel) rfl rfl
theorem s_X0_handOn_19 {L : List Value} {S : List Value} {I A : am_F} {G : am_G} : am_e 2 19 L (.ref 58 :: S) I A G = am_e 2 22 L (.ref (G 58 4) :: S) I A G := am_e_go (i := .getfield 27) (n := 3) (by decide +kernel) rfl rfl
theorem s_X0_handOn_22_at13 {L : List Value} {S : List Value} {I A : am_F} {G : am_G} : am_e 2 22 L (.ref 13 :: S) I A G = am_e 2 25 L (.ref 18 :: S) I A G := am_e_go (i := .getfield 86) (n := 3) (by decide +kernel) rfl rfl
theorem s_X0_handOn_22_at19 {L : List Value} {S : List Value} {I A : am_F} {G : am_G} : am_e 2 22 L (.ref 19 :: S) I A G = am_e 2 25 L (.ref 24 :: S) I A G := am_e_go (i := .getfield 86) (n := 3) (by decide +kernel) rfl rfl
theorem s_X0_handOn_22_at33 {L : List Value} {S : List Value} {I A : am_F} {G : am_G} : am_e 2 22 L (.ref 33 :: S) I A G = am_e 2 25 L (.ref 38 :: S) I A G := am_e_go (i := .getfield 86) (n := 3) (by decide +kernel) rfl rfl
theorem s_X0_handOn_22_at39 {L : List Value} {S : List Value} {I A : am_F} {G : am_G} : am_e 2 22 L (.ref 39 :: S) I A G = am_e 2 25 L (.ref 44 :: S) I A G := am_e_go (i := .getfield 86) (n := 3) (by decide +kernel) rfl rfl
theorem s_X0_handOn_25 {l0 l2 l3 l4 l5 l6 : Value} {x : Int32} {S : List Value} {I A : am_F} {G : am_G} : am_e 2 25 [l0, .int x, l2, l3, l4, l5, l6] S I A G = am_e 2 26 [l0, .int x, l2, l3, l4, l5, l6] (.int x :: S) I A G := am_e_go (i := .iload_n 1) (n := 1) (by decide +kernel) rfl rfl
theorem s_X0_handOn_26 {L : List Value} {S : List Value} {I A : am_F} {G : am_G} : am_e 2 26 L S I A G = am_e 2 27 L (.int 1 :: S) I A G := am_e_go (i := .iconst 1) (n := 1) (by decide +kernel) rfl (by first | rfl | (show am_go _ _ _ (.int _ :: _) _ _ _ = am_go _ _ _ (.int _ :: _) _ _ _; congr 1 <;> decide))
theorem s_X0_handOn_27 {L : List Value} {x y : Int32} {S : List Value} {I A : am_F} {G : am_G} : am_e 2 27 L (.int y :: .int x :: S) I A G = am_e 2 28 L (.int (x - y) :: S) I A G := am_e_go (i := .isub) (n := 1) (by decide +kernel) rfl rfl
theorem s_X0_handOn_28 {L : List Value} {i : Int32} {a : Nat} {S : List Value} {I A : am_F} {G : am_G} : am_e 2 28 L (.int i :: .ref a :: S) I A G = if i < 0 ∨ am_len 86 false a ≤ i.toNatClampNeg then none else am_e 2 29 L (.int (A a i.toNatClampNeg) :: S) I A G := am_e_nif (i := .iaload) (n := 1) (by decide +kernel) rfl rfl
theorem s_X0_handOn_29 {l0 l1 l2 l3 l4 l5 l6 : Value} {x : Int32} {S : List Value} {I A : am_F} {G : am_G} : am_e 2 29 [l0, l1, l2, l3, l4, l5, l6] (.int x :: S) I A G = am_e 2 30 [l0, l1, l2, .int x, l4, l5, l6] S I A G := am_e_go (i := .istore_n 3) (n := 1) (by decide +kernel) rfl rfl
theorem s_X0_handOn_30 {l1 l2 l3 l4 l5 l6 : Value} {x : Nat} {S : List Value} {I A : am_F} {G : am_G} : am_e 2 30 [.ref x, l1, l2, l3, l4, l5, l6] S I A G = am_e 2 31 [.ref x, l1, l2, l3, l4, l5, l6] (.ref x :: S) I A G := am_e_go (i := .aload_n 0) (n := 1) (by decide +kernel) rfl rfl
theorem s_X0_handOn_31 {L : List Value} {S : List Value} {I A : am_F} {G : am_G} : am_e 2 31 L (.ref 58 :: S) I A G = am_e 2 34 L (.ref 59 :: S) I A G := am_e_go (i := .getfield 9) (n := 3) (by decide +kernel) rfl rfl
theorem s_X0_handOn_34 {l0 l1 l3 l4 l5 l6 : Value} {x : Int32} {S : List Value} {I A : am_F} {G : am_G} : am_e 2 34 [l0, l1, .int x, l3, l4, l5, l6] S I A G = am_e 2 35 [l0, l1, .int x, l3, l4, l5, l6] (.int x :: S) I A G := am_e_go (i := .iload_n 2) (n := 1) (by decide +kernel) rfl rfl
theorem s_X0_handOn_35 {L : List Value} {i : Int32} {a : Nat} {S : List Value} {I A : am_F} {G : am_G} : am_e 2 35 L (.int i :: .ref a :: S) I A G = if i < 0 ∨ am_len 86 false a ≤ i.toNatClampNeg then none else am_e 2 36 L (.int (A a i.toNatClampNeg) :: S) I A G := am_e_nif (i := .iaload) (n := 1) (by decide +kernel) rfl rfl
theorem s_X0_handOn_36 {l0 l1 l2 l3 l4 l5 l6 : Value} {x : Int32} {S : List Value} {I A : am_F} {G : am_G} : am_e 2 36 [l0, l1, l2, l3, l4, l5, l6] (.int x :: S) I A G = am_e 2 38 [l0, l1, l2, l3, .int x, l5, l6] S I A G := am_e_go (i := .istore 4) (n := 2) (by decide +kernel) rfl rfl
theorem s_X0_handOn_38 {l0 l1 l2 l4 l5 l6 : Value} {x : Int32} {S : List Value} {I A : am_F} {G : am_G} : am_e 2 38 [l0, l1, l2, .int x, l4, l5, l6] S I A G = am_e 2 39 [l0, l1, l2, .int x, l4, l5, l6] (.int x :: S) I A G := am_e_go (i := .iload_n 3) (n := 1) (by decide +kernel) rfl rfl
theorem s_X0_handOn_39 {l0 l1 l2 l3 l4 l5 l6 : Value} {x : Int32} {S : List Value} {I A : am_F} {G : am_G} : am_e 2 39 [l0, l1, l2, l3, l4, l5, l6] (.int x :: S) I A G = am_e 2 41 [l0, l1, l2, l3, l4, .int x, l6] S I A G := am_e_go (i := .istore 5) (n := 2) (by decide +kernel) rfl rfl
theorem s_X0_handOn_41 {l0 l1 l2 l3 l4 l6 : Value} {x : Int32} {S : List Value} {I A : am_F} {G : am_G} : am_e 2 41 [l0, l1, l2, l3, l4, .int x, l6] S I A G = am_e 2 43 [l0, l1, l2, l3, l4, .int x, l6] (.int x :: S) I A G := am_e_go (i := .iload 5) (n := 2) (by decide +kernel) rfl rfl
theorem s_X0_handOn_43 {l1 l2 l3 l4 l5 l6 : Value} {x : Nat} {S : List Value} {I A : am_F} {G : am_G} : am_e 2 43 [.ref x, l1, l2, l3, l4, l5, l6] S I A G = am_e 2 44 [.ref x, l1, l2, l3, l4, l5, l6] (.ref x :: S) I A G := am_e_go (i := .aload_n 0) (n := 1) (by decide +kernel) rfl rfl
theorem s_X0_handOn_44 {L : List Value} {S : List Value} {I A : am_F} {G : am_G} : am_e 2 44 L (.ref 58 :: S) I A G = am_e 2 47 L (.ref (G 58 4) :: S) I A G := am_e_go (i := .getfield 27) (n := 3) (by decide +kernel) rfl rfl
theorem s_X0_handOn_47_at13 {L : List Value} {S : List Value} {I A : am_F} {G : am_G} : am_e 2 47 L (.ref 13 :: S) I A G = am_e 2 50 L (.ref 18 :: S) I A G := am_e_go (i := .getfield 86) (n := 3) (by decide +kernel) rfl rfl
theorem s_X0_handOn_47_at19 {L : List Value} {S : List Value} {I A : am_F} {G : am_G} : am_e 2 47 L (.ref 19 :: S) I A G = am_e 2 50 L (.ref 24 :: S) I A G := am_e_go (i := .getfield 86) (n := 3) (by decide +kernel) rfl rfl
theorem s_X0_handOn_47_at33 {L : List Value} {S : List Value} {I A : am_F} {G : am_G} : am_e 2 47 L (.ref 33 :: S) I A G = am_e 2 50 L (.ref 38 :: S) I A G := am_e_go (i := .getfield 86) (n := 3) (by decide +kernel) rfl rfl
theorem s_X0_handOn_47_at39 {L : List Value} {S : List Value} {I A : am_F} {G : am_G} : am_e 2 47 L (.ref 39 :: S) I A G = am_e 2 50 L (.ref 44 :: S) I A G := am_e_go (i := .getfield 86) (n := 3) (by decide +kernel) rfl rfl
theorem s_X0_handOn_50 {l0 l2 l3 l4 l5 l6 : Value} {x : Int32} {S : List Value} {I A : am_F} {G : am_G} : am_e 2 50 [l0, .int x, l2, l3, l4, l5, l6] S I A G = am_e 2 51 [l0, .int x, l2, l3, l4, l5, l6] (.int x :: S) I A G := am_e_go (i := .iload_n 1) (n := 1) (by decide +kernel) rfl rfl
theorem s_X0_handOn_51 {L : List Value} {i : Int32} {a : Nat} {S : List Value} {I A : am_F} {G : am_G} : am_e 2 51 L (.int i :: .ref a :: S) I A G = if i < 0 ∨ am_len 86 false a ≤ i.toNatClampNeg then none else am_e 2 52 L (.int (A a i.toNatClampNeg) :: S) I A G := am_e_nif (i := .iaload) (n := 1) (by decide +kernel) rfl rfl
theorem s_X0_handOn_52 {L : List Value} {x y : Int32} {S : List Value} {I A : am_F} {G : am_G} : am_e 2 52 L (.int y :: .int x :: S) I A G = if y ≤ x then am_e 2 126 L S I A G else am_e 2 55 L S I A G := am_e_if (i := .if_icmp .ge 74) (n := 3) (by decide +kernel) rfl rfl
theorem s_X0_handOn_55 {l1 l2 l3 l4 l5 l6 : Value} {x : Nat} {S : List Value} {I A : am_F} {G : am_G} : am_e 2 55 [.ref x, l1, l2, l3, l4, l5, l6] S I A G = am_e 2 56 [.ref x, l1, l2, l3, l4, l5, l6] (.ref x :: S) I A G := am_e_go (i := .aload_n 0) (n := 1) (by decide +kernel) rfl rfl
theorem s_X0_handOn_56 {L : List Value} {S : List Value} {I A : am_F} {G : am_G} : am_e 2 56 L (.ref 58 :: S) I A G = am_e 2 59 L (.ref (G 58 4) :: S) I A G := am_e_go (i := .getfield 27) (n := 3) (by decide +kernel) rfl rfl
theorem s_X0_handOn_59_at13 {L : List Value} {S : List Value} {I A : am_F} {G : am_G} : am_e 2 59 L (.ref 13 :: S) I A G = am_e 2 62 L (.ref 17 :: S) I A G := am_e_go (i := .getfield 74) (n := 3) (by decide +kernel) rfl rfl
theorem s_X0_handOn_59_at19 {L : List Value} {S : List Value} {I A : am_F} {G : am_G} : am_e 2 59 L (.ref 19 :: S) I A G = am_e 2 62 L (.ref 23 :: S) I A G := am_e_go (i := .getfield 74) (n := 3) (by decide +kernel) rfl rfl
theorem s_X0_handOn_59_at33 {L : List Value} {S : List Value} {I A : am_F} {G : am_G} : am_e 2 59 L (.ref 33 :: S) I A G = am_e 2 62 L (.ref 37 :: S) I A G := am_e_go (i := .getfield 74) (n := 3) (by decide +kernel) rfl rfl
theorem s_X0_handOn_59_at39 {L : List Value} {S : List Value} {I A : am_F} {G : am_G} : am_e 2 59 L (.ref 39 :: S) I A G = am_e 2 62 L (.ref 43 :: S) I A G := am_e_go (i := .getfield 74) (n := 3) (by decide +kernel) rfl rfl
theorem s_X0_handOn_62 {l0 l1 l2 l3 l4 l6 : Value} {x : Int32} {S : List Value} {I A : am_F} {G : am_G} : am_e 2 62 [l0, l1, l2, l3, l4, .int x, l6] S I A G = am_e 2 64 [l0, l1, l2, l3, l4, .int x, l6] (.int x :: S) I A G := am_e_go (i := .iload 5) (n := 2) (by decide +kernel) rfl rfl
theorem s_X0_handOn_64 {L : List Value} {i : Int32} {a : Nat} {S : List Value} {I A : am_F} {G : am_G} : am_e 2 64 L (.int i :: .ref a :: S) I A G = if i < 0 ∨ am_len 86 false a ≤ i.toNatClampNeg then none else am_e 2 65 L (.int (A a i.toNatClampNeg) :: S) I A G := am_e_nif (i := .iaload) (n := 1) (by decide +kernel) rfl rfl
theorem s_X0_handOn_65 {l0 l1 l2 l3 l4 l5 l6 : Value} {x : Int32} {S : List Value} {I A : am_F} {G : am_G} : am_e 2 65 [l0, l1, l2, l3, l4, l5, l6] (.int x :: S) I A G = am_e 2 67 [l0, l1, l2, l3, l4, l5, .int x] S I A G := am_e_go (i := .istore 6) (n := 2) (by decide +kernel) rfl rfl
theorem s_X0_handOn_67 {l1 l2 l3 l4 l5 l6 : Value} {x : Nat} {S : List Value} {I A : am_F} {G : am_G} : am_e 2 67 [.ref x, l1, l2, l3, l4, l5, l6] S I A G = am_e 2 68 [.ref x, l1, l2, l3, l4, l5, l6] (.ref x :: S) I A G := am_e_go (i := .aload_n 0) (n := 1) (by decide +kernel) rfl rfl
theorem s_X0_handOn_68 {L : List Value} {S : List Value} {I A : am_F} {G : am_G} : am_e 2 68 L (.ref 58 :: S) I A G = am_e 2 71 L (.ref 60 :: S) I A G := am_e_go (i := .getfield 15) (n := 3) (by decide +kernel) rfl rfl
theorem s_X0_handOn_71 {l0 l1 l2 l3 l4 l5 : Value} {x : Int32} {S : List Value} {I A : am_F} {G : am_G} : am_e 2 71 [l0, l1, l2, l3, l4, l5, .int x] S I A G = am_e 2 73 [l0, l1, l2, l3, l4, l5, .int x] (.int x :: S) I A G := am_e_go (i := .iload 6) (n := 2) (by decide +kernel) rfl rfl
theorem s_X0_handOn_73 {l1 l2 l3 l4 l5 l6 : Value} {x : Nat} {S : List Value} {I A : am_F} {G : am_G} : am_e 2 73 [.ref x, l1, l2, l3, l4, l5, l6] S I A G = am_e 2 74 [.ref x, l1, l2, l3, l4, l5, l6] (.ref x :: S) I A G := am_e_go (i := .aload_n 0) (n := 1) (by decide +kernel) rfl rfl
theorem s_X0_handOn_74 {L : List Value} {S : List Value} {I A : am_F} {G : am_G} : am_e 2 74 L (.ref 58 :: S) I A G = am_e 2 77 L (.ref 62 :: S) I A G := am_e_go (i := .getfield 21) (n := 3) (by decide +kernel) rfl rfl
theorem s_X0_handOn_77 {l0 l1 l3 l4 l5 l6 : Value} {x : Int32} {S : List Value} {I A : am_F} {G : am_G} : am_e 2 77 [l0, l1, .int x, l3, l4, l5, l6] S I A G = am_e 2 78 [l0, l1, .int x, l3, l4, l5, l6] (.int x :: S) I A G := am_e_go (i := .iload_n 2) (n := 1) (by decide +kernel) rfl rfl
theorem s_X0_handOn_78 {L : List Value} {i : Int32} {a : Nat} {S : List Value} {I A : am_F} {G : am_G} : am_e 2 78 L (.int i :: .ref a :: S) I A G = if i < 0 ∨ am_len 86 false a ≤ i.toNatClampNeg then none else am_e 2 79 L (.int (A a i.toNatClampNeg) :: S) I A G := am_e_nif (i := .iaload) (n := 1) (by decide +kernel) rfl rfl
theorem s_X0_handOn_79 {L : List Value} {x : Int32} {S : List Value} {I A : am_F} {G : am_G} : am_e 2 79 L (.int x :: S) I A G = if x ≤ 0 then am_e 2 106 L S I A G else am_e 2 82 L S I A G := am_e_if (i := .ifCond .le 27) (n := 3) (by decide +kernel) rfl rfl
theorem s_X0_handOn_82 {l1 l2 l3 l4 l5 l6 : Value} {x : Nat} {S : List Value} {I A : am_F} {G : am_G} : am_e 2 82 [.ref x, l1, l2, l3, l4, l5, l6] S I A G = am_e 2 83 [.ref x, l1, l2, l3, l4, l5, l6] (.ref x :: S) I A G := am_e_go (i := .aload_n 0) (n := 1) (by decide +kernel) rfl rfl
theorem s_X0_handOn_83 {L : List Value} {S : List Value} {I A : am_F} {G : am_G} : am_e 2 83 L (.ref 58 :: S) I A G = am_e 2 86 L (.ref 59 :: S) I A G := am_e_go (i := .getfield 9) (n := 3) (by decide +kernel) rfl rfl
theorem s_X0_handOn_86 {l0 l1 l3 l4 l5 l6 : Value} {x : Int32} {S : List Value} {I A : am_F} {G : am_G} : am_e 2 86 [l0, l1, .int x, l3, l4, l5, l6] S I A G = am_e 2 87 [l0, l1, .int x, l3, l4, l5, l6] (.int x :: S) I A G := am_e_go (i := .iload_n 2) (n := 1) (by decide +kernel) rfl rfl
theorem s_X0_handOn_87 {L : List Value} {i : Int32} {a : Nat} {S : List Value} {I A : am_F} {G : am_G} : am_e 2 87 L (.int i :: .ref a :: S) I A G = if i < 0 ∨ am_len 86 false a ≤ i.toNatClampNeg then none else am_e 2 88 L (.int (A a i.toNatClampNeg) :: S) I A G := am_e_nif (i := .iaload) (n := 1) (by decide +kernel) rfl rfl
theorem s_X0_handOn_88 {l1 l2 l3 l4 l5 l6 : Value} {x : Nat} {S : List Value} {I A : am_F} {G : am_G} : am_e 2 88 [.ref x, l1, l2, l3, l4, l5, l6] S I A G = am_e 2 89 [.ref x, l1, l2, l3, l4, l5, l6] (.ref x :: S) I A G := am_e_go (i := .aload_n 0) (n := 1) (by decide +kernel) rfl rfl
theorem s_X0_handOn_89 {L : List Value} {S : List Value} {I A : am_F} {G : am_G} : am_e 2 89 L (.ref 58 :: S) I A G = am_e 2 92 L (.ref 61 :: S) I A G := am_e_go (i := .getfield 18) (n := 3) (by decide +kernel) rfl rfl
theorem s_X0_handOn_92 {l0 l1 l2 l3 l4 l5 : Value} {x : Int32} {S : List Value} {I A : am_F} {G : am_G} : am_e 2 92 [l0, l1, l2, l3, l4, l5, .int x] S I A G = am_e 2 94 [l0, l1, l2, l3, l4, l5, .int x] (.int x :: S) I A G := am_e_go (i := .iload 6) (n := 2) (by decide +kernel) rfl rfl
theorem s_X0_handOn_94 {L : List Value} {i : Int32} {a : Nat} {S : List Value} {I A : am_F} {G : am_G} : am_e 2 94 L (.int i :: .ref a :: S) I A G = if i < 0 ∨ am_len 86 false a ≤ i.toNatClampNeg then none else am_e 2 95 L (.int (A a i.toNatClampNeg) :: S) I A G := am_e_nif (i := .iaload) (n := 1) (by decide +kernel) rfl rfl
theorem s_X0_handOn_95 {L : List Value} {x y : Int32} {S : List Value} {I A : am_F} {G : am_G} : am_e 2 95 L (.int y :: .int x :: S) I A G = am_e 2 96 L (.int (x * y) :: S) I A G := am_e_go (i := .imul) (n := 1) (by decide +kernel) rfl rfl
theorem s_X0_handOn_96 {l1 l2 l3 l4 l5 l6 : Value} {x : Nat} {S : List Value} {I A : am_F} {G : am_G} : am_e 2 96 [.ref x, l1, l2, l3, l4, l5, l6] S I A G = am_e 2 97 [.ref x, l1, l2, l3, l4, l5, l6] (.ref x :: S) I A G := am_e_go (i := .aload_n 0) (n := 1) (by decide +kernel) rfl rfl
theorem s_X0_handOn_97 {L : List Value} {S : List Value} {I A : am_F} {G : am_G} : am_e 2 97 L (.ref 58 :: S) I A G = am_e 2 100 L (.ref 62 :: S) I A G := am_e_go (i := .getfield 21) (n := 3) (by decide +kernel) rfl rfl
theorem s_X0_handOn_100 {l0 l1 l3 l4 l5 l6 : Value} {x : Int32} {S : List Value} {I A : am_F} {G : am_G} : am_e 2 100 [l0, l1, .int x, l3, l4, l5, l6] S I A G = am_e 2 101 [l0, l1, .int x, l3, l4, l5, l6] (.int x :: S) I A G := am_e_go (i := .iload_n 2) (n := 1) (by decide +kernel) rfl rfl
theorem s_X0_handOn_101 {L : List Value} {i : Int32} {a : Nat} {S : List Value} {I A : am_F} {G : am_G} : am_e 2 101 L (.int i :: .ref a :: S) I A G = if i < 0 ∨ am_len 86 false a ≤ i.toNatClampNeg then none else am_e 2 102 L (.int (A a i.toNatClampNeg) :: S) I A G := am_e_nif (i := .iaload) (n := 1) (by decide +kernel) rfl rfl
theorem s_X0_handOn_102 {L : List Value} {x y : Int32} {S : List Value} {I A : am_F} {G : am_G} : am_e 2 102 L (.int y :: .int x :: S) I A G = if y = 0 then none else am_e 2 103 L (.int (x / y) :: S) I A G := am_e_nif (i := .idiv) (n := 1) (by decide +kernel) rfl rfl
theorem s_X0_handOn_103 {L : List Value} {S : List Value} {I A : am_F} {G : am_G} : am_e 2 103 L S I A G = am_e 2 107 L S I A G := am_e_go (i := .goto 4) (n := 3) (by decide +kernel) rfl rfl
theorem s_X0_handOn_106 {L : List Value} {S : List Value} {I A : am_F} {G : am_G} : am_e 2 106 L S I A G = am_e 2 107 L (.int 0 :: S) I A G := am_e_go (i := .iconst 0) (n := 1) (by decide +kernel) rfl (by first | rfl | (show am_go _ _ _ (.int _ :: _) _ _ _ = am_go _ _ _ (.int _ :: _) _ _ _; congr 1 <;> decide))
theorem s_X0_handOn_107 {L : List Value} {i x : Int32} {a : Nat} {S : List Value} {I A : am_F} {G : am_G} : am_e 2 107 L (.int x :: .int i :: .ref a :: S) I A G = if i < 0 ∨ am_len 86 false a ≤ i.toNatClampNeg then none else am_e 2 108 L S I (am_u A a i.toNatClampNeg x) G := am_e_nif (i := .iastore) (n := 1) (by decide +kernel) rfl rfl
theorem s_X0_handOn_108 {l0 l1 l2 l3 l5 l6 : Value} {x : Int32} {S : List Value} {I A : am_F} {G : am_G} : am_e 2 108 [l0, l1, l2, l3, .int x, l5, l6] S I A G = am_e 2 110 [l0, l1, l2, l3, .int x, l5, l6] (.int x :: S) I A G := am_e_go (i := .iload 4) (n := 2) (by decide +kernel) rfl rfl
theorem s_X0_handOn_110 {l1 l2 l3 l4 l5 l6 : Value} {x : Nat} {S : List Value} {I A : am_F} {G : am_G} : am_e 2 110 [.ref x, l1, l2, l3, l4, l5, l6] S I A G = am_e 2 111 [.ref x, l1, l2, l3, l4, l5, l6] (.ref x :: S) I A G := am_e_go (i := .aload_n 0) (n := 1) (by decide +kernel) rfl rfl
theorem s_X0_handOn_111 {L : List Value} {S : List Value} {I A : am_F} {G : am_G} : am_e 2 111 L (.ref 58 :: S) I A G = am_e 2 114 L (.ref 60 :: S) I A G := am_e_go (i := .getfield 15) (n := 3) (by decide +kernel) rfl rfl
theorem s_X0_handOn_114 {l0 l1 l2 l3 l4 l5 : Value} {x : Int32} {S : List Value} {I A : am_F} {G : am_G} : am_e 2 114 [l0, l1, l2, l3, l4, l5, .int x] S I A G = am_e 2 116 [l0, l1, l2, l3, l4, l5, .int x] (.int x :: S) I A G := am_e_go (i := .iload 6) (n := 2) (by decide +kernel) rfl rfl
theorem s_X0_handOn_116 {L : List Value} {i : Int32} {a : Nat} {S : List Value} {I A : am_F} {G : am_G} : am_e 2 116 L (.int i :: .ref a :: S) I A G = if i < 0 ∨ am_len 86 false a ≤ i.toNatClampNeg then none else am_e 2 117 L (.int (A a i.toNatClampNeg) :: S) I A G := am_e_nif (i := .iaload) (n := 1) (by decide +kernel) rfl rfl
theorem s_X0_handOn_117 {L : List Value} {x y : Int32} {S : List Value} {I A : am_F} {G : am_G} : am_e 2 117 L (.int y :: .int x :: S) I A G = am_e 2 118 L (.int (x - y) :: S) I A G := am_e_go (i := .isub) (n := 1) (by decide +kernel) rfl rfl
theorem s_X0_handOn_118 {l0 l1 l2 l3 l4 l5 l6 : Value} {x : Int32} {S : List Value} {I A : am_F} {G : am_G} : am_e 2 118 [l0, l1, l2, l3, l4, l5, l6] (.int x :: S) I A G = am_e 2 120 [l0, l1, l2, l3, .int x, l5, l6] S I A G := am_e_go (i := .istore 4) (n := 2) (by decide +kernel) rfl rfl
theorem s_X0_handOn_120 {l0 l1 l2 l3 l4 l6 : Value} {x : Int32} {S : List Value} {I A : am_F} {G : am_G} : am_e 2 120 [l0, l1, l2, l3, l4, .int x, l6] S I A G = am_e 2 123 [l0, l1, l2, l3, l4, .int (x + 1), l6] S I A G := am_e_go (i := .iinc 5 1) (n := 3) (by decide +kernel) rfl (by first | rfl | (rw [show (1 : Int32) = Int32.ofInt 1 by decide]; rfl))
theorem s_X0_handOn_123 {L : List Value} {S : List Value} {I A : am_F} {G : am_G} : am_e 2 123 L S I A G = am_e 2 41 L S I A G := am_e_go (i := .goto (-82)) (n := 3) (by decide +kernel) rfl rfl
theorem s_X0_handOn_126 {l0 l1 l2 l4 l5 l6 : Value} {x : Int32} {S : List Value} {I A : am_F} {G : am_G} : am_e 2 126 [l0, l1, l2, .int x, l4, l5, l6] S I A G = am_e 2 127 [l0, l1, l2, .int x, l4, l5, l6] (.int x :: S) I A G := am_e_go (i := .iload_n 3) (n := 1) (by decide +kernel) rfl rfl
theorem s_X0_handOn_127 {l0 l1 l2 l3 l4 l5 l6 : Value} {x : Int32} {S : List Value} {I A : am_F} {G : am_G} : am_e 2 127 [l0, l1, l2, l3, l4, l5, l6] (.int x :: S) I A G = am_e 2 129 [l0, l1, l2, l3, l4, .int x, l6] S I A G := am_e_go (i := .istore 5) (n := 2) (by decide +kernel) rfl rfl
theorem s_X0_handOn_129 {l0 l1 l2 l3 l4 l6 : Value} {x : Int32} {S : List Value} {I A : am_F} {G : am_G} : am_e 2 129 [l0, l1, l2, l3, l4, .int x, l6] S I A G = am_e 2 131 [l0, l1, l2, l3, l4, .int x, l6] (.int x :: S) I A G := am_e_go (i := .iload 5) (n := 2) (by decide +kernel) rfl rfl
theorem s_X0_handOn_131 {l1 l2 l3 l4 l5 l6 : Value} {x : Nat} {S : List Value} {I A : am_F} {G : am_G} : am_e 2 131 [.ref x, l1, l2, l3, l4, l5, l6] S I A G = am_e 2 132 [.ref x, l1, l2, l3, l4, l5, l6] (.ref x :: S) I A G := am_e_go (i := .aload_n 0) (n := 1) (by decide +kernel) rfl rfl
theorem s_X0_handOn_132 {L : List Value} {S : List Value} {I A : am_F} {G : am_G} : am_e 2 132 L (.ref 58 :: S) I A G = am_e 2 135 L (.ref (G 58 4) :: S) I A G := am_e_go (i := .getfield 27) (n := 3) (by decide +kernel) rfl rfl
theorem s_X0_handOn_135_at13 {L : List Value} {S : List Value} {I A : am_F} {G : am_G} : am_e 2 135 L (.ref 13 :: S) I A G = am_e 2 138 L (.ref 18 :: S) I A G := am_e_go (i := .getfield 86) (n := 3) (by decide +kernel) rfl rfl
theorem s_X0_handOn_135_at19 {L : List Value} {S : List Value} {I A : am_F} {G : am_G} : am_e 2 135 L (.ref 19 :: S) I A G = am_e 2 138 L (.ref 24 :: S) I A G := am_e_go (i := .getfield 86) (n := 3) (by decide +kernel) rfl rfl
theorem s_X0_handOn_135_at33 {L : List Value} {S : List Value} {I A : am_F} {G : am_G} : am_e 2 135 L (.ref 33 :: S) I A G = am_e 2 138 L (.ref 38 :: S) I A G := am_e_go (i := .getfield 86) (n := 3) (by decide +kernel) rfl rfl
theorem s_X0_handOn_135_at39 {L : List Value} {S : List Value} {I A : am_F} {G : am_G} : am_e 2 135 L (.ref 39 :: S) I A G = am_e 2 138 L (.ref 44 :: S) I A G := am_e_go (i := .getfield 86) (n := 3) (by decide +kernel) rfl rfl
theorem s_X0_handOn_138 {l0 l2 l3 l4 l5 l6 : Value} {x : Int32} {S : List Value} {I A : am_F} {G : am_G} : am_e 2 138 [l0, .int x, l2, l3, l4, l5, l6] S I A G = am_e 2 139 [l0, .int x, l2, l3, l4, l5, l6] (.int x :: S) I A G := am_e_go (i := .iload_n 1) (n := 1) (by decide +kernel) rfl rfl
theorem s_X0_handOn_139 {L : List Value} {i : Int32} {a : Nat} {S : List Value} {I A : am_F} {G : am_G} : am_e 2 139 L (.int i :: .ref a :: S) I A G = if i < 0 ∨ am_len 86 false a ≤ i.toNatClampNeg then none else am_e 2 140 L (.int (A a i.toNatClampNeg) :: S) I A G := am_e_nif (i := .iaload) (n := 1) (by decide +kernel) rfl rfl
theorem s_X0_handOn_140 {L : List Value} {x y : Int32} {S : List Value} {I A : am_F} {G : am_G} : am_e 2 140 L (.int y :: .int x :: S) I A G = if y ≤ x then am_e 2 215 L S I A G else am_e 2 143 L S I A G := am_e_if (i := .if_icmp .ge 75) (n := 3) (by decide +kernel) rfl rfl
theorem s_X0_handOn_143 {l1 l2 l3 l4 l5 l6 : Value} {x : Nat} {S : List Value} {I A : am_F} {G : am_G} : am_e 2 143 [.ref x, l1, l2, l3, l4, l5, l6] S I A G = am_e 2 144 [.ref x, l1, l2, l3, l4, l5, l6] (.ref x :: S) I A G := am_e_go (i := .aload_n 0) (n := 1) (by decide +kernel) rfl rfl
theorem s_X0_handOn_144 {L : List Value} {S : List Value} {I A : am_F} {G : am_G} : am_e 2 144 L (.ref 58 :: S) I A G = am_e 2 147 L (.ref (G 58 4) :: S) I A G := am_e_go (i := .getfield 27) (n := 3) (by decide +kernel) rfl rfl
theorem s_X0_handOn_147_at13 {L : List Value} {S : List Value} {I A : am_F} {G : am_G} : am_e 2 147 L (.ref 13 :: S) I A G = am_e 2 150 L (.ref 17 :: S) I A G := am_e_go (i := .getfield 74) (n := 3) (by decide +kernel) rfl rfl
theorem s_X0_handOn_147_at19 {L : List Value} {S : List Value} {I A : am_F} {G : am_G} : am_e 2 147 L (.ref 19 :: S) I A G = am_e 2 150 L (.ref 23 :: S) I A G := am_e_go (i := .getfield 74) (n := 3) (by decide +kernel) rfl rfl
theorem s_X0_handOn_147_at33 {L : List Value} {S : List Value} {I A : am_F} {G : am_G} : am_e 2 147 L (.ref 33 :: S) I A G = am_e 2 150 L (.ref 37 :: S) I A G := am_e_go (i := .getfield 74) (n := 3) (by decide +kernel) rfl rfl
theorem s_X0_handOn_147_at39 {L : List Value} {S : List Value} {I A : am_F} {G : am_G} : am_e 2 147 L (.ref 39 :: S) I A G = am_e 2 150 L (.ref 43 :: S) I A G := am_e_go (i := .getfield 74) (n := 3) (by decide +kernel) rfl rfl
theorem s_X0_handOn_150 {l0 l1 l2 l3 l4 l6 : Value} {x : Int32} {S : List Value} {I A : am_F} {G : am_G} : am_e 2 150 [l0, l1, l2, l3, l4, .int x, l6] S I A G = am_e 2 152 [l0, l1, l2, l3, l4, .int x, l6] (.int x :: S) I A G := am_e_go (i := .iload 5) (n := 2) (by decide +kernel) rfl rfl
theorem s_X0_handOn_152 {L : List Value} {i : Int32} {a : Nat} {S : List Value} {I A : am_F} {G : am_G} : am_e 2 152 L (.int i :: .ref a :: S) I A G = if i < 0 ∨ am_len 86 false a ≤ i.toNatClampNeg then none else am_e 2 153 L (.int (A a i.toNatClampNeg) :: S) I A G := am_e_nif (i := .iaload) (n := 1) (by decide +kernel) rfl rfl
theorem s_X0_handOn_153 {l0 l1 l2 l3 l4 l5 l6 : Value} {x : Int32} {S : List Value} {I A : am_F} {G : am_G} : am_e 2 153 [l0, l1, l2, l3, l4, l5, l6] (.int x :: S) I A G = am_e 2 155 [l0, l1, l2, l3, l4, l5, .int x] S I A G := am_e_go (i := .istore 6) (n := 2) (by decide +kernel) rfl rfl
theorem s_X0_handOn_155 {l1 l2 l3 l4 l5 l6 : Value} {x : Nat} {S : List Value} {I A : am_F} {G : am_G} : am_e 2 155 [.ref x, l1, l2, l3, l4, l5, l6] S I A G = am_e 2 156 [.ref x, l1, l2, l3, l4, l5, l6] (.ref x :: S) I A G := am_e_go (i := .aload_n 0) (n := 1) (by decide +kernel) rfl rfl
theorem s_X0_handOn_156 {L : List Value} {S : List Value} {I A : am_F} {G : am_G} : am_e 2 156 L (.ref 58 :: S) I A G = am_e 2 159 L (.ref 61 :: S) I A G := am_e_go (i := .getfield 18) (n := 3) (by decide +kernel) rfl rfl
theorem s_X0_handOn_159 {l0 l1 l2 l3 l4 l5 : Value} {x : Int32} {S : List Value} {I A : am_F} {G : am_G} : am_e 2 159 [l0, l1, l2, l3, l4, l5, .int x] S I A G = am_e 2 161 [l0, l1, l2, l3, l4, l5, .int x] (.int x :: S) I A G := am_e_go (i := .iload 6) (n := 2) (by decide +kernel) rfl rfl
theorem s_X0_handOn_161 {L : List Value} {i : Int32} {a : Nat} {S : List Value} {I A : am_F} {G : am_G} : am_e 2 161 L (.int i :: .ref a :: S) I A G = if i < 0 ∨ am_len 86 false a ≤ i.toNatClampNeg then none else am_e 2 162 L (.int (A a i.toNatClampNeg) :: S) I A G := am_e_nif (i := .iaload) (n := 1) (by decide +kernel) rfl rfl
theorem s_X0_handOn_162 {L : List Value} {x : Int32} {S : List Value} {I A : am_F} {G : am_G} : am_e 2 162 L (.int x :: S) I A G = if x ≤ 0 then am_e 2 184 L S I A G else am_e 2 165 L S I A G := am_e_if (i := .ifCond .le 22) (n := 3) (by decide +kernel) rfl rfl
theorem s_X0_handOn_165 {l0 l1 l2 l3 l5 l6 : Value} {x : Int32} {S : List Value} {I A : am_F} {G : am_G} : am_e 2 165 [l0, l1, l2, l3, .int x, l5, l6] S I A G = am_e 2 167 [l0, l1, l2, l3, .int x, l5, l6] (.int x :: S) I A G := am_e_go (i := .iload 4) (n := 2) (by decide +kernel) rfl rfl
theorem s_X0_handOn_167 {L : List Value} {x : Int32} {S : List Value} {I A : am_F} {G : am_G} : am_e 2 167 L (.int x :: S) I A G = if x ≤ 0 then am_e 2 184 L S I A G else am_e 2 170 L S I A G := am_e_if (i := .ifCond .le 17) (n := 3) (by decide +kernel) rfl rfl
theorem s_X0_handOn_170 {l1 l2 l3 l4 l5 l6 : Value} {x : Nat} {S : List Value} {I A : am_F} {G : am_G} : am_e 2 170 [.ref x, l1, l2, l3, l4, l5, l6] S I A G = am_e 2 171 [.ref x, l1, l2, l3, l4, l5, l6] (.ref x :: S) I A G := am_e_go (i := .aload_n 0) (n := 1) (by decide +kernel) rfl rfl
theorem s_X0_handOn_171 {L : List Value} {S : List Value} {I A : am_F} {G : am_G} : am_e 2 171 L (.ref 58 :: S) I A G = am_e 2 174 L (.ref 60 :: S) I A G := am_e_go (i := .getfield 15) (n := 3) (by decide +kernel) rfl rfl
theorem s_X0_handOn_174 {l0 l1 l2 l3 l4 l5 : Value} {x : Int32} {S : List Value} {I A : am_F} {G : am_G} : am_e 2 174 [l0, l1, l2, l3, l4, l5, .int x] S I A G = am_e 2 176 [l0, l1, l2, l3, l4, l5, .int x] (.int x :: S) I A G := am_e_go (i := .iload 6) (n := 2) (by decide +kernel) rfl rfl
theorem s_X0_handOn_176 {L : List Value} {y : Int32} {x : Nat} {S : List Value} {I A : am_F} {G : am_G} : am_e 2 176 L (.int y :: .ref x :: S) I A G = am_e 2 177 L (.int y :: .ref x :: .int y :: .ref x :: S) I A G := am_e_go (i := .dup2) (n := 1) (by decide +kernel) rfl rfl
theorem s_X0_handOn_177 {L : List Value} {i : Int32} {a : Nat} {S : List Value} {I A : am_F} {G : am_G} : am_e 2 177 L (.int i :: .ref a :: S) I A G = if i < 0 ∨ am_len 86 false a ≤ i.toNatClampNeg then none else am_e 2 178 L (.int (A a i.toNatClampNeg) :: S) I A G := am_e_nif (i := .iaload) (n := 1) (by decide +kernel) rfl rfl
theorem s_X0_handOn_178 {L : List Value} {S : List Value} {I A : am_F} {G : am_G} : am_e 2 178 L S I A G = am_e 2 179 L (.int 1 :: S) I A G := am_e_go (i := .iconst 1) (n := 1) (by decide +kernel) rfl (by first | rfl | (show am_go _ _ _ (.int _ :: _) _ _ _ = am_go _ _ _ (.int _ :: _) _ _ _; congr 1 <;> decide))
theorem s_X0_handOn_179 {L : List Value} {x y : Int32} {S : List Value} {I A : am_F} {G : am_G} : am_e 2 179 L (.int y :: .int x :: S) I A G = am_e 2 180 L (.int (x + y) :: S) I A G := am_e_go (i := .iadd) (n := 1) (by decide +kernel) rfl rfl
theorem s_X0_handOn_180 {L : List Value} {i x : Int32} {a : Nat} {S : List Value} {I A : am_F} {G : am_G} : am_e 2 180 L (.int x :: .int i :: .ref a :: S) I A G = if i < 0 ∨ am_len 86 false a ≤ i.toNatClampNeg then none else am_e 2 181 L S I (am_u A a i.toNatClampNeg x) G := am_e_nif (i := .iastore) (n := 1) (by decide +kernel) rfl rfl
theorem s_X0_handOn_181 {l0 l1 l2 l3 l5 l6 : Value} {x : Int32} {S : List Value} {I A : am_F} {G : am_G} : am_e 2 181 [l0, l1, l2, l3, .int x, l5, l6] S I A G = am_e 2 184 [l0, l1, l2, l3, .int (x + (-1)), l5, l6] S I A G := am_e_go (i := .iinc 4 (-1)) (n := 3) (by decide +kernel) rfl (by first | rfl | (rw [show ((-1) : Int32) = Int32.ofInt (-1) by decide]; rfl))
theorem s_X0_handOn_184 {l1 l2 l3 l4 l5 l6 : Value} {x : Nat} {S : List Value} {I A : am_F} {G : am_G} : am_e 2 184 [.ref x, l1, l2, l3, l4, l5, l6] S I A G = am_e 2 185 [.ref x, l1, l2, l3, l4, l5, l6] (.ref x :: S) I A G := am_e_go (i := .aload_n 0) (n := 1) (by decide +kernel) rfl rfl
theorem s_X0_handOn_185 {L : List Value} {S : List Value} {I A : am_F} {G : am_G} : am_e 2 185 L (.ref 58 :: S) I A G = am_e 2 188 L (.ref 59 :: S) I A G := am_e_go (i := .getfield 9) (n := 3) (by decide +kernel) rfl rfl
theorem s_X0_handOn_188 {l1 l2 l3 l4 l5 l6 : Value} {x : Nat} {S : List Value} {I A : am_F} {G : am_G} : am_e 2 188 [.ref x, l1, l2, l3, l4, l5, l6] S I A G = am_e 2 189 [.ref x, l1, l2, l3, l4, l5, l6] (.ref x :: S) I A G := am_e_go (i := .aload_n 0) (n := 1) (by decide +kernel) rfl rfl
theorem s_X0_handOn_189 {L : List Value} {S : List Value} {I A : am_F} {G : am_G} : am_e 2 189 L (.ref 58 :: S) I A G = am_e 2 192 L (.ref (G 58 4) :: S) I A G := am_e_go (i := .getfield 27) (n := 3) (by decide +kernel) rfl rfl
theorem s_X0_handOn_192_at13 {L : List Value} {S : List Value} {I A : am_F} {G : am_G} : am_e 2 192 L (.ref 13 :: S) I A G = am_e 2 195 L (.ref 15 :: S) I A G := am_e_go (i := .getfield 77) (n := 3) (by decide +kernel) rfl rfl
theorem s_X0_handOn_192_at19 {L : List Value} {S : List Value} {I A : am_F} {G : am_G} : am_e 2 192 L (.ref 19 :: S) I A G = am_e 2 195 L (.ref 21 :: S) I A G := am_e_go (i := .getfield 77) (n := 3) (by decide +kernel) rfl rfl
theorem s_X0_handOn_192_at33 {L : List Value} {S : List Value} {I A : am_F} {G : am_G} : am_e 2 192 L (.ref 33 :: S) I A G = am_e 2 195 L (.ref 35 :: S) I A G := am_e_go (i := .getfield 77) (n := 3) (by decide +kernel) rfl rfl
theorem s_X0_handOn_192_at39 {L : List Value} {S : List Value} {I A : am_F} {G : am_G} : am_e 2 192 L (.ref 39 :: S) I A G = am_e 2 195 L (.ref 41 :: S) I A G := am_e_go (i := .getfield 77) (n := 3) (by decide +kernel) rfl rfl
theorem s_X0_handOn_195 {l0 l1 l2 l3 l4 l5 : Value} {x : Int32} {S : List Value} {I A : am_F} {G : am_G} : am_e 2 195 [l0, l1, l2, l3, l4, l5, .int x] S I A G = am_e 2 197 [l0, l1, l2, l3, l4, l5, .int x] (.int x :: S) I A G := am_e_go (i := .iload 6) (n := 2) (by decide +kernel) rfl rfl
theorem s_X0_handOn_197 {L : List Value} {i : Int32} {a : Nat} {S : List Value} {I A : am_F} {G : am_G} : am_e 2 197 L (.int i :: .ref a :: S) I A G = if i < 0 ∨ am_len 86 false a ≤ i.toNatClampNeg then none else am_e 2 198 L (.int (A a i.toNatClampNeg) :: S) I A G := am_e_nif (i := .iaload) (n := 1) (by decide +kernel) rfl rfl
theorem s_X0_handOn_198 {L : List Value} {y : Int32} {x : Nat} {S : List Value} {I A : am_F} {G : am_G} : am_e 2 198 L (.int y :: .ref x :: S) I A G = am_e 2 199 L (.int y :: .ref x :: .int y :: .ref x :: S) I A G := am_e_go (i := .dup2) (n := 1) (by decide +kernel) rfl rfl
theorem s_X0_handOn_199 {L : List Value} {i : Int32} {a : Nat} {S : List Value} {I A : am_F} {G : am_G} : am_e 2 199 L (.int i :: .ref a :: S) I A G = if i < 0 ∨ am_len 86 false a ≤ i.toNatClampNeg then none else am_e 2 200 L (.int (A a i.toNatClampNeg) :: S) I A G := am_e_nif (i := .iaload) (n := 1) (by decide +kernel) rfl rfl
theorem s_X0_handOn_200 {l1 l2 l3 l4 l5 l6 : Value} {x : Nat} {S : List Value} {I A : am_F} {G : am_G} : am_e 2 200 [.ref x, l1, l2, l3, l4, l5, l6] S I A G = am_e 2 201 [.ref x, l1, l2, l3, l4, l5, l6] (.ref x :: S) I A G := am_e_go (i := .aload_n 0) (n := 1) (by decide +kernel) rfl rfl
theorem s_X0_handOn_201 {L : List Value} {S : List Value} {I A : am_F} {G : am_G} : am_e 2 201 L (.ref 58 :: S) I A G = am_e 2 204 L (.ref 60 :: S) I A G := am_e_go (i := .getfield 15) (n := 3) (by decide +kernel) rfl rfl
theorem s_X0_handOn_204 {l0 l1 l2 l3 l4 l5 : Value} {x : Int32} {S : List Value} {I A : am_F} {G : am_G} : am_e 2 204 [l0, l1, l2, l3, l4, l5, .int x] S I A G = am_e 2 206 [l0, l1, l2, l3, l4, l5, .int x] (.int x :: S) I A G := am_e_go (i := .iload 6) (n := 2) (by decide +kernel) rfl rfl
theorem s_X0_handOn_206 {L : List Value} {i : Int32} {a : Nat} {S : List Value} {I A : am_F} {G : am_G} : am_e 2 206 L (.int i :: .ref a :: S) I A G = if i < 0 ∨ am_len 86 false a ≤ i.toNatClampNeg then none else am_e 2 207 L (.int (A a i.toNatClampNeg) :: S) I A G := am_e_nif (i := .iaload) (n := 1) (by decide +kernel) rfl rfl
theorem s_X0_handOn_207 {L : List Value} {x y : Int32} {S : List Value} {I A : am_F} {G : am_G} : am_e 2 207 L (.int y :: .int x :: S) I A G = am_e 2 208 L (.int (x + y) :: S) I A G := am_e_go (i := .iadd) (n := 1) (by decide +kernel) rfl rfl
theorem s_X0_handOn_208 {L : List Value} {i x : Int32} {a : Nat} {S : List Value} {I A : am_F} {G : am_G} : am_e 2 208 L (.int x :: .int i :: .ref a :: S) I A G = if i < 0 ∨ am_len 86 false a ≤ i.toNatClampNeg then none else am_e 2 209 L S I (am_u A a i.toNatClampNeg x) G := am_e_nif (i := .iastore) (n := 1) (by decide +kernel) rfl rfl
theorem s_X0_handOn_209 {l0 l1 l2 l3 l4 l6 : Value} {x : Int32} {S : List Value} {I A : am_F} {G : am_G} : am_e 2 209 [l0, l1, l2, l3, l4, .int x, l6] S I A G = am_e 2 212 [l0, l1, l2, l3, l4, .int (x + 1), l6] S I A G := am_e_go (i := .iinc 5 1) (n := 3) (by decide +kernel) rfl (by first | rfl | (rw [show (1 : Int32) = Int32.ofInt 1 by decide]; rfl))
theorem s_X0_handOn_212 {L : List Value} {S : List Value} {I A : am_F} {G : am_G} : am_e 2 212 L S I A G = am_e 2 129 L S I A G := am_e_go (i := .goto (-83)) (n := 3) (by decide +kernel) rfl rfl
theorem s_X0_handOn_215 {L : List Value} {I A : am_F} {G : am_G} : am_e 2 215 L [] I A G = some (.null, I, A, G) := am_e_rt (i := .return_) (n := 1) (by decide +kernel) rfl rfl
theorem s_X0_carriedFrom_0 {l0 l2 l3 l4 : Value} {x : Int32} {S : List Value} {I A : am_F} {G : am_G} : am_e 3 0 [l0, .int x, l2, l3, l4] S I A G = am_e 3 1 [l0, .int x, l2, l3, l4] (.int x :: S) I A G := am_e_go (i := .iload_n 1) (n := 1) (by decide +kernel) rfl rfl
theorem s_X0_carriedFrom_1 {l0 l1 l2 l3 l4 : Value} {x : Int32} {S : List Value} {I A : am_F} {G : am_G} : am_e 3 1 [l0, l1, l2, l3, l4] (.int x :: S) I A G = am_e 3 2 [l0, l1, .int x, l3, l4] S I A G := am_e_go (i := .istore_n 2) (n := 1) (by decide +kernel) rfl rfl
theorem s_X0_carriedFrom_2 {L : List Value} {S : List Value} {I A : am_F} {G : am_G} : am_e 3 2 L S I A G = am_e 3 3 L (.int 0 :: S) I A G := am_e_go (i := .iconst 0) (n := 1) (by decide +kernel) rfl (by first | rfl | (show am_go _ _ _ (.int _ :: _) _ _ _ = am_go _ _ _ (.int _ :: _) _ _ _; congr 1 <;> decide))
theorem s_X0_carriedFrom_3 {l0 l1 l2 l3 l4 : Value} {x : Int32} {S : List Value} {I A : am_F} {G : am_G} : am_e 3 3 [l0, l1, l2, l3, l4] (.int x :: S) I A G = am_e 3 4 [l0, l1, l2, .int x, l4] S I A G := am_e_go (i := .istore_n 3) (n := 1) (by decide +kernel) rfl rfl
theorem s_X0_carriedFrom_4 {l0 l1 l2 l4 : Value} {x : Int32} {S : List Value} {I A : am_F} {G : am_G} : am_e 3 4 [l0, l1, l2, .int x, l4] S I A G = am_e 3 5 [l0, l1, l2, .int x, l4] (.int x :: S) I A G := am_e_go (i := .iload_n 3) (n := 1) (by decide +kernel) rfl rfl
theorem s_X0_carriedFrom_5 {l1 l2 l3 l4 : Value} {x : Nat} {S : List Value} {I A : am_F} {G : am_G} : am_e 3 5 [.ref x, l1, l2, l3, l4] S I A G = am_e 3 6 [.ref x, l1, l2, l3, l4] (.ref x :: S) I A G := am_e_go (i := .aload_n 0) (n := 1) (by decide +kernel) rfl rfl
theorem s_X0_carriedFrom_6 {L : List Value} {S : List Value} {I A : am_F} {G : am_G} : am_e 3 6 L (.ref 58 :: S) I A G = am_e 3 9 L (.ref (G 58 4) :: S) I A G := am_e_go (i := .getfield 27) (n := 3) (by decide +kernel) rfl rfl
theorem s_X0_carriedFrom_9_at13 {L : List Value} {S : List Value} {I A : am_F} {G : am_G} : am_e 3 9 L (.ref 13 :: S) I A G = am_e 3 12 L (.int (I 13 6) :: S) I A G := am_e_go (i := .getfield 73) (n := 3) (by decide +kernel) rfl rfl
theorem s_X0_carriedFrom_9_at19 {L : List Value} {S : List Value} {I A : am_F} {G : am_G} : am_e 3 9 L (.ref 19 :: S) I A G = am_e 3 12 L (.int (I 19 6) :: S) I A G := am_e_go (i := .getfield 73) (n := 3) (by decide +kernel) rfl rfl
theorem s_X0_carriedFrom_9_at33 {L : List Value} {S : List Value} {I A : am_F} {G : am_G} : am_e 3 9 L (.ref 33 :: S) I A G = am_e 3 12 L (.int (I 33 6) :: S) I A G := am_e_go (i := .getfield 73) (n := 3) (by decide +kernel) rfl rfl
theorem s_X0_carriedFrom_9_at39 {L : List Value} {S : List Value} {I A : am_F} {G : am_G} : am_e 3 9 L (.ref 39 :: S) I A G = am_e 3 12 L (.int (I 39 6) :: S) I A G := am_e_go (i := .getfield 73) (n := 3) (by decide +kernel) rfl rfl
theorem s_X0_carriedFrom_12 {L : List Value} {x y : Int32} {S : List Value} {I A : am_F} {G : am_G} : am_e 3 12 L (.int y :: .int x :: S) I A G = if y ≤ x then am_e 3 90 L S I A G else am_e 3 15 L S I A G := am_e_if (i := .if_icmp .ge 78) (n := 3) (by decide +kernel) rfl rfl
theorem s_X0_carriedFrom_15 {l1 l2 l3 l4 : Value} {x : Nat} {S : List Value} {I A : am_F} {G : am_G} : am_e 3 15 [.ref x, l1, l2, l3, l4] S I A G = am_e 3 16 [.ref x, l1, l2, l3, l4] (.ref x :: S) I A G := am_e_go (i := .aload_n 0) (n := 1) (by decide +kernel) rfl rfl
theorem s_X0_carriedFrom_16 {L : List Value} {S : List Value} {I A : am_F} {G : am_G} : am_e 3 16 L (.ref 58 :: S) I A G = am_e 3 19 L (.ref (G 58 4) :: S) I A G := am_e_go (i := .getfield 27) (n := 3) (by decide +kernel) rfl rfl
theorem s_X0_carriedFrom_19_at13 {L : List Value} {S : List Value} {I A : am_F} {G : am_G} : am_e 3 19 L (.ref 13 :: S) I A G = am_e 3 22 L (.ref 17 :: S) I A G := am_e_go (i := .getfield 74) (n := 3) (by decide +kernel) rfl rfl
theorem s_X0_carriedFrom_19_at19 {L : List Value} {S : List Value} {I A : am_F} {G : am_G} : am_e 3 19 L (.ref 19 :: S) I A G = am_e 3 22 L (.ref 23 :: S) I A G := am_e_go (i := .getfield 74) (n := 3) (by decide +kernel) rfl rfl
theorem s_X0_carriedFrom_19_at33 {L : List Value} {S : List Value} {I A : am_F} {G : am_G} : am_e 3 19 L (.ref 33 :: S) I A G = am_e 3 22 L (.ref 37 :: S) I A G := am_e_go (i := .getfield 74) (n := 3) (by decide +kernel) rfl rfl
theorem s_X0_carriedFrom_19_at39 {L : List Value} {S : List Value} {I A : am_F} {G : am_G} : am_e 3 19 L (.ref 39 :: S) I A G = am_e 3 22 L (.ref 43 :: S) I A G := am_e_go (i := .getfield 74) (n := 3) (by decide +kernel) rfl rfl
theorem s_X0_carriedFrom_22 {l0 l1 l2 l4 : Value} {x : Int32} {S : List Value} {I A : am_F} {G : am_G} : am_e 3 22 [l0, l1, l2, .int x, l4] S I A G = am_e 3 23 [l0, l1, l2, .int x, l4] (.int x :: S) I A G := am_e_go (i := .iload_n 3) (n := 1) (by decide +kernel) rfl rfl
theorem s_X0_carriedFrom_23 {L : List Value} {i : Int32} {a : Nat} {S : List Value} {I A : am_F} {G : am_G} : am_e 3 23 L (.int i :: .ref a :: S) I A G = if i < 0 ∨ am_len 86 false a ≤ i.toNatClampNeg then none else am_e 3 24 L (.int (A a i.toNatClampNeg) :: S) I A G := am_e_nif (i := .iaload) (n := 1) (by decide +kernel) rfl rfl
theorem s_X0_carriedFrom_24 {l0 l1 l2 l3 l4 : Value} {x : Int32} {S : List Value} {I A : am_F} {G : am_G} : am_e 3 24 [l0, l1, l2, l3, l4] (.int x :: S) I A G = am_e 3 26 [l0, l1, l2, l3, .int x] S I A G := am_e_go (i := .istore 4) (n := 2) (by decide +kernel) rfl rfl
theorem s_X0_carriedFrom_26 {l1 l2 l3 l4 : Value} {x : Nat} {S : List Value} {I A : am_F} {G : am_G} : am_e 3 26 [.ref x, l1, l2, l3, l4] S I A G = am_e 3 27 [.ref x, l1, l2, l3, l4] (.ref x :: S) I A G := am_e_go (i := .aload_n 0) (n := 1) (by decide +kernel) rfl rfl
theorem s_X0_carriedFrom_27 {L : List Value} {S : List Value} {I A : am_F} {G : am_G} : am_e 3 27 L (.ref 58 :: S) I A G = am_e 3 30 L (.ref 60 :: S) I A G := am_e_go (i := .getfield 15) (n := 3) (by decide +kernel) rfl rfl
theorem s_X0_carriedFrom_30 {l0 l1 l2 l3 : Value} {x : Int32} {S : List Value} {I A : am_F} {G : am_G} : am_e 3 30 [l0, l1, l2, l3, .int x] S I A G = am_e 3 32 [l0, l1, l2, l3, .int x] (.int x :: S) I A G := am_e_go (i := .iload 4) (n := 2) (by decide +kernel) rfl rfl
theorem s_X0_carriedFrom_32 {L : List Value} {i : Int32} {a : Nat} {S : List Value} {I A : am_F} {G : am_G} : am_e 3 32 L (.int i :: .ref a :: S) I A G = if i < 0 ∨ am_len 86 false a ≤ i.toNatClampNeg then none else am_e 3 33 L (.int (A a i.toNatClampNeg) :: S) I A G := am_e_nif (i := .iaload) (n := 1) (by decide +kernel) rfl rfl
theorem s_X0_carriedFrom_33 {L : List Value} {x : Int32} {S : List Value} {I A : am_F} {G : am_G} : am_e 3 33 L (.int x :: S) I A G = if x ≤ 0 then am_e 3 84 L S I A G else am_e 3 36 L S I A G := am_e_if (i := .ifCond .le 51) (n := 3) (by decide +kernel) rfl rfl
theorem s_X0_carriedFrom_36 {l1 l2 l3 l4 : Value} {x : Nat} {S : List Value} {I A : am_F} {G : am_G} : am_e 3 36 [.ref x, l1, l2, l3, l4] S I A G = am_e 3 37 [.ref x, l1, l2, l3, l4] (.ref x :: S) I A G := am_e_go (i := .aload_n 0) (n := 1) (by decide +kernel) rfl rfl
theorem s_X0_carriedFrom_37 {L : List Value} {S : List Value} {I A : am_F} {G : am_G} : am_e 3 37 L (.ref 58 :: S) I A G = am_e 3 40 L (.ref (G 58 4) :: S) I A G := am_e_go (i := .getfield 27) (n := 3) (by decide +kernel) rfl rfl
theorem s_X0_carriedFrom_40_at13 {L : List Value} {S : List Value} {I A : am_F} {G : am_G} : am_e 3 40 L (.ref 13 :: S) I A G = am_e 3 43 L (.ref 15 :: S) I A G := am_e_go (i := .getfield 77) (n := 3) (by decide +kernel) rfl rfl
theorem s_X0_carriedFrom_40_at19 {L : List Value} {S : List Value} {I A : am_F} {G : am_G} : am_e 3 40 L (.ref 19 :: S) I A G = am_e 3 43 L (.ref 21 :: S) I A G := am_e_go (i := .getfield 77) (n := 3) (by decide +kernel) rfl rfl
theorem s_X0_carriedFrom_40_at33 {L : List Value} {S : List Value} {I A : am_F} {G : am_G} : am_e 3 40 L (.ref 33 :: S) I A G = am_e 3 43 L (.ref 35 :: S) I A G := am_e_go (i := .getfield 77) (n := 3) (by decide +kernel) rfl rfl
theorem s_X0_carriedFrom_40_at39 {L : List Value} {S : List Value} {I A : am_F} {G : am_G} : am_e 3 40 L (.ref 39 :: S) I A G = am_e 3 43 L (.ref 41 :: S) I A G := am_e_go (i := .getfield 77) (n := 3) (by decide +kernel) rfl rfl
theorem s_X0_carriedFrom_43 {l0 l1 l2 l3 : Value} {x : Int32} {S : List Value} {I A : am_F} {G : am_G} : am_e 3 43 [l0, l1, l2, l3, .int x] S I A G = am_e 3 45 [l0, l1, l2, l3, .int x] (.int x :: S) I A G := am_e_go (i := .iload 4) (n := 2) (by decide +kernel) rfl rfl
theorem s_X0_carriedFrom_45 {L : List Value} {i : Int32} {a : Nat} {S : List Value} {I A : am_F} {G : am_G} : am_e 3 45 L (.int i :: .ref a :: S) I A G = if i < 0 ∨ am_len 86 false a ≤ i.toNatClampNeg then none else am_e 3 46 L (.int (A a i.toNatClampNeg) :: S) I A G := am_e_nif (i := .iaload) (n := 1) (by decide +kernel) rfl rfl
theorem s_X0_carriedFrom_46 {L : List Value} {S : List Value} {I A : am_F} {G : am_G} : am_e 3 46 L S I A G = am_e 3 48 L (.int 8 :: S) I A G := am_e_go (i := .bipush 8) (n := 2) (by decide +kernel) rfl (by first | rfl | (show am_go _ _ _ (.int _ :: _) _ _ _ = am_go _ _ _ (.int _ :: _) _ _ _; congr 1 <;> decide))
theorem s_X0_carriedFrom_48 {L : List Value} {x y : Int32} {S : List Value} {I A : am_F} {G : am_G} : am_e 3 48 L (.int y :: .int x :: S) I A G = if x = y then am_e 3 84 L S I A G else am_e 3 51 L S I A G := am_e_if (i := .if_icmp .eq 36) (n := 3) (by decide +kernel) rfl rfl
theorem s_X0_carriedFrom_51 {l0 l1 l3 l4 : Value} {x : Int32} {S : List Value} {I A : am_F} {G : am_G} : am_e 3 51 [l0, l1, .int x, l3, l4] S I A G = am_e 3 52 [l0, l1, .int x, l3, l4] (.int x :: S) I A G := am_e_go (i := .iload_n 2) (n := 1) (by decide +kernel) rfl rfl
theorem s_X0_carriedFrom_52 {l1 l2 l3 l4 : Value} {x : Nat} {S : List Value} {I A : am_F} {G : am_G} : am_e 3 52 [.ref x, l1, l2, l3, l4] S I A G = am_e 3 53 [.ref x, l1, l2, l3, l4] (.ref x :: S) I A G := am_e_go (i := .aload_n 0) (n := 1) (by decide +kernel) rfl rfl
theorem s_X0_carriedFrom_53 {L : List Value} {S : List Value} {I A : am_F} {G : am_G} : am_e 3 53 L (.ref 58 :: S) I A G = am_e 3 56 L (.ref (G 58 4) :: S) I A G := am_e_go (i := .getfield 27) (n := 3) (by decide +kernel) rfl rfl
theorem s_X0_carriedFrom_56_at13 {L : List Value} {S : List Value} {I A : am_F} {G : am_G} : am_e 3 56 L (.ref 13 :: S) I A G = am_e 3 59 L (.ref 14 :: S) I A G := am_e_go (i := .getfield 80) (n := 3) (by decide +kernel) rfl rfl
theorem s_X0_carriedFrom_56_at19 {L : List Value} {S : List Value} {I A : am_F} {G : am_G} : am_e 3 56 L (.ref 19 :: S) I A G = am_e 3 59 L (.ref 20 :: S) I A G := am_e_go (i := .getfield 80) (n := 3) (by decide +kernel) rfl rfl
theorem s_X0_carriedFrom_56_at33 {L : List Value} {S : List Value} {I A : am_F} {G : am_G} : am_e 3 56 L (.ref 33 :: S) I A G = am_e 3 59 L (.ref 34 :: S) I A G := am_e_go (i := .getfield 80) (n := 3) (by decide +kernel) rfl rfl
theorem s_X0_carriedFrom_56_at39 {L : List Value} {S : List Value} {I A : am_F} {G : am_G} : am_e 3 56 L (.ref 39 :: S) I A G = am_e 3 59 L (.ref 40 :: S) I A G := am_e_go (i := .getfield 80) (n := 3) (by decide +kernel) rfl rfl
theorem s_X0_carriedFrom_59 {l0 l1 l2 l3 : Value} {x : Int32} {S : List Value} {I A : am_F} {G : am_G} : am_e 3 59 [l0, l1, l2, l3, .int x] S I A G = am_e 3 61 [l0, l1, l2, l3, .int x] (.int x :: S) I A G := am_e_go (i := .iload 4) (n := 2) (by decide +kernel) rfl rfl
theorem s_X0_carriedFrom_61 {L : List Value} {i : Int32} {a : Nat} {S : List Value} {I A : am_F} {G : am_G} : am_e 3 61 L (.int i :: .ref a :: S) I A G = if i < 0 ∨ am_len 86 false a ≤ i.toNatClampNeg then none else am_e 3 62 L (.int (A a i.toNatClampNeg) :: S) I A G := am_e_nif (i := .iaload) (n := 1) (by decide +kernel) rfl rfl
theorem s_X0_carriedFrom_62 {L : List Value} {a0 : Int32} {a1 : Int32} {I A : am_F} {G : am_G} : am_e 3 62 L (.int a1 :: .int a0 :: []) I A G = am_k (am_e 64 0 [.int a0, .int a1] [] I A G) (fun v I A G => am_e 3 65 L (am_push v []) I A G) := am_e_call (i := .invokestatic 46) (n := 3) (by decide +kernel) rfl rfl
theorem s_X0_carriedFrom_65 {L : List Value} {S : List Value} {I A : am_F} {G : am_G} : am_e 3 65 L S I A G = am_e 3 66 L (.int 1 :: S) I A G := am_e_go (i := .iconst 1) (n := 1) (by decide +kernel) rfl (by first | rfl | (show am_go _ _ _ (.int _ :: _) _ _ _ = am_go _ _ _ (.int _ :: _) _ _ _; congr 1 <;> decide))
theorem s_X0_carriedFrom_66 {L : List Value} {x y : Int32} {S : List Value} {I A : am_F} {G : am_G} : am_e 3 66 L (.int y :: .int x :: S) I A G = if x = y then am_e 3 69 L S I A G else am_e 3 84 L S I A G := am_e_if (i := .if_icmp .ne 18) (n := 3) (by decide +kernel) rfl rfl
theorem s_X0_carriedFrom_69 {l0 l1 l3 l4 : Value} {x : Int32} {S : List Value} {I A : am_F} {G : am_G} : am_e 3 69 [l0, l1, .int x, l3, l4] S I A G = am_e 3 70 [l0, l1, .int x, l3, l4] (.int x :: S) I A G := am_e_go (i := .iload_n 2) (n := 1) (by decide +kernel) rfl rfl
theorem s_X0_carriedFrom_70 {L : List Value} {S : List Value} {I A : am_F} {G : am_G} : am_e 3 70 L S I A G = am_e 3 71 L (.int 1 :: S) I A G := am_e_go (i := .iconst 1) (n := 1) (by decide +kernel) rfl (by first | rfl | (show am_go _ _ _ (.int _ :: _) _ _ _ = am_go _ _ _ (.int _ :: _) _ _ _; congr 1 <;> decide))
theorem s_X0_carriedFrom_71 {l1 l2 l3 l4 : Value} {x : Nat} {S : List Value} {I A : am_F} {G : am_G} : am_e 3 71 [.ref x, l1, l2, l3, l4] S I A G = am_e 3 72 [.ref x, l1, l2, l3, l4] (.ref x :: S) I A G := am_e_go (i := .aload_n 0) (n := 1) (by decide +kernel) rfl rfl
theorem s_X0_carriedFrom_72 {L : List Value} {S : List Value} {I A : am_F} {G : am_G} : am_e 3 72 L (.ref 58 :: S) I A G = am_e 3 75 L (.ref (G 58 4) :: S) I A G := am_e_go (i := .getfield 27) (n := 3) (by decide +kernel) rfl rfl
theorem s_X0_carriedFrom_75_at13 {L : List Value} {S : List Value} {I A : am_F} {G : am_G} : am_e 3 75 L (.ref 13 :: S) I A G = am_e 3 78 L (.ref 15 :: S) I A G := am_e_go (i := .getfield 77) (n := 3) (by decide +kernel) rfl rfl
theorem s_X0_carriedFrom_75_at19 {L : List Value} {S : List Value} {I A : am_F} {G : am_G} : am_e 3 75 L (.ref 19 :: S) I A G = am_e 3 78 L (.ref 21 :: S) I A G := am_e_go (i := .getfield 77) (n := 3) (by decide +kernel) rfl rfl
theorem s_X0_carriedFrom_75_at33 {L : List Value} {S : List Value} {I A : am_F} {G : am_G} : am_e 3 75 L (.ref 33 :: S) I A G = am_e 3 78 L (.ref 35 :: S) I A G := am_e_go (i := .getfield 77) (n := 3) (by decide +kernel) rfl rfl
theorem s_X0_carriedFrom_75_at39 {L : List Value} {S : List Value} {I A : am_F} {G : am_G} : am_e 3 75 L (.ref 39 :: S) I A G = am_e 3 78 L (.ref 41 :: S) I A G := am_e_go (i := .getfield 77) (n := 3) (by decide +kernel) rfl rfl
theorem s_X0_carriedFrom_78 {l0 l1 l2 l3 : Value} {x : Int32} {S : List Value} {I A : am_F} {G : am_G} : am_e 3 78 [l0, l1, l2, l3, .int x] S I A G = am_e 3 80 [l0, l1, l2, l3, .int x] (.int x :: S) I A G := am_e_go (i := .iload 4) (n := 2) (by decide +kernel) rfl rfl
theorem s_X0_carriedFrom_80 {L : List Value} {i : Int32} {a : Nat} {S : List Value} {I A : am_F} {G : am_G} : am_e 3 80 L (.int i :: .ref a :: S) I A G = if i < 0 ∨ am_len 86 false a ≤ i.toNatClampNeg then none else am_e 3 81 L (.int (A a i.toNatClampNeg) :: S) I A G := am_e_nif (i := .iaload) (n := 1) (by decide +kernel) rfl rfl
theorem s_X0_carriedFrom_81 {L : List Value} {x y : Int32} {S : List Value} {I A : am_F} {G : am_G} : am_e 3 81 L (.int y :: .int x :: S) I A G = am_e 3 82 L (.int (x <<< (y &&& 31)) :: S) I A G := am_e_go (i := .ishl) (n := 1) (by decide +kernel) rfl rfl
theorem s_X0_carriedFrom_82 {L : List Value} {x y : Int32} {S : List Value} {I A : am_F} {G : am_G} : am_e 3 82 L (.int y :: .int x :: S) I A G = am_e 3 83 L (.int (x ||| y) :: S) I A G := am_e_go (i := .ior) (n := 1) (by decide +kernel) rfl rfl
theorem s_X0_carriedFrom_83 {l0 l1 l2 l3 l4 : Value} {x : Int32} {S : List Value} {I A : am_F} {G : am_G} : am_e 3 83 [l0, l1, l2, l3, l4] (.int x :: S) I A G = am_e 3 84 [l0, l1, .int x, l3, l4] S I A G := am_e_go (i := .istore_n 2) (n := 1) (by decide +kernel) rfl rfl
theorem s_X0_carriedFrom_84 {l0 l1 l2 l4 : Value} {x : Int32} {S : List Value} {I A : am_F} {G : am_G} : am_e 3 84 [l0, l1, l2, .int x, l4] S I A G = am_e 3 87 [l0, l1, l2, .int (x + 1), l4] S I A G := am_e_go (i := .iinc 3 1) (n := 3) (by decide +kernel) rfl (by first | rfl | (rw [show (1 : Int32) = Int32.ofInt 1 by decide]; rfl))
theorem s_X0_carriedFrom_87 {L : List Value} {S : List Value} {I A : am_F} {G : am_G} : am_e 3 87 L S I A G = am_e 3 4 L S I A G := am_e_go (i := .goto (-83)) (n := 3) (by decide +kernel) rfl rfl
theorem s_X0_carriedFrom_90 {l0 l1 l3 l4 : Value} {x : Int32} {S : List Value} {I A : am_F} {G : am_G} : am_e 3 90 [l0, l1, .int x, l3, l4] S I A G = am_e 3 91 [l0, l1, .int x, l3, l4] (.int x :: S) I A G := am_e_go (i := .iload_n 2) (n := 1) (by decide +kernel) rfl rfl
theorem s_X0_carriedFrom_91 {L : List Value} {x : Int32} {I A : am_F} {G : am_G} : am_e 3 91 L [.int x] I A G = some (.int x, I, A, G) := am_e_rt (i := .ireturn) (n := 1) (by decide +kernel) rfl rfl
theorem s_X1_hear_0 {l1 l2 l3 : Value} {x : Nat} {S : List Value} {I A : am_F} {G : am_G} : am_e 4 0 [.ref x, l1, l2, l3] S I A G = am_e 4 1 [.ref x, l1, l2, l3] (.ref x :: S) I A G := am_e_go (i := .aload_n 0) (n := 1) (by decide +kernel) rfl rfl
theorem s_X1_hear_1 {L : List Value} {S : List Value} {I A : am_F} {G : am_G} : am_e 4 1 L (.ref 54 :: S) I A G = am_e 4 4 L (.int (I 54 3) :: S) I A G := am_e_go (i := .getfield 21) (n := 3) (by decide +kernel) rfl rfl
theorem s_X1_hear_4 {L : List Value} {S : List Value} {I A : am_F} {G : am_G} : am_e 4 4 L S I A G = am_e 4 6 L (.int 10 :: S) I A G := am_e_go (i := .bipush 10) (n := 2) (by decide +kernel) rfl (by first | rfl | (show am_go _ _ _ (.int _ :: _) _ _ _ = am_go _ _ _ (.int _ :: _) _ _ _; congr 1 <;> decide))
theorem s_X1_hear_6 {L : List Value} {x y : Int32} {S : List Value} {I A : am_F} {G : am_G} : am_e 4 6 L (.int y :: .int x :: S) I A G = if y ≤ x then am_e 4 57 L S I A G else am_e 4 9 L S I A G := am_e_if (i := .if_icmp .ge 51) (n := 3) (by decide +kernel) rfl rfl
theorem s_X1_hear_9 {l1 l2 l3 : Value} {x : Nat} {S : List Value} {I A : am_F} {G : am_G} : am_e 4 9 [.ref x, l1, l2, l3] S I A G = am_e 4 10 [.ref x, l1, l2, l3] (.ref x :: S) I A G := am_e_go (i := .aload_n 0) (n := 1) (by decide +kernel) rfl rfl
theorem s_X1_hear_10 {L : List Value} {S : List Value} {I A : am_F} {G : am_G} : am_e 4 10 L (.ref 54 :: S) I A G = am_e 4 13 L (.ref 55 :: S) I A G := am_e_go (i := .getfield 9) (n := 3) (by decide +kernel) rfl rfl
theorem s_X1_hear_13 {l1 l2 l3 : Value} {x : Nat} {S : List Value} {I A : am_F} {G : am_G} : am_e 4 13 [.ref x, l1, l2, l3] S I A G = am_e 4 14 [.ref x, l1, l2, l3] (.ref x :: S) I A G := am_e_go (i := .aload_n 0) (n := 1) (by decide +kernel) rfl rfl
theorem s_X1_hear_14 {L : List Value} {S : List Value} {I A : am_F} {G : am_G} : am_e 4 14 L (.ref 54 :: S) I A G = am_e 4 17 L (.int (I 54 3) :: S) I A G := am_e_go (i := .getfield 21) (n := 3) (by decide +kernel) rfl rfl
theorem s_X1_hear_17 {l0 l2 l3 : Value} {x : Int32} {S : List Value} {I A : am_F} {G : am_G} : am_e 4 17 [l0, .int x, l2, l3] S I A G = am_e 4 18 [l0, .int x, l2, l3] (.int x :: S) I A G := am_e_go (i := .iload_n 1) (n := 1) (by decide +kernel) rfl rfl
theorem s_X1_hear_18 {L : List Value} {i x : Int32} {a : Nat} {S : List Value} {I A : am_F} {G : am_G} : am_e 4 18 L (.int x :: .int i :: .ref a :: S) I A G = if i < 0 ∨ am_len 86 false a ≤ i.toNatClampNeg then none else am_e 4 19 L S I (am_u A a i.toNatClampNeg x) G := am_e_nif (i := .iastore) (n := 1) (by decide +kernel) rfl rfl
theorem s_X1_hear_19 {l1 l2 l3 : Value} {x : Nat} {S : List Value} {I A : am_F} {G : am_G} : am_e 4 19 [.ref x, l1, l2, l3] S I A G = am_e 4 20 [.ref x, l1, l2, l3] (.ref x :: S) I A G := am_e_go (i := .aload_n 0) (n := 1) (by decide +kernel) rfl rfl
theorem s_X1_hear_20 {L : List Value} {S : List Value} {I A : am_F} {G : am_G} : am_e 4 20 L (.ref 54 :: S) I A G = am_e 4 23 L (.ref 56 :: S) I A G := am_e_go (i := .getfield 15) (n := 3) (by decide +kernel) rfl rfl
theorem s_X1_hear_23 {l1 l2 l3 : Value} {x : Nat} {S : List Value} {I A : am_F} {G : am_G} : am_e 4 23 [.ref x, l1, l2, l3] S I A G = am_e 4 24 [.ref x, l1, l2, l3] (.ref x :: S) I A G := am_e_go (i := .aload_n 0) (n := 1) (by decide +kernel) rfl rfl
theorem s_X1_hear_24 {L : List Value} {S : List Value} {I A : am_F} {G : am_G} : am_e 4 24 L (.ref 54 :: S) I A G = am_e 4 27 L (.int (I 54 3) :: S) I A G := am_e_go (i := .getfield 21) (n := 3) (by decide +kernel) rfl rfl
theorem s_X1_hear_27 {l0 l1 l3 : Value} {x : Int32} {S : List Value} {I A : am_F} {G : am_G} : am_e 4 27 [l0, l1, .int x, l3] S I A G = am_e 4 28 [l0, l1, .int x, l3] (.int x :: S) I A G := am_e_go (i := .iload_n 2) (n := 1) (by decide +kernel) rfl rfl
theorem s_X1_hear_28 {L : List Value} {i x : Int32} {a : Nat} {S : List Value} {I A : am_F} {G : am_G} : am_e 4 28 L (.int x :: .int i :: .ref a :: S) I A G = if i < 0 ∨ am_len 86 false a ≤ i.toNatClampNeg then none else am_e 4 29 L S I (am_u A a i.toNatClampNeg x) G := am_e_nif (i := .iastore) (n := 1) (by decide +kernel) rfl rfl
theorem s_X1_hear_29 {l1 l2 l3 : Value} {x : Nat} {S : List Value} {I A : am_F} {G : am_G} : am_e 4 29 [.ref x, l1, l2, l3] S I A G = am_e 4 30 [.ref x, l1, l2, l3] (.ref x :: S) I A G := am_e_go (i := .aload_n 0) (n := 1) (by decide +kernel) rfl rfl
theorem s_X1_hear_30 {L : List Value} {S : List Value} {I A : am_F} {G : am_G} : am_e 4 30 L (.ref 54 :: S) I A G = am_e 4 33 L (.ref 57 :: S) I A G := am_e_go (i := .getfield 18) (n := 3) (by decide +kernel) rfl rfl
theorem s_X1_hear_33 {l1 l2 l3 : Value} {x : Nat} {S : List Value} {I A : am_F} {G : am_G} : am_e 4 33 [.ref x, l1, l2, l3] S I A G = am_e 4 34 [.ref x, l1, l2, l3] (.ref x :: S) I A G := am_e_go (i := .aload_n 0) (n := 1) (by decide +kernel) rfl rfl
theorem s_X1_hear_34 {L : List Value} {S : List Value} {I A : am_F} {G : am_G} : am_e 4 34 L (.ref 54 :: S) I A G = am_e 4 37 L (.int (I 54 3) :: S) I A G := am_e_go (i := .getfield 21) (n := 3) (by decide +kernel) rfl rfl
theorem s_X1_hear_37 {l0 l1 l2 : Value} {x : Int32} {S : List Value} {I A : am_F} {G : am_G} : am_e 4 37 [l0, l1, l2, .int x] S I A G = am_e 4 38 [l0, l1, l2, .int x] (.int x :: S) I A G := am_e_go (i := .iload_n 3) (n := 1) (by decide +kernel) rfl rfl
theorem s_X1_hear_38 {L : List Value} {x : Int32} {S : List Value} {I A : am_F} {G : am_G} : am_e 4 38 L (.int x :: S) I A G = if x = 0 then am_e 4 45 L S I A G else am_e 4 41 L S I A G := am_e_if (i := .ifCond .eq 7) (n := 3) (by decide +kernel) rfl rfl
theorem s_X1_hear_41 {L : List Value} {S : List Value} {I A : am_F} {G : am_G} : am_e 4 41 L S I A G = am_e 4 42 L (.int 1 :: S) I A G := am_e_go (i := .iconst 1) (n := 1) (by decide +kernel) rfl (by first | rfl | (show am_go _ _ _ (.int _ :: _) _ _ _ = am_go _ _ _ (.int _ :: _) _ _ _; congr 1 <;> decide))
theorem s_X1_hear_42 {L : List Value} {S : List Value} {I A : am_F} {G : am_G} : am_e 4 42 L S I A G = am_e 4 46 L S I A G := am_e_go (i := .goto 4) (n := 3) (by decide +kernel) rfl rfl
theorem s_X1_hear_45 {L : List Value} {S : List Value} {I A : am_F} {G : am_G} : am_e 4 45 L S I A G = am_e 4 46 L (.int 0 :: S) I A G := am_e_go (i := .iconst 0) (n := 1) (by decide +kernel) rfl (by first | rfl | (show am_go _ _ _ (.int _ :: _) _ _ _ = am_go _ _ _ (.int _ :: _) _ _ _; congr 1 <;> decide))
theorem s_X1_hear_46 {L : List Value} {i x : Int32} {a : Nat} {S : List Value} {I A : am_F} {G : am_G} : am_e 4 46 L (.int x :: .int i :: .ref a :: S) I A G = if i < 0 ∨ am_len 86 false a ≤ i.toNatClampNeg then none else am_e 4 47 L S I (am_u A a i.toNatClampNeg x) G := am_e_nif (i := .iastore) (n := 1) (by decide +kernel) rfl rfl
theorem s_X1_hear_47 {l1 l2 l3 : Value} {x : Nat} {S : List Value} {I A : am_F} {G : am_G} : am_e 4 47 [.ref x, l1, l2, l3] S I A G = am_e 4 48 [.ref x, l1, l2, l3] (.ref x :: S) I A G := am_e_go (i := .aload_n 0) (n := 1) (by decide +kernel) rfl rfl
theorem s_X1_hear_48 {L : List Value} {x : Nat} {S : List Value} {I A : am_F} {G : am_G} : am_e 4 48 L (.ref x :: S) I A G = am_e 4 49 L (.ref x :: .ref x :: S) I A G := am_e_go (i := .dup) (n := 1) (by decide +kernel) rfl rfl
theorem s_X1_hear_49 {L : List Value} {S : List Value} {I A : am_F} {G : am_G} : am_e 4 49 L (.ref 54 :: S) I A G = am_e 4 52 L (.int (I 54 3) :: S) I A G := am_e_go (i := .getfield 21) (n := 3) (by decide +kernel) rfl rfl
theorem s_X1_hear_52 {L : List Value} {S : List Value} {I A : am_F} {G : am_G} : am_e 4 52 L S I A G = am_e 4 53 L (.int 1 :: S) I A G := am_e_go (i := .iconst 1) (n := 1) (by decide +kernel) rfl (by first | rfl | (show am_go _ _ _ (.int _ :: _) _ _ _ = am_go _ _ _ (.int _ :: _) _ _ _; congr 1 <;> decide))
theorem s_X1_hear_53 {L : List Value} {x y : Int32} {S : List Value} {I A : am_F} {G : am_G} : am_e 4 53 L (.int y :: .int x :: S) I A G = am_e 4 54 L (.int (x + y) :: S) I A G := am_e_go (i := .iadd) (n := 1) (by decide +kernel) rfl rfl
theorem s_X1_hear_54 {L : List Value} {x : Int32} {S : List Value} {I A : am_F} {G : am_G} : am_e 4 54 L (.int x :: .ref 54 :: S) I A G = am_e 4 57 L S (am_u I 54 3 x) A G := am_e_go (i := .putfield 21) (n := 3) (by decide +kernel) rfl rfl
theorem s_X1_hear_57 {L : List Value} {I A : am_F} {G : am_G} : am_e 4 57 L [] I A G = some (.null, I, A, G) := am_e_rt (i := .return_) (n := 1) (by decide +kernel) rfl rfl
theorem s_X5_follow_0 {l1 l2 l3 : Value} {x : Nat} {S : List Value} {I A : am_F} {G : am_G} : am_e 29 0 [.ref x, l1, l2, l3] S I A G = am_e 29 1 [.ref x, l1, l2, l3] (.ref x :: S) I A G := am_e_go (i := .aload_n 0) (n := 1) (by decide +kernel) rfl rfl
theorem s_X5_follow_1 {l0 l2 l3 : Value} {x : Nat} {S : List Value} {I A : am_F} {G : am_G} : am_e 29 1 [l0, .ref x, l2, l3] S I A G = am_e 29 2 [l0, .ref x, l2, l3] (.ref x :: S) I A G := am_e_go (i := .aload_n 1) (n := 1) (by decide +kernel) rfl rfl
theorem s_X5_follow_2_at5 {L : List Value} {S : List Value} {I A : am_F} {G : am_G} : am_e 29 2 L (.ref 5 :: S) I A G = am_e 29 5 L (.int (I 5 10) :: S) I A G := am_e_go (i := .getfield 27) (n := 3) (by decide +kernel) rfl rfl
theorem s_X5_follow_2_at25 {L : List Value} {S : List Value} {I A : am_F} {G : am_G} : am_e 29 2 L (.ref 25 :: S) I A G = am_e 29 5 L (.int (I 25 10) :: S) I A G := am_e_go (i := .getfield 27) (n := 3) (by decide +kernel) rfl rfl
theorem s_X5_follow_5_at13 {L : List Value} {x : Int32} {S : List Value} {I A : am_F} {G : am_G} : am_e 29 5 L (.int x :: .ref 13 :: S) I A G = am_e 29 8 L S (am_u I 13 6 x) A G := am_e_go (i := .putfield 33) (n := 3) (by decide +kernel) rfl rfl
theorem s_X5_follow_5_at19 {L : List Value} {x : Int32} {S : List Value} {I A : am_F} {G : am_G} : am_e 29 5 L (.int x :: .ref 19 :: S) I A G = am_e 29 8 L S (am_u I 19 6 x) A G := am_e_go (i := .putfield 33) (n := 3) (by decide +kernel) rfl rfl
theorem s_X5_follow_5_at33 {L : List Value} {x : Int32} {S : List Value} {I A : am_F} {G : am_G} : am_e 29 5 L (.int x :: .ref 33 :: S) I A G = am_e 29 8 L S (am_u I 33 6 x) A G := am_e_go (i := .putfield 33) (n := 3) (by decide +kernel) rfl rfl
theorem s_X5_follow_5_at39 {L : List Value} {x : Int32} {S : List Value} {I A : am_F} {G : am_G} : am_e 29 5 L (.int x :: .ref 39 :: S) I A G = am_e 29 8 L S (am_u I 39 6 x) A G := am_e_go (i := .putfield 33) (n := 3) (by decide +kernel) rfl rfl
theorem s_X5_follow_8 {l1 l2 l3 : Value} {x : Nat} {S : List Value} {I A : am_F} {G : am_G} : am_e 29 8 [.ref x, l1, l2, l3] S I A G = am_e 29 9 [.ref x, l1, l2, l3] (.ref x :: S) I A G := am_e_go (i := .aload_n 0) (n := 1) (by decide +kernel) rfl rfl
theorem s_X5_follow_9 {l0 l2 l3 : Value} {x : Nat} {S : List Value} {I A : am_F} {G : am_G} : am_e 29 9 [l0, .ref x, l2, l3] S I A G = am_e 29 10 [l0, .ref x, l2, l3] (.ref x :: S) I A G := am_e_go (i := .aload_n 1) (n := 1) (by decide +kernel) rfl rfl
theorem s_X5_follow_10_at5 {L : List Value} {S : List Value} {I A : am_F} {G : am_G} : am_e 29 10 L (.ref 5 :: S) I A G = am_e 29 13 L (.int (I 5 9) :: S) I A G := am_e_go (i := .getfield 34) (n := 3) (by decide +kernel) rfl rfl
theorem s_X5_follow_10_at25 {L : List Value} {S : List Value} {I A : am_F} {G : am_G} : am_e 29 10 L (.ref 25 :: S) I A G = am_e 29 13 L (.int (I 25 9) :: S) I A G := am_e_go (i := .getfield 34) (n := 3) (by decide +kernel) rfl rfl
theorem s_X5_follow_13 {L : List Value} {S : List Value} {I A : am_F} {G : am_G} : am_e 29 13 L S I A G = am_e 29 14 L (.int 1 :: S) I A G := am_e_go (i := .iconst 1) (n := 1) (by decide +kernel) rfl (by first | rfl | (show am_go _ _ _ (.int _ :: _) _ _ _ = am_go _ _ _ (.int _ :: _) _ _ _; congr 1 <;> decide))
theorem s_X5_follow_14 {L : List Value} {x y : Int32} {S : List Value} {I A : am_F} {G : am_G} : am_e 29 14 L (.int y :: .int x :: S) I A G = am_e 29 15 L (.int (x + y) :: S) I A G := am_e_go (i := .iadd) (n := 1) (by decide +kernel) rfl rfl
theorem s_X5_follow_15_at13 {L : List Value} {x : Int32} {S : List Value} {I A : am_F} {G : am_G} : am_e 29 15 L (.int x :: .ref 13 :: S) I A G = am_e 29 18 L S (am_u I 13 3 x) A G := am_e_go (i := .putfield 37) (n := 3) (by decide +kernel) rfl rfl
theorem s_X5_follow_15_at19 {L : List Value} {x : Int32} {S : List Value} {I A : am_F} {G : am_G} : am_e 29 15 L (.int x :: .ref 19 :: S) I A G = am_e 29 18 L S (am_u I 19 3 x) A G := am_e_go (i := .putfield 37) (n := 3) (by decide +kernel) rfl rfl
theorem s_X5_follow_15_at33 {L : List Value} {x : Int32} {S : List Value} {I A : am_F} {G : am_G} : am_e 29 15 L (.int x :: .ref 33 :: S) I A G = am_e 29 18 L S (am_u I 33 3 x) A G := am_e_go (i := .putfield 37) (n := 3) (by decide +kernel) rfl rfl
theorem s_X5_follow_15_at39 {L : List Value} {x : Int32} {S : List Value} {I A : am_F} {G : am_G} : am_e 29 15 L (.int x :: .ref 39 :: S) I A G = am_e 29 18 L S (am_u I 39 3 x) A G := am_e_go (i := .putfield 37) (n := 3) (by decide +kernel) rfl rfl
theorem s_X5_follow_18 {L : List Value} {S : List Value} {I A : am_F} {G : am_G} : am_e 29 18 L S I A G = am_e 29 19 L (.int 0 :: S) I A G := am_e_go (i := .iconst 0) (n := 1) (by decide +kernel) rfl (by first | rfl | (show am_go _ _ _ (.int _ :: _) _ _ _ = am_go _ _ _ (.int _ :: _) _ _ _; congr 1 <;> decide))
theorem s_X5_follow_19 {l0 l1 l2 l3 : Value} {x : Int32} {S : List Value} {I A : am_F} {G : am_G} : am_e 29 19 [l0, l1, l2, l3] (.int x :: S) I A G = am_e 29 20 [l0, l1, l2, .int x] S I A G := am_e_go (i := .istore_n 3) (n := 1) (by decide +kernel) rfl rfl
theorem s_X5_follow_20 {l0 l1 l2 : Value} {x : Int32} {S : List Value} {I A : am_F} {G : am_G} : am_e 29 20 [l0, l1, l2, .int x] S I A G = am_e 29 21 [l0, l1, l2, .int x] (.int x :: S) I A G := am_e_go (i := .iload_n 3) (n := 1) (by decide +kernel) rfl rfl
theorem s_X5_follow_21 {l1 l2 l3 : Value} {x : Nat} {S : List Value} {I A : am_F} {G : am_G} : am_e 29 21 [.ref x, l1, l2, l3] S I A G = am_e 29 22 [.ref x, l1, l2, l3] (.ref x :: S) I A G := am_e_go (i := .aload_n 0) (n := 1) (by decide +kernel) rfl rfl
theorem s_X5_follow_22_at13 {L : List Value} {S : List Value} {I A : am_F} {G : am_G} : am_e 29 22 L (.ref 13 :: S) I A G = am_e 29 25 L (.int (I 13 6) :: S) I A G := am_e_go (i := .getfield 33) (n := 3) (by decide +kernel) rfl rfl
theorem s_X5_follow_22_at19 {L : List Value} {S : List Value} {I A : am_F} {G : am_G} : am_e 29 22 L (.ref 19 :: S) I A G = am_e 29 25 L (.int (I 19 6) :: S) I A G := am_e_go (i := .getfield 33) (n := 3) (by decide +kernel) rfl rfl
theorem s_X5_follow_22_at33 {L : List Value} {S : List Value} {I A : am_F} {G : am_G} : am_e 29 22 L (.ref 33 :: S) I A G = am_e 29 25 L (.int (I 33 6) :: S) I A G := am_e_go (i := .getfield 33) (n := 3) (by decide +kernel) rfl rfl
theorem s_X5_follow_22_at39 {L : List Value} {S : List Value} {I A : am_F} {G : am_G} : am_e 29 22 L (.ref 39 :: S) I A G = am_e 29 25 L (.int (I 39 6) :: S) I A G := am_e_go (i := .getfield 33) (n := 3) (by decide +kernel) rfl rfl
theorem s_X5_follow_25 {L : List Value} {x y : Int32} {S : List Value} {I A : am_F} {G : am_G} : am_e 29 25 L (.int y :: .int x :: S) I A G = if y ≤ x then am_e 29 62 L S I A G else am_e 29 28 L S I A G := am_e_if (i := .if_icmp .ge 37) (n := 3) (by decide +kernel) rfl rfl
theorem s_X5_follow_28 {l0 l2 l3 : Value} {x : Nat} {S : List Value} {I A : am_F} {G : am_G} : am_e 29 28 [l0, .ref x, l2, l3] S I A G = am_e 29 29 [l0, .ref x, l2, l3] (.ref x :: S) I A G := am_e_go (i := .aload_n 1) (n := 1) (by decide +kernel) rfl rfl
theorem s_X5_follow_29_at5 {L : List Value} {S : List Value} {I A : am_F} {G : am_G} : am_e 29 29 L (.ref 5 :: S) I A G = am_e 29 32 L (.ref 10 :: S) I A G := am_e_go (i := .getfield 40) (n := 3) (by decide +kernel) rfl rfl
theorem s_X5_follow_29_at25 {L : List Value} {S : List Value} {I A : am_F} {G : am_G} : am_e 29 29 L (.ref 25 :: S) I A G = am_e 29 32 L (.ref 30 :: S) I A G := am_e_go (i := .getfield 40) (n := 3) (by decide +kernel) rfl rfl
theorem s_X5_follow_32 {l0 l1 l2 : Value} {x : Int32} {S : List Value} {I A : am_F} {G : am_G} : am_e 29 32 [l0, l1, l2, .int x] S I A G = am_e 29 33 [l0, l1, l2, .int x] (.int x :: S) I A G := am_e_go (i := .iload_n 3) (n := 1) (by decide +kernel) rfl rfl
theorem s_X5_follow_33 {L : List Value} {i : Int32} {a : Nat} {S : List Value} {I A : am_F} {G : am_G} : am_e 29 33 L (.int i :: .ref a :: S) I A G = if i < 0 ∨ am_len 86 false a ≤ i.toNatClampNeg then none else am_e 29 34 L (.int (A a i.toNatClampNeg) :: S) I A G := am_e_nif (i := .iaload) (n := 1) (by decide +kernel) rfl rfl
theorem s_X5_follow_34 {L : List Value} {S : List Value} {I A : am_F} {G : am_G} : am_e 29 34 L S I A G = am_e 29 36 L (.int 8 :: S) I A G := am_e_go (i := .bipush 8) (n := 2) (by decide +kernel) rfl (by first | rfl | (show am_go _ _ _ (.int _ :: _) _ _ _ = am_go _ _ _ (.int _ :: _) _ _ _; congr 1 <;> decide))
theorem s_X5_follow_36 {L : List Value} {x y : Int32} {S : List Value} {I A : am_F} {G : am_G} : am_e 29 36 L (.int y :: .int x :: S) I A G = if x = y then am_e 29 39 L S I A G else am_e 29 49 L S I A G := am_e_if (i := .if_icmp .ne 13) (n := 3) (by decide +kernel) rfl rfl
theorem s_X5_follow_39 {l1 l2 l3 : Value} {x : Nat} {S : List Value} {I A : am_F} {G : am_G} : am_e 29 39 [.ref x, l1, l2, l3] S I A G = am_e 29 40 [.ref x, l1, l2, l3] (.ref x :: S) I A G := am_e_go (i := .aload_n 0) (n := 1) (by decide +kernel) rfl rfl
theorem s_X5_follow_40 {l0 l2 l3 : Value} {x : Nat} {S : List Value} {I A : am_F} {G : am_G} : am_e 29 40 [l0, .ref x, l2, l3] S I A G = am_e 29 41 [l0, .ref x, l2, l3] (.ref x :: S) I A G := am_e_go (i := .aload_n 1) (n := 1) (by decide +kernel) rfl rfl
theorem s_X5_follow_41 {l0 l1 l2 : Value} {x : Int32} {S : List Value} {I A : am_F} {G : am_G} : am_e 29 41 [l0, l1, l2, .int x] S I A G = am_e 29 42 [l0, l1, l2, .int x] (.int x :: S) I A G := am_e_go (i := .iload_n 3) (n := 1) (by decide +kernel) rfl rfl
theorem s_X5_follow_42 {l0 l1 l3 : Value} {x : Int32} {S : List Value} {I A : am_F} {G : am_G} : am_e 29 42 [l0, l1, .int x, l3] S I A G = am_e 29 43 [l0, l1, .int x, l3] (.int x :: S) I A G := am_e_go (i := .iload_n 2) (n := 1) (by decide +kernel) rfl rfl
theorem s_X5_follow_43_at13 {L : List Value} {a0 : Nat} {a1 : Int32} {a2 : Int32} {I A : am_F} {G : am_G} : am_e 29 43 L (.int a2 :: .int a1 :: .ref a0 :: .ref 13 :: []) I A G = am_k (am_e 31 0 [.ref 13, .ref a0, .int a1, .int a2, .null, .null] [] I A G) (fun v I A G => am_e 29 46 L (am_push v []) I A G) := am_e_call (i := .invokevirtual 43) (n := 3) (by decide +kernel) rfl rfl
theorem s_X5_follow_43_at19 {L : List Value} {a0 : Nat} {a1 : Int32} {a2 : Int32} {I A : am_F} {G : am_G} : am_e 29 43 L (.int a2 :: .int a1 :: .ref a0 :: .ref 19 :: []) I A G = am_k (am_e 31 0 [.ref 19, .ref a0, .int a1, .int a2, .null, .null] [] I A G) (fun v I A G => am_e 29 46 L (am_push v []) I A G) := am_e_call (i := .invokevirtual 43) (n := 3) (by decide +kernel) rfl rfl
theorem s_X5_follow_43_at33 {L : List Value} {a0 : Nat} {a1 : Int32} {a2 : Int32} {I A : am_F} {G : am_G} : am_e 29 43 L (.int a2 :: .int a1 :: .ref a0 :: .ref 33 :: []) I A G = am_k (am_e 31 0 [.ref 33, .ref a0, .int a1, .int a2, .null, .null] [] I A G) (fun v I A G => am_e 29 46 L (am_push v []) I A G) := am_e_call (i := .invokevirtual 43) (n := 3) (by decide +kernel) rfl rfl
theorem s_X5_follow_43_at39 {L : List Value} {a0 : Nat} {a1 : Int32} {a2 : Int32} {I A : am_F} {G : am_G} : am_e 29 43 L (.int a2 :: .int a1 :: .ref a0 :: .ref 39 :: []) I A G = am_k (am_e 31 0 [.ref 39, .ref a0, .int a1, .int a2, .null, .null] [] I A G) (fun v I A G => am_e 29 46 L (am_push v []) I A G) := am_e_call (i := .invokevirtual 43) (n := 3) (by decide +kernel) rfl rfl
theorem s_X5_follow_46 {L : List Value} {S : List Value} {I A : am_F} {G : am_G} : am_e 29 46 L S I A G = am_e 29 56 L S I A G := am_e_go (i := .goto 10) (n := 3) (by decide +kernel) rfl rfl
theorem s_X5_follow_49 {l1 l2 l3 : Value} {x : Nat} {S : List Value} {I A : am_F} {G : am_G} : am_e 29 49 [.ref x, l1, l2, l3] S I A G = am_e 29 50 [.ref x, l1, l2, l3] (.ref x :: S) I A G := am_e_go (i := .aload_n 0) (n := 1) (by decide +kernel) rfl rfl
theorem s_X5_follow_50 {l0 l2 l3 : Value} {x : Nat} {S : List Value} {I A : am_F} {G : am_G} : am_e 29 50 [l0, .ref x, l2, l3] S I A G = am_e 29 51 [l0, .ref x, l2, l3] (.ref x :: S) I A G := am_e_go (i := .aload_n 1) (n := 1) (by decide +kernel) rfl rfl
theorem s_X5_follow_51 {l0 l1 l2 : Value} {x : Int32} {S : List Value} {I A : am_F} {G : am_G} : am_e 29 51 [l0, l1, l2, .int x] S I A G = am_e 29 52 [l0, l1, l2, .int x] (.int x :: S) I A G := am_e_go (i := .iload_n 3) (n := 1) (by decide +kernel) rfl rfl
theorem s_X5_follow_52 {l0 l1 l3 : Value} {x : Int32} {S : List Value} {I A : am_F} {G : am_G} : am_e 29 52 [l0, l1, .int x, l3] S I A G = am_e 29 53 [l0, l1, .int x, l3] (.int x :: S) I A G := am_e_go (i := .iload_n 2) (n := 1) (by decide +kernel) rfl rfl
theorem s_X5_follow_53_at13 {L : List Value} {a0 : Nat} {a1 : Int32} {a2 : Int32} {I A : am_F} {G : am_G} : am_e 29 53 L (.int a2 :: .int a1 :: .ref a0 :: .ref 13 :: []) I A G = am_k (am_e 30 0 [.ref 13, .ref a0, .int a1, .int a2, .null, .null, .null] [] I A G) (fun v I A G => am_e 29 56 L (am_push v []) I A G) := am_e_call (i := .invokevirtual 47) (n := 3) (by decide +kernel) rfl rfl
theorem s_X5_follow_53_at19 {L : List Value} {a0 : Nat} {a1 : Int32} {a2 : Int32} {I A : am_F} {G : am_G} : am_e 29 53 L (.int a2 :: .int a1 :: .ref a0 :: .ref 19 :: []) I A G = am_k (am_e 30 0 [.ref 19, .ref a0, .int a1, .int a2, .null, .null, .null] [] I A G) (fun v I A G => am_e 29 56 L (am_push v []) I A G) := am_e_call (i := .invokevirtual 47) (n := 3) (by decide +kernel) rfl rfl
theorem s_X5_follow_53_at33 {L : List Value} {a0 : Nat} {a1 : Int32} {a2 : Int32} {I A : am_F} {G : am_G} : am_e 29 53 L (.int a2 :: .int a1 :: .ref a0 :: .ref 33 :: []) I A G = am_k (am_e 30 0 [.ref 33, .ref a0, .int a1, .int a2, .null, .null, .null] [] I A G) (fun v I A G => am_e 29 56 L (am_push v []) I A G) := am_e_call (i := .invokevirtual 47) (n := 3) (by decide +kernel) rfl rfl
theorem s_X5_follow_53_at39 {L : List Value} {a0 : Nat} {a1 : Int32} {a2 : Int32} {I A : am_F} {G : am_G} : am_e 29 53 L (.int a2 :: .int a1 :: .ref a0 :: .ref 39 :: []) I A G = am_k (am_e 30 0 [.ref 39, .ref a0, .int a1, .int a2, .null, .null, .null] [] I A G) (fun v I A G => am_e 29 56 L (am_push v []) I A G) := am_e_call (i := .invokevirtual 47) (n := 3) (by decide +kernel) rfl rfl
theorem s_X5_follow_56 {l0 l1 l2 : Value} {x : Int32} {S : List Value} {I A : am_F} {G : am_G} : am_e 29 56 [l0, l1, l2, .int x] S I A G = am_e 29 59 [l0, l1, l2, .int (x + 1)] S I A G := am_e_go (i := .iinc 3 1) (n := 3) (by decide +kernel) rfl (by first | rfl | (rw [show (1 : Int32) = Int32.ofInt 1 by decide]; rfl))
theorem s_X5_follow_59 {L : List Value} {S : List Value} {I A : am_F} {G : am_G} : am_e 29 59 L S I A G = am_e 29 20 L S I A G := am_e_go (i := .goto (-39)) (n := 3) (by decide +kernel) rfl rfl
theorem s_X5_follow_62 {l1 l2 l3 : Value} {x : Nat} {S : List Value} {I A : am_F} {G : am_G} : am_e 29 62 [.ref x, l1, l2, l3] S I A G = am_e 29 63 [.ref x, l1, l2, l3] (.ref x :: S) I A G := am_e_go (i := .aload_n 0) (n := 1) (by decide +kernel) rfl rfl
theorem s_X5_follow_63 {l0 l2 l3 : Value} {x : Nat} {S : List Value} {I A : am_F} {G : am_G} : am_e 29 63 [l0, .ref x, l2, l3] S I A G = am_e 29 64 [l0, .ref x, l2, l3] (.ref x :: S) I A G := am_e_go (i := .aload_n 1) (n := 1) (by decide +kernel) rfl rfl
theorem s_X5_follow_64 {l0 l1 l3 : Value} {x : Int32} {S : List Value} {I A : am_F} {G : am_G} : am_e 29 64 [l0, l1, .int x, l3] S I A G = am_e 29 65 [l0, l1, .int x, l3] (.int x :: S) I A G := am_e_go (i := .iload_n 2) (n := 1) (by decide +kernel) rfl rfl
theorem s_X5_follow_65_at13 {L : List Value} {a0 : Nat} {a1 : Int32} {I A : am_F} {G : am_G} : am_e 29 65 L (.int a1 :: .ref a0 :: .ref 13 :: []) I A G = am_k (am_e 32 0 [.ref 13, .ref a0, .int a1, .null, .null] [] I A G) (fun v I A G => am_e 29 68 L (am_push v []) I A G) := am_e_call (i := .invokevirtual 50) (n := 3) (by decide +kernel) rfl rfl
theorem s_X5_follow_65_at19 {L : List Value} {a0 : Nat} {a1 : Int32} {I A : am_F} {G : am_G} : am_e 29 65 L (.int a1 :: .ref a0 :: .ref 19 :: []) I A G = am_k (am_e 32 0 [.ref 19, .ref a0, .int a1, .null, .null] [] I A G) (fun v I A G => am_e 29 68 L (am_push v []) I A G) := am_e_call (i := .invokevirtual 50) (n := 3) (by decide +kernel) rfl rfl
theorem s_X5_follow_65_at33 {L : List Value} {a0 : Nat} {a1 : Int32} {I A : am_F} {G : am_G} : am_e 29 65 L (.int a1 :: .ref a0 :: .ref 33 :: []) I A G = am_k (am_e 32 0 [.ref 33, .ref a0, .int a1, .null, .null] [] I A G) (fun v I A G => am_e 29 68 L (am_push v []) I A G) := am_e_call (i := .invokevirtual 50) (n := 3) (by decide +kernel) rfl rfl
theorem s_X5_follow_65_at39 {L : List Value} {a0 : Nat} {a1 : Int32} {I A : am_F} {G : am_G} : am_e 29 65 L (.int a1 :: .ref a0 :: .ref 39 :: []) I A G = am_k (am_e 32 0 [.ref 39, .ref a0, .int a1, .null, .null] [] I A G) (fun v I A G => am_e 29 68 L (am_push v []) I A G) := am_e_call (i := .invokevirtual 50) (n := 3) (by decide +kernel) rfl rfl
theorem s_X5_follow_68 {l1 l2 l3 : Value} {x : Nat} {S : List Value} {I A : am_F} {G : am_G} : am_e 29 68 [.ref x, l1, l2, l3] S I A G = am_e 29 69 [.ref x, l1, l2, l3] (.ref x :: S) I A G := am_e_go (i := .aload_n 0) (n := 1) (by decide +kernel) rfl rfl
theorem s_X5_follow_69_at13 {L : List Value} {I A : am_F} {G : am_G} : am_e 29 69 L (.ref 13 :: []) I A G = am_k (am_e 34 0 [.ref 13, .null, .null, .null] [] I A G) (fun v I A G => am_e 29 72 L (am_push v []) I A G) := am_e_call (i := .invokevirtual 54) (n := 3) (by decide +kernel) rfl rfl
theorem s_X5_follow_69_at19 {L : List Value} {I A : am_F} {G : am_G} : am_e 29 69 L (.ref 19 :: []) I A G = am_k (am_e 34 0 [.ref 19, .null, .null, .null] [] I A G) (fun v I A G => am_e 29 72 L (am_push v []) I A G) := am_e_call (i := .invokevirtual 54) (n := 3) (by decide +kernel) rfl rfl
theorem s_X5_follow_69_at33 {L : List Value} {I A : am_F} {G : am_G} : am_e 29 69 L (.ref 33 :: []) I A G = am_k (am_e 34 0 [.ref 33, .null, .null, .null] [] I A G) (fun v I A G => am_e 29 72 L (am_push v []) I A G) := am_e_call (i := .invokevirtual 54) (n := 3) (by decide +kernel) rfl rfl
theorem s_X5_follow_69_at39 {L : List Value} {I A : am_F} {G : am_G} : am_e 29 69 L (.ref 39 :: []) I A G = am_k (am_e 34 0 [.ref 39, .null, .null, .null] [] I A G) (fun v I A G => am_e 29 72 L (am_push v []) I A G) := am_e_call (i := .invokevirtual 54) (n := 3) (by decide +kernel) rfl rfl
theorem s_X5_follow_72 {L : List Value} {I A : am_F} {G : am_G} : am_e 29 72 L [] I A G = some (.null, I, A, G) := am_e_rt (i := .return_) (n := 1) (by decide +kernel) rfl rfl
theorem s_X5_leadInside_0 {l0 l2 l3 l4 l5 l6 : Value} {x : Nat} {S : List Value} {I A : am_F} {G : am_G} : am_e 30 0 [l0, .ref x, l2, l3, l4, l5, l6] S I A G = am_e 30 1 [l0, .ref x, l2, l3, l4, l5, l6] (.ref x :: S) I A G := am_e_go (i := .aload_n 1) (n := 1) (by decide +kernel) rfl rfl
theorem s_X5_leadInside_1_at5 {L : List Value} {S : List Value} {I A : am_F} {G : am_G} : am_e 30 1 L (.ref 5 :: S) I A G = am_e 30 4 L (.ref 9 :: S) I A G := am_e_go (i := .getfield 57) (n := 3) (by decide +kernel) rfl rfl
theorem s_X5_leadInside_1_at25 {L : List Value} {S : List Value} {I A : am_F} {G : am_G} : am_e 30 1 L (.ref 25 :: S) I A G = am_e 30 4 L (.ref 29 :: S) I A G := am_e_go (i := .getfield 57) (n := 3) (by decide +kernel) rfl rfl
theorem s_X5_leadInside_4 {l0 l1 l3 l4 l5 l6 : Value} {x : Int32} {S : List Value} {I A : am_F} {G : am_G} : am_e 30 4 [l0, l1, .int x, l3, l4, l5, l6] S I A G = am_e 30 5 [l0, l1, .int x, l3, l4, l5, l6] (.int x :: S) I A G := am_e_go (i := .iload_n 2) (n := 1) (by decide +kernel) rfl rfl
theorem s_X5_leadInside_5 {L : List Value} {i : Int32} {a : Nat} {S : List Value} {I A : am_F} {G : am_G} : am_e 30 5 L (.int i :: .ref a :: S) I A G = if i < 0 ∨ am_len 86 false a ≤ i.toNatClampNeg then none else am_e 30 6 L (.int (A a i.toNatClampNeg) :: S) I A G := am_e_nif (i := .iaload) (n := 1) (by decide +kernel) rfl rfl
theorem s_X5_leadInside_6 {l0 l1 l2 l3 l4 l5 l6 : Value} {x : Int32} {S : List Value} {I A : am_F} {G : am_G} : am_e 30 6 [l0, l1, l2, l3, l4, l5, l6] (.int x :: S) I A G = am_e 30 8 [l0, l1, l2, l3, .int x, l5, l6] S I A G := am_e_go (i := .istore 4) (n := 2) (by decide +kernel) rfl rfl
theorem s_X5_leadInside_8 {l0 l2 l3 l4 l5 l6 : Value} {x : Nat} {S : List Value} {I A : am_F} {G : am_G} : am_e 30 8 [l0, .ref x, l2, l3, l4, l5, l6] S I A G = am_e 30 9 [l0, .ref x, l2, l3, l4, l5, l6] (.ref x :: S) I A G := am_e_go (i := .aload_n 1) (n := 1) (by decide +kernel) rfl rfl
theorem s_X5_leadInside_9_at5 {L : List Value} {S : List Value} {I A : am_F} {G : am_G} : am_e 30 9 L (.ref 5 :: S) I A G = am_e 30 12 L (.ref 10 :: S) I A G := am_e_go (i := .getfield 40) (n := 3) (by decide +kernel) rfl rfl
theorem s_X5_leadInside_9_at25 {L : List Value} {S : List Value} {I A : am_F} {G : am_G} : am_e 30 9 L (.ref 25 :: S) I A G = am_e 30 12 L (.ref 30 :: S) I A G := am_e_go (i := .getfield 40) (n := 3) (by decide +kernel) rfl rfl
theorem s_X5_leadInside_12 {l0 l1 l3 l4 l5 l6 : Value} {x : Int32} {S : List Value} {I A : am_F} {G : am_G} : am_e 30 12 [l0, l1, .int x, l3, l4, l5, l6] S I A G = am_e 30 13 [l0, l1, .int x, l3, l4, l5, l6] (.int x :: S) I A G := am_e_go (i := .iload_n 2) (n := 1) (by decide +kernel) rfl rfl
theorem s_X5_leadInside_13 {L : List Value} {i : Int32} {a : Nat} {S : List Value} {I A : am_F} {G : am_G} : am_e 30 13 L (.int i :: .ref a :: S) I A G = if i < 0 ∨ am_len 86 false a ≤ i.toNatClampNeg then none else am_e 30 14 L (.int (A a i.toNatClampNeg) :: S) I A G := am_e_nif (i := .iaload) (n := 1) (by decide +kernel) rfl rfl
theorem s_X5_leadInside_14 {l0 l1 l2 l3 l4 l5 l6 : Value} {x : Int32} {S : List Value} {I A : am_F} {G : am_G} : am_e 30 14 [l0, l1, l2, l3, l4, l5, l6] (.int x :: S) I A G = am_e 30 16 [l0, l1, l2, l3, l4, .int x, l6] S I A G := am_e_go (i := .istore 5) (n := 2) (by decide +kernel) rfl rfl
theorem s_X5_leadInside_16 {l0 l2 l3 l4 l5 l6 : Value} {x : Nat} {S : List Value} {I A : am_F} {G : am_G} : am_e 30 16 [l0, .ref x, l2, l3, l4, l5, l6] S I A G = am_e 30 17 [l0, .ref x, l2, l3, l4, l5, l6] (.ref x :: S) I A G := am_e_go (i := .aload_n 1) (n := 1) (by decide +kernel) rfl rfl
theorem s_X5_leadInside_17_at5 {L : List Value} {S : List Value} {I A : am_F} {G : am_G} : am_e 30 17 L (.ref 5 :: S) I A G = am_e 30 20 L (.ref 6 :: S) I A G := am_e_go (i := .getfield 60) (n := 3) (by decide +kernel) rfl rfl
theorem s_X5_leadInside_17_at25 {L : List Value} {S : List Value} {I A : am_F} {G : am_G} : am_e 30 17 L (.ref 25 :: S) I A G = am_e 30 20 L (.ref 26 :: S) I A G := am_e_go (i := .getfield 60) (n := 3) (by decide +kernel) rfl rfl
theorem s_X5_leadInside_20 {l0 l1 l2 l3 l5 l6 : Value} {x : Int32} {S : List Value} {I A : am_F} {G : am_G} : am_e 30 20 [l0, l1, l2, l3, .int x, l5, l6] S I A G = am_e 30 22 [l0, l1, l2, l3, .int x, l5, l6] (.int x :: S) I A G := am_e_go (i := .iload 4) (n := 2) (by decide +kernel) rfl rfl
theorem s_X5_leadInside_22 {L : List Value} {i : Int32} {a : Nat} {S : List Value} {I A : am_F} {G : am_G} : am_e 30 22 L (.int i :: .ref a :: S) I A G = if i < 0 ∨ am_len 86 false a ≤ i.toNatClampNeg then none else am_e 30 23 L (.int (A a i.toNatClampNeg) :: S) I A G := am_e_nif (i := .iaload) (n := 1) (by decide +kernel) rfl rfl
theorem s_X5_leadInside_23 {l0 l2 l3 l4 l5 l6 : Value} {x : Nat} {S : List Value} {I A : am_F} {G : am_G} : am_e 30 23 [l0, .ref x, l2, l3, l4, l5, l6] S I A G = am_e 30 24 [l0, .ref x, l2, l3, l4, l5, l6] (.ref x :: S) I A G := am_e_go (i := .aload_n 1) (n := 1) (by decide +kernel) rfl rfl
theorem s_X5_leadInside_24_at5 {L : List Value} {S : List Value} {I A : am_F} {G : am_G} : am_e 30 24 L (.ref 5 :: S) I A G = am_e 30 27 L (.ref 6 :: S) I A G := am_e_go (i := .getfield 60) (n := 3) (by decide +kernel) rfl rfl
theorem s_X5_leadInside_24_at25 {L : List Value} {S : List Value} {I A : am_F} {G : am_G} : am_e 30 24 L (.ref 25 :: S) I A G = am_e 30 27 L (.ref 26 :: S) I A G := am_e_go (i := .getfield 60) (n := 3) (by decide +kernel) rfl rfl
theorem s_X5_leadInside_27 {l0 l1 l2 l3 l4 l6 : Value} {x : Int32} {S : List Value} {I A : am_F} {G : am_G} : am_e 30 27 [l0, l1, l2, l3, l4, .int x, l6] S I A G = am_e 30 29 [l0, l1, l2, l3, l4, .int x, l6] (.int x :: S) I A G := am_e_go (i := .iload 5) (n := 2) (by decide +kernel) rfl rfl
theorem s_X5_leadInside_29 {L : List Value} {i : Int32} {a : Nat} {S : List Value} {I A : am_F} {G : am_G} : am_e 30 29 L (.int i :: .ref a :: S) I A G = if i < 0 ∨ am_len 86 false a ≤ i.toNatClampNeg then none else am_e 30 30 L (.int (A a i.toNatClampNeg) :: S) I A G := am_e_nif (i := .iaload) (n := 1) (by decide +kernel) rfl rfl
theorem s_X5_leadInside_30 {L : List Value} {x y : Int32} {S : List Value} {I A : am_F} {G : am_G} : am_e 30 30 L (.int y :: .int x :: S) I A G = if y ≤ x then am_e 30 37 L S I A G else am_e 30 33 L S I A G := am_e_if (i := .if_icmp .ge 7) (n := 3) (by decide +kernel) rfl rfl
theorem s_X5_leadInside_33 {L : List Value} {S : List Value} {I A : am_F} {G : am_G} : am_e 30 33 L S I A G = am_e 30 34 L (.int 1 :: S) I A G := am_e_go (i := .iconst 1) (n := 1) (by decide +kernel) rfl (by first | rfl | (show am_go _ _ _ (.int _ :: _) _ _ _ = am_go _ _ _ (.int _ :: _) _ _ _; congr 1 <;> decide))
theorem s_X5_leadInside_34 {L : List Value} {S : List Value} {I A : am_F} {G : am_G} : am_e 30 34 L S I A G = am_e 30 38 L S I A G := am_e_go (i := .goto 4) (n := 3) (by decide +kernel) rfl rfl
theorem s_X5_leadInside_37 {L : List Value} {S : List Value} {I A : am_F} {G : am_G} : am_e 30 37 L S I A G = am_e 30 38 L (.int 0 :: S) I A G := am_e_go (i := .iconst 0) (n := 1) (by decide +kernel) rfl (by first | rfl | (show am_go _ _ _ (.int _ :: _) _ _ _ = am_go _ _ _ (.int _ :: _) _ _ _; congr 1 <;> decide))
theorem s_X5_leadInside_38 {l0 l1 l2 l4 l5 l6 : Value} {x : Int32} {S : List Value} {I A : am_F} {G : am_G} : am_e 30 38 [l0, l1, l2, .int x, l4, l5, l6] S I A G = am_e 30 39 [l0, l1, l2, .int x, l4, l5, l6] (.int x :: S) I A G := am_e_go (i := .iload_n 3) (n := 1) (by decide +kernel) rfl rfl
theorem s_X5_leadInside_39 {L : List Value} {x y : Int32} {S : List Value} {I A : am_F} {G : am_G} : am_e 30 39 L (.int y :: .int x :: S) I A G = if x = y then am_e 30 42 L S I A G else am_e 30 46 L S I A G := am_e_if (i := .if_icmp .ne 7) (n := 3) (by decide +kernel) rfl rfl
theorem s_X5_leadInside_42 {L : List Value} {S : List Value} {I A : am_F} {G : am_G} : am_e 30 42 L S I A G = am_e 30 43 L (.int 1 :: S) I A G := am_e_go (i := .iconst 1) (n := 1) (by decide +kernel) rfl (by first | rfl | (show am_go _ _ _ (.int _ :: _) _ _ _ = am_go _ _ _ (.int _ :: _) _ _ _; congr 1 <;> decide))
theorem s_X5_leadInside_43 {L : List Value} {S : List Value} {I A : am_F} {G : am_G} : am_e 30 43 L S I A G = am_e 30 47 L S I A G := am_e_go (i := .goto 4) (n := 3) (by decide +kernel) rfl rfl
theorem s_X5_leadInside_46 {L : List Value} {S : List Value} {I A : am_F} {G : am_G} : am_e 30 46 L S I A G = am_e 30 47 L (.int 0 :: S) I A G := am_e_go (i := .iconst 0) (n := 1) (by decide +kernel) rfl (by first | rfl | (show am_go _ _ _ (.int _ :: _) _ _ _ = am_go _ _ _ (.int _ :: _) _ _ _; congr 1 <;> decide))
theorem s_X5_leadInside_47 {l0 l1 l2 l3 l4 l5 l6 : Value} {x : Int32} {S : List Value} {I A : am_F} {G : am_G} : am_e 30 47 [l0, l1, l2, l3, l4, l5, l6] (.int x :: S) I A G = am_e 30 49 [l0, l1, l2, l3, l4, l5, .int x] S I A G := am_e_go (i := .istore 6) (n := 2) (by decide +kernel) rfl rfl
theorem s_X5_leadInside_49 {l1 l2 l3 l4 l5 l6 : Value} {x : Nat} {S : List Value} {I A : am_F} {G : am_G} : am_e 30 49 [.ref x, l1, l2, l3, l4, l5, l6] S I A G = am_e 30 50 [.ref x, l1, l2, l3, l4, l5, l6] (.ref x :: S) I A G := am_e_go (i := .aload_n 0) (n := 1) (by decide +kernel) rfl rfl
theorem s_X5_leadInside_50_at13 {L : List Value} {S : List Value} {I A : am_F} {G : am_G} : am_e 30 50 L (.ref 13 :: S) I A G = am_e 30 53 L (.ref 14 :: S) I A G := am_e_go (i := .getfield 9) (n := 3) (by decide +kernel) rfl rfl
theorem s_X5_leadInside_50_at19 {L : List Value} {S : List Value} {I A : am_F} {G : am_G} : am_e 30 50 L (.ref 19 :: S) I A G = am_e 30 53 L (.ref 20 :: S) I A G := am_e_go (i := .getfield 9) (n := 3) (by decide +kernel) rfl rfl
theorem s_X5_leadInside_50_at33 {L : List Value} {S : List Value} {I A : am_F} {G : am_G} : am_e 30 50 L (.ref 33 :: S) I A G = am_e 30 53 L (.ref 34 :: S) I A G := am_e_go (i := .getfield 9) (n := 3) (by decide +kernel) rfl rfl
theorem s_X5_leadInside_50_at39 {L : List Value} {S : List Value} {I A : am_F} {G : am_G} : am_e 30 50 L (.ref 39 :: S) I A G = am_e 30 53 L (.ref 40 :: S) I A G := am_e_go (i := .getfield 9) (n := 3) (by decide +kernel) rfl rfl
theorem s_X5_leadInside_53 {l0 l1 l3 l4 l5 l6 : Value} {x : Int32} {S : List Value} {I A : am_F} {G : am_G} : am_e 30 53 [l0, l1, .int x, l3, l4, l5, l6] S I A G = am_e 30 54 [l0, l1, .int x, l3, l4, l5, l6] (.int x :: S) I A G := am_e_go (i := .iload_n 2) (n := 1) (by decide +kernel) rfl rfl
theorem s_X5_leadInside_54 {l0 l1 l2 l3 l4 l5 : Value} {x : Int32} {S : List Value} {I A : am_F} {G : am_G} : am_e 30 54 [l0, l1, l2, l3, l4, l5, .int x] S I A G = am_e 30 56 [l0, l1, l2, l3, l4, l5, .int x] (.int x :: S) I A G := am_e_go (i := .iload 6) (n := 2) (by decide +kernel) rfl rfl
theorem s_X5_leadInside_56 {L : List Value} {x : Int32} {S : List Value} {I A : am_F} {G : am_G} : am_e 30 56 L (.int x :: S) I A G = if x = 0 then am_e 30 64 L S I A G else am_e 30 59 L S I A G := am_e_if (i := .ifCond .eq 8) (n := 3) (by decide +kernel) rfl rfl
theorem s_X5_leadInside_59 {l0 l1 l2 l3 l5 l6 : Value} {x : Int32} {S : List Value} {I A : am_F} {G : am_G} : am_e 30 59 [l0, l1, l2, l3, .int x, l5, l6] S I A G = am_e 30 61 [l0, l1, l2, l3, .int x, l5, l6] (.int x :: S) I A G := am_e_go (i := .iload 4) (n := 2) (by decide +kernel) rfl rfl
theorem s_X5_leadInside_61 {L : List Value} {S : List Value} {I A : am_F} {G : am_G} : am_e 30 61 L S I A G = am_e 30 66 L S I A G := am_e_go (i := .goto 5) (n := 3) (by decide +kernel) rfl rfl
theorem s_X5_leadInside_64 {l0 l1 l2 l3 l4 l6 : Value} {x : Int32} {S : List Value} {I A : am_F} {G : am_G} : am_e 30 64 [l0, l1, l2, l3, l4, .int x, l6] S I A G = am_e 30 66 [l0, l1, l2, l3, l4, .int x, l6] (.int x :: S) I A G := am_e_go (i := .iload 5) (n := 2) (by decide +kernel) rfl rfl
theorem s_X5_leadInside_66 {L : List Value} {i x : Int32} {a : Nat} {S : List Value} {I A : am_F} {G : am_G} : am_e 30 66 L (.int x :: .int i :: .ref a :: S) I A G = if i < 0 ∨ am_len 86 false a ≤ i.toNatClampNeg then none else am_e 30 67 L S I (am_u A a i.toNatClampNeg x) G := am_e_nif (i := .iastore) (n := 1) (by decide +kernel) rfl rfl
theorem s_X5_leadInside_67 {l1 l2 l3 l4 l5 l6 : Value} {x : Nat} {S : List Value} {I A : am_F} {G : am_G} : am_e 30 67 [.ref x, l1, l2, l3, l4, l5, l6] S I A G = am_e 30 68 [.ref x, l1, l2, l3, l4, l5, l6] (.ref x :: S) I A G := am_e_go (i := .aload_n 0) (n := 1) (by decide +kernel) rfl rfl
theorem s_X5_leadInside_68_at13 {L : List Value} {S : List Value} {I A : am_F} {G : am_G} : am_e 30 68 L (.ref 13 :: S) I A G = am_e 30 71 L (.ref 15 :: S) I A G := am_e_go (i := .getfield 15) (n := 3) (by decide +kernel) rfl rfl
theorem s_X5_leadInside_68_at19 {L : List Value} {S : List Value} {I A : am_F} {G : am_G} : am_e 30 68 L (.ref 19 :: S) I A G = am_e 30 71 L (.ref 21 :: S) I A G := am_e_go (i := .getfield 15) (n := 3) (by decide +kernel) rfl rfl
theorem s_X5_leadInside_68_at33 {L : List Value} {S : List Value} {I A : am_F} {G : am_G} : am_e 30 68 L (.ref 33 :: S) I A G = am_e 30 71 L (.ref 35 :: S) I A G := am_e_go (i := .getfield 15) (n := 3) (by decide +kernel) rfl rfl
theorem s_X5_leadInside_68_at39 {L : List Value} {S : List Value} {I A : am_F} {G : am_G} : am_e 30 68 L (.ref 39 :: S) I A G = am_e 30 71 L (.ref 41 :: S) I A G := am_e_go (i := .getfield 15) (n := 3) (by decide +kernel) rfl rfl
theorem s_X5_leadInside_71 {l0 l1 l3 l4 l5 l6 : Value} {x : Int32} {S : List Value} {I A : am_F} {G : am_G} : am_e 30 71 [l0, l1, .int x, l3, l4, l5, l6] S I A G = am_e 30 72 [l0, l1, .int x, l3, l4, l5, l6] (.int x :: S) I A G := am_e_go (i := .iload_n 2) (n := 1) (by decide +kernel) rfl rfl
theorem s_X5_leadInside_72 {l0 l1 l2 l3 l4 l5 : Value} {x : Int32} {S : List Value} {I A : am_F} {G : am_G} : am_e 30 72 [l0, l1, l2, l3, l4, l5, .int x] S I A G = am_e 30 74 [l0, l1, l2, l3, l4, l5, .int x] (.int x :: S) I A G := am_e_go (i := .iload 6) (n := 2) (by decide +kernel) rfl rfl
theorem s_X5_leadInside_74 {L : List Value} {x : Int32} {S : List Value} {I A : am_F} {G : am_G} : am_e 30 74 L (.int x :: S) I A G = if x = 0 then am_e 30 82 L S I A G else am_e 30 77 L S I A G := am_e_if (i := .ifCond .eq 8) (n := 3) (by decide +kernel) rfl rfl
theorem s_X5_leadInside_77 {l0 l1 l2 l3 l4 l6 : Value} {x : Int32} {S : List Value} {I A : am_F} {G : am_G} : am_e 30 77 [l0, l1, l2, l3, l4, .int x, l6] S I A G = am_e 30 79 [l0, l1, l2, l3, l4, .int x, l6] (.int x :: S) I A G := am_e_go (i := .iload 5) (n := 2) (by decide +kernel) rfl rfl
theorem s_X5_leadInside_79 {L : List Value} {S : List Value} {I A : am_F} {G : am_G} : am_e 30 79 L S I A G = am_e 30 84 L S I A G := am_e_go (i := .goto 5) (n := 3) (by decide +kernel) rfl rfl
theorem s_X5_leadInside_82 {l0 l1 l2 l3 l5 l6 : Value} {x : Int32} {S : List Value} {I A : am_F} {G : am_G} : am_e 30 82 [l0, l1, l2, l3, .int x, l5, l6] S I A G = am_e 30 84 [l0, l1, l2, l3, .int x, l5, l6] (.int x :: S) I A G := am_e_go (i := .iload 4) (n := 2) (by decide +kernel) rfl rfl
theorem s_X5_leadInside_84 {L : List Value} {i x : Int32} {a : Nat} {S : List Value} {I A : am_F} {G : am_G} : am_e 30 84 L (.int x :: .int i :: .ref a :: S) I A G = if i < 0 ∨ am_len 86 false a ≤ i.toNatClampNeg then none else am_e 30 85 L S I (am_u A a i.toNatClampNeg x) G := am_e_nif (i := .iastore) (n := 1) (by decide +kernel) rfl rfl
theorem s_X5_leadInside_85 {L : List Value} {I A : am_F} {G : am_G} : am_e 30 85 L [] I A G = some (.null, I, A, G) := am_e_rt (i := .return_) (n := 1) (by decide +kernel) rfl rfl
theorem s_X5_leadOutside_0 {l0 l2 l3 l4 l5 : Value} {x : Nat} {S : List Value} {I A : am_F} {G : am_G} : am_e 31 0 [l0, .ref x, l2, l3, l4, l5] S I A G = am_e 31 1 [l0, .ref x, l2, l3, l4, l5] (.ref x :: S) I A G := am_e_go (i := .aload_n 1) (n := 1) (by decide +kernel) rfl rfl
theorem s_X5_leadOutside_1_at5 {L : List Value} {S : List Value} {I A : am_F} {G : am_G} : am_e 31 1 L (.ref 5 :: S) I A G = am_e 31 4 L (.ref 9 :: S) I A G := am_e_go (i := .getfield 57) (n := 3) (by decide +kernel) rfl rfl
theorem s_X5_leadOutside_1_at25 {L : List Value} {S : List Value} {I A : am_F} {G : am_G} : am_e 31 1 L (.ref 25 :: S) I A G = am_e 31 4 L (.ref 29 :: S) I A G := am_e_go (i := .getfield 57) (n := 3) (by decide +kernel) rfl rfl
theorem s_X5_leadOutside_4 {l0 l1 l3 l4 l5 : Value} {x : Int32} {S : List Value} {I A : am_F} {G : am_G} : am_e 31 4 [l0, l1, .int x, l3, l4, l5] S I A G = am_e 31 5 [l0, l1, .int x, l3, l4, l5] (.int x :: S) I A G := am_e_go (i := .iload_n 2) (n := 1) (by decide +kernel) rfl rfl
theorem s_X5_leadOutside_5 {L : List Value} {i : Int32} {a : Nat} {S : List Value} {I A : am_F} {G : am_G} : am_e 31 5 L (.int i :: .ref a :: S) I A G = if i < 0 ∨ am_len 86 false a ≤ i.toNatClampNeg then none else am_e 31 6 L (.int (A a i.toNatClampNeg) :: S) I A G := am_e_nif (i := .iaload) (n := 1) (by decide +kernel) rfl rfl
theorem s_X5_leadOutside_6 {l0 l1 l2 l3 l4 l5 : Value} {x : Int32} {S : List Value} {I A : am_F} {G : am_G} : am_e 31 6 [l0, l1, l2, l3, l4, l5] (.int x :: S) I A G = am_e 31 8 [l0, l1, l2, l3, .int x, l5] S I A G := am_e_go (i := .istore 4) (n := 2) (by decide +kernel) rfl rfl
theorem s_X5_leadOutside_8 {l0 l2 l3 l4 l5 : Value} {x : Nat} {S : List Value} {I A : am_F} {G : am_G} : am_e 31 8 [l0, .ref x, l2, l3, l4, l5] S I A G = am_e 31 9 [l0, .ref x, l2, l3, l4, l5] (.ref x :: S) I A G := am_e_go (i := .aload_n 1) (n := 1) (by decide +kernel) rfl rfl
theorem s_X5_leadOutside_9_at5 {L : List Value} {S : List Value} {I A : am_F} {G : am_G} : am_e 31 9 L (.ref 5 :: S) I A G = am_e 31 12 L (.ref 6 :: S) I A G := am_e_go (i := .getfield 60) (n := 3) (by decide +kernel) rfl rfl
theorem s_X5_leadOutside_9_at25 {L : List Value} {S : List Value} {I A : am_F} {G : am_G} : am_e 31 9 L (.ref 25 :: S) I A G = am_e 31 12 L (.ref 26 :: S) I A G := am_e_go (i := .getfield 60) (n := 3) (by decide +kernel) rfl rfl
theorem s_X5_leadOutside_12 {l0 l1 l2 l3 l5 : Value} {x : Int32} {S : List Value} {I A : am_F} {G : am_G} : am_e 31 12 [l0, l1, l2, l3, .int x, l5] S I A G = am_e 31 14 [l0, l1, l2, l3, .int x, l5] (.int x :: S) I A G := am_e_go (i := .iload 4) (n := 2) (by decide +kernel) rfl rfl
theorem s_X5_leadOutside_14 {L : List Value} {i : Int32} {a : Nat} {S : List Value} {I A : am_F} {G : am_G} : am_e 31 14 L (.int i :: .ref a :: S) I A G = if i < 0 ∨ am_len 86 false a ≤ i.toNatClampNeg then none else am_e 31 15 L (.int (A a i.toNatClampNeg) :: S) I A G := am_e_nif (i := .iaload) (n := 1) (by decide +kernel) rfl rfl
theorem s_X5_leadOutside_15 {l0 l2 l3 l4 l5 : Value} {x : Nat} {S : List Value} {I A : am_F} {G : am_G} : am_e 31 15 [l0, .ref x, l2, l3, l4, l5] S I A G = am_e 31 16 [l0, .ref x, l2, l3, l4, l5] (.ref x :: S) I A G := am_e_go (i := .aload_n 1) (n := 1) (by decide +kernel) rfl rfl
theorem s_X5_leadOutside_16_at5 {L : List Value} {S : List Value} {I A : am_F} {G : am_G} : am_e 31 16 L (.ref 5 :: S) I A G = am_e 31 19 L (.int (I 5 12) :: S) I A G := am_e_go (i := .getfield 63) (n := 3) (by decide +kernel) rfl rfl
theorem s_X5_leadOutside_16_at25 {L : List Value} {S : List Value} {I A : am_F} {G : am_G} : am_e 31 16 L (.ref 25 :: S) I A G = am_e 31 19 L (.int (I 25 12) :: S) I A G := am_e_go (i := .getfield 63) (n := 3) (by decide +kernel) rfl rfl
theorem s_X5_leadOutside_19 {L : List Value} {x y : Int32} {S : List Value} {I A : am_F} {G : am_G} : am_e 31 19 L (.int y :: .int x :: S) I A G = if y ≤ x then am_e 31 26 L S I A G else am_e 31 22 L S I A G := am_e_if (i := .if_icmp .ge 7) (n := 3) (by decide +kernel) rfl rfl
theorem s_X5_leadOutside_22 {L : List Value} {S : List Value} {I A : am_F} {G : am_G} : am_e 31 22 L S I A G = am_e 31 23 L (.int 1 :: S) I A G := am_e_go (i := .iconst 1) (n := 1) (by decide +kernel) rfl (by first | rfl | (show am_go _ _ _ (.int _ :: _) _ _ _ = am_go _ _ _ (.int _ :: _) _ _ _; congr 1 <;> decide))
theorem s_X5_leadOutside_23 {L : List Value} {S : List Value} {I A : am_F} {G : am_G} : am_e 31 23 L S I A G = am_e 31 27 L S I A G := am_e_go (i := .goto 4) (n := 3) (by decide +kernel) rfl rfl
theorem s_X5_leadOutside_26 {L : List Value} {S : List Value} {I A : am_F} {G : am_G} : am_e 31 26 L S I A G = am_e 31 27 L (.int 0 :: S) I A G := am_e_go (i := .iconst 0) (n := 1) (by decide +kernel) rfl (by first | rfl | (show am_go _ _ _ (.int _ :: _) _ _ _ = am_go _ _ _ (.int _ :: _) _ _ _; congr 1 <;> decide))
theorem s_X5_leadOutside_27 {l0 l1 l2 l4 l5 : Value} {x : Int32} {S : List Value} {I A : am_F} {G : am_G} : am_e 31 27 [l0, l1, l2, .int x, l4, l5] S I A G = am_e 31 28 [l0, l1, l2, .int x, l4, l5] (.int x :: S) I A G := am_e_go (i := .iload_n 3) (n := 1) (by decide +kernel) rfl rfl
theorem s_X5_leadOutside_28 {L : List Value} {x y : Int32} {S : List Value} {I A : am_F} {G : am_G} : am_e 31 28 L (.int y :: .int x :: S) I A G = if x = y then am_e 31 31 L S I A G else am_e 31 35 L S I A G := am_e_if (i := .if_icmp .ne 7) (n := 3) (by decide +kernel) rfl rfl
theorem s_X5_leadOutside_31 {L : List Value} {S : List Value} {I A : am_F} {G : am_G} : am_e 31 31 L S I A G = am_e 31 32 L (.int 1 :: S) I A G := am_e_go (i := .iconst 1) (n := 1) (by decide +kernel) rfl (by first | rfl | (show am_go _ _ _ (.int _ :: _) _ _ _ = am_go _ _ _ (.int _ :: _) _ _ _; congr 1 <;> decide))
theorem s_X5_leadOutside_32 {L : List Value} {S : List Value} {I A : am_F} {G : am_G} : am_e 31 32 L S I A G = am_e 31 36 L S I A G := am_e_go (i := .goto 4) (n := 3) (by decide +kernel) rfl rfl
theorem s_X5_leadOutside_35 {L : List Value} {S : List Value} {I A : am_F} {G : am_G} : am_e 31 35 L S I A G = am_e 31 36 L (.int 0 :: S) I A G := am_e_go (i := .iconst 0) (n := 1) (by decide +kernel) rfl (by first | rfl | (show am_go _ _ _ (.int _ :: _) _ _ _ = am_go _ _ _ (.int _ :: _) _ _ _; congr 1 <;> decide))
theorem s_X5_leadOutside_36 {l0 l1 l2 l3 l4 l5 : Value} {x : Int32} {S : List Value} {I A : am_F} {G : am_G} : am_e 31 36 [l0, l1, l2, l3, l4, l5] (.int x :: S) I A G = am_e 31 38 [l0, l1, l2, l3, l4, .int x] S I A G := am_e_go (i := .istore 5) (n := 2) (by decide +kernel) rfl rfl
theorem s_X5_leadOutside_38 {l1 l2 l3 l4 l5 : Value} {x : Nat} {S : List Value} {I A : am_F} {G : am_G} : am_e 31 38 [.ref x, l1, l2, l3, l4, l5] S I A G = am_e 31 39 [.ref x, l1, l2, l3, l4, l5] (.ref x :: S) I A G := am_e_go (i := .aload_n 0) (n := 1) (by decide +kernel) rfl rfl
theorem s_X5_leadOutside_39_at13 {L : List Value} {S : List Value} {I A : am_F} {G : am_G} : am_e 31 39 L (.ref 13 :: S) I A G = am_e 31 42 L (.ref 14 :: S) I A G := am_e_go (i := .getfield 9) (n := 3) (by decide +kernel) rfl rfl
theorem s_X5_leadOutside_39_at19 {L : List Value} {S : List Value} {I A : am_F} {G : am_G} : am_e 31 39 L (.ref 19 :: S) I A G = am_e 31 42 L (.ref 20 :: S) I A G := am_e_go (i := .getfield 9) (n := 3) (by decide +kernel) rfl rfl
theorem s_X5_leadOutside_39_at33 {L : List Value} {S : List Value} {I A : am_F} {G : am_G} : am_e 31 39 L (.ref 33 :: S) I A G = am_e 31 42 L (.ref 34 :: S) I A G := am_e_go (i := .getfield 9) (n := 3) (by decide +kernel) rfl rfl
theorem s_X5_leadOutside_39_at39 {L : List Value} {S : List Value} {I A : am_F} {G : am_G} : am_e 31 39 L (.ref 39 :: S) I A G = am_e 31 42 L (.ref 40 :: S) I A G := am_e_go (i := .getfield 9) (n := 3) (by decide +kernel) rfl rfl
theorem s_X5_leadOutside_42 {l0 l1 l3 l4 l5 : Value} {x : Int32} {S : List Value} {I A : am_F} {G : am_G} : am_e 31 42 [l0, l1, .int x, l3, l4, l5] S I A G = am_e 31 43 [l0, l1, .int x, l3, l4, l5] (.int x :: S) I A G := am_e_go (i := .iload_n 2) (n := 1) (by decide +kernel) rfl rfl
theorem s_X5_leadOutside_43 {l0 l1 l2 l3 l4 : Value} {x : Int32} {S : List Value} {I A : am_F} {G : am_G} : am_e 31 43 [l0, l1, l2, l3, l4, .int x] S I A G = am_e 31 45 [l0, l1, l2, l3, l4, .int x] (.int x :: S) I A G := am_e_go (i := .iload 5) (n := 2) (by decide +kernel) rfl rfl
theorem s_X5_leadOutside_45 {L : List Value} {x : Int32} {S : List Value} {I A : am_F} {G : am_G} : am_e 31 45 L (.int x :: S) I A G = if x = 0 then am_e 31 53 L S I A G else am_e 31 48 L S I A G := am_e_if (i := .ifCond .eq 8) (n := 3) (by decide +kernel) rfl rfl
theorem s_X5_leadOutside_48 {L : List Value} {S : List Value} {I A : am_F} {G : am_G} : am_e 31 48 L S I A G = am_e 31 50 L (.int 8 :: S) I A G := am_e_go (i := .bipush 8) (n := 2) (by decide +kernel) rfl (by first | rfl | (show am_go _ _ _ (.int _ :: _) _ _ _ = am_go _ _ _ (.int _ :: _) _ _ _; congr 1 <;> decide))
theorem s_X5_leadOutside_50 {L : List Value} {S : List Value} {I A : am_F} {G : am_G} : am_e 31 50 L S I A G = am_e 31 55 L S I A G := am_e_go (i := .goto 5) (n := 3) (by decide +kernel) rfl rfl
theorem s_X5_leadOutside_53 {l0 l1 l2 l3 l5 : Value} {x : Int32} {S : List Value} {I A : am_F} {G : am_G} : am_e 31 53 [l0, l1, l2, l3, .int x, l5] S I A G = am_e 31 55 [l0, l1, l2, l3, .int x, l5] (.int x :: S) I A G := am_e_go (i := .iload 4) (n := 2) (by decide +kernel) rfl rfl
theorem s_X5_leadOutside_55 {L : List Value} {i x : Int32} {a : Nat} {S : List Value} {I A : am_F} {G : am_G} : am_e 31 55 L (.int x :: .int i :: .ref a :: S) I A G = if i < 0 ∨ am_len 86 false a ≤ i.toNatClampNeg then none else am_e 31 56 L S I (am_u A a i.toNatClampNeg x) G := am_e_nif (i := .iastore) (n := 1) (by decide +kernel) rfl rfl
theorem s_X5_leadOutside_56 {l1 l2 l3 l4 l5 : Value} {x : Nat} {S : List Value} {I A : am_F} {G : am_G} : am_e 31 56 [.ref x, l1, l2, l3, l4, l5] S I A G = am_e 31 57 [.ref x, l1, l2, l3, l4, l5] (.ref x :: S) I A G := am_e_go (i := .aload_n 0) (n := 1) (by decide +kernel) rfl rfl
theorem s_X5_leadOutside_57_at13 {L : List Value} {S : List Value} {I A : am_F} {G : am_G} : am_e 31 57 L (.ref 13 :: S) I A G = am_e 31 60 L (.ref 15 :: S) I A G := am_e_go (i := .getfield 15) (n := 3) (by decide +kernel) rfl rfl
theorem s_X5_leadOutside_57_at19 {L : List Value} {S : List Value} {I A : am_F} {G : am_G} : am_e 31 57 L (.ref 19 :: S) I A G = am_e 31 60 L (.ref 21 :: S) I A G := am_e_go (i := .getfield 15) (n := 3) (by decide +kernel) rfl rfl
theorem s_X5_leadOutside_57_at33 {L : List Value} {S : List Value} {I A : am_F} {G : am_G} : am_e 31 57 L (.ref 33 :: S) I A G = am_e 31 60 L (.ref 35 :: S) I A G := am_e_go (i := .getfield 15) (n := 3) (by decide +kernel) rfl rfl
theorem s_X5_leadOutside_57_at39 {L : List Value} {S : List Value} {I A : am_F} {G : am_G} : am_e 31 57 L (.ref 39 :: S) I A G = am_e 31 60 L (.ref 41 :: S) I A G := am_e_go (i := .getfield 15) (n := 3) (by decide +kernel) rfl rfl
theorem s_X5_leadOutside_60 {l0 l1 l3 l4 l5 : Value} {x : Int32} {S : List Value} {I A : am_F} {G : am_G} : am_e 31 60 [l0, l1, .int x, l3, l4, l5] S I A G = am_e 31 61 [l0, l1, .int x, l3, l4, l5] (.int x :: S) I A G := am_e_go (i := .iload_n 2) (n := 1) (by decide +kernel) rfl rfl
theorem s_X5_leadOutside_61 {l0 l1 l2 l3 l4 : Value} {x : Int32} {S : List Value} {I A : am_F} {G : am_G} : am_e 31 61 [l0, l1, l2, l3, l4, .int x] S I A G = am_e 31 63 [l0, l1, l2, l3, l4, .int x] (.int x :: S) I A G := am_e_go (i := .iload 5) (n := 2) (by decide +kernel) rfl rfl
theorem s_X5_leadOutside_63 {L : List Value} {x : Int32} {S : List Value} {I A : am_F} {G : am_G} : am_e 31 63 L (.int x :: S) I A G = if x = 0 then am_e 31 71 L S I A G else am_e 31 66 L S I A G := am_e_if (i := .ifCond .eq 8) (n := 3) (by decide +kernel) rfl rfl
theorem s_X5_leadOutside_66 {l0 l1 l2 l3 l5 : Value} {x : Int32} {S : List Value} {I A : am_F} {G : am_G} : am_e 31 66 [l0, l1, l2, l3, .int x, l5] S I A G = am_e 31 68 [l0, l1, l2, l3, .int x, l5] (.int x :: S) I A G := am_e_go (i := .iload 4) (n := 2) (by decide +kernel) rfl rfl
theorem s_X5_leadOutside_68 {L : List Value} {S : List Value} {I A : am_F} {G : am_G} : am_e 31 68 L S I A G = am_e 31 73 L S I A G := am_e_go (i := .goto 5) (n := 3) (by decide +kernel) rfl rfl
theorem s_X5_leadOutside_71 {L : List Value} {S : List Value} {I A : am_F} {G : am_G} : am_e 31 71 L S I A G = am_e 31 73 L (.int 8 :: S) I A G := am_e_go (i := .bipush 8) (n := 2) (by decide +kernel) rfl (by first | rfl | (show am_go _ _ _ (.int _ :: _) _ _ _ = am_go _ _ _ (.int _ :: _) _ _ _; congr 1 <;> decide))
theorem s_X5_leadOutside_73 {L : List Value} {i x : Int32} {a : Nat} {S : List Value} {I A : am_F} {G : am_G} : am_e 31 73 L (.int x :: .int i :: .ref a :: S) I A G = if i < 0 ∨ am_len 86 false a ≤ i.toNatClampNeg then none else am_e 31 74 L S I (am_u A a i.toNatClampNeg x) G := am_e_nif (i := .iastore) (n := 1) (by decide +kernel) rfl rfl
theorem s_X5_leadOutside_74 {L : List Value} {I A : am_F} {G : am_G} : am_e 31 74 L [] I A G = some (.null, I, A, G) := am_e_rt (i := .return_) (n := 1) (by decide +kernel) rfl rfl
theorem s_X5_orderPlaces_0 {l1 l2 l3 l4 : Value} {x : Nat} {S : List Value} {I A : am_F} {G : am_G} : am_e 32 0 [.ref x, l1, l2, l3, l4] S I A G = am_e 32 1 [.ref x, l1, l2, l3, l4] (.ref x :: S) I A G := am_e_go (i := .aload_n 0) (n := 1) (by decide +kernel) rfl rfl
theorem s_X5_orderPlaces_1_at13 {L : List Value} {S : List Value} {I A : am_F} {G : am_G} : am_e 32 1 L (.ref 13 :: S) I A G = am_e 32 4 L (.ref 16 :: S) I A G := am_e_go (i := .getfield 18) (n := 3) (by decide +kernel) rfl rfl
theorem s_X5_orderPlaces_1_at19 {L : List Value} {S : List Value} {I A : am_F} {G : am_G} : am_e 32 1 L (.ref 19 :: S) I A G = am_e 32 4 L (.ref 22 :: S) I A G := am_e_go (i := .getfield 18) (n := 3) (by decide +kernel) rfl rfl
theorem s_X5_orderPlaces_1_at33 {L : List Value} {S : List Value} {I A : am_F} {G : am_G} : am_e 32 1 L (.ref 33 :: S) I A G = am_e 32 4 L (.ref 36 :: S) I A G := am_e_go (i := .getfield 18) (n := 3) (by decide +kernel) rfl rfl
theorem s_X5_orderPlaces_1_at39 {L : List Value} {S : List Value} {I A : am_F} {G : am_G} : am_e 32 1 L (.ref 39 :: S) I A G = am_e 32 4 L (.ref 42 :: S) I A G := am_e_go (i := .getfield 18) (n := 3) (by decide +kernel) rfl rfl
theorem s_X5_orderPlaces_4 {L : List Value} {S : List Value} {I A : am_F} {G : am_G} : am_e 32 4 L S I A G = am_e 32 5 L (.int 0 :: S) I A G := am_e_go (i := .iconst 0) (n := 1) (by decide +kernel) rfl (by first | rfl | (show am_go _ _ _ (.int _ :: _) _ _ _ = am_go _ _ _ (.int _ :: _) _ _ _; congr 1 <;> decide))
theorem s_X5_orderPlaces_5 {L : List Value} {S : List Value} {I A : am_F} {G : am_G} : am_e 32 5 L S I A G = am_e 32 7 L (.int 8 :: S) I A G := am_e_go (i := .bipush 8) (n := 2) (by decide +kernel) rfl (by first | rfl | (show am_go _ _ _ (.int _ :: _) _ _ _ = am_go _ _ _ (.int _ :: _) _ _ _; congr 1 <;> decide))
theorem s_X5_orderPlaces_7 {L : List Value} {i x : Int32} {a : Nat} {S : List Value} {I A : am_F} {G : am_G} : am_e 32 7 L (.int x :: .int i :: .ref a :: S) I A G = if i < 0 ∨ am_len 86 false a ≤ i.toNatClampNeg then none else am_e 32 8 L S I (am_u A a i.toNatClampNeg x) G := am_e_nif (i := .iastore) (n := 1) (by decide +kernel) rfl rfl
theorem s_X5_orderPlaces_8 {L : List Value} {S : List Value} {I A : am_F} {G : am_G} : am_e 32 8 L S I A G = am_e 32 9 L (.int 0 :: S) I A G := am_e_go (i := .iconst 0) (n := 1) (by decide +kernel) rfl (by first | rfl | (show am_go _ _ _ (.int _ :: _) _ _ _ = am_go _ _ _ (.int _ :: _) _ _ _; congr 1 <;> decide))
theorem s_X5_orderPlaces_9 {l0 l1 l2 l3 l4 : Value} {x : Int32} {S : List Value} {I A : am_F} {G : am_G} : am_e 32 9 [l0, l1, l2, l3, l4] (.int x :: S) I A G = am_e 32 10 [l0, l1, l2, .int x, l4] S I A G := am_e_go (i := .istore_n 3) (n := 1) (by decide +kernel) rfl rfl
theorem s_X5_orderPlaces_10 {l0 l1 l2 l4 : Value} {x : Int32} {S : List Value} {I A : am_F} {G : am_G} : am_e 32 10 [l0, l1, l2, .int x, l4] S I A G = am_e 32 11 [l0, l1, l2, .int x, l4] (.int x :: S) I A G := am_e_go (i := .iload_n 3) (n := 1) (by decide +kernel) rfl rfl
theorem s_X5_orderPlaces_11 {l0 l2 l3 l4 : Value} {x : Nat} {S : List Value} {I A : am_F} {G : am_G} : am_e 32 11 [l0, .ref x, l2, l3, l4] S I A G = am_e 32 12 [l0, .ref x, l2, l3, l4] (.ref x :: S) I A G := am_e_go (i := .aload_n 1) (n := 1) (by decide +kernel) rfl rfl
theorem s_X5_orderPlaces_12_at5 {L : List Value} {S : List Value} {I A : am_F} {G : am_G} : am_e 32 12 L (.ref 5 :: S) I A G = am_e 32 15 L (.int (I 5 9) :: S) I A G := am_e_go (i := .getfield 34) (n := 3) (by decide +kernel) rfl rfl
theorem s_X5_orderPlaces_12_at25 {L : List Value} {S : List Value} {I A : am_F} {G : am_G} : am_e 32 12 L (.ref 25 :: S) I A G = am_e 32 15 L (.int (I 25 9) :: S) I A G := am_e_go (i := .getfield 34) (n := 3) (by decide +kernel) rfl rfl
theorem s_X5_orderPlaces_15 {L : List Value} {x y : Int32} {S : List Value} {I A : am_F} {G : am_G} : am_e 32 15 L (.int y :: .int x :: S) I A G = if y ≤ x then am_e 32 83 L S I A G else am_e 32 18 L S I A G := am_e_if (i := .if_icmp .ge 68) (n := 3) (by decide +kernel) rfl rfl
theorem s_X5_orderPlaces_18 {l0 l1 l2 l4 : Value} {x : Int32} {S : List Value} {I A : am_F} {G : am_G} : am_e 32 18 [l0, l1, l2, .int x, l4] S I A G = am_e 32 19 [l0, l1, l2, .int x, l4] (.int x :: S) I A G := am_e_go (i := .iload_n 3) (n := 1) (by decide +kernel) rfl rfl
theorem s_X5_orderPlaces_19 {L : List Value} {S : List Value} {I A : am_F} {G : am_G} : am_e 32 19 L S I A G = am_e 32 20 L (.int 1 :: S) I A G := am_e_go (i := .iconst 1) (n := 1) (by decide +kernel) rfl (by first | rfl | (show am_go _ _ _ (.int _ :: _) _ _ _ = am_go _ _ _ (.int _ :: _) _ _ _; congr 1 <;> decide))
theorem s_X5_orderPlaces_20 {L : List Value} {x y : Int32} {S : List Value} {I A : am_F} {G : am_G} : am_e 32 20 L (.int y :: .int x :: S) I A G = am_e 32 21 L (.int (x + y) :: S) I A G := am_e_go (i := .iadd) (n := 1) (by decide +kernel) rfl rfl
theorem s_X5_orderPlaces_21 {l0 l1 l2 l3 l4 : Value} {x : Int32} {S : List Value} {I A : am_F} {G : am_G} : am_e 32 21 [l0, l1, l2, l3, l4] (.int x :: S) I A G = am_e 32 23 [l0, l1, l2, l3, .int x] S I A G := am_e_go (i := .istore 4) (n := 2) (by decide +kernel) rfl rfl
theorem s_X5_orderPlaces_23 {l0 l1 l2 l3 : Value} {x : Int32} {S : List Value} {I A : am_F} {G : am_G} : am_e 32 23 [l0, l1, l2, l3, .int x] S I A G = am_e 32 25 [l0, l1, l2, l3, .int x] (.int x :: S) I A G := am_e_go (i := .iload 4) (n := 2) (by decide +kernel) rfl rfl
theorem s_X5_orderPlaces_25 {L : List Value} {S : List Value} {I A : am_F} {G : am_G} : am_e 32 25 L S I A G = am_e 32 26 L (.int 1 :: S) I A G := am_e_go (i := .iconst 1) (n := 1) (by decide +kernel) rfl (by first | rfl | (show am_go _ _ _ (.int _ :: _) _ _ _ = am_go _ _ _ (.int _ :: _) _ _ _; congr 1 <;> decide))
theorem s_X5_orderPlaces_26 {L : List Value} {x y : Int32} {S : List Value} {I A : am_F} {G : am_G} : am_e 32 26 L (.int y :: .int x :: S) I A G = if x ≤ y then am_e 32 69 L S I A G else am_e 32 29 L S I A G := am_e_if (i := .if_icmp .le 43) (n := 3) (by decide +kernel) rfl rfl
theorem s_X5_orderPlaces_29 {l0 l2 l3 l4 : Value} {x : Nat} {S : List Value} {I A : am_F} {G : am_G} : am_e 32 29 [l0, .ref x, l2, l3, l4] S I A G = am_e 32 30 [l0, .ref x, l2, l3, l4] (.ref x :: S) I A G := am_e_go (i := .aload_n 1) (n := 1) (by decide +kernel) rfl rfl
theorem s_X5_orderPlaces_30 {l1 l2 l3 l4 : Value} {x : Nat} {S : List Value} {I A : am_F} {G : am_G} : am_e 32 30 [.ref x, l1, l2, l3, l4] S I A G = am_e 32 31 [.ref x, l1, l2, l3, l4] (.ref x :: S) I A G := am_e_go (i := .aload_n 0) (n := 1) (by decide +kernel) rfl rfl
theorem s_X5_orderPlaces_31_at13 {L : List Value} {S : List Value} {I A : am_F} {G : am_G} : am_e 32 31 L (.ref 13 :: S) I A G = am_e 32 34 L (.ref 16 :: S) I A G := am_e_go (i := .getfield 18) (n := 3) (by decide +kernel) rfl rfl
theorem s_X5_orderPlaces_31_at19 {L : List Value} {S : List Value} {I A : am_F} {G : am_G} : am_e 32 31 L (.ref 19 :: S) I A G = am_e 32 34 L (.ref 22 :: S) I A G := am_e_go (i := .getfield 18) (n := 3) (by decide +kernel) rfl rfl
theorem s_X5_orderPlaces_31_at33 {L : List Value} {S : List Value} {I A : am_F} {G : am_G} : am_e 32 31 L (.ref 33 :: S) I A G = am_e 32 34 L (.ref 36 :: S) I A G := am_e_go (i := .getfield 18) (n := 3) (by decide +kernel) rfl rfl
theorem s_X5_orderPlaces_31_at39 {L : List Value} {S : List Value} {I A : am_F} {G : am_G} : am_e 32 31 L (.ref 39 :: S) I A G = am_e 32 34 L (.ref 42 :: S) I A G := am_e_go (i := .getfield 18) (n := 3) (by decide +kernel) rfl rfl
theorem s_X5_orderPlaces_34 {l0 l1 l2 l3 : Value} {x : Int32} {S : List Value} {I A : am_F} {G : am_G} : am_e 32 34 [l0, l1, l2, l3, .int x] S I A G = am_e 32 36 [l0, l1, l2, l3, .int x] (.int x :: S) I A G := am_e_go (i := .iload 4) (n := 2) (by decide +kernel) rfl rfl
theorem s_X5_orderPlaces_36 {L : List Value} {S : List Value} {I A : am_F} {G : am_G} : am_e 32 36 L S I A G = am_e 32 37 L (.int 1 :: S) I A G := am_e_go (i := .iconst 1) (n := 1) (by decide +kernel) rfl (by first | rfl | (show am_go _ _ _ (.int _ :: _) _ _ _ = am_go _ _ _ (.int _ :: _) _ _ _; congr 1 <;> decide))
theorem s_X5_orderPlaces_37 {L : List Value} {x y : Int32} {S : List Value} {I A : am_F} {G : am_G} : am_e 32 37 L (.int y :: .int x :: S) I A G = am_e 32 38 L (.int (x - y) :: S) I A G := am_e_go (i := .isub) (n := 1) (by decide +kernel) rfl rfl
theorem s_X5_orderPlaces_38 {L : List Value} {i : Int32} {a : Nat} {S : List Value} {I A : am_F} {G : am_G} : am_e 32 38 L (.int i :: .ref a :: S) I A G = if i < 0 ∨ am_len 86 false a ≤ i.toNatClampNeg then none else am_e 32 39 L (.int (A a i.toNatClampNeg) :: S) I A G := am_e_nif (i := .iaload) (n := 1) (by decide +kernel) rfl rfl
theorem s_X5_orderPlaces_39 {l0 l1 l2 l4 : Value} {x : Int32} {S : List Value} {I A : am_F} {G : am_G} : am_e 32 39 [l0, l1, l2, .int x, l4] S I A G = am_e 32 40 [l0, l1, l2, .int x, l4] (.int x :: S) I A G := am_e_go (i := .iload_n 3) (n := 1) (by decide +kernel) rfl rfl
theorem s_X5_orderPlaces_40 {l0 l1 l3 l4 : Value} {x : Int32} {S : List Value} {I A : am_F} {G : am_G} : am_e 32 40 [l0, l1, .int x, l3, l4] S I A G = am_e 32 41 [l0, l1, .int x, l3, l4] (.int x :: S) I A G := am_e_go (i := .iload_n 2) (n := 1) (by decide +kernel) rfl rfl
theorem s_X5_orderPlaces_41 {L : List Value} {a0 : Nat} {a1 : Int32} {a2 : Int32} {a3 : Int32} {I A : am_F} {G : am_G} : am_e 32 41 L (.int a3 :: .int a2 :: .int a1 :: .ref a0 :: []) I A G = am_k (am_e 33 0 [.ref a0, .int a1, .int a2, .int a3, .null] [] I A G) (fun v I A G => am_e 32 44 L (am_push v []) I A G) := am_e_call (i := .invokestatic 66) (n := 3) (by decide +kernel) rfl rfl
theorem s_X5_orderPlaces_44 {L : List Value} {x : Int32} {S : List Value} {I A : am_F} {G : am_G} : am_e 32 44 L (.int x :: S) I A G = if x = 0 then am_e 32 69 L S I A G else am_e 32 47 L S I A G := am_e_if (i := .ifCond .eq 25) (n := 3) (by decide +kernel) rfl rfl
theorem s_X5_orderPlaces_47 {l1 l2 l3 l4 : Value} {x : Nat} {S : List Value} {I A : am_F} {G : am_G} : am_e 32 47 [.ref x, l1, l2, l3, l4] S I A G = am_e 32 48 [.ref x, l1, l2, l3, l4] (.ref x :: S) I A G := am_e_go (i := .aload_n 0) (n := 1) (by decide +kernel) rfl rfl
theorem s_X5_orderPlaces_48_at13 {L : List Value} {S : List Value} {I A : am_F} {G : am_G} : am_e 32 48 L (.ref 13 :: S) I A G = am_e 32 51 L (.ref 16 :: S) I A G := am_e_go (i := .getfield 18) (n := 3) (by decide +kernel) rfl rfl
theorem s_X5_orderPlaces_48_at19 {L : List Value} {S : List Value} {I A : am_F} {G : am_G} : am_e 32 48 L (.ref 19 :: S) I A G = am_e 32 51 L (.ref 22 :: S) I A G := am_e_go (i := .getfield 18) (n := 3) (by decide +kernel) rfl rfl
theorem s_X5_orderPlaces_48_at33 {L : List Value} {S : List Value} {I A : am_F} {G : am_G} : am_e 32 48 L (.ref 33 :: S) I A G = am_e 32 51 L (.ref 36 :: S) I A G := am_e_go (i := .getfield 18) (n := 3) (by decide +kernel) rfl rfl
theorem s_X5_orderPlaces_48_at39 {L : List Value} {S : List Value} {I A : am_F} {G : am_G} : am_e 32 48 L (.ref 39 :: S) I A G = am_e 32 51 L (.ref 42 :: S) I A G := am_e_go (i := .getfield 18) (n := 3) (by decide +kernel) rfl rfl
theorem s_X5_orderPlaces_51 {l0 l1 l2 l3 : Value} {x : Int32} {S : List Value} {I A : am_F} {G : am_G} : am_e 32 51 [l0, l1, l2, l3, .int x] S I A G = am_e 32 53 [l0, l1, l2, l3, .int x] (.int x :: S) I A G := am_e_go (i := .iload 4) (n := 2) (by decide +kernel) rfl rfl
theorem s_X5_orderPlaces_53 {l1 l2 l3 l4 : Value} {x : Nat} {S : List Value} {I A : am_F} {G : am_G} : am_e 32 53 [.ref x, l1, l2, l3, l4] S I A G = am_e 32 54 [.ref x, l1, l2, l3, l4] (.ref x :: S) I A G := am_e_go (i := .aload_n 0) (n := 1) (by decide +kernel) rfl rfl
theorem s_X5_orderPlaces_54_at13 {L : List Value} {S : List Value} {I A : am_F} {G : am_G} : am_e 32 54 L (.ref 13 :: S) I A G = am_e 32 57 L (.ref 16 :: S) I A G := am_e_go (i := .getfield 18) (n := 3) (by decide +kernel) rfl rfl
theorem s_X5_orderPlaces_54_at19 {L : List Value} {S : List Value} {I A : am_F} {G : am_G} : am_e 32 54 L (.ref 19 :: S) I A G = am_e 32 57 L (.ref 22 :: S) I A G := am_e_go (i := .getfield 18) (n := 3) (by decide +kernel) rfl rfl
theorem s_X5_orderPlaces_54_at33 {L : List Value} {S : List Value} {I A : am_F} {G : am_G} : am_e 32 54 L (.ref 33 :: S) I A G = am_e 32 57 L (.ref 36 :: S) I A G := am_e_go (i := .getfield 18) (n := 3) (by decide +kernel) rfl rfl
theorem s_X5_orderPlaces_54_at39 {L : List Value} {S : List Value} {I A : am_F} {G : am_G} : am_e 32 54 L (.ref 39 :: S) I A G = am_e 32 57 L (.ref 42 :: S) I A G := am_e_go (i := .getfield 18) (n := 3) (by decide +kernel) rfl rfl
theorem s_X5_orderPlaces_57 {l0 l1 l2 l3 : Value} {x : Int32} {S : List Value} {I A : am_F} {G : am_G} : am_e 32 57 [l0, l1, l2, l3, .int x] S I A G = am_e 32 59 [l0, l1, l2, l3, .int x] (.int x :: S) I A G := am_e_go (i := .iload 4) (n := 2) (by decide +kernel) rfl rfl
theorem s_X5_orderPlaces_59 {L : List Value} {S : List Value} {I A : am_F} {G : am_G} : am_e 32 59 L S I A G = am_e 32 60 L (.int 1 :: S) I A G := am_e_go (i := .iconst 1) (n := 1) (by decide +kernel) rfl (by first | rfl | (show am_go _ _ _ (.int _ :: _) _ _ _ = am_go _ _ _ (.int _ :: _) _ _ _; congr 1 <;> decide))
theorem s_X5_orderPlaces_60 {L : List Value} {x y : Int32} {S : List Value} {I A : am_F} {G : am_G} : am_e 32 60 L (.int y :: .int x :: S) I A G = am_e 32 61 L (.int (x - y) :: S) I A G := am_e_go (i := .isub) (n := 1) (by decide +kernel) rfl rfl
theorem s_X5_orderPlaces_61 {L : List Value} {i : Int32} {a : Nat} {S : List Value} {I A : am_F} {G : am_G} : am_e 32 61 L (.int i :: .ref a :: S) I A G = if i < 0 ∨ am_len 86 false a ≤ i.toNatClampNeg then none else am_e 32 62 L (.int (A a i.toNatClampNeg) :: S) I A G := am_e_nif (i := .iaload) (n := 1) (by decide +kernel) rfl rfl
theorem s_X5_orderPlaces_62 {L : List Value} {i x : Int32} {a : Nat} {S : List Value} {I A : am_F} {G : am_G} : am_e 32 62 L (.int x :: .int i :: .ref a :: S) I A G = if i < 0 ∨ am_len 86 false a ≤ i.toNatClampNeg then none else am_e 32 63 L S I (am_u A a i.toNatClampNeg x) G := am_e_nif (i := .iastore) (n := 1) (by decide +kernel) rfl rfl
theorem s_X5_orderPlaces_63 {l0 l1 l2 l3 : Value} {x : Int32} {S : List Value} {I A : am_F} {G : am_G} : am_e 32 63 [l0, l1, l2, l3, .int x] S I A G = am_e 32 66 [l0, l1, l2, l3, .int (x + (-1))] S I A G := am_e_go (i := .iinc 4 (-1)) (n := 3) (by decide +kernel) rfl (by first | rfl | (rw [show ((-1) : Int32) = Int32.ofInt (-1) by decide]; rfl))
theorem s_X5_orderPlaces_66 {L : List Value} {S : List Value} {I A : am_F} {G : am_G} : am_e 32 66 L S I A G = am_e 32 23 L S I A G := am_e_go (i := .goto (-43)) (n := 3) (by decide +kernel) rfl rfl
theorem s_X5_orderPlaces_69 {l1 l2 l3 l4 : Value} {x : Nat} {S : List Value} {I A : am_F} {G : am_G} : am_e 32 69 [.ref x, l1, l2, l3, l4] S I A G = am_e 32 70 [.ref x, l1, l2, l3, l4] (.ref x :: S) I A G := am_e_go (i := .aload_n 0) (n := 1) (by decide +kernel) rfl rfl
theorem s_X5_orderPlaces_70_at13 {L : List Value} {S : List Value} {I A : am_F} {G : am_G} : am_e 32 70 L (.ref 13 :: S) I A G = am_e 32 73 L (.ref 16 :: S) I A G := am_e_go (i := .getfield 18) (n := 3) (by decide +kernel) rfl rfl
theorem s_X5_orderPlaces_70_at19 {L : List Value} {S : List Value} {I A : am_F} {G : am_G} : am_e 32 70 L (.ref 19 :: S) I A G = am_e 32 73 L (.ref 22 :: S) I A G := am_e_go (i := .getfield 18) (n := 3) (by decide +kernel) rfl rfl
theorem s_X5_orderPlaces_70_at33 {L : List Value} {S : List Value} {I A : am_F} {G : am_G} : am_e 32 70 L (.ref 33 :: S) I A G = am_e 32 73 L (.ref 36 :: S) I A G := am_e_go (i := .getfield 18) (n := 3) (by decide +kernel) rfl rfl
theorem s_X5_orderPlaces_70_at39 {L : List Value} {S : List Value} {I A : am_F} {G : am_G} : am_e 32 70 L (.ref 39 :: S) I A G = am_e 32 73 L (.ref 42 :: S) I A G := am_e_go (i := .getfield 18) (n := 3) (by decide +kernel) rfl rfl
theorem s_X5_orderPlaces_73 {l0 l1 l2 l3 : Value} {x : Int32} {S : List Value} {I A : am_F} {G : am_G} : am_e 32 73 [l0, l1, l2, l3, .int x] S I A G = am_e 32 75 [l0, l1, l2, l3, .int x] (.int x :: S) I A G := am_e_go (i := .iload 4) (n := 2) (by decide +kernel) rfl rfl
theorem s_X5_orderPlaces_75 {l0 l1 l2 l4 : Value} {x : Int32} {S : List Value} {I A : am_F} {G : am_G} : am_e 32 75 [l0, l1, l2, .int x, l4] S I A G = am_e 32 76 [l0, l1, l2, .int x, l4] (.int x :: S) I A G := am_e_go (i := .iload_n 3) (n := 1) (by decide +kernel) rfl rfl
theorem s_X5_orderPlaces_76 {L : List Value} {i x : Int32} {a : Nat} {S : List Value} {I A : am_F} {G : am_G} : am_e 32 76 L (.int x :: .int i :: .ref a :: S) I A G = if i < 0 ∨ am_len 86 false a ≤ i.toNatClampNeg then none else am_e 32 77 L S I (am_u A a i.toNatClampNeg x) G := am_e_nif (i := .iastore) (n := 1) (by decide +kernel) rfl rfl
theorem s_X5_orderPlaces_77 {l0 l1 l2 l4 : Value} {x : Int32} {S : List Value} {I A : am_F} {G : am_G} : am_e 32 77 [l0, l1, l2, .int x, l4] S I A G = am_e 32 80 [l0, l1, l2, .int (x + 1), l4] S I A G := am_e_go (i := .iinc 3 1) (n := 3) (by decide +kernel) rfl (by first | rfl | (rw [show (1 : Int32) = Int32.ofInt 1 by decide]; rfl))
theorem s_X5_orderPlaces_80 {L : List Value} {S : List Value} {I A : am_F} {G : am_G} : am_e 32 80 L S I A G = am_e 32 10 L S I A G := am_e_go (i := .goto (-70)) (n := 3) (by decide +kernel) rfl rfl
theorem s_X5_orderPlaces_83 {L : List Value} {I A : am_F} {G : am_G} : am_e 32 83 L [] I A G = some (.null, I, A, G) := am_e_rt (i := .return_) (n := 1) (by decide +kernel) rfl rfl
theorem s_X5_isLater_0 {l1 l2 l3 l4 : Value} {x : Nat} {S : List Value} {I A : am_F} {G : am_G} : am_e 33 0 [.ref x, l1, l2, l3, l4] S I A G = am_e 33 1 [.ref x, l1, l2, l3, l4] (.ref x :: S) I A G := am_e_go (i := .aload_n 0) (n := 1) (by decide +kernel) rfl rfl
theorem s_X5_isLater_1_at5 {L : List Value} {S : List Value} {I A : am_F} {G : am_G} : am_e 33 1 L (.ref 5 :: S) I A G = am_e 33 4 L (.ref 6 :: S) I A G := am_e_go (i := .getfield 60) (n := 3) (by decide +kernel) rfl rfl
theorem s_X5_isLater_1_at25 {L : List Value} {S : List Value} {I A : am_F} {G : am_G} : am_e 33 1 L (.ref 25 :: S) I A G = am_e 33 4 L (.ref 26 :: S) I A G := am_e_go (i := .getfield 60) (n := 3) (by decide +kernel) rfl rfl
theorem s_X5_isLater_4 {l0 l2 l3 l4 : Value} {x : Int32} {S : List Value} {I A : am_F} {G : am_G} : am_e 33 4 [l0, .int x, l2, l3, l4] S I A G = am_e 33 5 [l0, .int x, l2, l3, l4] (.int x :: S) I A G := am_e_go (i := .iload_n 1) (n := 1) (by decide +kernel) rfl rfl
theorem s_X5_isLater_5 {L : List Value} {i : Int32} {a : Nat} {S : List Value} {I A : am_F} {G : am_G} : am_e 33 5 L (.int i :: .ref a :: S) I A G = if i < 0 ∨ am_len 86 false a ≤ i.toNatClampNeg then none else am_e 33 6 L (.int (A a i.toNatClampNeg) :: S) I A G := am_e_nif (i := .iaload) (n := 1) (by decide +kernel) rfl rfl
theorem s_X5_isLater_6 {l1 l2 l3 l4 : Value} {x : Nat} {S : List Value} {I A : am_F} {G : am_G} : am_e 33 6 [.ref x, l1, l2, l3, l4] S I A G = am_e 33 7 [.ref x, l1, l2, l3, l4] (.ref x :: S) I A G := am_e_go (i := .aload_n 0) (n := 1) (by decide +kernel) rfl rfl
theorem s_X5_isLater_7_at5 {L : List Value} {S : List Value} {I A : am_F} {G : am_G} : am_e 33 7 L (.ref 5 :: S) I A G = am_e 33 10 L (.ref 6 :: S) I A G := am_e_go (i := .getfield 60) (n := 3) (by decide +kernel) rfl rfl
theorem s_X5_isLater_7_at25 {L : List Value} {S : List Value} {I A : am_F} {G : am_G} : am_e 33 7 L (.ref 25 :: S) I A G = am_e 33 10 L (.ref 26 :: S) I A G := am_e_go (i := .getfield 60) (n := 3) (by decide +kernel) rfl rfl
theorem s_X5_isLater_10 {l0 l1 l3 l4 : Value} {x : Int32} {S : List Value} {I A : am_F} {G : am_G} : am_e 33 10 [l0, l1, .int x, l3, l4] S I A G = am_e 33 11 [l0, l1, .int x, l3, l4] (.int x :: S) I A G := am_e_go (i := .iload_n 2) (n := 1) (by decide +kernel) rfl rfl
theorem s_X5_isLater_11 {L : List Value} {i : Int32} {a : Nat} {S : List Value} {I A : am_F} {G : am_G} : am_e 33 11 L (.int i :: .ref a :: S) I A G = if i < 0 ∨ am_len 86 false a ≤ i.toNatClampNeg then none else am_e 33 12 L (.int (A a i.toNatClampNeg) :: S) I A G := am_e_nif (i := .iaload) (n := 1) (by decide +kernel) rfl rfl
theorem s_X5_isLater_12 {L : List Value} {x y : Int32} {S : List Value} {I A : am_F} {G : am_G} : am_e 33 12 L (.int y :: .int x :: S) I A G = am_e 33 13 L (.int (x - y) :: S) I A G := am_e_go (i := .isub) (n := 1) (by decide +kernel) rfl rfl
theorem s_X5_isLater_13 {l0 l1 l2 l3 l4 : Value} {x : Int32} {S : List Value} {I A : am_F} {G : am_G} : am_e 33 13 [l0, l1, l2, l3, l4] (.int x :: S) I A G = am_e 33 15 [l0, l1, l2, l3, .int x] S I A G := am_e_go (i := .istore 4) (n := 2) (by decide +kernel) rfl rfl
theorem s_X5_isLater_15 {l0 l1 l2 l4 : Value} {x : Int32} {S : List Value} {I A : am_F} {G : am_G} : am_e 33 15 [l0, l1, l2, .int x, l4] S I A G = am_e 33 16 [l0, l1, l2, .int x, l4] (.int x :: S) I A G := am_e_go (i := .iload_n 3) (n := 1) (by decide +kernel) rfl rfl
theorem s_X5_isLater_16 {L : List Value} {x : Int32} {S : List Value} {I A : am_F} {G : am_G} : am_e 33 16 L (.int x :: S) I A G = if x = 0 then am_e 33 32 L S I A G else am_e 33 19 L S I A G := am_e_if (i := .ifCond .eq 16) (n := 3) (by decide +kernel) rfl rfl
theorem s_X5_isLater_19 {l0 l1 l2 l3 : Value} {x : Int32} {S : List Value} {I A : am_F} {G : am_G} : am_e 33 19 [l0, l1, l2, l3, .int x] S I A G = am_e 33 21 [l0, l1, l2, l3, .int x] (.int x :: S) I A G := am_e_go (i := .iload 4) (n := 2) (by decide +kernel) rfl rfl
theorem s_X5_isLater_21 {L : List Value} {x : Int32} {S : List Value} {I A : am_F} {G : am_G} : am_e 33 21 L (.int x :: S) I A G = if x ≤ 0 then am_e 33 28 L S I A G else am_e 33 24 L S I A G := am_e_if (i := .ifCond .le 7) (n := 3) (by decide +kernel) rfl rfl
theorem s_X5_isLater_24 {L : List Value} {S : List Value} {I A : am_F} {G : am_G} : am_e 33 24 L S I A G = am_e 33 25 L (.int 1 :: S) I A G := am_e_go (i := .iconst 1) (n := 1) (by decide +kernel) rfl (by first | rfl | (show am_go _ _ _ (.int _ :: _) _ _ _ = am_go _ _ _ (.int _ :: _) _ _ _; congr 1 <;> decide))
theorem s_X5_isLater_25 {L : List Value} {S : List Value} {I A : am_F} {G : am_G} : am_e 33 25 L S I A G = am_e 33 42 L S I A G := am_e_go (i := .goto 17) (n := 3) (by decide +kernel) rfl rfl
theorem s_X5_isLater_28 {L : List Value} {S : List Value} {I A : am_F} {G : am_G} : am_e 33 28 L S I A G = am_e 33 29 L (.int 0 :: S) I A G := am_e_go (i := .iconst 0) (n := 1) (by decide +kernel) rfl (by first | rfl | (show am_go _ _ _ (.int _ :: _) _ _ _ = am_go _ _ _ (.int _ :: _) _ _ _; congr 1 <;> decide))
theorem s_X5_isLater_29 {L : List Value} {S : List Value} {I A : am_F} {G : am_G} : am_e 33 29 L S I A G = am_e 33 42 L S I A G := am_e_go (i := .goto 13) (n := 3) (by decide +kernel) rfl rfl
theorem s_X5_isLater_32 {l0 l1 l2 l3 : Value} {x : Int32} {S : List Value} {I A : am_F} {G : am_G} : am_e 33 32 [l0, l1, l2, l3, .int x] S I A G = am_e 33 34 [l0, l1, l2, l3, .int x] (.int x :: S) I A G := am_e_go (i := .iload 4) (n := 2) (by decide +kernel) rfl rfl
theorem s_X5_isLater_34 {L : List Value} {x : Int32} {S : List Value} {I A : am_F} {G : am_G} : am_e 33 34 L (.int x :: S) I A G = if 0 ≤ x then am_e 33 41 L S I A G else am_e 33 37 L S I A G := am_e_if (i := .ifCond .ge 7) (n := 3) (by decide +kernel) rfl rfl
theorem s_X5_isLater_37 {L : List Value} {S : List Value} {I A : am_F} {G : am_G} : am_e 33 37 L S I A G = am_e 33 38 L (.int 1 :: S) I A G := am_e_go (i := .iconst 1) (n := 1) (by decide +kernel) rfl (by first | rfl | (show am_go _ _ _ (.int _ :: _) _ _ _ = am_go _ _ _ (.int _ :: _) _ _ _; congr 1 <;> decide))
theorem s_X5_isLater_38 {L : List Value} {S : List Value} {I A : am_F} {G : am_G} : am_e 33 38 L S I A G = am_e 33 42 L S I A G := am_e_go (i := .goto 4) (n := 3) (by decide +kernel) rfl rfl
theorem s_X5_isLater_41 {L : List Value} {S : List Value} {I A : am_F} {G : am_G} : am_e 33 41 L S I A G = am_e 33 42 L (.int 0 :: S) I A G := am_e_go (i := .iconst 0) (n := 1) (by decide +kernel) rfl (by first | rfl | (show am_go _ _ _ (.int _ :: _) _ _ _ = am_go _ _ _ (.int _ :: _) _ _ _; congr 1 <;> decide))
theorem s_X5_isLater_42 {L : List Value} {x : Int32} {I A : am_F} {G : am_G} : am_e 33 42 L [.int x] I A G = if x = 0 ∨ x = 1 then some (.int x, I, A, G) else none := am_e_rb (i := .ireturn) (n := 1) (by decide +kernel) rfl rfl
theorem s_X5_orderDoors_0 {L : List Value} {S : List Value} {I A : am_F} {G : am_G} : am_e 34 0 L S I A G = am_e 34 1 L (.int 0 :: S) I A G := am_e_go (i := .iconst 0) (n := 1) (by decide +kernel) rfl (by first | rfl | (show am_go _ _ _ (.int _ :: _) _ _ _ = am_go _ _ _ (.int _ :: _) _ _ _; congr 1 <;> decide))
theorem s_X5_orderDoors_1 {l0 l1 l2 l3 : Value} {x : Int32} {S : List Value} {I A : am_F} {G : am_G} : am_e 34 1 [l0, l1, l2, l3] (.int x :: S) I A G = am_e 34 2 [l0, .int x, l2, l3] S I A G := am_e_go (i := .istore_n 1) (n := 1) (by decide +kernel) rfl rfl
theorem s_X5_orderDoors_2 {L : List Value} {S : List Value} {I A : am_F} {G : am_G} : am_e 34 2 L S I A G = am_e 34 3 L (.int 0 :: S) I A G := am_e_go (i := .iconst 0) (n := 1) (by decide +kernel) rfl (by first | rfl | (show am_go _ _ _ (.int _ :: _) _ _ _ = am_go _ _ _ (.int _ :: _) _ _ _; congr 1 <;> decide))
theorem s_X5_orderDoors_3 {l0 l1 l2 l3 : Value} {x : Int32} {S : List Value} {I A : am_F} {G : am_G} : am_e 34 3 [l0, l1, l2, l3] (.int x :: S) I A G = am_e 34 4 [l0, l1, .int x, l3] S I A G := am_e_go (i := .istore_n 2) (n := 1) (by decide +kernel) rfl rfl
theorem s_X5_orderDoors_4 {l0 l1 l3 : Value} {x : Int32} {S : List Value} {I A : am_F} {G : am_G} : am_e 34 4 [l0, l1, .int x, l3] S I A G = am_e 34 5 [l0, l1, .int x, l3] (.int x :: S) I A G := am_e_go (i := .iload_n 2) (n := 1) (by decide +kernel) rfl rfl
theorem s_X5_orderDoors_5 {l1 l2 l3 : Value} {x : Nat} {S : List Value} {I A : am_F} {G : am_G} : am_e 34 5 [.ref x, l1, l2, l3] S I A G = am_e 34 6 [.ref x, l1, l2, l3] (.ref x :: S) I A G := am_e_go (i := .aload_n 0) (n := 1) (by decide +kernel) rfl rfl
theorem s_X5_orderDoors_6_at13 {L : List Value} {S : List Value} {I A : am_F} {G : am_G} : am_e 34 6 L (.ref 13 :: S) I A G = am_e 34 9 L (.int (I 13 3) :: S) I A G := am_e_go (i := .getfield 37) (n := 3) (by decide +kernel) rfl rfl
theorem s_X5_orderDoors_6_at19 {L : List Value} {S : List Value} {I A : am_F} {G : am_G} : am_e 34 6 L (.ref 19 :: S) I A G = am_e 34 9 L (.int (I 19 3) :: S) I A G := am_e_go (i := .getfield 37) (n := 3) (by decide +kernel) rfl rfl
theorem s_X5_orderDoors_6_at33 {L : List Value} {S : List Value} {I A : am_F} {G : am_G} : am_e 34 6 L (.ref 33 :: S) I A G = am_e 34 9 L (.int (I 33 3) :: S) I A G := am_e_go (i := .getfield 37) (n := 3) (by decide +kernel) rfl rfl
theorem s_X5_orderDoors_6_at39 {L : List Value} {S : List Value} {I A : am_F} {G : am_G} : am_e 34 6 L (.ref 39 :: S) I A G = am_e 34 9 L (.int (I 39 3) :: S) I A G := am_e_go (i := .getfield 37) (n := 3) (by decide +kernel) rfl rfl
theorem s_X5_orderDoors_9 {L : List Value} {x y : Int32} {S : List Value} {I A : am_F} {G : am_G} : am_e 34 9 L (.int y :: .int x :: S) I A G = if y ≤ x then am_e 34 66 L S I A G else am_e 34 12 L S I A G := am_e_if (i := .if_icmp .ge 57) (n := 3) (by decide +kernel) rfl rfl
theorem s_X5_orderDoors_12 {L : List Value} {S : List Value} {I A : am_F} {G : am_G} : am_e 34 12 L S I A G = am_e 34 13 L (.int 0 :: S) I A G := am_e_go (i := .iconst 0) (n := 1) (by decide +kernel) rfl (by first | rfl | (show am_go _ _ _ (.int _ :: _) _ _ _ = am_go _ _ _ (.int _ :: _) _ _ _; congr 1 <;> decide))
theorem s_X5_orderDoors_13 {l0 l1 l2 l3 : Value} {x : Int32} {S : List Value} {I A : am_F} {G : am_G} : am_e 34 13 [l0, l1, l2, l3] (.int x :: S) I A G = am_e 34 14 [l0, l1, l2, .int x] S I A G := am_e_go (i := .istore_n 3) (n := 1) (by decide +kernel) rfl rfl
theorem s_X5_orderDoors_14 {l0 l1 l2 : Value} {x : Int32} {S : List Value} {I A : am_F} {G : am_G} : am_e 34 14 [l0, l1, l2, .int x] S I A G = am_e 34 15 [l0, l1, l2, .int x] (.int x :: S) I A G := am_e_go (i := .iload_n 3) (n := 1) (by decide +kernel) rfl rfl
theorem s_X5_orderDoors_15 {l1 l2 l3 : Value} {x : Nat} {S : List Value} {I A : am_F} {G : am_G} : am_e 34 15 [.ref x, l1, l2, l3] S I A G = am_e 34 16 [.ref x, l1, l2, l3] (.ref x :: S) I A G := am_e_go (i := .aload_n 0) (n := 1) (by decide +kernel) rfl rfl
theorem s_X5_orderDoors_16_at13 {L : List Value} {S : List Value} {I A : am_F} {G : am_G} : am_e 34 16 L (.ref 13 :: S) I A G = am_e 34 19 L (.int (I 13 6) :: S) I A G := am_e_go (i := .getfield 33) (n := 3) (by decide +kernel) rfl rfl
theorem s_X5_orderDoors_16_at19 {L : List Value} {S : List Value} {I A : am_F} {G : am_G} : am_e 34 16 L (.ref 19 :: S) I A G = am_e 34 19 L (.int (I 19 6) :: S) I A G := am_e_go (i := .getfield 33) (n := 3) (by decide +kernel) rfl rfl
theorem s_X5_orderDoors_16_at33 {L : List Value} {S : List Value} {I A : am_F} {G : am_G} : am_e 34 16 L (.ref 33 :: S) I A G = am_e 34 19 L (.int (I 33 6) :: S) I A G := am_e_go (i := .getfield 33) (n := 3) (by decide +kernel) rfl rfl
theorem s_X5_orderDoors_16_at39 {L : List Value} {S : List Value} {I A : am_F} {G : am_G} : am_e 34 16 L (.ref 39 :: S) I A G = am_e 34 19 L (.int (I 39 6) :: S) I A G := am_e_go (i := .getfield 33) (n := 3) (by decide +kernel) rfl rfl
theorem s_X5_orderDoors_19 {L : List Value} {x y : Int32} {S : List Value} {I A : am_F} {G : am_G} : am_e 34 19 L (.int y :: .int x :: S) I A G = if y ≤ x then am_e 34 53 L S I A G else am_e 34 22 L S I A G := am_e_if (i := .if_icmp .ge 34) (n := 3) (by decide +kernel) rfl rfl
theorem s_X5_orderDoors_22 {l1 l2 l3 : Value} {x : Nat} {S : List Value} {I A : am_F} {G : am_G} : am_e 34 22 [.ref x, l1, l2, l3] S I A G = am_e 34 23 [.ref x, l1, l2, l3] (.ref x :: S) I A G := am_e_go (i := .aload_n 0) (n := 1) (by decide +kernel) rfl rfl
theorem s_X5_orderDoors_23_at13 {L : List Value} {S : List Value} {I A : am_F} {G : am_G} : am_e 34 23 L (.ref 13 :: S) I A G = am_e 34 26 L (.ref 14 :: S) I A G := am_e_go (i := .getfield 9) (n := 3) (by decide +kernel) rfl rfl
theorem s_X5_orderDoors_23_at19 {L : List Value} {S : List Value} {I A : am_F} {G : am_G} : am_e 34 23 L (.ref 19 :: S) I A G = am_e 34 26 L (.ref 20 :: S) I A G := am_e_go (i := .getfield 9) (n := 3) (by decide +kernel) rfl rfl
theorem s_X5_orderDoors_23_at33 {L : List Value} {S : List Value} {I A : am_F} {G : am_G} : am_e 34 23 L (.ref 33 :: S) I A G = am_e 34 26 L (.ref 34 :: S) I A G := am_e_go (i := .getfield 9) (n := 3) (by decide +kernel) rfl rfl
theorem s_X5_orderDoors_23_at39 {L : List Value} {S : List Value} {I A : am_F} {G : am_G} : am_e 34 23 L (.ref 39 :: S) I A G = am_e 34 26 L (.ref 40 :: S) I A G := am_e_go (i := .getfield 9) (n := 3) (by decide +kernel) rfl rfl
theorem s_X5_orderDoors_26 {l0 l1 l2 : Value} {x : Int32} {S : List Value} {I A : am_F} {G : am_G} : am_e 34 26 [l0, l1, l2, .int x] S I A G = am_e 34 27 [l0, l1, l2, .int x] (.int x :: S) I A G := am_e_go (i := .iload_n 3) (n := 1) (by decide +kernel) rfl rfl
theorem s_X5_orderDoors_27 {L : List Value} {i : Int32} {a : Nat} {S : List Value} {I A : am_F} {G : am_G} : am_e 34 27 L (.int i :: .ref a :: S) I A G = if i < 0 ∨ am_len 86 false a ≤ i.toNatClampNeg then none else am_e 34 28 L (.int (A a i.toNatClampNeg) :: S) I A G := am_e_nif (i := .iaload) (n := 1) (by decide +kernel) rfl rfl
theorem s_X5_orderDoors_28 {l1 l2 l3 : Value} {x : Nat} {S : List Value} {I A : am_F} {G : am_G} : am_e 34 28 [.ref x, l1, l2, l3] S I A G = am_e 34 29 [.ref x, l1, l2, l3] (.ref x :: S) I A G := am_e_go (i := .aload_n 0) (n := 1) (by decide +kernel) rfl rfl
theorem s_X5_orderDoors_29_at13 {L : List Value} {S : List Value} {I A : am_F} {G : am_G} : am_e 34 29 L (.ref 13 :: S) I A G = am_e 34 32 L (.ref 16 :: S) I A G := am_e_go (i := .getfield 18) (n := 3) (by decide +kernel) rfl rfl
theorem s_X5_orderDoors_29_at19 {L : List Value} {S : List Value} {I A : am_F} {G : am_G} : am_e 34 29 L (.ref 19 :: S) I A G = am_e 34 32 L (.ref 22 :: S) I A G := am_e_go (i := .getfield 18) (n := 3) (by decide +kernel) rfl rfl
theorem s_X5_orderDoors_29_at33 {L : List Value} {S : List Value} {I A : am_F} {G : am_G} : am_e 34 29 L (.ref 33 :: S) I A G = am_e 34 32 L (.ref 36 :: S) I A G := am_e_go (i := .getfield 18) (n := 3) (by decide +kernel) rfl rfl
theorem s_X5_orderDoors_29_at39 {L : List Value} {S : List Value} {I A : am_F} {G : am_G} : am_e 34 29 L (.ref 39 :: S) I A G = am_e 34 32 L (.ref 42 :: S) I A G := am_e_go (i := .getfield 18) (n := 3) (by decide +kernel) rfl rfl
theorem s_X5_orderDoors_32 {l0 l1 l3 : Value} {x : Int32} {S : List Value} {I A : am_F} {G : am_G} : am_e 34 32 [l0, l1, .int x, l3] S I A G = am_e 34 33 [l0, l1, .int x, l3] (.int x :: S) I A G := am_e_go (i := .iload_n 2) (n := 1) (by decide +kernel) rfl rfl
theorem s_X5_orderDoors_33 {L : List Value} {i : Int32} {a : Nat} {S : List Value} {I A : am_F} {G : am_G} : am_e 34 33 L (.int i :: .ref a :: S) I A G = if i < 0 ∨ am_len 86 false a ≤ i.toNatClampNeg then none else am_e 34 34 L (.int (A a i.toNatClampNeg) :: S) I A G := am_e_nif (i := .iaload) (n := 1) (by decide +kernel) rfl rfl
theorem s_X5_orderDoors_34 {L : List Value} {x y : Int32} {S : List Value} {I A : am_F} {G : am_G} : am_e 34 34 L (.int y :: .int x :: S) I A G = if x = y then am_e 34 37 L S I A G else am_e 34 47 L S I A G := am_e_if (i := .if_icmp .ne 13) (n := 3) (by decide +kernel) rfl rfl
theorem s_X5_orderDoors_37 {l1 l2 l3 : Value} {x : Nat} {S : List Value} {I A : am_F} {G : am_G} : am_e 34 37 [.ref x, l1, l2, l3] S I A G = am_e 34 38 [.ref x, l1, l2, l3] (.ref x :: S) I A G := am_e_go (i := .aload_n 0) (n := 1) (by decide +kernel) rfl rfl
theorem s_X5_orderDoors_38_at13 {L : List Value} {S : List Value} {I A : am_F} {G : am_G} : am_e 34 38 L (.ref 13 :: S) I A G = am_e 34 41 L (.ref 17 :: S) I A G := am_e_go (i := .getfield 21) (n := 3) (by decide +kernel) rfl rfl
theorem s_X5_orderDoors_38_at19 {L : List Value} {S : List Value} {I A : am_F} {G : am_G} : am_e 34 38 L (.ref 19 :: S) I A G = am_e 34 41 L (.ref 23 :: S) I A G := am_e_go (i := .getfield 21) (n := 3) (by decide +kernel) rfl rfl
theorem s_X5_orderDoors_38_at33 {L : List Value} {S : List Value} {I A : am_F} {G : am_G} : am_e 34 38 L (.ref 33 :: S) I A G = am_e 34 41 L (.ref 37 :: S) I A G := am_e_go (i := .getfield 21) (n := 3) (by decide +kernel) rfl rfl
theorem s_X5_orderDoors_38_at39 {L : List Value} {S : List Value} {I A : am_F} {G : am_G} : am_e 34 38 L (.ref 39 :: S) I A G = am_e 34 41 L (.ref 43 :: S) I A G := am_e_go (i := .getfield 21) (n := 3) (by decide +kernel) rfl rfl
theorem s_X5_orderDoors_41 {l0 l2 l3 : Value} {x : Int32} {S : List Value} {I A : am_F} {G : am_G} : am_e 34 41 [l0, .int x, l2, l3] S I A G = am_e 34 42 [l0, .int x, l2, l3] (.int x :: S) I A G := am_e_go (i := .iload_n 1) (n := 1) (by decide +kernel) rfl rfl
theorem s_X5_orderDoors_42 {l0 l1 l2 : Value} {x : Int32} {S : List Value} {I A : am_F} {G : am_G} : am_e 34 42 [l0, l1, l2, .int x] S I A G = am_e 34 43 [l0, l1, l2, .int x] (.int x :: S) I A G := am_e_go (i := .iload_n 3) (n := 1) (by decide +kernel) rfl rfl
theorem s_X5_orderDoors_43 {L : List Value} {i x : Int32} {a : Nat} {S : List Value} {I A : am_F} {G : am_G} : am_e 34 43 L (.int x :: .int i :: .ref a :: S) I A G = if i < 0 ∨ am_len 86 false a ≤ i.toNatClampNeg then none else am_e 34 44 L S I (am_u A a i.toNatClampNeg x) G := am_e_nif (i := .iastore) (n := 1) (by decide +kernel) rfl rfl
theorem s_X5_orderDoors_44 {l0 l2 l3 : Value} {x : Int32} {S : List Value} {I A : am_F} {G : am_G} : am_e 34 44 [l0, .int x, l2, l3] S I A G = am_e 34 47 [l0, .int (x + 1), l2, l3] S I A G := am_e_go (i := .iinc 1 1) (n := 3) (by decide +kernel) rfl (by first | rfl | (rw [show (1 : Int32) = Int32.ofInt 1 by decide]; rfl))
theorem s_X5_orderDoors_47 {l0 l1 l2 : Value} {x : Int32} {S : List Value} {I A : am_F} {G : am_G} : am_e 34 47 [l0, l1, l2, .int x] S I A G = am_e 34 50 [l0, l1, l2, .int (x + 1)] S I A G := am_e_go (i := .iinc 3 1) (n := 3) (by decide +kernel) rfl (by first | rfl | (rw [show (1 : Int32) = Int32.ofInt 1 by decide]; rfl))
theorem s_X5_orderDoors_50 {L : List Value} {S : List Value} {I A : am_F} {G : am_G} : am_e 34 50 L S I A G = am_e 34 14 L S I A G := am_e_go (i := .goto (-36)) (n := 3) (by decide +kernel) rfl rfl
theorem s_X5_orderDoors_53 {l1 l2 l3 : Value} {x : Nat} {S : List Value} {I A : am_F} {G : am_G} : am_e 34 53 [.ref x, l1, l2, l3] S I A G = am_e 34 54 [.ref x, l1, l2, l3] (.ref x :: S) I A G := am_e_go (i := .aload_n 0) (n := 1) (by decide +kernel) rfl rfl
theorem s_X5_orderDoors_54_at13 {L : List Value} {S : List Value} {I A : am_F} {G : am_G} : am_e 34 54 L (.ref 13 :: S) I A G = am_e 34 57 L (.ref 18 :: S) I A G := am_e_go (i := .getfield 24) (n := 3) (by decide +kernel) rfl rfl
theorem s_X5_orderDoors_54_at19 {L : List Value} {S : List Value} {I A : am_F} {G : am_G} : am_e 34 54 L (.ref 19 :: S) I A G = am_e 34 57 L (.ref 24 :: S) I A G := am_e_go (i := .getfield 24) (n := 3) (by decide +kernel) rfl rfl
theorem s_X5_orderDoors_54_at33 {L : List Value} {S : List Value} {I A : am_F} {G : am_G} : am_e 34 54 L (.ref 33 :: S) I A G = am_e 34 57 L (.ref 38 :: S) I A G := am_e_go (i := .getfield 24) (n := 3) (by decide +kernel) rfl rfl
theorem s_X5_orderDoors_54_at39 {L : List Value} {S : List Value} {I A : am_F} {G : am_G} : am_e 34 54 L (.ref 39 :: S) I A G = am_e 34 57 L (.ref 44 :: S) I A G := am_e_go (i := .getfield 24) (n := 3) (by decide +kernel) rfl rfl
theorem s_X5_orderDoors_57 {l0 l1 l3 : Value} {x : Int32} {S : List Value} {I A : am_F} {G : am_G} : am_e 34 57 [l0, l1, .int x, l3] S I A G = am_e 34 58 [l0, l1, .int x, l3] (.int x :: S) I A G := am_e_go (i := .iload_n 2) (n := 1) (by decide +kernel) rfl rfl
theorem s_X5_orderDoors_58 {l0 l2 l3 : Value} {x : Int32} {S : List Value} {I A : am_F} {G : am_G} : am_e 34 58 [l0, .int x, l2, l3] S I A G = am_e 34 59 [l0, .int x, l2, l3] (.int x :: S) I A G := am_e_go (i := .iload_n 1) (n := 1) (by decide +kernel) rfl rfl
theorem s_X5_orderDoors_59 {L : List Value} {i x : Int32} {a : Nat} {S : List Value} {I A : am_F} {G : am_G} : am_e 34 59 L (.int x :: .int i :: .ref a :: S) I A G = if i < 0 ∨ am_len 86 false a ≤ i.toNatClampNeg then none else am_e 34 60 L S I (am_u A a i.toNatClampNeg x) G := am_e_nif (i := .iastore) (n := 1) (by decide +kernel) rfl rfl
theorem s_X5_orderDoors_60 {l0 l1 l3 : Value} {x : Int32} {S : List Value} {I A : am_F} {G : am_G} : am_e 34 60 [l0, l1, .int x, l3] S I A G = am_e 34 63 [l0, l1, .int (x + 1), l3] S I A G := am_e_go (i := .iinc 2 1) (n := 3) (by decide +kernel) rfl (by first | rfl | (rw [show (1 : Int32) = Int32.ofInt 1 by decide]; rfl))
theorem s_X5_orderDoors_63 {L : List Value} {S : List Value} {I A : am_F} {G : am_G} : am_e 34 63 L S I A G = am_e 34 4 L S I A G := am_e_go (i := .goto (-59)) (n := 3) (by decide +kernel) rfl rfl
theorem s_X5_orderDoors_66 {L : List Value} {I A : am_F} {G : am_G} : am_e 34 66 L [] I A G = some (.null, I, A, G) := am_e_rt (i := .return_) (n := 1) (by decide +kernel) rfl rfl
end
