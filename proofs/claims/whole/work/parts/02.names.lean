/-! ===== BEGIN words of one list among another's, by their places ===== -/
theorem goodIn_r {big : List Cond} (ws : List Cond) (ps : List Nat) (hp : ws = ps.filterMap (fun i => big[i]?)) (h : ws.all goodWord = true) : GoodIn big ws := by
  intro w hw
  have h1 := List.all_eq_true.mp h w hw
  rw [hp] at hw
  obtain ⟨i, -, hi⟩ := List.mem_filterMap.mp hw
  have hm : w ∈ big := by first | exact List.mem_of_getElem? hi | exact List.getElem?_mem hi
  exact ⟨hm, good_of_word h1⟩
theorem goodIn_app {big a b : List Cond} (ha : GoodIn big a) (hb : GoodIn big b) : GoodIn big (a ++ b) := fun w h => (List.mem_append.mp h).elim (ha w) (hb w)
theorem goodIn_ca {big a b : List Cond} {c : Cond} (ha : GoodIn big (c :: a)) (hb : GoodIn big b) : GoodIn big (c :: (a ++ b)) := fun w h => (List.mem_cons.mp h).elim (fun e => ha w (List.mem_cons.mpr (Or.inl e))) (fun h => (List.mem_append.mp h).elim (fun h => ha w (List.mem_cons.mpr (Or.inr h))) (hb w))
theorem goodIn_sub {big ws : List Cond} (hm : ∀ w ∈ ws, w ∈ big) (h : ws.all goodWord = true) : GoodIn big ws := fun w hw => ⟨hm w hw, good_of_word (List.all_eq_true.mp h w hw)⟩
/-! ===== END ===== -/

/-! ===== BEGIN printed: names, fields, word lists, decode rows ===== -/
def RX0 : String := "CaveBreath$Breath"
def TX0 : u_T := fun k => match k with
  | 0 => ("CaveBreath$Breath", "airOf", "[I", true)
  | 1 => ("CaveBreath$Breath", "flow", "[I", true)
  | 2 => ("CaveBreath$Breath", "lets", "[I", true)
  | 3 => ("CaveBreath$Breath", "letsOut", "[I", true)
  | _ => ("CaveBreath$Breath", "wind", "LCaveBreath$Wind;", false)
def tyX0 : Nat → FieldType := fun k => match k with
  | 0 => .array .int
  | 1 => .array .int
  | 2 => .array .int
  | 3 => .array .int
  | _ => .object "CaveBreath$Wind"
abbrev wsX00 : List Cond := u_ws RX0 TX0 5
theorem nmX0 : ∀ a, a < 5 → ∀ b, b < 5 → a ≠ b → (TX0 a).2.1 ≠ (TX0 b).2.1 := by decide +kernel
theorem tyX0_ok : ∀ k, k < 5 → parseFieldDescriptor (TX0 k).2.2.1 = some (tyX0 k) := by decide +kernel
abbrev cX0_init : ByteArray := prog_2_method_1_code
def yX0_init : MethodName := ⟨RX0, "<init>", "()V"⟩
abbrev cX0_blow : ByteArray := prog_2_method_2_code
def yX0_blow : MethodName := ⟨RX0, "blow", "(LCaveBreath$Plan;III)V"⟩
abbrev cX0_shutDeadEnds : ByteArray := prog_2_method_3_code
def yX0_shutDeadEnds : MethodName := ⟨RX0, "shutDeadEnds", "()V"⟩
abbrev cX0_handOn : ByteArray := prog_2_method_4_code
def yX0_handOn : MethodName := ⟨RX0, "handOn", "(I)V"⟩
abbrev cX0_carriedFrom : ByteArray := prog_2_method_5_code
def yX0_carriedFrom : MethodName := ⟨RX0, "carriedFrom", "(I)I"⟩
def RX1 : String := "CaveBreath$Noses"
def TX1 : u_T := fun k => match k with
  | 0 => ("CaveBreath$Noses", "hour", "[I", true)
  | 1 => ("CaveBreath$Noses", "hall", "[I", true)
  | 2 => ("CaveBreath$Noses", "did", "[I", true)
  | _ => ("CaveBreath$Noses", "told", "I", false)
def tyX1 : Nat → FieldType := fun k => match k with
  | 0 => .array .int
  | 1 => .array .int
  | 2 => .array .int
  | _ => .int
abbrev wsX10 : List Cond := u_ws RX1 TX1 4
theorem nmX1 : ∀ a, a < 4 → ∀ b, b < 4 → a ≠ b → (TX1 a).2.1 ≠ (TX1 b).2.1 := by decide +kernel
theorem tyX1_ok : ∀ k, k < 4 → parseFieldDescriptor (TX1 k).2.2.1 = some (tyX1 k) := by decide +kernel
abbrev cX1_init : ByteArray := prog_3_method_1_code
def yX1_init : MethodName := ⟨RX1, "<init>", "()V"⟩
abbrev cX1_hear : ByteArray := prog_3_method_2_code
def yX1_hear : MethodName := ⟨RX1, "hear", "(IIZ)V"⟩
def RX2 : String := "CaveBreath$Plan"
def TX2 : u_T := fun k => match k with
  | 0 => ("CaveBreath$Plan", "height", "[I", true)
  | 1 => ("CaveBreath$Plan", "makes", "[I", true)
  | 2 => ("CaveBreath$Plan", "needs", "[I", true)
  | 3 => ("CaveBreath$Plan", "oneHall", "[I", true)
  | 4 => ("CaveBreath$Plan", "otherHall", "[I", true)
  | 5 => ("CaveBreath$Plan", "wide", "[I", true)
  | 6 => ("CaveBreath$Plan", "kind", "[I", true)
  | 7 => ("CaveBreath$Plan", "up", "LCaveBreath$Wind;", true)
  | 8 => ("CaveBreath$Plan", "down", "LCaveBreath$Wind;", true)
  | 9 => ("CaveBreath$Plan", "halls", "I", false)
  | 10 => ("CaveBreath$Plan", "doors", "I", false)
  | 11 => ("CaveBreath$Plan", "smoky", "I", false)
  | 12 => ("CaveBreath$Plan", "middle", "I", false)
  | 13 => ("CaveBreath$Plan", "warm", "I", false)
  | 14 => ("CaveBreath$Plan", "early", "I", false)
  | 15 => ("CaveBreath$Plan", "late", "I", false)
  | 16 => ("CaveBreath$Plan", "ward", "I", false)
  | _ => ("CaveBreath$Plan", "swing", "I", false)
def tyX2 : Nat → FieldType := fun k => match k with
  | 0 => .array .int
  | 1 => .array .int
  | 2 => .array .int
  | 3 => .array .int
  | 4 => .array .int
  | 5 => .array .int
  | 6 => .array .int
  | 7 => .object "CaveBreath$Wind"
  | 8 => .object "CaveBreath$Wind"
  | 9 => .int
  | 10 => .int
  | 11 => .int
  | 12 => .int
  | 13 => .int
  | 14 => .int
  | 15 => .int
  | 16 => .int
  | _ => .int
abbrev wsX20 : List Cond := u_ws RX2 TX2 18
theorem nmX2 : ∀ a, a < 18 → ∀ b, b < 18 → a ≠ b → (TX2 a).2.1 ≠ (TX2 b).2.1 := by decide +kernel
theorem tyX2_ok : ∀ k, k < 18 → parseFieldDescriptor (TX2 k).2.2.1 = some (tyX2 k) := by decide +kernel
abbrev cX2_init : ByteArray := prog_4_method_1_code
def yX2_init : MethodName := ⟨RX2, "<init>", "()V"⟩
abbrev cX2_empty : ByteArray := prog_4_method_2_code
def yX2_empty : MethodName := ⟨RX2, "empty", "()V"⟩
abbrev cX2_copyFrom : ByteArray := prog_4_method_3_code
def yX2_copyFrom : MethodName := ⟨RX2, "copyFrom", "(LCaveBreath$Plan;)V"⟩
abbrev cX2_take : ByteArray := prog_4_method_4_code
def yX2_take : MethodName := ⟨RX2, "take", "(I[I)Z"⟩
abbrev cX2_isTold : ByteArray := prog_4_method_5_code
def yX2_isTold : MethodName := ⟨RX2, "isTold", "(I)Z"⟩
abbrev cX2_addHall : ByteArray := prog_4_method_6_code
def yX2_addHall : MethodName := ⟨RX2, "addHall", "(III)Z"⟩
abbrev cX2_addDoor : ByteArray := prog_4_method_7_code
def yX2_addDoor : MethodName := ⟨RX2, "addDoor", "(IIII)Z"⟩
abbrev cX2_isBetween : ByteArray := prog_4_method_8_code
def yX2_isBetween : MethodName := ⟨RX2, "isBetween", "(II)Z"⟩
abbrev cX2_placeWard : ByteArray := prog_4_method_9_code
def yX2_placeWard : MethodName := ⟨RX2, "placeWard", "(I)Z"⟩
abbrev cX2_swingBy : ByteArray := prog_4_method_10_code
def yX2_swingBy : MethodName := ⟨RX2, "swingBy", "(I)Z"⟩
abbrev cX2_settle : ByteArray := prog_4_method_11_code
def yX2_settle : MethodName := ⟨RX2, "settle", "()V"⟩
abbrev cX2_wayIn : ByteArray := prog_4_method_12_code
def yX2_wayIn : MethodName := ⟨RX2, "wayIn", "(I)I"⟩
abbrev cX2_wayAt : ByteArray := prog_4_method_13_code
def yX2_wayAt : MethodName := ⟨RX2, "wayAt", "(I)I"⟩
abbrev cX2_letBy : ByteArray := prog_4_method_14_code
def yX2_letBy : MethodName := ⟨RX2, "letBy", "(IZI)I"⟩
def RX3 : String := "CaveBreath$Reader"
def TX3 : u_T := fun k => match k with
  | 0 => ("CaveBreath$Reader", "numbers", "[I", true)
  | 1 => ("CaveBreath$Reader", "bytes", "[B", false)
  | 2 => ("CaveBreath$Reader", "end", "I", false)
  | _ => ("CaveBreath$Reader", "at", "I", false)
def tyX3 : Nat → FieldType := fun k => match k with
  | 0 => .array .int
  | 1 => .array .byte
  | 2 => .int
  | _ => .int
abbrev wsX30 : List Cond := u_ws RX3 TX3 4
theorem nmX3 : ∀ a, a < 4 → ∀ b, b < 4 → a ≠ b → (TX3 a).2.1 ≠ (TX3 b).2.1 := by decide +kernel
theorem tyX3_ok : ∀ k, k < 4 → parseFieldDescriptor (TX3 k).2.2.1 = some (tyX3 k) := by decide +kernel
abbrev cX3_init : ByteArray := prog_5_method_1_code
def yX3_init : MethodName := ⟨RX3, "<init>", "()V"⟩
abbrev cX3_firstFault : ByteArray := prog_5_method_2_code
def yX3_firstFault : MethodName := ⟨RX3, "firstFault", "([BILCaveBreath$Plan;)I"⟩
abbrev cX3_numbersBehind : ByteArray := prog_5_method_3_code
def yX3_numbersBehind : MethodName := ⟨RX3, "numbersBehind", "(I)I"⟩
abbrev cX3_nextByte : ByteArray := prog_5_method_4_code
def yX3_nextByte : MethodName := ⟨RX3, "nextByte", "()I"⟩
abbrev cX3_readNumbers : ByteArray := prog_5_method_5_code
def yX3_readNumbers : MethodName := ⟨RX3, "readNumbers", "(I)Z"⟩
abbrev cX3_readNumber : ByteArray := prog_5_method_6_code
def yX3_readNumber : MethodName := ⟨RX3, "readNumber", "(II)Z"⟩
abbrev cX3_isFigure : ByteArray := prog_5_method_7_code
def yX3_isFigure : MethodName := ⟨RX3, "isFigure", "(I)Z"⟩
def RX4 : String := "CaveBreath$State"
def TX4 : u_T := fun k => match k with
  | 0 => ("CaveBreath$State", "open", "I", false)
  | 1 => ("CaveBreath$State", "flooded", "I", false)
  | 2 => ("CaveBreath$State", "hour", "I", false)
  | 3 => ("CaveBreath$State", "smoke", "[I", true)
  | _ => ("CaveBreath$State", "more", "[I", true)
def tyX4 : Nat → FieldType := fun k => match k with
  | 0 => .int
  | 1 => .int
  | 2 => .int
  | 3 => .array .int
  | _ => .array .int
abbrev wsX40 : List Cond := u_ws RX4 TX4 5
theorem nmX4 : ∀ a, a < 5 → ∀ b, b < 5 → a ≠ b → (TX4 a).2.1 ≠ (TX4 b).2.1 := by decide +kernel
theorem tyX4_ok : ∀ k, k < 5 → parseFieldDescriptor (TX4 k).2.2.1 = some (tyX4 k) := by decide +kernel
abbrev cX4_init : ByteArray := prog_6_method_1_code
def yX4_init : MethodName := ⟨RX4, "<init>", "()V"⟩
abbrev cX4_begin : ByteArray := prog_6_method_2_code
def yX4_begin : MethodName := ⟨RX4, "begin", "(I)V"⟩
abbrev cX4_copyFrom : ByteArray := prog_6_method_3_code
def yX4_copyFrom : MethodName := ⟨RX4, "copyFrom", "(LCaveBreath$State;)V"⟩
abbrev cX4_passHour : ByteArray := prog_6_method_4_code
def yX4_passHour : MethodName := ⟨RX4, "passHour", "(LCaveBreath$Plan;LCaveBreath$Breath;)V"⟩
abbrev cX4_carriedBy : ByteArray := prog_6_method_5_code
def yX4_carriedBy : MethodName := ⟨RX4, "carriedBy", "(III)I"⟩
abbrev cX4_smokeInHalls : ByteArray := prog_6_method_6_code
def yX4_smokeInHalls : MethodName := ⟨RX4, "smokeInHalls", "(I)I"⟩
def RX5 : String := "CaveBreath$Wind"
def TX5 : u_T := fun k => match k with
  | 0 => ("CaveBreath$Wind", "from", "[I", true)
  | 1 => ("CaveBreath$Wind", "to", "[I", true)
  | 2 => ("CaveBreath$Wind", "placeAt", "[I", true)
  | 3 => ("CaveBreath$Wind", "places", "I", false)
  | 4 => ("CaveBreath$Wind", "doorAt", "[I", true)
  | 5 => ("CaveBreath$Wind", "endAt", "[I", true)
  | _ => ("CaveBreath$Wind", "doors", "I", false)
def tyX5 : Nat → FieldType := fun k => match k with
  | 0 => .array .int
  | 1 => .array .int
  | 2 => .array .int
  | 3 => .int
  | 4 => .array .int
  | 5 => .array .int
  | _ => .int
abbrev wsX50 : List Cond := u_ws RX5 TX5 7
theorem nmX5 : ∀ a, a < 7 → ∀ b, b < 7 → a ≠ b → (TX5 a).2.1 ≠ (TX5 b).2.1 := by decide +kernel
theorem tyX5_ok : ∀ k, k < 7 → parseFieldDescriptor (TX5 k).2.2.1 = some (tyX5 k) := by decide +kernel
abbrev cX5_init : ByteArray := prog_7_method_1_code
def yX5_init : MethodName := ⟨RX5, "<init>", "()V"⟩
abbrev cX5_follow : ByteArray := prog_7_method_2_code
def yX5_follow : MethodName := ⟨RX5, "follow", "(LCaveBreath$Plan;Z)V"⟩
abbrev cX5_leadInside : ByteArray := prog_7_method_3_code
def yX5_leadInside : MethodName := ⟨RX5, "leadInside", "(LCaveBreath$Plan;IZ)V"⟩
abbrev cX5_leadOutside : ByteArray := prog_7_method_4_code
def yX5_leadOutside : MethodName := ⟨RX5, "leadOutside", "(LCaveBreath$Plan;IZ)V"⟩
abbrev cX5_orderPlaces : ByteArray := prog_7_method_5_code
def yX5_orderPlaces : MethodName := ⟨RX5, "orderPlaces", "(LCaveBreath$Plan;Z)V"⟩
abbrev cX5_isLater : ByteArray := prog_7_method_6_code
def yX5_isLater : MethodName := ⟨RX5, "isLater", "(LCaveBreath$Plan;IIZ)Z"⟩
abbrev cX5_orderDoors : ByteArray := prog_7_method_7_code
def yX5_orderDoors : MethodName := ⟨RX5, "orderDoors", "()V"⟩
def RX6 : String := "CaveBreath"
def TX6 : u_T := fun k => match k with
  | 0 => ("CaveBreath", "text", "[B", true)
  | 1 => ("CaveBreath", "length", "I", false)
  | 2 => ("CaveBreath", "reader", "LCaveBreath$Reader;", true)
  | 3 => ("CaveBreath", "plan", "LCaveBreath$Plan;", false)
  | 4 => ("CaveBreath", "draft", "LCaveBreath$Plan;", false)
  | 5 => ("CaveBreath", "now", "LCaveBreath$State;", true)
  | 6 => ("CaveBreath", "keptFirst", "LCaveBreath$State;", true)
  | 7 => ("CaveBreath", "keptSecond", "LCaveBreath$State;", true)
  | 8 => ("CaveBreath", "kept", "I", false)
  | 9 => ("CaveBreath", "noses", "LCaveBreath$Noses;", true)
  | _ => ("CaveBreath", "breath", "LCaveBreath$Breath;", true)
def tyX6 : Nat → FieldType := fun k => match k with
  | 0 => .array .byte
  | 1 => .int
  | 2 => .object "CaveBreath$Reader"
  | 3 => .object "CaveBreath$Plan"
  | 4 => .object "CaveBreath$Plan"
  | 5 => .object "CaveBreath$State"
  | 6 => .object "CaveBreath$State"
  | 7 => .object "CaveBreath$State"
  | 8 => .int
  | 9 => .object "CaveBreath$Noses"
  | _ => .object "CaveBreath$Breath"
abbrev wsX60 : List Cond := u_ws RX6 TX6 11
theorem nmX6 : ∀ a, a < 11 → ∀ b, b < 11 → a ≠ b → (TX6 a).2.1 ≠ (TX6 b).2.1 := by decide +kernel
theorem tyX6_ok : ∀ k, k < 11 → parseFieldDescriptor (TX6 k).2.2.1 = some (tyX6 k) := by decide +kernel
abbrev cX6_init : ByteArray := prog_1_method_1_code
def yX6_init : MethodName := ⟨RX6, "<init>", "()V"⟩
abbrev cX6_write : ByteArray := prog_1_method_2_code
def yX6_write : MethodName := ⟨RX6, "write", "(IJ)I"⟩
abbrev cX6_wipe : ByteArray := prog_1_method_3_code
def yX6_wipe : MethodName := ⟨RX6, "wipe", "()I"⟩
abbrev cX6_fault : ByteArray := prog_1_method_4_code
def yX6_fault : MethodName := ⟨RX6, "fault", "()I"⟩
abbrev cX6_lay : ByteArray := prog_1_method_5_code
def yX6_lay : MethodName := ⟨RX6, "lay", "()I"⟩
abbrev cX6_hall : ByteArray := prog_1_method_6_code
def yX6_hall : MethodName := ⟨RX6, "hall", "(II)I"⟩
abbrev cX6_door : ByteArray := prog_1_method_7_code
def yX6_door : MethodName := ⟨RX6, "door", "(II)I"⟩
abbrev cX6_set : ByteArray := prog_1_method_8_code
def yX6_set : MethodName := ⟨RX6, "set", "(IZ)I"⟩
abbrev cX6_flood : ByteArray := prog_1_method_9_code
def yX6_flood : MethodName := ⟨RX6, "flood", "(IZ)I"⟩
abbrev cX6_goes : ByteArray := prog_1_method_10_code
def yX6_goes : MethodName := ⟨RX6, "goes", "(I)I"⟩
abbrev cX6_air : ByteArray := prog_1_method_11_code
def yX6_air : MethodName := ⟨RX6, "air", "(II)I"⟩
abbrev cX6_through : ByteArray := prog_1_method_12_code
def yX6_through : MethodName := ⟨RX6, "through", "(II)I"⟩
abbrev cX6_downwind : ByteArray := prog_1_method_13_code
def yX6_downwind : MethodName := ⟨RX6, "downwind", "(II)I"⟩
abbrev cX6_hours : ByteArray := prog_1_method_14_code
def yX6_hours : MethodName := ⟨RX6, "hours", "(I)I"⟩
abbrev cX6_clean : ByteArray := prog_1_method_15_code
def yX6_clean : MethodName := ⟨RX6, "clean", "(I)I"⟩
abbrev cX6_settings : ByteArray := prog_1_method_16_code
def yX6_settings : MethodName := ⟨RX6, "settings", "(I)I"⟩
abbrev cX6_first : ByteArray := prog_1_method_17_code
def yX6_first : MethodName := ⟨RX6, "first", "(III)I"⟩
abbrev cX6_smelled : ByteArray := prog_1_method_18_code
def yX6_smelled : MethodName := ⟨RX6, "smelled", "(IIZ)I"⟩
abbrev cX6_forget : ByteArray := prog_1_method_19_code
def yX6_forget : MethodName := ⟨RX6, "forget", "()I"⟩
abbrev cX6_burns : ByteArray := prog_1_method_20_code
def yX6_burns : MethodName := ⟨RX6, "burns", "()I"⟩
abbrev cX6_shaft : ByteArray := prog_1_method_21_code
def yX6_shaft : MethodName := ⟨RX6, "shaft", "(I)I"⟩
abbrev cX6_lamps : ByteArray := prog_1_method_22_code
def yX6_lamps : MethodName := ⟨RX6, "lamps", "(I)I"⟩
abbrev cX6_weather : ByteArray := prog_1_method_23_code
def yX6_weather : MethodName := ⟨RX6, "weather", "(II)I"⟩
abbrev cX6_keep : ByteArray := prog_1_method_24_code
def yX6_keep : MethodName := ⟨RX6, "keep", "()I"⟩
abbrev cX6_back : ByteArray := prog_1_method_25_code
def yX6_back : MethodName := ⟨RX6, "back", "()I"⟩
abbrev cX6_count : ByteArray := prog_1_method_26_code
def yX6_count : MethodName := ⟨RX6, "count", "(I)I"⟩
abbrev cX6_isHall : ByteArray := prog_1_method_27_code
def yX6_isHall : MethodName := ⟨RX6, "isHall", "(I)Z"⟩
abbrev cX6_isDoor : ByteArray := prog_1_method_28_code
def yX6_isDoor : MethodName := ⟨RX6, "isDoor", "(I)Z"⟩
abbrev cX6_isHour : ByteArray := prog_1_method_29_code
def yX6_isHour : MethodName := ⟨RX6, "isHour", "(I)Z"⟩
abbrev cX6_isEither : ByteArray := prog_1_method_30_code
def yX6_isEither : MethodName := ⟨RX6, "isEither", "(I)Z"⟩
abbrev cX6_bitOf : ByteArray := prog_1_method_31_code
def yX6_bitOf : MethodName := ⟨RX6, "bitOf", "(II)I"⟩
abbrev cX6_withBit : ByteArray := prog_1_method_32_code
def yX6_withBit : MethodName := ⟨RX6, "withBit", "(IIZ)I"⟩
abbrev cX6_keptAt : ByteArray := prog_1_method_33_code
def yX6_keptAt : MethodName := ⟨RX6, "keptAt", "(I)LCaveBreath$State;"⟩
abbrev cX6_blowNow : ByteArray := prog_1_method_34_code
def yX6_blowNow : MethodName := ⟨RX6, "blowNow", "(I)V"⟩
abbrev cX6_wardAir : ByteArray := prog_1_method_35_code
def yX6_wardAir : MethodName := ⟨RX6, "wardAir", "(III)I"⟩
abbrev cX6_isWardDownwindOfSmoke : ByteArray := prog_1_method_36_code
def yX6_isWardDownwindOfSmoke : MethodName := ⟨RX6, "isWardDownwindOfSmoke", "()Z"⟩
abbrev cX6_isWardFoul : ByteArray := prog_1_method_37_code
def yX6_isWardFoul : MethodName := ⟨RX6, "isWardFoul", "(I)Z"⟩
abbrev cX6_isClean : ByteArray := prog_1_method_38_code
def yX6_isClean : MethodName := ⟨RX6, "isClean", "(I)Z"⟩
abbrev cX6_isCleanBy : ByteArray := prog_1_method_39_code
def yX6_isCleanBy : MethodName := ⟨RX6, "isCleanBy", "(II)Z"⟩
abbrev cX6_howManyClean : ByteArray := prog_1_method_40_code
def yX6_howManyClean : MethodName := ⟨RX6, "howManyClean", "()I"⟩
abbrev cX6_nearestClean : ByteArray := prog_1_method_41_code
def yX6_nearestClean : MethodName := ⟨RX6, "nearestClean", "()I"⟩
abbrev cX6_leastAir : ByteArray := prog_1_method_42_code
def yX6_leastAir : MethodName := ⟨RX6, "leastAir", "(LCaveBreath$Plan;II)I"⟩
abbrev cX6_wardAirWithShaft : ByteArray := prog_1_method_43_code
def yX6_wardAirWithShaft : MethodName := ⟨RX6, "wardAirWithShaft", "(I)I"⟩
abbrev cX6_warmerBy : ByteArray := prog_1_method_44_code
def yX6_warmerBy : MethodName := ⟨RX6, "warmerBy", "(II)I"⟩
def RX7 : String := "CaveBreathModel"
def TX7 : u_T := fun k => match k with
  | 0 => ("CaveBreathModel", "bytes", "I", false)
  | 1 => ("CaveBreathModel", "text", "[I", true)
  | 2 => ("CaveBreathModel", "position", "I", false)
  | 3 => ("CaveBreathModel", "number", "I", false)
  | 4 => ("CaveBreathModel", "readHalls", "I", false)
  | 5 => ("CaveBreathModel", "readDoors", "I", false)
  | 6 => ("CaveBreathModel", "readHall", "[I", true)
  | 7 => ("CaveBreathModel", "readDoor", "[I", true)
  | 8 => ("CaveBreathModel", "readSet", "[I", true)
  | 9 => ("CaveBreathModel", "halls", "I", false)
  | 10 => ("CaveBreathModel", "doors", "I", false)
  | 11 => ("CaveBreathModel", "hall", "[I", true)
  | 12 => ("CaveBreathModel", "door", "[I", true)
  | 13 => ("CaveBreathModel", "set", "[I", true)
  | 14 => ("CaveBreathModel", "open", "I", false)
  | 15 => ("CaveBreathModel", "flooded", "I", false)
  | 16 => ("CaveBreathModel", "smoke", "[I", true)
  | 17 => ("CaveBreathModel", "outside", "I", false)
  | 18 => ("CaveBreathModel", "hour", "I", false)
  | 19 => ("CaveBreathModel", "kept", "I", false)
  | 20 => ("CaveBreathModel", "image", "[I", true)
  | 21 => ("CaveBreathModel", "smells", "I", false)
  | 22 => ("CaveBreathModel", "smell", "[I", true)
  | 23 => ("CaveBreathModel", "way", "I", false)
  | 24 => ("CaveBreathModel", "doorsNow", "I", false)
  | 25 => ("CaveBreathModel", "openNow", "I", false)
  | 26 => ("CaveBreathModel", "floodedNow", "I", false)
  | 27 => ("CaveBreathModel", "air", "[I", true)
  | 28 => ("CaveBreathModel", "through", "[I", true)
  | 29 => ("CaveBreathModel", "lets", "[I", true)
  | 30 => ("CaveBreathModel", "from", "[I", true)
  | 31 => ("CaveBreathModel", "to", "[I", true)
  | _ => ("CaveBreathModel", "then", "[I", true)
def tyX7 : Nat → FieldType := fun k => match k with
  | 0 => .int
  | 1 => .array .int
  | 2 => .int
  | 3 => .int
  | 4 => .int
  | 5 => .int
  | 6 => .array .int
  | 7 => .array .int
  | 8 => .array .int
  | 9 => .int
  | 10 => .int
  | 11 => .array .int
  | 12 => .array .int
  | 13 => .array .int
  | 14 => .int
  | 15 => .int
  | 16 => .array .int
  | 17 => .int
  | 18 => .int
  | 19 => .int
  | 20 => .array .int
  | 21 => .int
  | 22 => .array .int
  | 23 => .int
  | 24 => .int
  | 25 => .int
  | 26 => .int
  | 27 => .array .int
  | 28 => .array .int
  | 29 => .array .int
  | 30 => .array .int
  | 31 => .array .int
  | _ => .array .int
abbrev wsX70 : List Cond := u_ws RX7 TX7 33
theorem nmX7 : ∀ a, a < 33 → ∀ b, b < 33 → a ≠ b → (TX7 a).2.1 ≠ (TX7 b).2.1 := by decide +kernel
theorem tyX7_ok : ∀ k, k < 33 → parseFieldDescriptor (TX7 k).2.2.1 = some (tyX7 k) := by decide +kernel
abbrev cX7_init : ByteArray := prog_9_method_1_code
def yX7_init : MethodName := ⟨RX7, "<init>", "()V"⟩
abbrev cX7_in : ByteArray := prog_9_method_2_code
def yX7_in : MethodName := ⟨RX7, "in", "(III)Z"⟩
abbrev cX7_has : ByteArray := prog_9_method_3_code
def yX7_has : MethodName := ⟨RX7, "has", "(II)Z"⟩
abbrev cX7_standard : ByteArray := prog_9_method_4_code
def yX7_standard : MethodName := ⟨RX7, "standard", "([I)V"⟩
abbrev cX7_write : ByteArray := prog_9_method_5_code
def yX7_write : MethodName := ⟨RX7, "write", "(IJ)I"⟩
abbrev cX7_wipe : ByteArray := prog_9_method_6_code
def yX7_wipe : MethodName := ⟨RX7, "wipe", "()I"⟩
abbrev cX7_here : ByteArray := prog_9_method_7_code
def yX7_here : MethodName := ⟨RX7, "here", "()I"⟩
abbrev cX7_isNumber : ByteArray := prog_9_method_8_code
def yX7_isNumber : MethodName := ⟨RX7, "isNumber", "(III)Z"⟩
abbrev cX7_isHallItem : ByteArray := prog_9_method_9_code
def yX7_isHallItem : MethodName := ⟨RX7, "isHallItem", "()Z"⟩
abbrev cX7_isDoorItem : ByteArray := prog_9_method_10_code
def yX7_isDoorItem : MethodName := ⟨RX7, "isDoorItem", "(Z)Z"⟩
abbrev cX7_isSet : ByteArray := prog_9_method_11_code
def yX7_isSet : MethodName := ⟨RX7, "isSet", "(II)Z"⟩
abbrev cX7_isWarm : ByteArray := prog_9_method_12_code
def yX7_isWarm : MethodName := ⟨RX7, "isWarm", "()Z"⟩
abbrev cX7_isItem : ByteArray := prog_9_method_13_code
def yX7_isItem : MethodName := ⟨RX7, "isItem", "()Z"⟩
abbrev cX7_readAll : ByteArray := prog_9_method_14_code
def yX7_readAll : MethodName := ⟨RX7, "readAll", "()I"⟩
abbrev cX7_fault : ByteArray := prog_9_method_15_code
def yX7_fault : MethodName := ⟨RX7, "fault", "()I"⟩
abbrev cX7_lay : ByteArray := prog_9_method_16_code
def yX7_lay : MethodName := ⟨RX7, "lay", "()I"⟩
abbrev cX7_isHall : ByteArray := prog_9_method_17_code
def yX7_isHall : MethodName := ⟨RX7, "isHall", "(I)Z"⟩
abbrev cX7_isDoor : ByteArray := prog_9_method_18_code
def yX7_isDoor : MethodName := ⟨RX7, "isDoor", "(I)Z"⟩
abbrev cX7_hall : ByteArray := prog_9_method_19_code
def yX7_hall : MethodName := ⟨RX7, "hall", "(II)I"⟩
abbrev cX7_door : ByteArray := prog_9_method_20_code
def yX7_door : MethodName := ⟨RX7, "door", "(II)I"⟩
abbrev cX7_set : ByteArray := prog_9_method_21_code
def yX7_set : MethodName := ⟨RX7, "set", "(IZ)I"⟩
abbrev cX7_flood : ByteArray := prog_9_method_22_code
def yX7_flood : MethodName := ⟨RX7, "flood", "(IZ)I"⟩
abbrev cX7_goesBy : ByteArray := prog_9_method_23_code
def yX7_goesBy : MethodName := ⟨RX7, "goesBy", "(II)I"⟩
abbrev cX7_isHour : ByteArray := prog_9_method_24_code
def yX7_isHour : MethodName := ⟨RX7, "isHour", "(I)Z"⟩
abbrev cX7_goes : ByteArray := prog_9_method_25_code
def yX7_goes : MethodName := ⟨RX7, "goes", "(I)I"⟩
abbrev cX7_layDoor : ByteArray := prog_9_method_26_code
def yX7_layDoor : MethodName := ⟨RX7, "layDoor", "(I)V"⟩
abbrev cX7_breathers : ByteArray := prog_9_method_27_code
def yX7_breathers : MethodName := ⟨RX7, "breathers", "()I"⟩
abbrev cX7_giveOut : ByteArray := prog_9_method_28_code
def yX7_giveOut : MethodName := ⟨RX7, "giveOut", "(II)V"⟩
abbrev cX7_leadsOn : ByteArray := prog_9_method_29_code
def yX7_leadsOn : MethodName := ⟨RX7, "leadsOn", "(III)Z"⟩
abbrev cX7_layAir : ByteArray := prog_9_method_30_code
def yX7_layAir : MethodName := ⟨RX7, "layAir", "(III)V"⟩
abbrev cX7_layNow : ByteArray := prog_9_method_31_code
def yX7_layNow : MethodName := ⟨RX7, "layNow", "(I)V"⟩
abbrev cX7_keepIns : ByteArray := prog_9_method_32_code
def yX7_keepIns : MethodName := ⟨RX7, "keepIns", "(I)V"⟩
abbrev cX7_air : ByteArray := prog_9_method_33_code
def yX7_air : MethodName := ⟨RX7, "air", "(II)I"⟩
abbrev cX7_through : ByteArray := prog_9_method_34_code
def yX7_through : MethodName := ⟨RX7, "through", "(II)I"⟩
abbrev cX7_downwindOf : ByteArray := prog_9_method_35_code
def yX7_downwindOf : MethodName := ⟨RX7, "downwindOf", "(I)I"⟩
abbrev cX7_downwind : ByteArray := prog_9_method_36_code
def yX7_downwind : MethodName := ⟨RX7, "downwind", "(II)I"⟩
abbrev cX7_goHour : ByteArray := prog_9_method_37_code
def yX7_goHour : MethodName := ⟨RX7, "goHour", "()V"⟩
abbrev cX7_hours : ByteArray := prog_9_method_38_code
def yX7_hours : MethodName := ⟨RX7, "hours", "(I)I"⟩
abbrev cX7_isSick : ByteArray := prog_9_method_39_code
def yX7_isSick : MethodName := ⟨RX7, "isSick", "()Z"⟩
abbrev cX7_isClean : ByteArray := prog_9_method_40_code
def yX7_isClean : MethodName := ⟨RX7, "isClean", "(I)Z"⟩
abbrev cX7_clean : ByteArray := prog_9_method_41_code
def yX7_clean : MethodName := ⟨RX7, "clean", "(I)I"⟩
abbrev cX7_bits : ByteArray := prog_9_method_42_code
def yX7_bits : MethodName := ⟨RX7, "bits", "(I)I"⟩
abbrev cX7_settings : ByteArray := prog_9_method_43_code
def yX7_settings : MethodName := ⟨RX7, "settings", "(I)I"⟩
abbrev cX7_first : ByteArray := prog_9_method_44_code
def yX7_first : MethodName := ⟨RX7, "first", "(III)I"⟩
abbrev cX7_smelled : ByteArray := prog_9_method_45_code
def yX7_smelled : MethodName := ⟨RX7, "smelled", "(IIZ)I"⟩
abbrev cX7_forget : ByteArray := prog_9_method_46_code
def yX7_forget : MethodName := ⟨RX7, "forget", "()I"⟩
abbrev cX7_burns : ByteArray := prog_9_method_47_code
def yX7_burns : MethodName := ⟨RX7, "burns", "()I"⟩
abbrev cX7_leastAir : ByteArray := prog_9_method_48_code
def yX7_leastAir : MethodName := ⟨RX7, "leastAir", "(II)I"⟩
abbrev cX7_shaft : ByteArray := prog_9_method_49_code
def yX7_shaft : MethodName := ⟨RX7, "shaft", "(I)I"⟩
abbrev cX7_lamps : ByteArray := prog_9_method_50_code
def yX7_lamps : MethodName := ⟨RX7, "lamps", "(I)I"⟩
abbrev cX7_weather : ByteArray := prog_9_method_51_code
def yX7_weather : MethodName := ⟨RX7, "weather", "(II)I"⟩
abbrev cX7_keep : ByteArray := prog_9_method_52_code
def yX7_keep : MethodName := ⟨RX7, "keep", "()I"⟩
abbrev cX7_back : ByteArray := prog_9_method_53_code
def yX7_back : MethodName := ⟨RX7, "back", "()I"⟩
abbrev cX7_count : ByteArray := prog_9_method_54_code
def yX7_count : MethodName := ⟨RX7, "count", "(I)I"⟩
def RJ6 : String := "java/lang/Integer"
def TJ6 : u_T := fun k => match k with
  | _ => ("", "", "", false)
def tyJ6 : Nat → FieldType := fun k => match k with
  | _ => .int
abbrev wsJ60 : List Cond := u_ws RJ6 TJ6 0
theorem nmJ6 : ∀ a, a < 0 → ∀ b, b < 0 → a ≠ b → (TJ6 a).2.1 ≠ (TJ6 b).2.1 := by decide +kernel
theorem tyJ6_ok : ∀ k, k < 0 → parseFieldDescriptor (TJ6 k).2.2.1 = some (tyJ6 k) := by decide +kernel
abbrev cJ6_bitCount_0f7a4 : ByteArray := prog_10_method_49_code
def yJ6_bitCount_0f7a4 : MethodName := ⟨RJ6, "bitCount", "(I)I"⟩
def RJ9 : String := "java/lang/Math"
def TJ9 : u_T := fun k => match k with
  | _ => ("", "", "", false)
def tyJ9 : Nat → FieldType := fun k => match k with
  | _ => .int
abbrev wsJ90 : List Cond := u_ws RJ9 TJ9 0
theorem nmJ9 : ∀ a, a < 0 → ∀ b, b < 0 → a ≠ b → (TJ9 a).2.1 ≠ (TJ9 b).2.1 := by decide +kernel
theorem tyJ9_ok : ∀ k, k < 0 → parseFieldDescriptor (TJ9 k).2.2.1 = some (tyJ9 k) := by decide +kernel
abbrev cJ9_min_7cf53 : ByteArray := prog_11_method_69_code
def yJ9_min_7cf53 : MethodName := ⟨RJ9, "min", "(II)I"⟩
def RJ10 : String := "java/lang/System"
def TJ10 : u_T := fun k => match k with
  | _ => ("", "", "", false)
def tyJ10 : Nat → FieldType := fun k => match k with
  | _ => .int
abbrev wsJ100 : List Cond := u_ws RJ10 TJ10 0
theorem nmJ10 : ∀ a, a < 0 → ∀ b, b < 0 → a ≠ b → (TJ10 a).2.1 ≠ (TJ10 b).2.1 := by decide +kernel
theorem tyJ10_ok : ∀ k, k < 0 → parseFieldDescriptor (TJ10 k).2.2.1 = some (tyJ10 k) := by decide +kernel
def RJ7 : String := "java/util/Arrays"
def TJ7 : u_T := fun k => match k with
  | _ => ("", "", "", false)
def tyJ7 : Nat → FieldType := fun k => match k with
  | _ => .int
abbrev wsJ70 : List Cond := u_ws RJ7 TJ7 0
theorem nmJ7 : ∀ a, a < 0 → ∀ b, b < 0 → a ≠ b → (TJ7 a).2.1 ≠ (TJ7 b).2.1 := by decide +kernel
theorem tyJ7_ok : ∀ k, k < 0 → parseFieldDescriptor (TJ7 k).2.2.1 = some (tyJ7 k) := by decide +kernel
abbrev cJ7_fill_53178 : ByteArray := prog_13_method_103_code
def yJ7_fill_53178 : MethodName := ⟨RJ7, "fill", "([II)V"⟩
def RL : String := "CaveBreathLaw"
abbrev cL_law : ByteArray := code
def yL_law : MethodName := ⟨RL, "law", "([I)Z"⟩
theorem dX0_init_0 : decode cX0_init 0 = .ok (.aload_n 0, 1) := by decide +kernel
theorem dX0_init_1 : decode cX0_init 1 = .ok (.invokespecial 3, 3) := by decide +kernel
theorem dX0_init_4 : decode cX0_init 4 = .ok (.aload_n 0, 1) := by decide +kernel
theorem dX0_init_5 : decode cX0_init 5 = .ok (.bipush 9, 2) := by decide +kernel
theorem dX0_init_7 : decode cX0_init 7 = .ok (.newarray .int, 2) := by decide +kernel
theorem dX0_init_9 : decode cX0_init 9 = .ok (.putfield 9, 3) := by decide +kernel
theorem dX0_init_12 : decode cX0_init 12 = .ok (.aload_n 0, 1) := by decide +kernel
theorem dX0_init_13 : decode cX0_init 13 = .ok (.bipush 10, 2) := by decide +kernel
theorem dX0_init_15 : decode cX0_init 15 = .ok (.newarray .int, 2) := by decide +kernel
theorem dX0_init_17 : decode cX0_init 17 = .ok (.putfield 15, 3) := by decide +kernel
theorem dX0_init_20 : decode cX0_init 20 = .ok (.aload_n 0, 1) := by decide +kernel
theorem dX0_init_21 : decode cX0_init 21 = .ok (.bipush 10, 2) := by decide +kernel
theorem dX0_init_23 : decode cX0_init 23 = .ok (.newarray .int, 2) := by decide +kernel
theorem dX0_init_25 : decode cX0_init 25 = .ok (.putfield 18, 3) := by decide +kernel
theorem dX0_init_28 : decode cX0_init 28 = .ok (.aload_n 0, 1) := by decide +kernel
theorem dX0_init_29 : decode cX0_init 29 = .ok (.bipush 9, 2) := by decide +kernel
theorem dX0_init_31 : decode cX0_init 31 = .ok (.newarray .int, 2) := by decide +kernel
theorem dX0_init_33 : decode cX0_init 33 = .ok (.putfield 21, 3) := by decide +kernel
theorem dX0_init_36 : decode cX0_init 36 = .ok (.aload_n 0, 1) := by decide +kernel
theorem dX0_init_37 : decode cX0_init 37 = .ok (.new 24, 3) := by decide +kernel
theorem dX0_init_40 : decode cX0_init 40 = .ok (.dup, 1) := by decide +kernel
theorem dX0_init_41 : decode cX0_init 41 = .ok (.invokespecial 26, 3) := by decide +kernel
theorem dX0_init_44 : decode cX0_init 44 = .ok (.putfield 27, 3) := by decide +kernel
theorem dX0_init_47 : decode cX0_init 47 = .ok (.return_, 1) := by decide +kernel
theorem dX1_init_0 : decode cX1_init 0 = .ok (.aload_n 0, 1) := by decide +kernel
theorem dX1_init_1 : decode cX1_init 1 = .ok (.invokespecial 3, 3) := by decide +kernel
theorem dX1_init_4 : decode cX1_init 4 = .ok (.aload_n 0, 1) := by decide +kernel
theorem dX1_init_5 : decode cX1_init 5 = .ok (.bipush 10, 2) := by decide +kernel
theorem dX1_init_7 : decode cX1_init 7 = .ok (.newarray .int, 2) := by decide +kernel
theorem dX1_init_9 : decode cX1_init 9 = .ok (.putfield 9, 3) := by decide +kernel
theorem dX1_init_12 : decode cX1_init 12 = .ok (.aload_n 0, 1) := by decide +kernel
theorem dX1_init_13 : decode cX1_init 13 = .ok (.bipush 10, 2) := by decide +kernel
theorem dX1_init_15 : decode cX1_init 15 = .ok (.newarray .int, 2) := by decide +kernel
theorem dX1_init_17 : decode cX1_init 17 = .ok (.putfield 15, 3) := by decide +kernel
theorem dX1_init_20 : decode cX1_init 20 = .ok (.aload_n 0, 1) := by decide +kernel
theorem dX1_init_21 : decode cX1_init 21 = .ok (.bipush 10, 2) := by decide +kernel
theorem dX1_init_23 : decode cX1_init 23 = .ok (.newarray .int, 2) := by decide +kernel
theorem dX1_init_25 : decode cX1_init 25 = .ok (.putfield 18, 3) := by decide +kernel
theorem dX1_init_28 : decode cX1_init 28 = .ok (.return_, 1) := by decide +kernel
theorem dX2_init_0 : decode cX2_init 0 = .ok (.aload_n 0, 1) := by decide +kernel
theorem dX2_init_1 : decode cX2_init 1 = .ok (.invokespecial 3, 3) := by decide +kernel
theorem dX2_init_4 : decode cX2_init 4 = .ok (.aload_n 0, 1) := by decide +kernel
theorem dX2_init_5 : decode cX2_init 5 = .ok (.bipush 8, 2) := by decide +kernel
theorem dX2_init_7 : decode cX2_init 7 = .ok (.newarray .int, 2) := by decide +kernel
theorem dX2_init_9 : decode cX2_init 9 = .ok (.putfield 9, 3) := by decide +kernel
theorem dX2_init_12 : decode cX2_init 12 = .ok (.aload_n 0, 1) := by decide +kernel
theorem dX2_init_13 : decode cX2_init 13 = .ok (.bipush 8, 2) := by decide +kernel
theorem dX2_init_15 : decode cX2_init 15 = .ok (.newarray .int, 2) := by decide +kernel
theorem dX2_init_17 : decode cX2_init 17 = .ok (.putfield 15, 3) := by decide +kernel
theorem dX2_init_20 : decode cX2_init 20 = .ok (.aload_n 0, 1) := by decide +kernel
theorem dX2_init_21 : decode cX2_init 21 = .ok (.bipush 8, 2) := by decide +kernel
theorem dX2_init_23 : decode cX2_init 23 = .ok (.newarray .int, 2) := by decide +kernel
theorem dX2_init_25 : decode cX2_init 25 = .ok (.putfield 18, 3) := by decide +kernel
theorem dX2_init_28 : decode cX2_init 28 = .ok (.aload_n 0, 1) := by decide +kernel
theorem dX2_init_29 : decode cX2_init 29 = .ok (.bipush 10, 2) := by decide +kernel
theorem dX2_init_31 : decode cX2_init 31 = .ok (.newarray .int, 2) := by decide +kernel
theorem dX2_init_33 : decode cX2_init 33 = .ok (.putfield 21, 3) := by decide +kernel
theorem dX2_init_36 : decode cX2_init 36 = .ok (.aload_n 0, 1) := by decide +kernel
theorem dX2_init_37 : decode cX2_init 37 = .ok (.bipush 10, 2) := by decide +kernel
theorem dX2_init_39 : decode cX2_init 39 = .ok (.newarray .int, 2) := by decide +kernel
theorem dX2_init_41 : decode cX2_init 41 = .ok (.putfield 24, 3) := by decide +kernel
theorem dX2_init_44 : decode cX2_init 44 = .ok (.aload_n 0, 1) := by decide +kernel
theorem dX2_init_45 : decode cX2_init 45 = .ok (.bipush 10, 2) := by decide +kernel
theorem dX2_init_47 : decode cX2_init 47 = .ok (.newarray .int, 2) := by decide +kernel
theorem dX2_init_49 : decode cX2_init 49 = .ok (.putfield 27, 3) := by decide +kernel
theorem dX2_init_52 : decode cX2_init 52 = .ok (.aload_n 0, 1) := by decide +kernel
theorem dX2_init_53 : decode cX2_init 53 = .ok (.bipush 10, 2) := by decide +kernel
theorem dX2_init_55 : decode cX2_init 55 = .ok (.newarray .int, 2) := by decide +kernel
theorem dX2_init_57 : decode cX2_init 57 = .ok (.putfield 30, 3) := by decide +kernel
theorem dX2_init_60 : decode cX2_init 60 = .ok (.aload_n 0, 1) := by decide +kernel
theorem dX2_init_61 : decode cX2_init 61 = .ok (.new 33, 3) := by decide +kernel
theorem dX2_init_64 : decode cX2_init 64 = .ok (.dup, 1) := by decide +kernel
theorem dX2_init_65 : decode cX2_init 65 = .ok (.invokespecial 35, 3) := by decide +kernel
theorem dX2_init_68 : decode cX2_init 68 = .ok (.putfield 36, 3) := by decide +kernel
theorem dX2_init_71 : decode cX2_init 71 = .ok (.aload_n 0, 1) := by decide +kernel
theorem dX2_init_72 : decode cX2_init 72 = .ok (.new 33, 3) := by decide +kernel
theorem dX2_init_75 : decode cX2_init 75 = .ok (.dup, 1) := by decide +kernel
theorem dX2_init_76 : decode cX2_init 76 = .ok (.invokespecial 35, 3) := by decide +kernel
theorem dX2_init_79 : decode cX2_init 79 = .ok (.putfield 40, 3) := by decide +kernel
theorem dX2_init_82 : decode cX2_init 82 = .ok (.return_, 1) := by decide +kernel
theorem dX3_init_0 : decode cX3_init 0 = .ok (.aload_n 0, 1) := by decide +kernel
theorem dX3_init_1 : decode cX3_init 1 = .ok (.invokespecial 3, 3) := by decide +kernel
theorem dX3_init_4 : decode cX3_init 4 = .ok (.aload_n 0, 1) := by decide +kernel
theorem dX3_init_5 : decode cX3_init 5 = .ok (.iconst 4, 1) := by decide +kernel
theorem dX3_init_6 : decode cX3_init 6 = .ok (.newarray .int, 2) := by decide +kernel
theorem dX3_init_8 : decode cX3_init 8 = .ok (.putfield 9, 3) := by decide +kernel
theorem dX3_init_11 : decode cX3_init 11 = .ok (.aload_n 0, 1) := by decide +kernel
theorem dX3_init_12 : decode cX3_init 12 = .ok (.iconst 0, 1) := by decide +kernel
theorem dX3_init_13 : decode cX3_init 13 = .ok (.newarray .byte, 2) := by decide +kernel
theorem dX3_init_15 : decode cX3_init 15 = .ok (.putfield 15, 3) := by decide +kernel
theorem dX3_init_18 : decode cX3_init 18 = .ok (.return_, 1) := by decide +kernel
theorem dX4_init_0 : decode cX4_init 0 = .ok (.aload_n 0, 1) := by decide +kernel
theorem dX4_init_1 : decode cX4_init 1 = .ok (.invokespecial 3, 3) := by decide +kernel
theorem dX4_init_4 : decode cX4_init 4 = .ok (.aload_n 0, 1) := by decide +kernel
theorem dX4_init_5 : decode cX4_init 5 = .ok (.bipush 9, 2) := by decide +kernel
theorem dX4_init_7 : decode cX4_init 7 = .ok (.newarray .int, 2) := by decide +kernel
theorem dX4_init_9 : decode cX4_init 9 = .ok (.putfield 9, 3) := by decide +kernel
theorem dX4_init_12 : decode cX4_init 12 = .ok (.aload_n 0, 1) := by decide +kernel
theorem dX4_init_13 : decode cX4_init 13 = .ok (.bipush 9, 2) := by decide +kernel
theorem dX4_init_15 : decode cX4_init 15 = .ok (.newarray .int, 2) := by decide +kernel
theorem dX4_init_17 : decode cX4_init 17 = .ok (.putfield 15, 3) := by decide +kernel
theorem dX4_init_20 : decode cX4_init 20 = .ok (.return_, 1) := by decide +kernel
theorem dX5_init_0 : decode cX5_init 0 = .ok (.aload_n 0, 1) := by decide +kernel
theorem dX5_init_1 : decode cX5_init 1 = .ok (.invokespecial 3, 3) := by decide +kernel
theorem dX5_init_4 : decode cX5_init 4 = .ok (.aload_n 0, 1) := by decide +kernel
theorem dX5_init_5 : decode cX5_init 5 = .ok (.bipush 10, 2) := by decide +kernel
theorem dX5_init_7 : decode cX5_init 7 = .ok (.newarray .int, 2) := by decide +kernel
theorem dX5_init_9 : decode cX5_init 9 = .ok (.putfield 9, 3) := by decide +kernel
theorem dX5_init_12 : decode cX5_init 12 = .ok (.aload_n 0, 1) := by decide +kernel
theorem dX5_init_13 : decode cX5_init 13 = .ok (.bipush 10, 2) := by decide +kernel
theorem dX5_init_15 : decode cX5_init 15 = .ok (.newarray .int, 2) := by decide +kernel
theorem dX5_init_17 : decode cX5_init 17 = .ok (.putfield 15, 3) := by decide +kernel
theorem dX5_init_20 : decode cX5_init 20 = .ok (.aload_n 0, 1) := by decide +kernel
theorem dX5_init_21 : decode cX5_init 21 = .ok (.bipush 9, 2) := by decide +kernel
theorem dX5_init_23 : decode cX5_init 23 = .ok (.newarray .int, 2) := by decide +kernel
theorem dX5_init_25 : decode cX5_init 25 = .ok (.putfield 18, 3) := by decide +kernel
theorem dX5_init_28 : decode cX5_init 28 = .ok (.aload_n 0, 1) := by decide +kernel
theorem dX5_init_29 : decode cX5_init 29 = .ok (.bipush 10, 2) := by decide +kernel
theorem dX5_init_31 : decode cX5_init 31 = .ok (.newarray .int, 2) := by decide +kernel
theorem dX5_init_33 : decode cX5_init 33 = .ok (.putfield 21, 3) := by decide +kernel
theorem dX5_init_36 : decode cX5_init 36 = .ok (.aload_n 0, 1) := by decide +kernel
theorem dX5_init_37 : decode cX5_init 37 = .ok (.bipush 9, 2) := by decide +kernel
theorem dX5_init_39 : decode cX5_init 39 = .ok (.newarray .int, 2) := by decide +kernel
theorem dX5_init_41 : decode cX5_init 41 = .ok (.putfield 24, 3) := by decide +kernel
theorem dX5_init_44 : decode cX5_init 44 = .ok (.return_, 1) := by decide +kernel
theorem dX6_init_0 : decode cX6_init 0 = .ok (.aload_n 0, 1) := by decide +kernel
theorem dX6_init_1 : decode cX6_init 1 = .ok (.invokespecial 3, 3) := by decide +kernel
theorem dX6_init_4 : decode cX6_init 4 = .ok (.aload_n 0, 1) := by decide +kernel
theorem dX6_init_5 : decode cX6_init 5 = .ok (.sipush 400, 3) := by decide +kernel
theorem dX6_init_8 : decode cX6_init 8 = .ok (.newarray .byte, 2) := by decide +kernel
theorem dX6_init_10 : decode cX6_init 10 = .ok (.putfield 9, 3) := by decide +kernel
theorem dX6_init_13 : decode cX6_init 13 = .ok (.aload_n 0, 1) := by decide +kernel
theorem dX6_init_14 : decode cX6_init 14 = .ok (.new 13, 3) := by decide +kernel
theorem dX6_init_17 : decode cX6_init 17 = .ok (.dup, 1) := by decide +kernel
theorem dX6_init_18 : decode cX6_init 18 = .ok (.invokespecial 15, 3) := by decide +kernel
theorem dX6_init_21 : decode cX6_init 21 = .ok (.putfield 16, 3) := by decide +kernel
theorem dX6_init_24 : decode cX6_init 24 = .ok (.aload_n 0, 1) := by decide +kernel
theorem dX6_init_25 : decode cX6_init 25 = .ok (.new 20, 3) := by decide +kernel
theorem dX6_init_28 : decode cX6_init 28 = .ok (.dup, 1) := by decide +kernel
theorem dX6_init_29 : decode cX6_init 29 = .ok (.invokespecial 22, 3) := by decide +kernel
theorem dX6_init_32 : decode cX6_init 32 = .ok (.putfield 23, 3) := by decide +kernel
theorem dX6_init_35 : decode cX6_init 35 = .ok (.aload_n 0, 1) := by decide +kernel
theorem dX6_init_36 : decode cX6_init 36 = .ok (.new 20, 3) := by decide +kernel
theorem dX6_init_39 : decode cX6_init 39 = .ok (.dup, 1) := by decide +kernel
theorem dX6_init_40 : decode cX6_init 40 = .ok (.invokespecial 22, 3) := by decide +kernel
theorem dX6_init_43 : decode cX6_init 43 = .ok (.putfield 27, 3) := by decide +kernel
theorem dX6_init_46 : decode cX6_init 46 = .ok (.aload_n 0, 1) := by decide +kernel
theorem dX6_init_47 : decode cX6_init 47 = .ok (.new 30, 3) := by decide +kernel
theorem dX6_init_50 : decode cX6_init 50 = .ok (.dup, 1) := by decide +kernel
theorem dX6_init_51 : decode cX6_init 51 = .ok (.invokespecial 32, 3) := by decide +kernel
theorem dX6_init_54 : decode cX6_init 54 = .ok (.putfield 33, 3) := by decide +kernel
theorem dX6_init_57 : decode cX6_init 57 = .ok (.aload_n 0, 1) := by decide +kernel
theorem dX6_init_58 : decode cX6_init 58 = .ok (.new 30, 3) := by decide +kernel
theorem dX6_init_61 : decode cX6_init 61 = .ok (.dup, 1) := by decide +kernel
theorem dX6_init_62 : decode cX6_init 62 = .ok (.invokespecial 32, 3) := by decide +kernel
theorem dX6_init_65 : decode cX6_init 65 = .ok (.putfield 37, 3) := by decide +kernel
theorem dX6_init_68 : decode cX6_init 68 = .ok (.aload_n 0, 1) := by decide +kernel
theorem dX6_init_69 : decode cX6_init 69 = .ok (.new 30, 3) := by decide +kernel
theorem dX6_init_72 : decode cX6_init 72 = .ok (.dup, 1) := by decide +kernel
theorem dX6_init_73 : decode cX6_init 73 = .ok (.invokespecial 32, 3) := by decide +kernel
theorem dX6_init_76 : decode cX6_init 76 = .ok (.putfield 40, 3) := by decide +kernel
theorem dX6_init_79 : decode cX6_init 79 = .ok (.aload_n 0, 1) := by decide +kernel
theorem dX6_init_80 : decode cX6_init 80 = .ok (.new 43, 3) := by decide +kernel
theorem dX6_init_83 : decode cX6_init 83 = .ok (.dup, 1) := by decide +kernel
theorem dX6_init_84 : decode cX6_init 84 = .ok (.invokespecial 45, 3) := by decide +kernel
theorem dX6_init_87 : decode cX6_init 87 = .ok (.putfield 46, 3) := by decide +kernel
theorem dX6_init_90 : decode cX6_init 90 = .ok (.aload_n 0, 1) := by decide +kernel
theorem dX6_init_91 : decode cX6_init 91 = .ok (.new 50, 3) := by decide +kernel
theorem dX6_init_94 : decode cX6_init 94 = .ok (.dup, 1) := by decide +kernel
theorem dX6_init_95 : decode cX6_init 95 = .ok (.invokespecial 52, 3) := by decide +kernel
theorem dX6_init_98 : decode cX6_init 98 = .ok (.putfield 53, 3) := by decide +kernel
theorem dX6_init_101 : decode cX6_init 101 = .ok (.aload_n 0, 1) := by decide +kernel
theorem dX6_init_102 : decode cX6_init 102 = .ok (.getfield 23, 3) := by decide +kernel
theorem dX6_init_105 : decode cX6_init 105 = .ok (.invokevirtual 57, 3) := by decide +kernel
theorem dX6_init_108 : decode cX6_init 108 = .ok (.aload_n 0, 1) := by decide +kernel
theorem dX6_init_109 : decode cX6_init 109 = .ok (.getfield 23, 3) := by decide +kernel
theorem dX6_init_112 : decode cX6_init 112 = .ok (.bipush 10, 2) := by decide +kernel
theorem dX6_init_114 : decode cX6_init 114 = .ok (.iconst 0, 1) := by decide +kernel
theorem dX6_init_115 : decode cX6_init 115 = .ok (.iconst 0, 1) := by decide +kernel
theorem dX6_init_116 : decode cX6_init 116 = .ok (.invokevirtual 60, 3) := by decide +kernel
theorem dX6_init_119 : decode cX6_init 119 = .ok (.pop, 1) := by decide +kernel
theorem dX6_init_120 : decode cX6_init 120 = .ok (.aload_n 0, 1) := by decide +kernel
theorem dX6_init_121 : decode cX6_init 121 = .ok (.getfield 23, 3) := by decide +kernel
theorem dX6_init_124 : decode cX6_init 124 = .ok (.invokevirtual 64, 3) := by decide +kernel
theorem dX6_init_127 : decode cX6_init 127 = .ok (.aload_n 0, 1) := by decide +kernel
theorem dX6_init_128 : decode cX6_init 128 = .ok (.getfield 33, 3) := by decide +kernel
theorem dX6_init_131 : decode cX6_init 131 = .ok (.aload_n 0, 1) := by decide +kernel
theorem dX6_init_132 : decode cX6_init 132 = .ok (.getfield 23, 3) := by decide +kernel
theorem dX6_init_135 : decode cX6_init 135 = .ok (.getfield 67, 3) := by decide +kernel
theorem dX6_init_138 : decode cX6_init 138 = .ok (.invokevirtual 71, 3) := by decide +kernel
theorem dX6_init_141 : decode cX6_init 141 = .ok (.return_, 1) := by decide +kernel
theorem dX7_init_0 : decode cX7_init 0 = .ok (.aload_n 0, 1) := by decide +kernel
theorem dX7_init_1 : decode cX7_init 1 = .ok (.invokespecial 1, 3) := by decide +kernel
theorem dX7_init_4 : decode cX7_init 4 = .ok (.aload_n 0, 1) := by decide +kernel
theorem dX7_init_5 : decode cX7_init 5 = .ok (.sipush 400, 3) := by decide +kernel
theorem dX7_init_8 : decode cX7_init 8 = .ok (.newarray .int, 2) := by decide +kernel
theorem dX7_init_10 : decode cX7_init 10 = .ok (.putfield 7, 3) := by decide +kernel
theorem dX7_init_13 : decode cX7_init 13 = .ok (.aload_n 0, 1) := by decide +kernel
theorem dX7_init_14 : decode cX7_init 14 = .ok (.bipush 24, 2) := by decide +kernel
theorem dX7_init_16 : decode cX7_init 16 = .ok (.newarray .int, 2) := by decide +kernel
theorem dX7_init_18 : decode cX7_init 18 = .ok (.putfield 13, 3) := by decide +kernel
theorem dX7_init_21 : decode cX7_init 21 = .ok (.aload_n 0, 1) := by decide +kernel
theorem dX7_init_22 : decode cX7_init 22 = .ok (.bipush 40, 2) := by decide +kernel
theorem dX7_init_24 : decode cX7_init 24 = .ok (.newarray .int, 2) := by decide +kernel
theorem dX7_init_26 : decode cX7_init 26 = .ok (.putfield 16, 3) := by decide +kernel
theorem dX7_init_29 : decode cX7_init 29 = .ok (.aload_n 0, 1) := by decide +kernel
theorem dX7_init_30 : decode cX7_init 30 = .ok (.bipush 6, 2) := by decide +kernel
theorem dX7_init_32 : decode cX7_init 32 = .ok (.newarray .int, 2) := by decide +kernel
theorem dX7_init_34 : decode cX7_init 34 = .ok (.putfield 19, 3) := by decide +kernel
theorem dX7_init_37 : decode cX7_init 37 = .ok (.aload_n 0, 1) := by decide +kernel
theorem dX7_init_38 : decode cX7_init 38 = .ok (.iconst 1, 1) := by decide +kernel
theorem dX7_init_39 : decode cX7_init 39 = .ok (.putfield 22, 3) := by decide +kernel
theorem dX7_init_42 : decode cX7_init 42 = .ok (.aload_n 0, 1) := by decide +kernel
theorem dX7_init_43 : decode cX7_init 43 = .ok (.bipush 24, 2) := by decide +kernel
theorem dX7_init_45 : decode cX7_init 45 = .ok (.newarray .int, 2) := by decide +kernel
theorem dX7_init_47 : decode cX7_init 47 = .ok (.putfield 26, 3) := by decide +kernel
theorem dX7_init_50 : decode cX7_init 50 = .ok (.aload_n 0, 1) := by decide +kernel
theorem dX7_init_51 : decode cX7_init 51 = .ok (.bipush 44, 2) := by decide +kernel
theorem dX7_init_53 : decode cX7_init 53 = .ok (.newarray .int, 2) := by decide +kernel
theorem dX7_init_55 : decode cX7_init 55 = .ok (.putfield 29, 3) := by decide +kernel
theorem dX7_init_58 : decode cX7_init 58 = .ok (.aload_n 0, 1) := by decide +kernel
theorem dX7_init_59 : decode cX7_init 59 = .ok (.bipush 6, 2) := by decide +kernel
theorem dX7_init_61 : decode cX7_init 61 = .ok (.newarray .int, 2) := by decide +kernel
theorem dX7_init_63 : decode cX7_init 63 = .ok (.putfield 32, 3) := by decide +kernel
theorem dX7_init_66 : decode cX7_init 66 = .ok (.aload_n 0, 1) := by decide +kernel
theorem dX7_init_67 : decode cX7_init 67 = .ok (.bipush 8, 2) := by decide +kernel
theorem dX7_init_69 : decode cX7_init 69 = .ok (.newarray .int, 2) := by decide +kernel
theorem dX7_init_71 : decode cX7_init 71 = .ok (.putfield 35, 3) := by decide +kernel
theorem dX7_init_74 : decode cX7_init 74 = .ok (.aload_n 0, 1) := by decide +kernel
theorem dX7_init_75 : decode cX7_init 75 = .ok (.bipush 24, 2) := by decide +kernel
theorem dX7_init_77 : decode cX7_init 77 = .ok (.newarray .int, 2) := by decide +kernel
theorem dX7_init_79 : decode cX7_init 79 = .ok (.putfield 38, 3) := by decide +kernel
theorem dX7_init_82 : decode cX7_init 82 = .ok (.aload_n 0, 1) := by decide +kernel
theorem dX7_init_83 : decode cX7_init 83 = .ok (.bipush 30, 2) := by decide +kernel
theorem dX7_init_85 : decode cX7_init 85 = .ok (.newarray .int, 2) := by decide +kernel
theorem dX7_init_87 : decode cX7_init 87 = .ok (.putfield 41, 3) := by decide +kernel
theorem dX7_init_90 : decode cX7_init 90 = .ok (.aload_n 0, 1) := by decide +kernel
theorem dX7_init_91 : decode cX7_init 91 = .ok (.bipush 8, 2) := by decide +kernel
theorem dX7_init_93 : decode cX7_init 93 = .ok (.newarray .int, 2) := by decide +kernel
theorem dX7_init_95 : decode cX7_init 95 = .ok (.putfield 44, 3) := by decide +kernel
theorem dX7_init_98 : decode cX7_init 98 = .ok (.aload_n 0, 1) := by decide +kernel
theorem dX7_init_99 : decode cX7_init 99 = .ok (.bipush 11, 2) := by decide +kernel
theorem dX7_init_101 : decode cX7_init 101 = .ok (.newarray .int, 2) := by decide +kernel
theorem dX7_init_103 : decode cX7_init 103 = .ok (.putfield 47, 3) := by decide +kernel
theorem dX7_init_106 : decode cX7_init 106 = .ok (.aload_n 0, 1) := by decide +kernel
theorem dX7_init_107 : decode cX7_init 107 = .ok (.bipush 11, 2) := by decide +kernel
theorem dX7_init_109 : decode cX7_init 109 = .ok (.newarray .int, 2) := by decide +kernel
theorem dX7_init_111 : decode cX7_init 111 = .ok (.putfield 50, 3) := by decide +kernel
theorem dX7_init_114 : decode cX7_init 114 = .ok (.aload_n 0, 1) := by decide +kernel
theorem dX7_init_115 : decode cX7_init 115 = .ok (.bipush 11, 2) := by decide +kernel
theorem dX7_init_117 : decode cX7_init 117 = .ok (.newarray .int, 2) := by decide +kernel
theorem dX7_init_119 : decode cX7_init 119 = .ok (.putfield 53, 3) := by decide +kernel
theorem dX7_init_122 : decode cX7_init 122 = .ok (.aload_n 0, 1) := by decide +kernel
theorem dX7_init_123 : decode cX7_init 123 = .ok (.bipush 11, 2) := by decide +kernel
theorem dX7_init_125 : decode cX7_init 125 = .ok (.newarray .int, 2) := by decide +kernel
theorem dX7_init_127 : decode cX7_init 127 = .ok (.putfield 56, 3) := by decide +kernel
theorem dX7_init_130 : decode cX7_init 130 = .ok (.aload_n 0, 1) := by decide +kernel
theorem dX7_init_131 : decode cX7_init 131 = .ok (.bipush 8, 2) := by decide +kernel
theorem dX7_init_133 : decode cX7_init 133 = .ok (.newarray .int, 2) := by decide +kernel
theorem dX7_init_135 : decode cX7_init 135 = .ok (.putfield 59, 3) := by decide +kernel
theorem dX7_init_138 : decode cX7_init 138 = .ok (.aload_n 0, 1) := by decide +kernel
theorem dX7_init_139 : decode cX7_init 139 = .ok (.getfield 26, 3) := by decide +kernel
theorem dX7_init_142 : decode cX7_init 142 = .ok (.iconst 0, 1) := by decide +kernel
theorem dX7_init_143 : decode cX7_init 143 = .ok (.bipush 10, 2) := by decide +kernel
theorem dX7_init_145 : decode cX7_init 145 = .ok (.iastore, 1) := by decide +kernel
theorem dX7_init_146 : decode cX7_init 146 = .ok (.aload_n 0, 1) := by decide +kernel
theorem dX7_init_147 : decode cX7_init 147 = .ok (.getfield 32, 3) := by decide +kernel
theorem dX7_init_150 : decode cX7_init 150 = .ok (.invokestatic 62, 3) := by decide +kernel
theorem dX7_init_153 : decode cX7_init 153 = .ok (.return_, 1) := by decide +kernel
theorem dL_law_0 : decode cL_law 0 = .ok (.new 7, 3) := by decide +kernel
theorem dL_law_3 : decode cL_law 3 = .ok (.dup, 1) := by decide +kernel
theorem dL_law_4 : decode cL_law 4 = .ok (.invokespecial 9, 3) := by decide +kernel
theorem dL_law_7 : decode cL_law 7 = .ok (.astore_n 1, 1) := by decide +kernel
theorem dL_law_8 : decode cL_law 8 = .ok (.new 10, 3) := by decide +kernel
theorem dL_law_11 : decode cL_law 11 = .ok (.dup, 1) := by decide +kernel
theorem dL_law_12 : decode cL_law 12 = .ok (.invokespecial 12, 3) := by decide +kernel
theorem dL_law_15 : decode cL_law 15 = .ok (.astore_n 2, 1) := by decide +kernel
theorem dL_law_16 : decode cL_law 16 = .ok (.iconst 0, 1) := by decide +kernel
theorem dL_law_17 : decode cL_law 17 = .ok (.istore_n 3, 1) := by decide +kernel
theorem dL_law_18 : decode cL_law 18 = .ok (.iload_n 3, 1) := by decide +kernel
theorem dL_law_19 : decode cL_law 19 = .ok (.aload_n 0, 1) := by decide +kernel
theorem dL_law_20 : decode cL_law 20 = .ok (.arraylength, 1) := by decide +kernel
theorem dL_law_21 : decode cL_law 21 = .ok (.iconst 4, 1) := by decide +kernel
theorem dL_law_22 : decode cL_law 22 = .ok (.isub, 1) := by decide +kernel
theorem dL_law_23 : decode cL_law 23 = .ok (.if_icmp .gt 844, 3) := by decide +kernel
theorem dL_law_26 : decode cL_law 26 = .ok (.aload_n 0, 1) := by decide +kernel
theorem dL_law_27 : decode cL_law 27 = .ok (.iload_n 3, 1) := by decide +kernel
theorem dL_law_28 : decode cL_law 28 = .ok (.iaload, 1) := by decide +kernel
theorem dL_law_29 : decode cL_law 29 = .ok (.bipush 31, 2) := by decide +kernel
theorem dL_law_31 : decode cL_law 31 = .ok (.iand, 1) := by decide +kernel
abbrev vwCl : List vw_C := [(RX0, TX0, 5), (RX1, TX1, 4), (RX2, TX2, 18), (RX3, TX3, 4), (RX4, TX4, 5), (RX5, TX5, 7), (RX6, TX6, 11), (RX7, TX7, 33)]
theorem am_inU {C : String} {T : u_T} {n : Nat} (h : ∀ k, k < n → u_lay C T k ∈ lw_tbl) : ∀ w ∈ u_ws C T n, w ∈ lw_tbl := fun w hw => by
  obtain ⟨k, hk, rfl⟩ := List.mem_map.mp hw
  exact h k (List.mem_range.mp hk)
theorem inX0_0 : u_lay RX0 TX0 0 ∈ lw_tbl := List.mem_of_getElem? (i := 272) (by decide +kernel)
theorem inX0_1 : u_lay RX0 TX0 1 ∈ lw_tbl := List.mem_of_getElem? (i := 274) (by decide +kernel)
theorem inX0_2 : u_lay RX0 TX0 2 ∈ lw_tbl := List.mem_of_getElem? (i := 276) (by decide +kernel)
theorem inX0_3 : u_lay RX0 TX0 3 ∈ lw_tbl := List.mem_of_getElem? (i := 278) (by decide +kernel)
theorem inX0_4 : u_lay RX0 TX0 4 ∈ lw_tbl := List.mem_of_getElem? (i := 280) (by decide +kernel)
theorem inX0 : ∀ w ∈ wsX00, w ∈ lw_tbl := am_inU (fun k hk => match k, hk with
  | 0, _ => inX0_0
  | 1, _ => inX0_1
  | 2, _ => inX0_2
  | 3, _ => inX0_3
  | 4, _ => inX0_4
  | k + 5, h => absurd h (by omega))
theorem inX1_0 : u_lay RX1 TX1 0 ∈ lw_tbl := List.mem_of_getElem? (i := 245) (by decide +kernel)
theorem inX1_1 : u_lay RX1 TX1 1 ∈ lw_tbl := List.mem_of_getElem? (i := 247) (by decide +kernel)
theorem inX1_2 : u_lay RX1 TX1 2 ∈ lw_tbl := List.mem_of_getElem? (i := 249) (by decide +kernel)
theorem inX1_3 : u_lay RX1 TX1 3 ∈ lw_tbl := List.mem_of_getElem? (i := 251) (by decide +kernel)
theorem inX1 : ∀ w ∈ wsX10, w ∈ lw_tbl := am_inU (fun k hk => match k, hk with
  | 0, _ => inX1_0
  | 1, _ => inX1_1
  | 2, _ => inX1_2
  | 3, _ => inX1_3
  | k + 4, h => absurd h (by omega))
theorem inX2_0 : u_lay RX2 TX2 0 ∈ lw_tbl := List.mem_of_getElem? (i := 168) (by decide +kernel)
theorem inX2_1 : u_lay RX2 TX2 1 ∈ lw_tbl := List.mem_of_getElem? (i := 170) (by decide +kernel)
theorem inX2_2 : u_lay RX2 TX2 2 ∈ lw_tbl := List.mem_of_getElem? (i := 172) (by decide +kernel)
theorem inX2_3 : u_lay RX2 TX2 3 ∈ lw_tbl := List.mem_of_getElem? (i := 174) (by decide +kernel)
theorem inX2_4 : u_lay RX2 TX2 4 ∈ lw_tbl := List.mem_of_getElem? (i := 176) (by decide +kernel)
theorem inX2_5 : u_lay RX2 TX2 5 ∈ lw_tbl := List.mem_of_getElem? (i := 178) (by decide +kernel)
theorem inX2_6 : u_lay RX2 TX2 6 ∈ lw_tbl := List.mem_of_getElem? (i := 180) (by decide +kernel)
theorem inX2_7 : u_lay RX2 TX2 7 ∈ lw_tbl := List.mem_of_getElem? (i := 182) (by decide +kernel)
theorem inX2_8 : u_lay RX2 TX2 8 ∈ lw_tbl := List.mem_of_getElem? (i := 184) (by decide +kernel)
theorem inX2_9 : u_lay RX2 TX2 9 ∈ lw_tbl := List.mem_of_getElem? (i := 186) (by decide +kernel)
theorem inX2_10 : u_lay RX2 TX2 10 ∈ lw_tbl := List.mem_of_getElem? (i := 188) (by decide +kernel)
theorem inX2_11 : u_lay RX2 TX2 11 ∈ lw_tbl := List.mem_of_getElem? (i := 190) (by decide +kernel)
theorem inX2_12 : u_lay RX2 TX2 12 ∈ lw_tbl := List.mem_of_getElem? (i := 192) (by decide +kernel)
theorem inX2_13 : u_lay RX2 TX2 13 ∈ lw_tbl := List.mem_of_getElem? (i := 194) (by decide +kernel)
theorem inX2_14 : u_lay RX2 TX2 14 ∈ lw_tbl := List.mem_of_getElem? (i := 196) (by decide +kernel)
theorem inX2_15 : u_lay RX2 TX2 15 ∈ lw_tbl := List.mem_of_getElem? (i := 198) (by decide +kernel)
theorem inX2_16 : u_lay RX2 TX2 16 ∈ lw_tbl := List.mem_of_getElem? (i := 200) (by decide +kernel)
theorem inX2_17 : u_lay RX2 TX2 17 ∈ lw_tbl := List.mem_of_getElem? (i := 202) (by decide +kernel)
theorem inX2 : ∀ w ∈ wsX20, w ∈ lw_tbl := am_inU (fun k hk => match k, hk with
  | 0, _ => inX2_0
  | 1, _ => inX2_1
  | 2, _ => inX2_2
  | 3, _ => inX2_3
  | 4, _ => inX2_4
  | 5, _ => inX2_5
  | 6, _ => inX2_6
  | 7, _ => inX2_7
  | 8, _ => inX2_8
  | 9, _ => inX2_9
  | 10, _ => inX2_10
  | 11, _ => inX2_11
  | 12, _ => inX2_12
  | 13, _ => inX2_13
  | 14, _ => inX2_14
  | 15, _ => inX2_15
  | 16, _ => inX2_16
  | 17, _ => inX2_17
  | k + 18, h => absurd h (by omega))
theorem inX3_0 : u_lay RX3 TX3 0 ∈ lw_tbl := List.mem_of_getElem? (i := 68) (by decide +kernel)
theorem inX3_1 : u_lay RX3 TX3 1 ∈ lw_tbl := List.mem_of_getElem? (i := 70) (by decide +kernel)
theorem inX3_2 : u_lay RX3 TX3 2 ∈ lw_tbl := List.mem_of_getElem? (i := 72) (by decide +kernel)
theorem inX3_3 : u_lay RX3 TX3 3 ∈ lw_tbl := List.mem_of_getElem? (i := 74) (by decide +kernel)
theorem inX3 : ∀ w ∈ wsX30, w ∈ lw_tbl := am_inU (fun k hk => match k, hk with
  | 0, _ => inX3_0
  | 1, _ => inX3_1
  | 2, _ => inX3_2
  | 3, _ => inX3_3
  | k + 4, h => absurd h (by omega))
theorem inX4_0 : u_lay RX4 TX4 0 ∈ lw_tbl := List.mem_of_getElem? (i := 220) (by decide +kernel)
theorem inX4_1 : u_lay RX4 TX4 1 ∈ lw_tbl := List.mem_of_getElem? (i := 222) (by decide +kernel)
theorem inX4_2 : u_lay RX4 TX4 2 ∈ lw_tbl := List.mem_of_getElem? (i := 224) (by decide +kernel)
theorem inX4_3 : u_lay RX4 TX4 3 ∈ lw_tbl := List.mem_of_getElem? (i := 226) (by decide +kernel)
theorem inX4_4 : u_lay RX4 TX4 4 ∈ lw_tbl := List.mem_of_getElem? (i := 228) (by decide +kernel)
theorem inX4 : ∀ w ∈ wsX40, w ∈ lw_tbl := am_inU (fun k hk => match k, hk with
  | 0, _ => inX4_0
  | 1, _ => inX4_1
  | 2, _ => inX4_2
  | 3, _ => inX4_3
  | 4, _ => inX4_4
  | k + 5, h => absurd h (by omega))
theorem inX5_0 : u_lay RX5 TX5 0 ∈ lw_tbl := List.mem_of_getElem? (i := 107) (by decide +kernel)
theorem inX5_1 : u_lay RX5 TX5 1 ∈ lw_tbl := List.mem_of_getElem? (i := 109) (by decide +kernel)
theorem inX5_2 : u_lay RX5 TX5 2 ∈ lw_tbl := List.mem_of_getElem? (i := 111) (by decide +kernel)
theorem inX5_3 : u_lay RX5 TX5 3 ∈ lw_tbl := List.mem_of_getElem? (i := 113) (by decide +kernel)
theorem inX5_4 : u_lay RX5 TX5 4 ∈ lw_tbl := List.mem_of_getElem? (i := 115) (by decide +kernel)
theorem inX5_5 : u_lay RX5 TX5 5 ∈ lw_tbl := List.mem_of_getElem? (i := 117) (by decide +kernel)
theorem inX5_6 : u_lay RX5 TX5 6 ∈ lw_tbl := List.mem_of_getElem? (i := 119) (by decide +kernel)
theorem inX5 : ∀ w ∈ wsX50, w ∈ lw_tbl := am_inU (fun k hk => match k, hk with
  | 0, _ => inX5_0
  | 1, _ => inX5_1
  | 2, _ => inX5_2
  | 3, _ => inX5_3
  | 4, _ => inX5_4
  | 5, _ => inX5_5
  | 6, _ => inX5_6
  | k + 7, h => absurd h (by omega))
theorem inX6_0 : u_lay RX6 TX6 0 ∈ lw_tbl := List.mem_of_getElem? (i := 339) (by decide +kernel)
theorem inX6_1 : u_lay RX6 TX6 1 ∈ lw_tbl := List.mem_of_getElem? (i := 341) (by decide +kernel)
theorem inX6_2 : u_lay RX6 TX6 2 ∈ lw_tbl := List.mem_of_getElem? (i := 343) (by decide +kernel)
theorem inX6_3 : u_lay RX6 TX6 3 ∈ lw_tbl := List.mem_of_getElem? (i := 345) (by decide +kernel)
theorem inX6_4 : u_lay RX6 TX6 4 ∈ lw_tbl := List.mem_of_getElem? (i := 347) (by decide +kernel)
theorem inX6_5 : u_lay RX6 TX6 5 ∈ lw_tbl := List.mem_of_getElem? (i := 349) (by decide +kernel)
theorem inX6_6 : u_lay RX6 TX6 6 ∈ lw_tbl := List.mem_of_getElem? (i := 351) (by decide +kernel)
theorem inX6_7 : u_lay RX6 TX6 7 ∈ lw_tbl := List.mem_of_getElem? (i := 353) (by decide +kernel)
theorem inX6_8 : u_lay RX6 TX6 8 ∈ lw_tbl := List.mem_of_getElem? (i := 355) (by decide +kernel)
theorem inX6_9 : u_lay RX6 TX6 9 ∈ lw_tbl := List.mem_of_getElem? (i := 357) (by decide +kernel)
theorem inX6_10 : u_lay RX6 TX6 10 ∈ lw_tbl := List.mem_of_getElem? (i := 359) (by decide +kernel)
theorem inX6 : ∀ w ∈ wsX60, w ∈ lw_tbl := am_inU (fun k hk => match k, hk with
  | 0, _ => inX6_0
  | 1, _ => inX6_1
  | 2, _ => inX6_2
  | 3, _ => inX6_3
  | 4, _ => inX6_4
  | 5, _ => inX6_5
  | 6, _ => inX6_6
  | 7, _ => inX6_7
  | 8, _ => inX6_8
  | 9, _ => inX6_9
  | 10, _ => inX6_10
  | k + 11, h => absurd h (by omega))
theorem inX7_0 : u_lay RX7 TX7 0 ∈ lw_tbl := List.mem_of_getElem? (i := 691) (by decide +kernel)
theorem inX7_1 : u_lay RX7 TX7 1 ∈ lw_tbl := List.mem_of_getElem? (i := 693) (by decide +kernel)
theorem inX7_2 : u_lay RX7 TX7 2 ∈ lw_tbl := List.mem_of_getElem? (i := 695) (by decide +kernel)
theorem inX7_3 : u_lay RX7 TX7 3 ∈ lw_tbl := List.mem_of_getElem? (i := 697) (by decide +kernel)
theorem inX7_4 : u_lay RX7 TX7 4 ∈ lw_tbl := List.mem_of_getElem? (i := 699) (by decide +kernel)
theorem inX7_5 : u_lay RX7 TX7 5 ∈ lw_tbl := List.mem_of_getElem? (i := 701) (by decide +kernel)
theorem inX7_6 : u_lay RX7 TX7 6 ∈ lw_tbl := List.mem_of_getElem? (i := 703) (by decide +kernel)
theorem inX7_7 : u_lay RX7 TX7 7 ∈ lw_tbl := List.mem_of_getElem? (i := 705) (by decide +kernel)
theorem inX7_8 : u_lay RX7 TX7 8 ∈ lw_tbl := List.mem_of_getElem? (i := 707) (by decide +kernel)
theorem inX7_9 : u_lay RX7 TX7 9 ∈ lw_tbl := List.mem_of_getElem? (i := 709) (by decide +kernel)
theorem inX7_10 : u_lay RX7 TX7 10 ∈ lw_tbl := List.mem_of_getElem? (i := 711) (by decide +kernel)
theorem inX7_11 : u_lay RX7 TX7 11 ∈ lw_tbl := List.mem_of_getElem? (i := 713) (by decide +kernel)
theorem inX7_12 : u_lay RX7 TX7 12 ∈ lw_tbl := List.mem_of_getElem? (i := 715) (by decide +kernel)
theorem inX7_13 : u_lay RX7 TX7 13 ∈ lw_tbl := List.mem_of_getElem? (i := 717) (by decide +kernel)
theorem inX7_14 : u_lay RX7 TX7 14 ∈ lw_tbl := List.mem_of_getElem? (i := 719) (by decide +kernel)
theorem inX7_15 : u_lay RX7 TX7 15 ∈ lw_tbl := List.mem_of_getElem? (i := 721) (by decide +kernel)
theorem inX7_16 : u_lay RX7 TX7 16 ∈ lw_tbl := List.mem_of_getElem? (i := 723) (by decide +kernel)
theorem inX7_17 : u_lay RX7 TX7 17 ∈ lw_tbl := List.mem_of_getElem? (i := 725) (by decide +kernel)
theorem inX7_18 : u_lay RX7 TX7 18 ∈ lw_tbl := List.mem_of_getElem? (i := 727) (by decide +kernel)
theorem inX7_19 : u_lay RX7 TX7 19 ∈ lw_tbl := List.mem_of_getElem? (i := 729) (by decide +kernel)
theorem inX7_20 : u_lay RX7 TX7 20 ∈ lw_tbl := List.mem_of_getElem? (i := 731) (by decide +kernel)
theorem inX7_21 : u_lay RX7 TX7 21 ∈ lw_tbl := List.mem_of_getElem? (i := 733) (by decide +kernel)
theorem inX7_22 : u_lay RX7 TX7 22 ∈ lw_tbl := List.mem_of_getElem? (i := 735) (by decide +kernel)
theorem inX7_23 : u_lay RX7 TX7 23 ∈ lw_tbl := List.mem_of_getElem? (i := 737) (by decide +kernel)
theorem inX7_24 : u_lay RX7 TX7 24 ∈ lw_tbl := List.mem_of_getElem? (i := 739) (by decide +kernel)
theorem inX7_25 : u_lay RX7 TX7 25 ∈ lw_tbl := List.mem_of_getElem? (i := 741) (by decide +kernel)
theorem inX7_26 : u_lay RX7 TX7 26 ∈ lw_tbl := List.mem_of_getElem? (i := 743) (by decide +kernel)
theorem inX7_27 : u_lay RX7 TX7 27 ∈ lw_tbl := List.mem_of_getElem? (i := 745) (by decide +kernel)
theorem inX7_28 : u_lay RX7 TX7 28 ∈ lw_tbl := List.mem_of_getElem? (i := 747) (by decide +kernel)
theorem inX7_29 : u_lay RX7 TX7 29 ∈ lw_tbl := List.mem_of_getElem? (i := 749) (by decide +kernel)
theorem inX7_30 : u_lay RX7 TX7 30 ∈ lw_tbl := List.mem_of_getElem? (i := 751) (by decide +kernel)
theorem inX7_31 : u_lay RX7 TX7 31 ∈ lw_tbl := List.mem_of_getElem? (i := 753) (by decide +kernel)
theorem inX7_32 : u_lay RX7 TX7 32 ∈ lw_tbl := List.mem_of_getElem? (i := 755) (by decide +kernel)
theorem inX7 : ∀ w ∈ wsX70, w ∈ lw_tbl := am_inU (fun k hk => match k, hk with
  | 0, _ => inX7_0
  | 1, _ => inX7_1
  | 2, _ => inX7_2
  | 3, _ => inX7_3
  | 4, _ => inX7_4
  | 5, _ => inX7_5
  | 6, _ => inX7_6
  | 7, _ => inX7_7
  | 8, _ => inX7_8
  | 9, _ => inX7_9
  | 10, _ => inX7_10
  | 11, _ => inX7_11
  | 12, _ => inX7_12
  | 13, _ => inX7_13
  | 14, _ => inX7_14
  | 15, _ => inX7_15
  | 16, _ => inX7_16
  | 17, _ => inX7_17
  | 18, _ => inX7_18
  | 19, _ => inX7_19
  | 20, _ => inX7_20
  | 21, _ => inX7_21
  | 22, _ => inX7_22
  | 23, _ => inX7_23
  | 24, _ => inX7_24
  | 25, _ => inX7_25
  | 26, _ => inX7_26
  | 27, _ => inX7_27
  | 28, _ => inX7_28
  | 29, _ => inX7_29
  | 30, _ => inX7_30
  | 31, _ => inX7_31
  | 32, _ => inX7_32
  | k + 33, h => absurd h (by omega))
