/-! ===== BEGIN words of one list among another's, by their places ===== -/
/-! ===== END ===== -/

/-! ===== BEGIN printed: names, fields, word lists, decode rows ===== -/
def RX0 : String := "RingsUnder$Folk"
def TX0 : u_T := fun k => match k with
  | 0 => ("RingsUnder$Folk", "persons", "I", false)
  | 1 => ("RingsUnder$Folk", "kin", "[I", true)
  | 2 => ("RingsUnder$Folk", "age", "[I", true)
  | 3 => ("RingsUnder$Folk", "craft", "[I", true)
  | 4 => ("RingsUnder$Folk", "send", "[I", true)
  | 5 => ("RingsUnder$Folk", "place", "[I", true)
  | 6 => ("RingsUnder$Folk", "thirst", "[I", true)
  | 7 => ("RingsUnder$Folk", "noBed", "[I", true)
  | 8 => ("RingsUnder$Folk", "went", "[I", true)
  | 9 => ("RingsUnder$Folk", "vote", "[I", true)
  | 10 => ("RingsUnder$Folk", "lots", "I", false)
  | 11 => ("RingsUnder$Folk", "lotBeds", "[I", true)
  | 12 => ("RingsUnder$Folk", "ofRing", "[I", true)
  | 13 => ("RingsUnder$Folk", "free", "[I", true)
  | 14 => ("RingsUnder$Folk", "groupSize", "[I", true)
  | _ => ("RingsUnder$Folk", "groupLot", "[I", true)
def tyX0 : Nat → FieldType := fun k => match k with
  | 0 => .int
  | 1 => .array .int
  | 2 => .array .int
  | 3 => .array .int
  | 4 => .array .int
  | 5 => .array .int
  | 6 => .array .int
  | 7 => .array .int
  | 8 => .array .int
  | 9 => .array .int
  | 10 => .int
  | 11 => .array .int
  | 12 => .array .int
  | 13 => .array .int
  | 14 => .array .int
  | _ => .array .int
abbrev wsX00 : List Cond := u_ws RX0 TX0 16
theorem nmX0 : ∀ a, a < 16 → ∀ b, b < 16 → a ≠ b → (TX0 a).2.1 ≠ (TX0 b).2.1 := by decide +kernel
theorem tyX0_ok : ∀ k, k < 16 → parseFieldDescriptor (TX0 k).2.2.1 = some (tyX0 k) := by decide +kernel
abbrev cX0_init : ByteArray := prog_2_method_1_code
def yX0_init : MethodName := ⟨RX0, "<init>", "()V"⟩
abbrev cX0_copyFrom : ByteArray := prog_2_method_2_code
def yX0_copyFrom : MethodName := ⟨RX0, "copyFrom", "(LRingsUnder$Folk;)V"⟩
abbrev cX0_addPerson : ByteArray := prog_2_method_3_code
def yX0_addPerson : MethodName := ⟨RX0, "addPerson", "(IIIII)I"⟩
abbrev cX0_isOnRing : ByteArray := prog_2_method_4_code
def yX0_isOnRing : MethodName := ⟨RX0, "isOnRing", "(I)Z"⟩
abbrev cX0_onRings : ByteArray := prog_2_method_5_code
def yX0_onRings : MethodName := ⟨RX0, "onRings", "()J"⟩
abbrev cX0_notDead : ByteArray := prog_2_method_6_code
def yX0_notDead : MethodName := ⟨RX0, "notDead", "()J"⟩
abbrev cX0_countAt : ByteArray := prog_2_method_7_code
def yX0_countAt : MethodName := ⟨RX0, "countAt", "(I)I"⟩
abbrev cX0_freeBeds : ByteArray := prog_2_method_8_code
def yX0_freeBeds : MethodName := ⟨RX0, "freeBeds", "(I)I"⟩
abbrev cX0_sendings : ByteArray := prog_2_method_9_code
def yX0_sendings : MethodName := ⟨RX0, "sendings", "()I"⟩
abbrev cX0_countVotes : ByteArray := prog_2_method_10_code
def yX0_countVotes : MethodName := ⟨RX0, "countVotes", "(JI)I"⟩
abbrev cX0_valueOf : ByteArray := prog_2_method_11_code
def yX0_valueOf : MethodName := ⟨RX0, "valueOf", "(III)I"⟩
abbrev cX0_drink : ByteArray := prog_2_method_12_code
def yX0_drink : MethodName := ⟨RX0, "drink", "(LRingsUnder$Land;)I"⟩
abbrev cX0_sleep : ByteArray := prog_2_method_13_code
def yX0_sleep : MethodName := ⟨RX0, "sleep", "([II)I"⟩
abbrev cX0_board : ByteArray := prog_2_method_14_code
def yX0_board : MethodName := ⟨RX0, "board", "(J[IIII)V"⟩
abbrev cX0_groupOf : ByteArray := prog_2_method_15_code
def yX0_groupOf : MethodName := ⟨RX0, "groupOf", "(I)I"⟩
abbrev cX0_countGroups : ByteArray := prog_2_method_16_code
def yX0_countGroups : MethodName := ⟨RX0, "countGroups", "(J)V"⟩
abbrev cX0_takeLot : ByteArray := prog_2_method_17_code
def yX0_takeLot : MethodName := ⟨RX0, "takeLot", "(I)I"⟩
def RX1 : String := "RingsUnder$Graves"
def TX1 : u_T := fun k => match k with
  | 0 => ("RingsUnder$Graves", "count", "I", false)
  | 1 => ("RingsUnder$Graves", "cell", "[I", true)
  | _ => ("RingsUnder$Graves", "lay", "[J", true)
def tyX1 : Nat → FieldType := fun k => match k with
  | 0 => .int
  | 1 => .array .int
  | _ => .array .long
abbrev wsX10 : List Cond := u_ws RX1 TX1 3
theorem nmX1 : ∀ a, a < 3 → ∀ b, b < 3 → a ≠ b → (TX1 a).2.1 ≠ (TX1 b).2.1 := by decide +kernel
theorem tyX1_ok : ∀ k, k < 3 → parseFieldDescriptor (TX1 k).2.2.1 = some (tyX1 k) := by decide +kernel
abbrev cX1_init : ByteArray := prog_3_method_1_code
def yX1_init : MethodName := ⟨RX1, "<init>", "()V"⟩
abbrev cX1_copyFrom : ByteArray := prog_3_method_2_code
def yX1_copyFrom : MethodName := ⟨RX1, "copyFrom", "(LRingsUnder$Graves;)V"⟩
abbrev cX1_dig : ByteArray := prog_3_method_3_code
def yX1_dig : MethodName := ⟨RX1, "dig", "(I)I"⟩
abbrev cX1_carry : ByteArray := prog_3_method_4_code
def yX1_carry : MethodName := ⟨RX1, "carry", "(II)Z"⟩
abbrev cX1_whereNow : ByteArray := prog_3_method_5_code
def yX1_whereNow : MethodName := ⟨RX1, "whereNow", "(II)I"⟩
def RX2 : String := "RingsUnder$Land"
def TX2 : u_T := fun k => match k with
  | 0 => ("RingsUnder$Land", "rings", "I", false)
  | 1 => ("RingsUnder$Land", "cells", "I", false)
  | 2 => ("RingsUnder$Land", "deep", "I", false)
  | 3 => ("RingsUnder$Land", "dry", "J", false)
  | 4 => ("RingsUnder$Land", "rocks", "[J", true)
  | 5 => ("RingsUnder$Land", "ring", "[I", true)
  | 6 => ("RingsUnder$Land", "height", "[I", true)
  | 7 => ("RingsUnder$Land", "x", "[I", true)
  | 8 => ("RingsUnder$Land", "y", "[I", true)
  | 9 => ("RingsUnder$Land", "sand", "[I", true)
  | 10 => ("RingsUnder$Land", "reef", "[I", true)
  | 11 => ("RingsUnder$Land", "wall", "[I", true)
  | 12 => ("RingsUnder$Land", "beds", "[I", true)
  | 13 => ("RingsUnder$Land", "under", "[I", true)
  | 14 => ("RingsUnder$Land", "wells", "LRingsUnder$Wells;", true)
  | 15 => ("RingsUnder$Land", "next", "[I", true)
  | 16 => ("RingsUnder$Land", "first", "[I", true)
  | 17 => ("RingsUnder$Land", "leaves", "[I", true)
  | 18 => ("RingsUnder$Land", "rows", "[I", true)
  | _ => ("RingsUnder$Land", "widths", "[I", true)
def tyX2 : Nat → FieldType := fun k => match k with
  | 0 => .int
  | 1 => .int
  | 2 => .int
  | 3 => .long
  | 4 => .array .long
  | 5 => .array .int
  | 6 => .array .int
  | 7 => .array .int
  | 8 => .array .int
  | 9 => .array .int
  | 10 => .array .int
  | 11 => .array .int
  | 12 => .array .int
  | 13 => .array .int
  | 14 => .object "RingsUnder$Wells"
  | 15 => .array .int
  | 16 => .array .int
  | 17 => .array .int
  | 18 => .array .int
  | _ => .array .int
abbrev wsX20 : List Cond := u_ws RX2 TX2 20
theorem nmX2 : ∀ a, a < 20 → ∀ b, b < 20 → a ≠ b → (TX2 a).2.1 ≠ (TX2 b).2.1 := by decide +kernel
theorem tyX2_ok : ∀ k, k < 20 → parseFieldDescriptor (TX2 k).2.2.1 = some (tyX2 k) := by decide +kernel
abbrev cX2_init : ByteArray := prog_4_method_1_code
def yX2_init : MethodName := ⟨RX2, "<init>", "()V"⟩
abbrev cX2_copyFrom : ByteArray := prog_4_method_2_code
def yX2_copyFrom : MethodName := ⟨RX2, "copyFrom", "(LRingsUnder$Land;)V"⟩
abbrev cX2_addCell : ByteArray := prog_4_method_3_code
def yX2_addCell : MethodName := ⟨RX2, "addCell", "(IIIIII)I"⟩
abbrev cX2_joinRing : ByteArray := prog_4_method_4_code
def yX2_joinRing : MethodName := ⟨RX2, "joinRing", "(II)V"⟩
abbrev cX2_topOf : ByteArray := prog_4_method_5_code
def yX2_topOf : MethodName := ⟨RX2, "topOf", "(I)I"⟩
abbrev cX2_isDry : ByteArray := prog_4_method_6_code
def yX2_isDry : MethodName := ⟨RX2, "isDry", "(I)Z"⟩
abbrev cX2_growReef : ByteArray := prog_4_method_7_code
def yX2_growReef : MethodName := ⟨RX2, "growReef", "(I)V"⟩
abbrev cX2_walk : ByteArray := prog_4_method_8_code
def yX2_walk : MethodName := ⟨RX2, "walk", "(I)V"⟩
abbrev cX2_tide : ByteArray := prog_4_method_9_code
def yX2_tide : MethodName := ⟨RX2, "tide", "(III)V"⟩
abbrev cX2_giveUpBeds : ByteArray := prog_4_method_10_code
def yX2_giveUpBeds : MethodName := ⟨RX2, "giveUpBeds", "()V"⟩
abbrev cX2_sweetFrom : ByteArray := prog_4_method_11_code
def yX2_sweetFrom : MethodName := ⟨RX2, "sweetFrom", "(I)I"⟩
abbrev cX2_countBeds : ByteArray := prog_4_method_12_code
def yX2_countBeds : MethodName := ⟨RX2, "countBeds", "([II)V"⟩
abbrev cX2_countWalls : ByteArray := prog_4_method_13_code
def yX2_countWalls : MethodName := ⟨RX2, "countWalls", "()I"⟩
abbrev cX2_countArea : ByteArray := prog_4_method_14_code
def yX2_countArea : MethodName := ⟨RX2, "countArea", "(JI)I"⟩
abbrev cX2_measure : ByteArray := prog_4_method_15_code
def yX2_measure : MethodName := ⟨RX2, "measure", "(I)V"⟩
abbrev cX2_mark : ByteArray := prog_4_method_16_code
def yX2_mark : MethodName := ⟨RX2, "mark", "(III)V"⟩
def RX3 : String := "RingsUnder$Law"
def TX3 : u_T := fun k => match k with
  | 0 => ("RingsUnder$Law", "textCount", "I", false)
  | 1 => ("RingsUnder$Law", "texts", "[LRingsUnder$Text;", true)
  | 2 => ("RingsUnder$Law", "forces", "I", false)
  | 3 => ("RingsUnder$Law", "forceText", "[I", true)
  | 4 => ("RingsUnder$Law", "forceFrom", "[I", true)
  | 5 => ("RingsUnder$Law", "forceTo", "[I", true)
  | 6 => ("RingsUnder$Law", "names", "[I", true)
  | _ => ("RingsUnder$Law", "stack", "[I", true)
def tyX3 : Nat → FieldType := fun k => match k with
  | 0 => .int
  | 1 => .array (.object "RingsUnder$Text")
  | 2 => .int
  | 3 => .array .int
  | 4 => .array .int
  | 5 => .array .int
  | 6 => .array .int
  | _ => .array .int
abbrev wsX30 : List Cond := u_ws RX3 TX3 8
theorem nmX3 : ∀ a, a < 8 → ∀ b, b < 8 → a ≠ b → (TX3 a).2.1 ≠ (TX3 b).2.1 := by decide +kernel
theorem tyX3_ok : ∀ k, k < 8 → parseFieldDescriptor (TX3 k).2.2.1 = some (tyX3 k) := by decide +kernel
abbrev cX3_init : ByteArray := prog_5_method_1_code
def yX3_init : MethodName := ⟨RX3, "<init>", "()V"⟩
abbrev cX3_copyFrom : ByteArray := prog_5_method_2_code
def yX3_copyFrom : MethodName := ⟨RX3, "copyFrom", "(LRingsUnder$Law;)V"⟩
abbrev cX3_addForce : ByteArray := prog_5_method_3_code
def yX3_addForce : MethodName := ⟨RX3, "addForce", "(III)I"⟩
abbrev cX3_textFor : ByteArray := prog_5_method_4_code
def yX3_textFor : MethodName := ⟨RX3, "textFor", "(II)LRingsUnder$Text;"⟩
abbrev cX3_councilIn : ByteArray := prog_5_method_5_code
def yX3_councilIn : MethodName := ⟨RX3, "councilIn", "(I)I"⟩
abbrev cX3_leaveIn : ByteArray := prog_5_method_6_code
def yX3_leaveIn : MethodName := ⟨RX3, "leaveIn", "(I)I"⟩
abbrev cX3_fixIn : ByteArray := prog_5_method_7_code
def yX3_fixIn : MethodName := ⟨RX3, "fixIn", "(I)I"⟩
abbrev cX3_numberIn : ByteArray := prog_5_method_8_code
def yX3_numberIn : MethodName := ⟨RX3, "numberIn", "(III)I"⟩
abbrev cX3_whoIsSo : ByteArray := prog_5_method_9_code
def yX3_whoIsSo : MethodName := ⟨RX3, "whoIsSo", "(IILRingsUnder$Folk;J)J"⟩
abbrev cX3_clauseBy : ByteArray := prog_5_method_10_code
def yX3_clauseBy : MethodName := ⟨RX3, "clauseBy", "(IILRingsUnder$Folk;I)I"⟩
abbrev cX3_lastsFor : ByteArray := prog_5_method_11_code
def yX3_lastsFor : MethodName := ⟨RX3, "lastsFor", "(ILRingsUnder$Folk;II)Z"⟩
abbrev cX3_nameAll : ByteArray := prog_5_method_12_code
def yX3_nameAll : MethodName := ⟨RX3, "nameAll", "(LRingsUnder$Folk;III)V"⟩
abbrev cX3_line : ByteArray := prog_5_method_13_code
def yX3_line : MethodName := ⟨RX3, "line", "(IILRingsUnder$Folk;[I)V"⟩
def RX4 : String := "RingsUnder$Reader"
def TX4 : u_T := fun k => match k with
  | 0 => ("RingsUnder$Reader", "scanner", "LRingsUnder$Scanner;", true)
  | 1 => ("RingsUnder$Reader", "fault", "I", false)
  | 2 => ("RingsUnder$Reader", "place", "I", false)
  | 3 => ("RingsUnder$Reader", "draft", "LRingsUnder$Text;", false)
  | 4 => ("RingsUnder$Reader", "codes", "I", false)
  | 5 => ("RingsUnder$Reader", "waiting", "[I", true)
  | 6 => ("RingsUnder$Reader", "waits", "I", false)
  | 7 => ("RingsUnder$Reader", "open", "I", false)
  | 8 => ("RingsUnder$Reader", "brackets", "I", false)
  | 9 => ("RingsUnder$Reader", "atAsk", "Z", false)
  | 10 => ("RingsUnder$Reader", "compared", "Z", false)
  | _ => ("RingsUnder$Reader", "closed", "Z", false)
def tyX4 : Nat → FieldType := fun k => match k with
  | 0 => .object "RingsUnder$Scanner"
  | 1 => .int
  | 2 => .int
  | 3 => .object "RingsUnder$Text"
  | 4 => .int
  | 5 => .array .int
  | 6 => .int
  | 7 => .int
  | 8 => .int
  | 9 => .boolean
  | 10 => .boolean
  | _ => .boolean
abbrev wsX40 : List Cond := u_ws RX4 TX4 12
theorem nmX4 : ∀ a, a < 12 → ∀ b, b < 12 → a ≠ b → (TX4 a).2.1 ≠ (TX4 b).2.1 := by decide +kernel
theorem tyX4_ok : ∀ k, k < 12 → parseFieldDescriptor (TX4 k).2.2.1 = some (tyX4 k) := by decide +kernel
abbrev cX4_init : ByteArray := prog_6_method_1_code
def yX4_init : MethodName := ⟨RX4, "<init>", "()V"⟩
abbrev cX4_read : ByteArray := prog_6_method_2_code
def yX4_read : MethodName := ⟨RX4, "read", "()LRingsUnder$Text;"⟩
abbrev cX4_refuse : ByteArray := prog_6_method_3_code
def yX4_refuse : MethodName := ⟨RX4, "refuse", "(I)V"⟩
abbrev cX4_emit : ByteArray := prog_6_method_4_code
def yX4_emit : MethodName := ⟨RX4, "emit", "(I)V"⟩
abbrev cX4_readClause : ByteArray := prog_6_method_5_code
def yX4_readClause : MethodName := ⟨RX4, "readClause", "()V"⟩
abbrev cX4_mostOf : ByteArray := prog_6_method_6_code
def yX4_mostOf : MethodName := ⟨RX4, "mostOf", "(I)I"⟩
abbrev cX4_readNumber : ByteArray := prog_6_method_7_code
def yX4_readNumber : MethodName := ⟨RX4, "readNumber", "(I)V"⟩
abbrev cX4_expectSemicolon : ByteArray := prog_6_method_8_code
def yX4_expectSemicolon : MethodName := ⟨RX4, "expectSemicolon", "()V"⟩
abbrev cX4_isName : ByteArray := prog_6_method_9_code
def yX4_isName : MethodName := ⟨RX4, "isName", "(I)Z"⟩
abbrev cX4_readKeys : ByteArray := prog_6_method_10_code
def yX4_readKeys : MethodName := ⟨RX4, "readKeys", "()V"⟩
abbrev cX4_readKey : ByteArray := prog_6_method_11_code
def yX4_readKey : MethodName := ⟨RX4, "readKey", "(I)V"⟩
abbrev cX4_readEither : ByteArray := prog_6_method_12_code
def yX4_readEither : MethodName := ⟨RX4, "readEither", "()V"⟩
abbrev cX4_readOne : ByteArray := prog_6_method_13_code
def yX4_readOne : MethodName := ⟨RX4, "readOne", "()Z"⟩
abbrev cX4_openUp : ByteArray := prog_6_method_14_code
def yX4_openUp : MethodName := ⟨RX4, "openUp", "(I)V"⟩
abbrev cX4_readBehindOne : ByteArray := prog_6_method_15_code
def yX4_readBehindOne : MethodName := ⟨RX4, "readBehindOne", "()Z"⟩
abbrev cX4_rank : ByteArray := prog_6_method_16_code
def yX4_rank : MethodName := ⟨RX4, "rank", "(I)I"⟩
abbrev cX4_await : ByteArray := prog_6_method_17_code
def yX4_await : MethodName := ⟨RX4, "await", "(I)V"⟩
abbrev cX4_settle : ByteArray := prog_6_method_18_code
def yX4_settle : MethodName := ⟨RX4, "settle", "(I)V"⟩
def RX5 : String := "RingsUnder$RingOrders"
def TX5 : u_T := fun k => match k with
  | 0 => ("RingsUnder$RingOrders", "least", "I", false)
  | 1 => ("RingsUnder$RingOrders", "best", "[I", true)
  | 2 => ("RingsUnder$RingOrders", "order", "[I", true)
  | 3 => ("RingsUnder$RingOrders", "queue", "[I", true)
  | 4 => ("RingsUnder$RingOrders", "queued", "I", false)
  | 5 => ("RingsUnder$RingOrders", "dry", "[J", true)
  | 6 => ("RingsUnder$RingOrders", "beds", "[I", true)
  | _ => ("RingsUnder$RingOrders", "may", "[J", true)
def tyX5 : Nat → FieldType := fun k => match k with
  | 0 => .int
  | 1 => .array .int
  | 2 => .array .int
  | 3 => .array .int
  | 4 => .int
  | 5 => .array .long
  | 6 => .array .int
  | _ => .array .long
abbrev wsX50 : List Cond := u_ws RX5 TX5 8
theorem nmX5 : ∀ a, a < 8 → ∀ b, b < 8 → a ≠ b → (TX5 a).2.1 ≠ (TX5 b).2.1 := by decide +kernel
theorem tyX5_ok : ∀ k, k < 8 → parseFieldDescriptor (TX5 k).2.2.1 = some (tyX5 k) := by decide +kernel
abbrev cX5_init : ByteArray := prog_7_method_1_code
def yX5_init : MethodName := ⟨RX5, "<init>", "()V"⟩
abbrev cX5_seek : ByteArray := prog_7_method_2_code
def yX5_seek : MethodName := ⟨RX5, "seek", "(LRingsUnder$World;LRingsUnder$World;II)V"⟩
abbrev cX5_foresee : ByteArray := prog_7_method_3_code
def yX5_foresee : MethodName := ⟨RX5, "foresee", "(LRingsUnder$World;II)V"⟩
abbrev cX5_lacksOf : ByteArray := prog_7_method_4_code
def yX5_lacksOf : MethodName := ⟨RX5, "lacksOf", "(LRingsUnder$World;LRingsUnder$World;I)I"⟩
abbrev cX5_lineUp : ByteArray := prog_7_method_5_code
def yX5_lineUp : MethodName := ⟨RX5, "lineUp", "(LRingsUnder$Folk;I)V"⟩
abbrev cX5_toNextOrder : ByteArray := prog_7_method_6_code
def yX5_toNextOrder : MethodName := ⟨RX5, "toNextOrder", "(I)Z"⟩
abbrev cX5_swap : ByteArray := prog_7_method_7_code
def yX5_swap : MethodName := ⟨RX5, "swap", "(II)V"⟩
def RX6 : String := "RingsUnder$Scanner"
def TX6 : u_T := fun k => match k with
  | 0 => ("RingsUnder$Scanner", "tape", "[I", true)
  | 1 => ("RingsUnder$Scanner", "length", "I", false)
  | 2 => ("RingsUnder$Scanner", "token", "I", false)
  | 3 => ("RingsUnder$Scanner", "start", "I", false)
  | 4 => ("RingsUnder$Scanner", "value", "I", false)
  | _ => ("RingsUnder$Scanner", "at", "I", false)
def tyX6 : Nat → FieldType := fun k => match k with
  | 0 => .array .int
  | 1 => .int
  | 2 => .int
  | 3 => .int
  | 4 => .int
  | _ => .int
abbrev wsX60 : List Cond := u_ws RX6 TX6 6
theorem nmX6 : ∀ a, a < 6 → ∀ b, b < 6 → a ≠ b → (TX6 a).2.1 ≠ (TX6 b).2.1 := by decide +kernel
theorem tyX6_ok : ∀ k, k < 6 → parseFieldDescriptor (TX6 k).2.2.1 = some (tyX6 k) := by decide +kernel
abbrev cX6_init : ByteArray := prog_8_method_1_code
def yX6_init : MethodName := ⟨RX6, "<init>", "()V"⟩
abbrev cX6_append : ByteArray := prog_8_method_2_code
def yX6_append : MethodName := ⟨RX6, "append", "(I)V"⟩
abbrev cX6_rewind : ByteArray := prog_8_method_3_code
def yX6_rewind : MethodName := ⟨RX6, "rewind", "()V"⟩
abbrev cX6_advance : ByteArray := prog_8_method_4_code
def yX6_advance : MethodName := ⟨RX6, "advance", "()V"⟩
abbrev cX6_isDigit : ByteArray := prog_8_method_5_code
def yX6_isDigit : MethodName := ⟨RX6, "isDigit", "(I)Z"⟩
abbrev cX6_isLetter : ByteArray := prog_8_method_6_code
def yX6_isLetter : MethodName := ⟨RX6, "isLetter", "(I)Z"⟩
abbrev cX6_takeNumber : ByteArray := prog_8_method_7_code
def yX6_takeNumber : MethodName := ⟨RX6, "takeNumber", "()V"⟩
abbrev cX6_takeWord : ByteArray := prog_8_method_8_code
def yX6_takeWord : MethodName := ⟨RX6, "takeWord", "()V"⟩
abbrev cX6_signOf : ByteArray := prog_8_method_9_code
def yX6_signOf : MethodName := ⟨RX6, "signOf", "(I)I"⟩
abbrev cX6_takeLonger : ByteArray := prog_8_method_10_code
def yX6_takeLonger : MethodName := ⟨RX6, "takeLonger", "()V"⟩
def RX7 : String := "RingsUnder$Seas"
def TX7 : u_T := fun k => match k with
  | 0 => ("RingsUnder$Seas", "levels", "I", false)
  | 1 => ("RingsUnder$Seas", "rise", "[I", true)
  | 2 => ("RingsUnder$Seas", "month", "[I", true)
  | 3 => ("RingsUnder$Seas", "value", "[I", true)
  | 4 => ("RingsUnder$Seas", "told", "[I", true)
  | 5 => ("RingsUnder$Seas", "low", "[I", true)
  | 6 => ("RingsUnder$Seas", "high", "[I", true)
  | 7 => ("RingsUnder$Seas", "warm", "[I", true)
  | 8 => ("RingsUnder$Seas", "drift", "[I", true)
  | 9 => ("RingsUnder$Seas", "rain", "[I", true)
  | 10 => ("RingsUnder$Seas", "bear", "I", false)
  | 11 => ("RingsUnder$Seas", "grow", "I", false)
  | 12 => ("RingsUnder$Seas", "die", "I", false)
  | 13 => ("RingsUnder$Seas", "reach", "I", false)
  | _ => ("RingsUnder$Seas", "cost", "I", false)
def tyX7 : Nat → FieldType := fun k => match k with
  | 0 => .int
  | 1 => .array .int
  | 2 => .array .int
  | 3 => .array .int
  | 4 => .array .int
  | 5 => .array .int
  | 6 => .array .int
  | 7 => .array .int
  | 8 => .array .int
  | 9 => .array .int
  | 10 => .int
  | 11 => .int
  | 12 => .int
  | 13 => .int
  | _ => .int
abbrev wsX70 : List Cond := u_ws RX7 TX7 15
theorem nmX7 : ∀ a, a < 15 → ∀ b, b < 15 → a ≠ b → (TX7 a).2.1 ≠ (TX7 b).2.1 := by decide +kernel
theorem tyX7_ok : ∀ k, k < 15 → parseFieldDescriptor (TX7 k).2.2.1 = some (tyX7 k) := by decide +kernel
abbrev cX7_init : ByteArray := prog_9_method_1_code
def yX7_init : MethodName := ⟨RX7, "<init>", "()V"⟩
abbrev cX7_copyFrom : ByteArray := prog_9_method_2_code
def yX7_copyFrom : MethodName := ⟨RX7, "copyFrom", "(LRingsUnder$Seas;)V"⟩
abbrev cX7_tell : ByteArray := prog_9_method_3_code
def yX7_tell : MethodName := ⟨RX7, "tell", "(IIII)I"⟩
abbrev cX7_known : ByteArray := prog_9_method_4_code
def yX7_known : MethodName := ⟨RX7, "known", "(III)I"⟩
abbrev cX7_isNumber : ByteArray := prog_9_method_5_code
def yX7_isNumber : MethodName := ⟨RX7, "isNumber", "(I)Z"⟩
abbrev cX7_meanOfNumbers : ByteArray := prog_9_method_6_code
def yX7_meanOfNumbers : MethodName := ⟨RX7, "meanOfNumbers", "(II)I"⟩
def RX8 : String := "RingsUnder$Text"
def TX8 : u_T := fun k => match k with
  | 0 => ("RingsUnder$Text", "clauses", "I", false)
  | 1 => ("RingsUnder$Text", "sorts", "[I", true)
  | 2 => ("RingsUnder$Text", "from", "[I", true)
  | _ => ("RingsUnder$Text", "code", "[I", true)
def tyX8 : Nat → FieldType := fun k => match k with
  | 0 => .int
  | 1 => .array .int
  | 2 => .array .int
  | _ => .array .int
abbrev wsX80 : List Cond := u_ws RX8 TX8 4
theorem nmX8 : ∀ a, a < 4 → ∀ b, b < 4 → a ≠ b → (TX8 a).2.1 ≠ (TX8 b).2.1 := by decide +kernel
theorem tyX8_ok : ∀ k, k < 4 → parseFieldDescriptor (TX8 k).2.2.1 = some (tyX8 k) := by decide +kernel
abbrev cX8_init : ByteArray := prog_10_method_1_code
def yX8_init : MethodName := ⟨RX8, "<init>", "()V"⟩
abbrev cX8_firstOf : ByteArray := prog_10_method_2_code
def yX8_firstOf : MethodName := ⟨RX8, "firstOf", "(I)I"⟩
abbrev cX8_numberOf : ByteArray := prog_10_method_3_code
def yX8_numberOf : MethodName := ⟨RX8, "numberOf", "(II)I"⟩
abbrev cX8_firstSo : ByteArray := prog_10_method_4_code
def yX8_firstSo : MethodName := ⟨RX8, "firstSo", "(I[I[I)I"⟩
abbrev cX8_isAhead : ByteArray := prog_10_method_5_code
def yX8_isAhead : MethodName := ⟨RX8, "isAhead", "(ILRingsUnder$Folk;II)Z"⟩
abbrev cX8_work : ByteArray := prog_10_method_6_code
def yX8_work : MethodName := ⟨RX8, "work", "(I[I[I)I"⟩
abbrev cX8_join : ByteArray := prog_10_method_7_code
def yX8_join : MethodName := ⟨RX8, "join", "(III)I"⟩
def RX9 : String := "RingsUnder$Wells"
def TX9 : u_T := fun k => match k with
  | 0 => ("RingsUnder$Wells", "gathers", "[I", true)
  | 1 => ("RingsUnder$Wells", "lens", "[I", true)
  | _ => ("RingsUnder$Wells", "salt", "[I", true)
def tyX9 : Nat → FieldType := fun k => match k with
  | 0 => .array .int
  | 1 => .array .int
  | _ => .array .int
abbrev wsX90 : List Cond := u_ws RX9 TX9 3
theorem nmX9 : ∀ a, a < 3 → ∀ b, b < 3 → a ≠ b → (TX9 a).2.1 ≠ (TX9 b).2.1 := by decide +kernel
theorem tyX9_ok : ∀ k, k < 3 → parseFieldDescriptor (TX9 k).2.2.1 = some (tyX9 k) := by decide +kernel
abbrev cX9_init : ByteArray := prog_11_method_1_code
def yX9_init : MethodName := ⟨RX9, "<init>", "()V"⟩
abbrev cX9_copyFrom : ByteArray := prog_11_method_2_code
def yX9_copyFrom : MethodName := ⟨RX9, "copyFrom", "(LRingsUnder$Wells;)V"⟩
abbrev cX9_isAt : ByteArray := prog_11_method_3_code
def yX9_isAt : MethodName := ⟨RX9, "isAt", "(I)Z"⟩
abbrev cX9_dig : ByteArray := prog_11_method_4_code
def yX9_dig : MethodName := ⟨RX9, "dig", "(IIII)V"⟩
abbrev cX9_fillUp : ByteArray := prog_11_method_5_code
def yX9_fillUp : MethodName := ⟨RX9, "fillUp", "(IJI)V"⟩
abbrev cX9_isSweet : ByteArray := prog_11_method_6_code
def yX9_isSweet : MethodName := ⟨RX9, "isSweet", "(I)Z"⟩
def RX10 : String := "RingsUnder$World"
def TX10 : u_T := fun k => match k with
  | 0 => ("RingsUnder$World", "clock", "I", false)
  | 1 => ("RingsUnder$World", "fund", "I", false)
  | 2 => ("RingsUnder$World", "boats", "I", false)
  | 3 => ("RingsUnder$World", "cantMonth", "I", false)
  | 4 => ("RingsUnder$World", "area", "I", false)
  | 5 => ("RingsUnder$World", "holder", "[I", true)
  | 6 => ("RingsUnder$World", "seas", "LRingsUnder$Seas;", true)
  | 7 => ("RingsUnder$World", "land", "LRingsUnder$Land;", true)
  | 8 => ("RingsUnder$World", "folk", "LRingsUnder$Folk;", true)
  | 9 => ("RingsUnder$World", "law", "LRingsUnder$Law;", true)
  | 10 => ("RingsUnder$World", "graves", "LRingsUnder$Graves;", true)
  | 11 => ("RingsUnder$World", "queue", "[I", true)
  | _ => ("RingsUnder$World", "ringBeds", "[I", true)
def tyX10 : Nat → FieldType := fun k => match k with
  | 0 => .int
  | 1 => .int
  | 2 => .int
  | 3 => .int
  | 4 => .int
  | 5 => .array .int
  | 6 => .object "RingsUnder$Seas"
  | 7 => .object "RingsUnder$Land"
  | 8 => .object "RingsUnder$Folk"
  | 9 => .object "RingsUnder$Law"
  | 10 => .object "RingsUnder$Graves"
  | 11 => .array .int
  | _ => .array .int
abbrev wsX100 : List Cond := u_ws RX10 TX10 13
theorem nmX10 : ∀ a, a < 13 → ∀ b, b < 13 → a ≠ b → (TX10 a).2.1 ≠ (TX10 b).2.1 := by decide +kernel
theorem tyX10_ok : ∀ k, k < 13 → parseFieldDescriptor (TX10 k).2.2.1 = some (tyX10 k) := by decide +kernel
abbrev cX10_init : ByteArray := prog_12_method_1_code
def yX10_init : MethodName := ⟨RX10, "<init>", "()V"⟩
abbrev cX10_copyFrom : ByteArray := prog_12_method_2_code
def yX10_copyFrom : MethodName := ⟨RX10, "copyFrom", "(LRingsUnder$World;)V"⟩
abbrev cX10_goBy : ByteArray := prog_12_method_3_code
def yX10_goBy : MethodName := ⟨RX10, "goBy", "(I)V"⟩
abbrev cX10_nature : ByteArray := prog_12_method_4_code
def yX10_nature : MethodName := ⟨RX10, "nature", "(I)V"⟩
abbrev cX10_reckon : ByteArray := prog_12_method_5_code
def yX10_reckon : MethodName := ⟨RX10, "reckon", "()V"⟩
abbrev cX10_sandBehind : ByteArray := prog_12_method_6_code
def yX10_sandBehind : MethodName := ⟨RX10, "sandBehind", "(II)I"⟩
abbrev cX10_wasDry : ByteArray := prog_12_method_7_code
def yX10_wasDry : MethodName := ⟨RX10, "wasDry", "(I)I"⟩
abbrev cX10_wasRock : ByteArray := prog_12_method_8_code
def yX10_wasRock : MethodName := ⟨RX10, "wasRock", "(I)I"⟩
abbrev cX10_titleStands : ByteArray := prog_12_method_9_code
def yX10_titleStands : MethodName := ⟨RX10, "titleStands", "(I)Z"⟩
abbrev cX10_heirOf : ByteArray := prog_12_method_10_code
def yX10_heirOf : MethodName := ⟨RX10, "heirOf", "(I)I"⟩
abbrev cX10_passTitles : ByteArray := prog_12_method_11_code
def yX10_passTitles : MethodName := ⟨RX10, "passTitles", "(II)I"⟩
abbrev cX10_decide : ByteArray := prog_12_method_12_code
def yX10_decide : MethodName := ⟨RX10, "decide", "(J)I"⟩
def RX11 : String := "RingsUnder"
def TX11 : u_T := fun k => match k with
  | 0 => ("RingsUnder", "now", "LRingsUnder$World;", true)
  | 1 => ("RingsUnder", "kept", "LRingsUnder$World;", true)
  | 2 => ("RingsUnder", "trial", "LRingsUnder$World;", true)
  | 3 => ("RingsUnder", "ringOrders", "LRingsUnder$RingOrders;", true)
  | _ => ("RingsUnder", "reader", "LRingsUnder$Reader;", true)
def tyX11 : Nat → FieldType := fun k => match k with
  | 0 => .object "RingsUnder$World"
  | 1 => .object "RingsUnder$World"
  | 2 => .object "RingsUnder$World"
  | 3 => .object "RingsUnder$RingOrders"
  | _ => .object "RingsUnder$Reader"
abbrev wsX110 : List Cond := u_ws RX11 TX11 5
theorem nmX11 : ∀ a, a < 5 → ∀ b, b < 5 → a ≠ b → (TX11 a).2.1 ≠ (TX11 b).2.1 := by decide +kernel
theorem tyX11_ok : ∀ k, k < 5 → parseFieldDescriptor (TX11 k).2.2.1 = some (tyX11 k) := by decide +kernel
abbrev cX11_init : ByteArray := prog_1_method_1_code
def yX11_init : MethodName := ⟨RX11, "<init>", "()V"⟩
abbrev cX11_ring : ByteArray := prog_1_method_2_code
def yX11_ring : MethodName := ⟨RX11, "ring", "()I"⟩
abbrev cX11_cell : ByteArray := prog_1_method_3_code
def yX11_cell : MethodName := ⟨RX11, "cell", "(IIIIII)I"⟩
abbrev cX11_level : ByteArray := prog_1_method_4_code
def yX11_level : MethodName := ⟨RX11, "level", "(IIZI)I"⟩
abbrev cX11_levelOf : ByteArray := prog_1_method_5_code
def yX11_levelOf : MethodName := ⟨RX11, "levelOf", "(III)I"⟩
abbrev cX11_table : ByteArray := prog_1_method_6_code
def yX11_table : MethodName := ⟨RX11, "table", "(IIIIII)Z"⟩
abbrev cX11_rules : ByteArray := prog_1_method_7_code
def yX11_rules : MethodName := ⟨RX11, "rules", "(IIIII)Z"⟩
abbrev cX11_wall : ByteArray := prog_1_method_8_code
def yX11_wall : MethodName := ⟨RX11, "wall", "(II)Z"⟩
abbrev cX11_well : ByteArray := prog_1_method_9_code
def yX11_well : MethodName := ⟨RX11, "well", "(IIII)Z"⟩
abbrev cX11_beds : ByteArray := prog_1_method_10_code
def yX11_beds : MethodName := ⟨RX11, "beds", "(II)I"⟩
abbrev cX11_lot : ByteArray := prog_1_method_11_code
def yX11_lot : MethodName := ⟨RX11, "lot", "(I)I"⟩
abbrev cX11_person : ByteArray := prog_1_method_12_code
def yX11_person : MethodName := ⟨RX11, "person", "(IIIII)I"⟩
abbrev cX11_go : ByteArray := prog_1_method_13_code
def yX11_go : MethodName := ⟨RX11, "go", "(II)Z"⟩
abbrev cX11_death : ByteArray := prog_1_method_14_code
def yX11_death : MethodName := ⟨RX11, "death", "(I)I"⟩
abbrev cX11_title : ByteArray := prog_1_method_15_code
def yX11_title : MethodName := ⟨RX11, "title", "(II)Z"⟩
abbrev cX11_titleOf : ByteArray := prog_1_method_16_code
def yX11_titleOf : MethodName := ⟨RX11, "titleOf", "(II)I"⟩
abbrev cX11_choose : ByteArray := prog_1_method_17_code
def yX11_choose : MethodName := ⟨RX11, "choose", "(II)Z"⟩
abbrev cX11_council : ByteArray := prog_1_method_18_code
def yX11_council : MethodName := ⟨RX11, "council", "(J)I"⟩
abbrev cX11_feed : ByteArray := prog_1_method_19_code
def yX11_feed : MethodName := ⟨RX11, "feed", "(IIIII)I"⟩
abbrev cX11_end : ByteArray := prog_1_method_20_code
def yX11_end : MethodName := ⟨RX11, "end", "(I)I"⟩
abbrev cX11_text : ByteArray := prog_1_method_21_code
def yX11_text : MethodName := ⟨RX11, "text", "()I"⟩
abbrev cX11_fault : ByteArray := prog_1_method_22_code
def yX11_fault : MethodName := ⟨RX11, "fault", "(I)I"⟩
abbrev cX11_force : ByteArray := prog_1_method_23_code
def yX11_force : MethodName := ⟨RX11, "force", "(III)I"⟩
abbrev cX11_is : ByteArray := prog_1_method_24_code
def yX11_is : MethodName := ⟨RX11, "is", "(III)I"⟩
abbrev cX11_why : ByteArray := prog_1_method_25_code
def yX11_why : MethodName := ⟨RX11, "why", "(III)I"⟩
abbrev cX11_says : ByteArray := prog_1_method_26_code
def yX11_says : MethodName := ⟨RX11, "says", "(II)I"⟩
abbrev cX11_sail : ByteArray := prog_1_method_27_code
def yX11_sail : MethodName := ⟨RX11, "sail", "(II)Z"⟩
abbrev cX11_months : ByteArray := prog_1_method_28_code
def yX11_months : MethodName := ⟨RX11, "months", "(II)I"⟩
abbrev cX11_sinks : ByteArray := prog_1_method_29_code
def yX11_sinks : MethodName := ⟨RX11, "sinks", "(III)I"⟩
abbrev cX11_cant : ByteArray := prog_1_method_30_code
def yX11_cant : MethodName := ⟨RX11, "cant", "(II)I"⟩
abbrev cX11_keeps : ByteArray := prog_1_method_31_code
def yX11_keeps : MethodName := ⟨RX11, "keeps", "(IIII)I"⟩
abbrev cX11_order : ByteArray := prog_1_method_32_code
def yX11_order : MethodName := ⟨RX11, "order", "(III)I"⟩
abbrev cX11_cellOf : ByteArray := prog_1_method_33_code
def yX11_cellOf : MethodName := ⟨RX11, "cellOf", "(II)I"⟩
abbrev cX11_personOf : ByteArray := prog_1_method_34_code
def yX11_personOf : MethodName := ⟨RX11, "personOf", "(II)I"⟩
abbrev cX11_at : ByteArray := prog_1_method_35_code
def yX11_at : MethodName := ⟨RX11, "at", "(I)I"⟩
abbrev cX11_area : ByteArray := prog_1_method_36_code
def yX11_area : MethodName := ⟨RX11, "area", "()I"⟩
abbrev cX11_about : ByteArray := prog_1_method_37_code
def yX11_about : MethodName := ⟨RX11, "about", "(I)I"⟩
abbrev cX11_grave : ByteArray := prog_1_method_38_code
def yX11_grave : MethodName := ⟨RX11, "grave", "(I)I"⟩
abbrev cX11_bury : ByteArray := prog_1_method_39_code
def yX11_bury : MethodName := ⟨RX11, "bury", "(II)Z"⟩
abbrev cX11_found : ByteArray := prog_1_method_40_code
def yX11_found : MethodName := ⟨RX11, "found", "(II)I"⟩
abbrev cX11_image : ByteArray := prog_1_method_41_code
def yX11_image : MethodName := ⟨RX11, "image", "()I"⟩
abbrev cX11_back : ByteArray := prog_1_method_42_code
def yX11_back : MethodName := ⟨RX11, "back", "()I"⟩
abbrev cX11_between : ByteArray := prog_1_method_43_code
def yX11_between : MethodName := ⟨RX11, "between", "(III)Z"⟩
abbrev cX11_isRise : ByteArray := prog_1_method_44_code
def yX11_isRise : MethodName := ⟨RX11, "isRise", "(I)Z"⟩
abbrev cX11_isMonth : ByteArray := prog_1_method_45_code
def yX11_isMonth : MethodName := ⟨RX11, "isMonth", "(I)Z"⟩
abbrev cX11_isRing : ByteArray := prog_1_method_46_code
def yX11_isRing : MethodName := ⟨RX11, "isRing", "(I)Z"⟩
abbrev cX11_isCell : ByteArray := prog_1_method_47_code
def yX11_isCell : MethodName := ⟨RX11, "isCell", "(I)Z"⟩
abbrev cX11_isPerson : ByteArray := prog_1_method_48_code
def yX11_isPerson : MethodName := ⟨RX11, "isPerson", "(I)Z"⟩
abbrev cX11_isLot : ByteArray := prog_1_method_49_code
def yX11_isLot : MethodName := ⟨RX11, "isLot", "(I)Z"⟩
abbrev cX11_canGoBy : ByteArray := prog_1_method_50_code
def yX11_canGoBy : MethodName := ⟨RX11, "canGoBy", "(III)Z"⟩
abbrev cX11_sum : ByteArray := prog_1_method_51_code
def yX11_sum : MethodName := ⟨RX11, "sum", "([II)I"⟩
abbrev cX11_copy : ByteArray := prog_1_method_52_code
def yX11_copy : MethodName := ⟨RX11, "copy", "([I[I)V"⟩
abbrev cX11_fill : ByteArray := prog_1_method_53_code
def yX11_fill : MethodName := ⟨RX11, "fill", "([II)V"⟩
abbrev cX11_hasBit : ByteArray := prog_1_method_54_code
def yX11_hasBit : MethodName := ⟨RX11, "hasBit", "(JI)Z"⟩
def RX12 : String := "RingsUnderModel"
def TX12 : u_T := fun k => match k with
  | 0 => ("RingsUnderModel", "a", "[I", true)
  | 1 => ("RingsUnderModel", "image", "[I", true)
  | 2 => ("RingsUnderModel", "kept", "[I", true)
  | 3 => ("RingsUnderModel", "tape", "[I", true)
  | 4 => ("RingsUnderModel", "taped", "I", false)
  | 5 => ("RingsUnderModel", "fault", "I", false)
  | 6 => ("RingsUnderModel", "faultPlace", "I", false)
  | 7 => ("RingsUnderModel", "at", "I", false)
  | 8 => ("RingsUnderModel", "place", "I", false)
  | 9 => ("RingsUnderModel", "token", "I", false)
  | 10 => ("RingsUnderModel", "number", "I", false)
  | 11 => ("RingsUnderModel", "word", "J", false)
  | 12 => ("RingsUnderModel", "text0", "I", false)
  | 13 => ("RingsUnderModel", "clauses", "I", false)
  | 14 => ("RingsUnderModel", "written", "I", false)
  | 15 => ("RingsUnderModel", "came", "I", false)
  | 16 => ("RingsUnderModel", "pile", "[I", true)
  | 17 => ("RingsUnderModel", "piled", "I", false)
  | 18 => ("RingsUnderModel", "opens", "I", false)
  | 19 => ("RingsUnderModel", "isWhole", "Z", false)
  | 20 => ("RingsUnderModel", "values", "[J", true)
  | 21 => ("RingsUnderModel", "truth", "[Z", true)
  | 22 => ("RingsUnderModel", "keys0", "I", false)
  | 23 => ("RingsUnderModel", "lawless", "I", false)
  | 24 => ("RingsUnderModel", "rankOf", "[I", true)
  | 25 => ("RingsUnderModel", "leaves", "[I", true)
  | 26 => ("RingsUnderModel", "cantNow", "I", false)
  | 27 => ("RingsUnderModel", "row", "[I", true)
  | 28 => ("RingsUnderModel", "looked", "[Z", true)
  | 29 => ("RingsUnderModel", "bestRow", "[I", true)
  | _ => ("RingsUnderModel", "rings", "[I", true)
def tyX12 : Nat → FieldType := fun k => match k with
  | 0 => .array .int
  | 1 => .array .int
  | 2 => .array .int
  | 3 => .array .int
  | 4 => .int
  | 5 => .int
  | 6 => .int
  | 7 => .int
  | 8 => .int
  | 9 => .int
  | 10 => .int
  | 11 => .long
  | 12 => .int
  | 13 => .int
  | 14 => .int
  | 15 => .int
  | 16 => .array .int
  | 17 => .int
  | 18 => .int
  | 19 => .boolean
  | 20 => .array .long
  | 21 => .array .boolean
  | 22 => .int
  | 23 => .int
  | 24 => .array .int
  | 25 => .array .int
  | 26 => .int
  | 27 => .array .int
  | 28 => .array .boolean
  | 29 => .array .int
  | _ => .array .int
abbrev wsX120 : List Cond := u_ws RX12 TX12 31
theorem nmX12 : ∀ a, a < 31 → ∀ b, b < 31 → a ≠ b → (TX12 a).2.1 ≠ (TX12 b).2.1 := by decide +kernel
theorem tyX12_ok : ∀ k, k < 31 → parseFieldDescriptor (TX12 k).2.2.1 = some (tyX12 k) := by decide +kernel
abbrev cX12_init : ByteArray := prog_14_method_1_code
def yX12_init : MethodName := ⟨RX12, "<init>", "()V"⟩
abbrev cX12_copy : ByteArray := prog_14_method_2_code
def yX12_copy : MethodName := ⟨RX12, "copy", "([I[I)V"⟩
abbrev cX12_isIn : ByteArray := prog_14_method_3_code
def yX12_isIn : MethodName := ⟨RX12, "isIn", "(III)Z"⟩
abbrev cX12_isMonth : ByteArray := prog_14_method_4_code
def yX12_isMonth : MethodName := ⟨RX12, "isMonth", "(I)Z"⟩
abbrev cX12_isRing : ByteArray := prog_14_method_5_code
def yX12_isRing : MethodName := ⟨RX12, "isRing", "(I)Z"⟩
abbrev cX12_isCell : ByteArray := prog_14_method_6_code
def yX12_isCell : MethodName := ⟨RX12, "isCell", "(I)Z"⟩
abbrev cX12_isPerson : ByteArray := prog_14_method_7_code
def yX12_isPerson : MethodName := ⟨RX12, "isPerson", "(I)Z"⟩
abbrev cX12_isRise : ByteArray := prog_14_method_8_code
def yX12_isRise : MethodName := ⟨RX12, "isRise", "(I)Z"⟩
abbrev cX12_cellAt : ByteArray := prog_14_method_9_code
def yX12_cellAt : MethodName := ⟨RX12, "cellAt", "(II)I"⟩
abbrev cX12_personAt : ByteArray := prog_14_method_10_code
def yX12_personAt : MethodName := ⟨RX12, "personAt", "(II)I"⟩
abbrev cX12_tableAt : ByteArray := prog_14_method_11_code
def yX12_tableAt : MethodName := ⟨RX12, "tableAt", "(II)I"⟩
abbrev cX12_ring : ByteArray := prog_14_method_12_code
def yX12_ring : MethodName := ⟨RX12, "ring", "()I"⟩
abbrev cX12_cell : ByteArray := prog_14_method_13_code
def yX12_cell : MethodName := ⟨RX12, "cell", "(IIIIII)I"⟩
abbrev cX12_level : ByteArray := prog_14_method_14_code
def yX12_level : MethodName := ⟨RX12, "level", "(IIZI)I"⟩
abbrev cX12_latest : ByteArray := prog_14_method_15_code
def yX12_latest : MethodName := ⟨RX12, "latest", "(III)I"⟩
abbrev cX12_worst : ByteArray := prog_14_method_16_code
def yX12_worst : MethodName := ⟨RX12, "worst", "(II)I"⟩
abbrev cX12_levelAt : ByteArray := prog_14_method_17_code
def yX12_levelAt : MethodName := ⟨RX12, "levelAt", "(III)I"⟩
abbrev cX12_levelOf : ByteArray := prog_14_method_18_code
def yX12_levelOf : MethodName := ⟨RX12, "levelOf", "(III)I"⟩
abbrev cX12_table : ByteArray := prog_14_method_19_code
def yX12_table : MethodName := ⟨RX12, "table", "(IIIIII)Z"⟩
abbrev cX12_rules : ByteArray := prog_14_method_20_code
def yX12_rules : MethodName := ⟨RX12, "rules", "(IIIII)Z"⟩
abbrev cX12_wall : ByteArray := prog_14_method_21_code
def yX12_wall : MethodName := ⟨RX12, "wall", "(II)Z"⟩
abbrev cX12_well : ByteArray := prog_14_method_22_code
def yX12_well : MethodName := ⟨RX12, "well", "(IIII)Z"⟩
abbrev cX12_beds : ByteArray := prog_14_method_23_code
def yX12_beds : MethodName := ⟨RX12, "beds", "(II)I"⟩
abbrev cX12_lot : ByteArray := prog_14_method_24_code
def yX12_lot : MethodName := ⟨RX12, "lot", "(I)I"⟩
abbrev cX12_person : ByteArray := prog_14_method_25_code
def yX12_person : MethodName := ⟨RX12, "person", "(IIIII)I"⟩
abbrev cX12_manyAt : ByteArray := prog_14_method_26_code
def yX12_manyAt : MethodName := ⟨RX12, "manyAt", "(I)I"⟩
abbrev cX12_isLot : ByteArray := prog_14_method_27_code
def yX12_isLot : MethodName := ⟨RX12, "isLot", "(I)Z"⟩
abbrev cX12_freeIn : ByteArray := prog_14_method_28_code
def yX12_freeIn : MethodName := ⟨RX12, "freeIn", "(I)I"⟩
abbrev cX12_isPlace : ByteArray := prog_14_method_29_code
def yX12_isPlace : MethodName := ⟨RX12, "isPlace", "(I)Z"⟩
abbrev cX12_go : ByteArray := prog_14_method_30_code
def yX12_go : MethodName := ⟨RX12, "go", "(II)Z"⟩
abbrev cX12_death : ByteArray := prog_14_method_31_code
def yX12_death : MethodName := ⟨RX12, "death", "(I)I"⟩
abbrev cX12_title : ByteArray := prog_14_method_32_code
def yX12_title : MethodName := ⟨RX12, "title", "(II)Z"⟩
abbrev cX12_stands : ByteArray := prog_14_method_33_code
def yX12_stands : MethodName := ⟨RX12, "stands", "(I)Z"⟩
abbrev cX12_titleOf : ByteArray := prog_14_method_34_code
def yX12_titleOf : MethodName := ⟨RX12, "titleOf", "(II)I"⟩
abbrev cX12_four : ByteArray := prog_14_method_35_code
def yX12_four : MethodName := ⟨RX12, "four", "(I)V"⟩
abbrev cX12_feed : ByteArray := prog_14_method_36_code
def yX12_feed : MethodName := ⟨RX12, "feed", "(IIIII)I"⟩
abbrev cX12_end : ByteArray := prog_14_method_37_code
def yX12_end : MethodName := ⟨RX12, "end", "(I)I"⟩
abbrev cX12_see : ByteArray := prog_14_method_38_code
def yX12_see : MethodName := ⟨RX12, "see", "(I)I"⟩
abbrev cX12_isLetter : ByteArray := prog_14_method_39_code
def yX12_isLetter : MethodName := ⟨RX12, "isLetter", "(I)Z"⟩
abbrev cX12_isDigit : ByteArray := prog_14_method_40_code
def yX12_isDigit : MethodName := ⟨RX12, "isDigit", "(I)Z"⟩
abbrev cX12_nextToken : ByteArray := prog_14_method_41_code
def yX12_nextToken : MethodName := ⟨RX12, "nextToken", "()V"⟩
abbrev cX12_w3 : ByteArray := prog_14_method_42_code
def yX12_w3 : MethodName := ⟨RX12, "w3", "(III)J"⟩
abbrev cX12_w4 : ByteArray := prog_14_method_43_code
def yX12_w4 : MethodName := ⟨RX12, "w4", "(IIII)J"⟩
abbrev cX12_w5 : ByteArray := prog_14_method_44_code
def yX12_w5 : MethodName := ⟨RX12, "w5", "(IIIII)J"⟩
abbrev cX12_w6 : ByteArray := prog_14_method_45_code
def yX12_w6 : MethodName := ⟨RX12, "w6", "(IIIIII)J"⟩
abbrev cX12_isWord : ByteArray := prog_14_method_46_code
def yX12_isWord : MethodName := ⟨RX12, "isWord", "(J)Z"⟩
abbrev cX12_emit : ByteArray := prog_14_method_47_code
def yX12_emit : MethodName := ⟨RX12, "emit", "(II)V"⟩
abbrev cX12_push : ByteArray := prog_14_method_48_code
def yX12_push : MethodName := ⟨RX12, "push", "(I)V"⟩
abbrev cX12_whole : ByteArray := prog_14_method_49_code
def yX12_whole : MethodName := ⟨RX12, "whole", "()V"⟩
abbrev cX12_settle : ByteArray := prog_14_method_50_code
def yX12_settle : MethodName := ⟨RX12, "settle", "(I)V"⟩
abbrev cX12_nameOf : ByteArray := prog_14_method_51_code
def yX12_nameOf : MethodName := ⟨RX12, "nameOf", "()I"⟩
abbrev cX12_beginOne : ByteArray := prog_14_method_52_code
def yX12_beginOne : MethodName := ⟨RX12, "beginOne", "()I"⟩
abbrev cX12_hasParen : ByteArray := prog_14_method_53_code
def yX12_hasParen : MethodName := ⟨RX12, "hasParen", "()Z"⟩
abbrev cX12_goesOn : ByteArray := prog_14_method_54_code
def yX12_goesOn : MethodName := ⟨RX12, "goesOn", "()Z"⟩
abbrev cX12_behindOne : ByteArray := prog_14_method_55_code
def yX12_behindOne : MethodName := ⟨RX12, "behindOne", "()V"⟩
abbrev cX12_sum : ByteArray := prog_14_method_56_code
def yX12_sum : MethodName := ⟨RX12, "sum", "()I"⟩
abbrev cX12_compareOf : ByteArray := prog_14_method_57_code
def yX12_compareOf : MethodName := ⟨RX12, "compareOf", "()I"⟩
abbrev cX12_ask : ByteArray := prog_14_method_58_code
def yX12_ask : MethodName := ⟨RX12, "ask", "()I"⟩
abbrev cX12_either : ByteArray := prog_14_method_59_code
def yX12_either : MethodName := ⟨RX12, "either", "()I"⟩
abbrev cX12_keys : ByteArray := prog_14_method_60_code
def yX12_keys : MethodName := ⟨RX12, "keys", "(I)I"⟩
abbrev cX12_take : ByteArray := prog_14_method_61_code
def yX12_take : MethodName := ⟨RX12, "take", "(II)I"⟩
abbrev cX12_sortOf : ByteArray := prog_14_method_62_code
def yX12_sortOf : MethodName := ⟨RX12, "sortOf", "()I"⟩
abbrev cX12_clause : ByteArray := prog_14_method_63_code
def yX12_clause : MethodName := ⟨RX12, "clause", "()I"⟩
abbrev cX12_readText : ByteArray := prog_14_method_64_code
def yX12_readText : MethodName := ⟨RX12, "readText", "()I"⟩
abbrev cX12_text : ByteArray := prog_14_method_65_code
def yX12_text : MethodName := ⟨RX12, "text", "()I"⟩
abbrev cX12_fault : ByteArray := prog_14_method_66_code
def yX12_fault : MethodName := ⟨RX12, "fault", "(I)I"⟩
abbrev cX12_force : ByteArray := prog_14_method_67_code
def yX12_force : MethodName := ⟨RX12, "force", "(III)I"⟩
abbrev cX12_clauseAt : ByteArray := prog_14_method_68_code
def yX12_clauseAt : MethodName := ⟨RX12, "clauseAt", "(II)I"⟩
abbrev cX12_clausesOf : ByteArray := prog_14_method_69_code
def yX12_clausesOf : MethodName := ⟨RX12, "clausesOf", "(I)I"⟩
abbrev cX12_firstOf : ByteArray := prog_14_method_70_code
def yX12_firstOf : MethodName := ⟨RX12, "firstOf", "(II)I"⟩
abbrev cX12_textFor : ByteArray := prog_14_method_71_code
def yX12_textFor : MethodName := ⟨RX12, "textFor", "(II)I"⟩
abbrev cX12_numberOf : ByteArray := prog_14_method_72_code
def yX12_numberOf : MethodName := ⟨RX12, "numberOf", "(III)I"⟩
abbrev cX12_named : ByteArray := prog_14_method_73_code
def yX12_named : MethodName := ⟨RX12, "named", "(IIII)I"⟩
abbrev cX12_clip : ByteArray := prog_14_method_74_code
def yX12_clip : MethodName := ⟨RX12, "clip", "(J)J"⟩
abbrev cX12_two : ByteArray := prog_14_method_75_code
def yX12_two : MethodName := ⟨RX12, "two", "(IJJ)J"⟩
abbrev cX12_isAsked : ByteArray := prog_14_method_76_code
def yX12_isAsked : MethodName := ⟨RX12, "isAsked", "(IJJ)Z"⟩
abbrev cX12_isSo : ByteArray := prog_14_method_77_code
def yX12_isSo : MethodName := ⟨RX12, "isSo", "(IIIII)Z"⟩
abbrev cX12_firstSo : ByteArray := prog_14_method_78_code
def yX12_firstSo : MethodName := ⟨RX12, "firstSo", "(IIII)I"⟩
abbrev cX12_isFor : ByteArray := prog_14_method_79_code
def yX12_isFor : MethodName := ⟨RX12, "isFor", "(III)Z"⟩
abbrev cX12_is : ByteArray := prog_14_method_80_code
def yX12_is : MethodName := ⟨RX12, "is", "(III)I"⟩
abbrev cX12_why : ByteArray := prog_14_method_81_code
def yX12_why : MethodName := ⟨RX12, "why", "(III)I"⟩
abbrev cX12_says : ByteArray := prog_14_method_82_code
def yX12_says : MethodName := ⟨RX12, "says", "(II)I"⟩
abbrev cX12_keysFor : ByteArray := prog_14_method_83_code
def yX12_keysFor : MethodName := ⟨RX12, "keysFor", "(II)Z"⟩
abbrev cX12_isAhead : ByteArray := prog_14_method_84_code
def yX12_isAhead : MethodName := ⟨RX12, "isAhead", "(III)Z"⟩
abbrev cX12_topOf : ByteArray := prog_14_method_85_code
def yX12_topOf : MethodName := ⟨RX12, "topOf", "(I)I"⟩
abbrev cX12_reefGoes : ByteArray := prog_14_method_86_code
def yX12_reefGoes : MethodName := ⟨RX12, "reefGoes", "(I)V"⟩
abbrev cX12_sandGoes : ByteArray := prog_14_method_87_code
def yX12_sandGoes : MethodName := ⟨RX12, "sandGoes", "(I)V"⟩
abbrev cX12_seaStands : ByteArray := prog_14_method_88_code
def yX12_seaStands : MethodName := ⟨RX12, "seaStands", "(II)V"⟩
abbrev cX12_isSweet : ByteArray := prog_14_method_89_code
def yX12_isSweet : MethodName := ⟨RX12, "isSweet", "(II)Z"⟩
abbrev cX12_isOnRing : ByteArray := prog_14_method_90_code
def yX12_isOnRing : MethodName := ⟨RX12, "isOnRing", "(I)Z"⟩
abbrev cX12_drink : ByteArray := prog_14_method_91_code
def yX12_drink : MethodName := ⟨RX12, "drink", "()V"⟩
abbrev cX12_sleep : ByteArray := prog_14_method_92_code
def yX12_sleep : MethodName := ⟨RX12, "sleep", "()V"⟩
abbrev cX12_wasRock : ByteArray := prog_14_method_93_code
def yX12_wasRock : MethodName := ⟨RX12, "wasRock", "(II)Z"⟩
abbrev cX12_areaOf : ByteArray := prog_14_method_94_code
def yX12_areaOf : MethodName := ⟨RX12, "areaOf", "(I)I"⟩
abbrev cX12_fundGoes : ByteArray := prog_14_method_95_code
def yX12_fundGoes : MethodName := ⟨RX12, "fundGoes", "(I)V"⟩
abbrev cX12_goesAhead : ByteArray := prog_14_method_96_code
def yX12_goesAhead : MethodName := ⟨RX12, "goesAhead", "(IIIZ)Z"⟩
abbrev cX12_boatsGo : ByteArray := prog_14_method_97_code
def yX12_boatsGo : MethodName := ⟨RX12, "boatsGo", "(I)V"⟩
abbrev cX12_family : ByteArray := prog_14_method_98_code
def yX12_family : MethodName := ⟨RX12, "family", "(III)I"⟩
abbrev cX12_isOfKin : ByteArray := prog_14_method_99_code
def yX12_isOfKin : MethodName := ⟨RX12, "isOfKin", "(III)Z"⟩
abbrev cX12_sails : ByteArray := prog_14_method_100_code
def yX12_sails : MethodName := ⟨RX12, "sails", "(III)V"⟩
abbrev cX12_month : ByteArray := prog_14_method_101_code
def yX12_month : MethodName := ⟨RX12, "month", "(I)V"⟩
abbrev cX12_sail : ByteArray := prog_14_method_102_code
def yX12_sail : MethodName := ⟨RX12, "sail", "(II)Z"⟩
abbrev cX12_isTime : ByteArray := prog_14_method_103_code
def yX12_isTime : MethodName := ⟨RX12, "isTime", "(III)Z"⟩
abbrev cX12_months : ByteArray := prog_14_method_104_code
def yX12_months : MethodName := ⟨RX12, "months", "(II)I"⟩
abbrev cX12_cellOf : ByteArray := prog_14_method_105_code
def yX12_cellOf : MethodName := ⟨RX12, "cellOf", "(II)I"⟩
abbrev cX12_personOf : ByteArray := prog_14_method_106_code
def yX12_personOf : MethodName := ⟨RX12, "personOf", "(II)I"⟩
abbrev cX12_at : ByteArray := prog_14_method_107_code
def yX12_at : MethodName := ⟨RX12, "at", "(I)I"⟩
abbrev cX12_area : ByteArray := prog_14_method_108_code
def yX12_area : MethodName := ⟨RX12, "area", "()I"⟩
abbrev cX12_choose : ByteArray := prog_14_method_109_code
def yX12_choose : MethodName := ⟨RX12, "choose", "(II)Z"⟩
abbrev cX12_council : ByteArray := prog_14_method_110_code
def yX12_council : MethodName := ⟨RX12, "council", "(J)I"⟩
abbrev cX12_sinks : ByteArray := prog_14_method_111_code
def yX12_sinks : MethodName := ⟨RX12, "sinks", "(III)I"⟩
abbrev cX12_cant : ByteArray := prog_14_method_112_code
def yX12_cant : MethodName := ⟨RX12, "cant", "(II)I"⟩
abbrev cX12_sandBehind : ByteArray := prog_14_method_113_code
def yX12_sandBehind : MethodName := ⟨RX12, "sandBehind", "(III)I"⟩
abbrev cX12_keeps : ByteArray := prog_14_method_114_code
def yX12_keeps : MethodName := ⟨RX12, "keeps", "(IIII)I"⟩
abbrev cX12_wants : ByteArray := prog_14_method_115_code
def yX12_wants : MethodName := ⟨RX12, "wants", "()I"⟩
abbrev cX12_nextOrder : ByteArray := prog_14_method_116_code
def yX12_nextOrder : MethodName := ⟨RX12, "nextOrder", "(I)Z"⟩
abbrev cX12_order : ByteArray := prog_14_method_117_code
def yX12_order : MethodName := ⟨RX12, "order", "(III)I"⟩
abbrev cX12_lies : ByteArray := prog_14_method_118_code
def yX12_lies : MethodName := ⟨RX12, "lies", "(II)V"⟩
abbrev cX12_grave : ByteArray := prog_14_method_119_code
def yX12_grave : MethodName := ⟨RX12, "grave", "(I)I"⟩
abbrev cX12_bury : ByteArray := prog_14_method_120_code
def yX12_bury : MethodName := ⟨RX12, "bury", "(II)Z"⟩
abbrev cX12_found : ByteArray := prog_14_method_121_code
def yX12_found : MethodName := ⟨RX12, "found", "(II)I"⟩
abbrev cX12_image : ByteArray := prog_14_method_122_code
def yX12_image : MethodName := ⟨RX12, "image", "()I"⟩
abbrev cX12_back : ByteArray := prog_14_method_123_code
def yX12_back : MethodName := ⟨RX12, "back", "()I"⟩
abbrev cX12_about : ByteArray := prog_14_method_124_code
def yX12_about : MethodName := ⟨RX12, "about", "(I)I"⟩
def RJ6 : String := "java/lang/Integer"
abbrev cJ6_compare_7cf53 : ByteArray := prog_15_method_40_code
def yJ6_compare_7cf53 : MethodName := ⟨RJ6, "compare", "(II)I"⟩
abbrev cJ6_bitCount_0f7a4 : ByteArray := prog_15_method_49_code
def yJ6_bitCount_0f7a4 : MethodName := ⟨RJ6, "bitCount", "(I)I"⟩
def RJ13 : String := "java/lang/Long"
abbrev cJ13_bitCount_95d88 : ByteArray := prog_16_method_50_code
def yJ13_bitCount_95d88 : MethodName := ⟨RJ13, "bitCount", "(J)I"⟩
def RJ0 : String := "java/lang/String"
abbrev cJ0_length_8abf5 : ByteArray := prog_18_method_54_code
def yJ0_length_8abf5 : MethodName := ⟨RJ0, "length", "()I"⟩
abbrev cJ0_charAt_5068e : ByteArray := prog_18_method_56_code
def yJ0_charAt_5068e : MethodName := ⟨RJ0, "charAt", "(I)C"⟩
abbrev cJ0_coder_7d493 : ByteArray := prog_18_method_152_code
def yJ0_coder_7d493 : MethodName := ⟨RJ0, "coder", "()B"⟩
abbrev cJ0_isLatin1_aae02 : ByteArray := prog_18_method_154_code
def yJ0_isLatin1_aae02 : MethodName := ⟨RJ0, "isLatin1", "()Z"⟩
abbrev cJ0_checkIndex_df160 : ByteArray := prog_18_method_155_code
def yJ0_checkIndex_df160 : MethodName := ⟨RJ0, "checkIndex", "(II)V"⟩
def RJ1 : String := "java/lang/StringLatin1"
abbrev cJ1_charAt_3b067 : ByteArray := prog_19_method_2_code
def yJ1_charAt_3b067 : MethodName := ⟨RJ1, "charAt", "([BI)C"⟩
def RJ2 : String := "java/lang/StringUTF16"
abbrev cJ2_getChar_3b067 : ByteArray := prog_20_method_5_code
def yJ2_getChar_3b067 : MethodName := ⟨RJ2, "getChar", "([BI)C"⟩
abbrev cJ2_length_9d52b : ByteArray := prog_20_method_6_code
def yJ2_length_9d52b : MethodName := ⟨RJ2, "length", "([B)I"⟩
abbrev cJ2_charAt_3b067 : ByteArray := prog_20_method_83_code
def yJ2_charAt_3b067 : MethodName := ⟨RJ2, "charAt", "([BI)C"⟩
abbrev cJ2_checkIndex_2214a : ByteArray := prog_20_method_91_code
def yJ2_checkIndex_2214a : MethodName := ⟨RJ2, "checkIndex", "(I[B)V"⟩
def RJ3 : String := "jdk/internal/util/Preconditions"
abbrev cJ3_checkIndex_8e157 : ByteArray := prog_22_method_11_code
def yJ3_checkIndex_8e157 : MethodName := ⟨RJ3, "checkIndex", "(IILjava/util/function/BiFunction;)I"⟩
def RL : String := "RingsUnderLaw"
abbrev cL_law : ByteArray := code
def wsL_law_r1 : List Cond := [Cond.classLink RL 7 RX11, Cond.instantiable RX11 5, Cond.initialized RX11, Cond.classLink RL 10 RX12, Cond.instantiable RX12 31, Cond.initialized RX12, Cond.constantLong RL 144 (4294967295), Cond.methodLink RL 9 yX11_init, Cond.instanceMethod yX11_init, Cond.code yX11_init cX11_init 1 none, Cond.methodLink RX11 1 objectInit, Cond.instanceMethod objectInit, Cond.code objectInit ⟨#[0xb1]⟩ 1 none, Cond.classLink RX11 7 RX10, Cond.instantiable RX10 13, Cond.initialized RX10, Cond.fieldLink RX11 10 "RingsUnder" "now" "LRingsUnder$World;", Cond.fieldLink RX11 16 "RingsUnder" "kept" "LRingsUnder$World;", Cond.fieldLink RX11 19 "RingsUnder" "trial" "LRingsUnder$World;", Cond.classLink RX11 22 RX5, Cond.instantiable RX5 8, Cond.initialized RX5, Cond.fieldLink RX11 25 "RingsUnder" "ringOrders" "LRingsUnder$RingOrders;", Cond.classLink RX11 29 RX4]
def wsL_law_r2 : List Cond := [Cond.instantiable RX4 12, Cond.initialized RX4, Cond.fieldLink RX11 32 "RingsUnder" "reader" "LRingsUnder$Reader;", Cond.methodLink RX11 9 yX10_init, Cond.instanceMethod yX10_init, Cond.code yX10_init cX10_init 1 none, Cond.methodLink RX10 3 objectInit, Cond.fieldLink RX10 9 "RingsUnder$World" "cantMonth" "I", Cond.fieldLink RX10 15 "RingsUnder$World" "area" "I", Cond.arrayClass .int, Cond.fieldLink RX10 18 "RingsUnder$World" "holder" "[I", Cond.classLink RX10 22 RX7, Cond.instantiable RX7 15, Cond.initialized RX7, Cond.fieldLink RX10 25 "RingsUnder$World" "seas" "LRingsUnder$Seas;", Cond.classLink RX10 29 RX2, Cond.instantiable RX2 20, Cond.initialized RX2, Cond.fieldLink RX10 32 "RingsUnder$World" "land" "LRingsUnder$Land;", Cond.classLink RX10 36 RX0, Cond.instantiable RX0 16, Cond.initialized RX0, Cond.fieldLink RX10 39 "RingsUnder$World" "folk" "LRingsUnder$Folk;", Cond.classLink RX10 43 RX3]
def wsL_law_r3 : List Cond := [Cond.instantiable RX3 8, Cond.initialized RX3, Cond.fieldLink RX10 46 "RingsUnder$World" "law" "LRingsUnder$Law;", Cond.classLink RX10 50 RX1, Cond.instantiable RX1 3, Cond.initialized RX1, Cond.fieldLink RX10 53 "RingsUnder$World" "graves" "LRingsUnder$Graves;", Cond.fieldLink RX10 57 "RingsUnder$World" "queue" "[I", Cond.fieldLink RX10 60 "RingsUnder$World" "ringBeds" "[I", Cond.methodLink RX10 24 yX7_init, Cond.instanceMethod yX7_init, Cond.code yX7_init cX7_init 1 none, Cond.methodLink RX7 3 objectInit, Cond.fieldLink RX7 9 "RingsUnder$Seas" "rise" "[I", Cond.fieldLink RX7 15 "RingsUnder$Seas" "month" "[I", Cond.fieldLink RX7 18 "RingsUnder$Seas" "value" "[I", Cond.fieldLink RX7 21 "RingsUnder$Seas" "told" "[I", Cond.fieldLink RX7 24 "RingsUnder$Seas" "low" "[I", Cond.fieldLink RX7 27 "RingsUnder$Seas" "high" "[I", Cond.fieldLink RX7 30 "RingsUnder$Seas" "warm" "[I", Cond.fieldLink RX7 33 "RingsUnder$Seas" "drift" "[I", Cond.fieldLink RX7 36 "RingsUnder$Seas" "rain" "[I", Cond.fieldLink RX7 39 "RingsUnder$Seas" "bear" "I", Cond.fieldLink RX7 43 "RingsUnder$Seas" "grow" "I"]
def wsL_law_r4 : List Cond := [Cond.fieldLink RX7 46 "RingsUnder$Seas" "die" "I", Cond.fieldLink RX7 49 "RingsUnder$Seas" "reach" "I", Cond.fieldLink RX7 52 "RingsUnder$Seas" "cost" "I", Cond.static yX11_fill, Cond.code yX11_fill cX11_fill 3 none, Cond.methodLink RX10 31 yX2_init, Cond.instanceMethod yX2_init, Cond.code yX2_init cX2_init 1 none, Cond.methodLink RX2 3 objectInit, Cond.arrayClass .long, Cond.fieldLink RX2 9 "RingsUnder$Land" "rocks" "[J", Cond.fieldLink RX2 15 "RingsUnder$Land" "ring" "[I", Cond.fieldLink RX2 19 "RingsUnder$Land" "height" "[I", Cond.fieldLink RX2 22 "RingsUnder$Land" "x" "[I", Cond.fieldLink RX2 25 "RingsUnder$Land" "y" "[I", Cond.fieldLink RX2 28 "RingsUnder$Land" "sand" "[I", Cond.fieldLink RX2 31 "RingsUnder$Land" "reef" "[I", Cond.fieldLink RX2 34 "RingsUnder$Land" "wall" "[I", Cond.fieldLink RX2 37 "RingsUnder$Land" "beds" "[I", Cond.fieldLink RX2 40 "RingsUnder$Land" "under" "[I", Cond.classLink RX2 43 RX9, Cond.instantiable RX9 3, Cond.initialized RX9, Cond.fieldLink RX2 46 "RingsUnder$Land" "wells" "LRingsUnder$Wells;"]
def wsL_law_r5 : List Cond := [Cond.fieldLink RX2 50 "RingsUnder$Land" "next" "[I", Cond.fieldLink RX2 53 "RingsUnder$Land" "first" "[I", Cond.fieldLink RX2 56 "RingsUnder$Land" "leaves" "[I", Cond.fieldLink RX2 59 "RingsUnder$Land" "rows" "[I", Cond.fieldLink RX2 62 "RingsUnder$Land" "widths" "[I", Cond.instanceMethod yX9_init, Cond.code yX9_init cX9_init 1 none, Cond.methodLink RX9 3 objectInit, Cond.fieldLink RX9 9 "RingsUnder$Wells" "gathers" "[I", Cond.fieldLink RX9 15 "RingsUnder$Wells" "lens" "[I", Cond.fieldLink RX9 18 "RingsUnder$Wells" "salt" "[I", Cond.instanceMethod yX0_init, Cond.code yX0_init cX0_init 1 none, Cond.methodLink RX0 3 objectInit, Cond.fieldLink RX0 9 "RingsUnder$Folk" "kin" "[I", Cond.fieldLink RX0 15 "RingsUnder$Folk" "age" "[I", Cond.fieldLink RX0 18 "RingsUnder$Folk" "craft" "[I", Cond.fieldLink RX0 21 "RingsUnder$Folk" "send" "[I", Cond.fieldLink RX0 24 "RingsUnder$Folk" "place" "[I", Cond.fieldLink RX0 27 "RingsUnder$Folk" "thirst" "[I", Cond.fieldLink RX0 30 "RingsUnder$Folk" "noBed" "[I", Cond.fieldLink RX0 33 "RingsUnder$Folk" "went" "[I", Cond.fieldLink RX0 36 "RingsUnder$Folk" "vote" "[I", Cond.fieldLink RX0 39 "RingsUnder$Folk" "lotBeds" "[I"]
def wsL_law_r6 : List Cond := [Cond.fieldLink RX0 42 "RingsUnder$Folk" "ofRing" "[I", Cond.fieldLink RX0 45 "RingsUnder$Folk" "free" "[I", Cond.fieldLink RX0 48 "RingsUnder$Folk" "groupSize" "[I", Cond.fieldLink RX0 51 "RingsUnder$Folk" "groupLot" "[I", Cond.instanceMethod yX3_init, Cond.code yX3_init cX3_init 1 none, Cond.methodLink RX3 3 objectInit, Cond.classLink RX3 9 RX8, Cond.fieldLink RX3 11 "RingsUnder$Law" "texts" "[LRingsUnder$Text;", Cond.fieldLink RX3 17 "RingsUnder$Law" "forceText" "[I", Cond.fieldLink RX3 21 "RingsUnder$Law" "forceFrom" "[I", Cond.fieldLink RX3 24 "RingsUnder$Law" "forceTo" "[I", Cond.fieldLink RX3 27 "RingsUnder$Law" "names" "[I", Cond.fieldLink RX3 30 "RingsUnder$Law" "stack" "[I", Cond.instanceMethod yX1_init, Cond.code yX1_init cX1_init 1 none, Cond.methodLink RX1 3 objectInit, Cond.fieldLink RX1 9 "RingsUnder$Graves" "cell" "[I", Cond.fieldLink RX1 15 "RingsUnder$Graves" "lay" "[J", Cond.instanceMethod yX5_init, Cond.code yX5_init cX5_init 1 none, Cond.methodLink RX5 3 objectInit, Cond.fieldLink RX5 9 "RingsUnder$RingOrders" "best" "[I", Cond.fieldLink RX5 15 "RingsUnder$RingOrders" "order" "[I"]
def wsL_law_r7 : List Cond := [Cond.fieldLink RX5 18 "RingsUnder$RingOrders" "queue" "[I", Cond.fieldLink RX5 21 "RingsUnder$RingOrders" "dry" "[J", Cond.fieldLink RX5 25 "RingsUnder$RingOrders" "beds" "[I", Cond.fieldLink RX5 28 "RingsUnder$RingOrders" "may" "[J", Cond.instanceMethod yX4_init, Cond.code yX4_init cX4_init 1 none, Cond.methodLink RX4 3 objectInit, Cond.classLink RX4 9 RX6, Cond.instantiable RX6 6, Cond.initialized RX6, Cond.fieldLink RX4 12 "RingsUnder$Reader" "scanner" "LRingsUnder$Scanner;", Cond.fieldLink RX4 18 "RingsUnder$Reader" "fault" "I", Cond.fieldLink RX4 22 "RingsUnder$Reader" "place" "I", Cond.classLink RX4 25 RX8, Cond.instantiable RX8 4, Cond.initialized RX8, Cond.fieldLink RX4 28 "RingsUnder$Reader" "draft" "LRingsUnder$Text;", Cond.fieldLink RX4 32 "RingsUnder$Reader" "waiting" "[I", Cond.instanceMethod yX6_init, Cond.code yX6_init cX6_init 1 none, Cond.methodLink RX6 3 objectInit, Cond.fieldLink RX6 9 "RingsUnder$Scanner" "tape" "[I", Cond.instanceMethod yX8_init, Cond.code yX8_init cX8_init 1 none]
def wsL_law_r8 : List Cond := [Cond.methodLink RX8 3 objectInit, Cond.fieldLink RX8 9 "RingsUnder$Text" "sorts" "[I", Cond.fieldLink RX8 15 "RingsUnder$Text" "from" "[I", Cond.fieldLink RX8 18 "RingsUnder$Text" "code" "[I", Cond.methodLink RL 12 yX12_init, Cond.instanceMethod yX12_init, Cond.code yX12_init cX12_init 2 none, Cond.methodLink RX12 1 objectInit, Cond.fieldLink RX12 7 "RingsUnderModel" "a" "[I", Cond.fieldLink RX12 13 "RingsUnderModel" "image" "[I", Cond.fieldLink RX12 16 "RingsUnderModel" "kept" "[I", Cond.fieldLink RX12 19 "RingsUnderModel" "tape" "[I", Cond.fieldLink RX12 22 "RingsUnderModel" "fault" "I", Cond.fieldLink RX12 26 "RingsUnderModel" "faultPlace" "I", Cond.fieldLink RX12 29 "RingsUnderModel" "pile" "[I", Cond.fieldLink RX12 32 "RingsUnderModel" "values" "[J", Cond.arrayClass .boolean, Cond.fieldLink RX12 36 "RingsUnderModel" "truth" "[Z", Cond.fieldLink RX12 40 "RingsUnderModel" "rankOf" "[I", Cond.fieldLink RX12 43 "RingsUnderModel" "leaves" "[I", Cond.fieldLink RX12 46 "RingsUnderModel" "row" "[I", Cond.fieldLink RX12 49 "RingsUnderModel" "looked" "[Z", Cond.fieldLink RX12 52 "RingsUnderModel" "bestRow" "[I", Cond.fieldLink RX12 55 "RingsUnderModel" "rings" "[I"]
def wsL_law_r9 : List Cond := [Cond.methodLink RX12 58 yX12_copy, Cond.static yX12_copy, Cond.code yX12_copy cX12_copy 3 none, Cond.methodLink RL 13 yX11_ring, Cond.instanceMethod yX11_ring, Cond.selects RX11 yX11_ring yX11_ring, Cond.code yX11_ring cX11_ring 2 (some .int), Cond.fieldLink RX11 36 "RingsUnder$World" "land" "LRingsUnder$Land;", Cond.fieldLink RX11 40 "RingsUnder$Land" "rings" "I", Cond.methodLink RL 17 yX12_ring, Cond.instanceMethod yX12_ring, Cond.selects RX12 yX12_ring yX12_ring, Cond.code yX12_ring cX12_ring 1 (some .int), Cond.methodLink RL 18 yX11_cell, Cond.instanceMethod yX11_cell, Cond.selects RX11 yX11_cell yX11_cell, Cond.code yX11_cell cX11_cell 8 (some .int), Cond.fieldLink RX11 54 "RingsUnder$World" "clock" "I", Cond.fieldLink RX11 57 "RingsUnder$Land" "cells" "I", Cond.methodLink RX11 46 yX11_isRing, Cond.instanceMethod yX11_isRing, Cond.selects RX11 yX11_isRing yX11_isRing, Cond.code yX11_isRing cX11_isRing 2 (some .boolean), Cond.methodLink RX11 50 yX11_between]
def wsL_law_r10 : List Cond := [Cond.static yX11_between, Cond.code yX11_between cX11_between 3 (some .boolean), Cond.methodLink RX11 60 yX2_addCell, Cond.instanceMethod yX2_addCell, Cond.selects RX2 yX2_addCell yX2_addCell, Cond.code yX2_addCell cX2_addCell 8 (some .int), Cond.fieldLink RX2 73 "RingsUnder$Land" "cells" "I", Cond.methodLink RX2 97 yX2_joinRing, Cond.instanceMethod yX2_joinRing, Cond.selects RX2 yX2_joinRing yX2_joinRing, Cond.code yX2_joinRing cX2_joinRing 5 none, Cond.methodLink RL 22 yX12_cell, Cond.instanceMethod yX12_cell, Cond.selects RX12 yX12_cell yX12_cell, Cond.code yX12_cell cX12_cell 8 (some .int), Cond.methodLink RX12 66 yX12_isRing, Cond.instanceMethod yX12_isRing, Cond.selects RX12 yX12_isRing yX12_isRing, Cond.code yX12_isRing cX12_isRing 2 (some .boolean), Cond.methodLink RX12 62 yX12_isIn, Cond.static yX12_isIn, Cond.code yX12_isIn cX12_isIn 3 (some .boolean), Cond.methodLink RL 23 yX11_level, Cond.instanceMethod yX11_level]
def wsL_law_r11 : List Cond := [Cond.selects RX11 yX11_level yX11_level, Cond.code yX11_level cX11_level 5 (some .int), Cond.fieldLink RX11 70 "RingsUnder$World" "seas" "LRingsUnder$Seas;", Cond.fieldLink RX11 74 "RingsUnder$Seas" "levels" "I", Cond.methodLink RX11 64 yX11_isRise, Cond.static yX11_isRise, Cond.code yX11_isRise cX11_isRise 1 (some .boolean), Cond.methodLink RX11 67 yX11_isMonth, Cond.static yX11_isMonth, Cond.code yX11_isMonth cX11_isMonth 1 (some .boolean), Cond.methodLink RX11 79 yX7_tell, Cond.instanceMethod yX7_tell, Cond.selects RX7 yX7_tell yX7_tell, Cond.code yX7_tell cX7_tell 5 (some .int), Cond.fieldLink RX7 59 "RingsUnder$Seas" "levels" "I", Cond.methodLink RL 27 yX12_level, Cond.instanceMethod yX12_level, Cond.selects RX12 yX12_level yX12_level, Cond.code yX12_level cX12_level 6 (some .int), Cond.methodLink RX12 70 yX12_isRise, Cond.static yX12_isRise, Cond.code yX12_isRise cX12_isRise 1 (some .boolean), Cond.methodLink RX12 73 yX12_isMonth, Cond.static yX12_isMonth]
def wsL_law_r12 : List Cond := [Cond.code yX12_isMonth cX12_isMonth 1 (some .boolean), Cond.methodLink RL 28 yX11_levelOf, Cond.instanceMethod yX11_levelOf, Cond.selects RX11 yX11_levelOf yX11_levelOf, Cond.code yX11_levelOf cX11_levelOf 4 (some .int), Cond.constant RX11 83 (-1000000), Cond.methodLink RX11 84 yX7_known, Cond.instanceMethod yX7_known, Cond.selects RX7 yX7_known yX7_known, Cond.code yX7_known cX7_known 9 (some .int), Cond.methodLink RX7 66 Lib.Math.max.name, Cond.static Lib.Math.max.name, Cond.initialized "java/lang/Math", Cond.code Lib.Math.max.name Lib.Math.max.code 2 (some .int), Cond.methodLink RX7 72 yX7_isNumber, Cond.static yX7_isNumber, Cond.code yX7_isNumber cX7_isNumber 1 (some .boolean), Cond.methodLink RX7 76 yX7_meanOfNumbers, Cond.static yX7_meanOfNumbers, Cond.code yX7_meanOfNumbers cX7_meanOfNumbers 2 (some .int), Cond.methodLink RL 32 yX12_levelOf, Cond.instanceMethod yX12_levelOf, Cond.selects RX12 yX12_levelOf yX12_levelOf, Cond.code yX12_levelOf cX12_levelOf 4 (some .int)]
def wsL_law_r13 : List Cond := [Cond.constant RX12 87 (-1000000), Cond.methodLink RX12 84 yX12_levelAt, Cond.instanceMethod yX12_levelAt, Cond.selects RX12 yX12_levelAt yX12_levelAt, Cond.code yX12_levelAt cX12_levelAt 9 (some .int), Cond.methodLink RX12 76 yX12_latest, Cond.instanceMethod yX12_latest, Cond.selects RX12 yX12_latest yX12_latest, Cond.code yX12_latest cX12_latest 6 (some .int), Cond.methodLink RX12 80 yX12_worst, Cond.instanceMethod yX12_worst, Cond.selects RX12 yX12_worst yX12_worst, Cond.code yX12_worst cX12_worst 7 (some .int), Cond.methodLink RL 33 yX11_table, Cond.instanceMethod yX11_table, Cond.selects RX11 yX11_table yX11_table, Cond.code yX11_table cX11_table 9 (some .boolean), Cond.fieldLink RX11 88 "RingsUnder$Seas" "low" "[I", Cond.fieldLink RX11 92 "RingsUnder$Seas" "high" "[I", Cond.fieldLink RX11 95 "RingsUnder$Seas" "warm" "[I", Cond.fieldLink RX11 98 "RingsUnder$Seas" "drift" "[I", Cond.fieldLink RX11 101 "RingsUnder$Seas" "rain" "[I", Cond.methodLink RL 37 yX12_table, Cond.instanceMethod yX12_table]
def wsL_law_r14 : List Cond := [Cond.selects RX12 yX12_table yX12_table, Cond.code yX12_table cX12_table 8 (some .boolean), Cond.methodLink RL 38 yX11_rules, Cond.instanceMethod yX11_rules, Cond.selects RX11 yX11_rules yX11_rules, Cond.code yX11_rules cX11_rules 8 (some .boolean), Cond.fieldLink RX11 104 "RingsUnder$Seas" "bear" "I", Cond.fieldLink RX11 107 "RingsUnder$Seas" "grow" "I", Cond.fieldLink RX11 110 "RingsUnder$Seas" "die" "I", Cond.fieldLink RX11 113 "RingsUnder$Seas" "reach" "I", Cond.fieldLink RX11 116 "RingsUnder$Seas" "cost" "I", Cond.methodLink RL 42 yX12_rules, Cond.instanceMethod yX12_rules, Cond.selects RX12 yX12_rules yX12_rules, Cond.code yX12_rules cX12_rules 6 (some .boolean), Cond.methodLink RL 43 yX11_wall, Cond.instanceMethod yX11_wall, Cond.selects RX11 yX11_wall yX11_wall, Cond.code yX11_wall cX11_wall 3 (some .boolean), Cond.fieldLink RX11 122 "RingsUnder$Land" "wall" "[I", Cond.methodLink RX11 119 yX11_isCell, Cond.instanceMethod yX11_isCell, Cond.selects RX11 yX11_isCell yX11_isCell, Cond.code yX11_isCell cX11_isCell 2 (some .boolean)]
def wsL_law_r15 : List Cond := [Cond.methodLink RL 47 yX12_wall, Cond.instanceMethod yX12_wall, Cond.selects RX12 yX12_wall yX12_wall, Cond.code yX12_wall cX12_wall 3 (some .boolean), Cond.methodLink RX12 88 yX12_isCell, Cond.instanceMethod yX12_isCell, Cond.selects RX12 yX12_isCell yX12_isCell, Cond.code yX12_isCell cX12_isCell 2 (some .boolean), Cond.methodLink RL 48 yX11_well, Cond.instanceMethod yX11_well, Cond.selects RX11 yX11_well yX11_well, Cond.code yX11_well cX11_well 6 (some .boolean), Cond.fieldLink RX11 125 "RingsUnder$Land" "wells" "LRingsUnder$Wells;", Cond.methodLink RX11 129 yX9_isAt, Cond.instanceMethod yX9_isAt, Cond.selects RX9 yX9_isAt yX9_isAt, Cond.code yX9_isAt cX9_isAt 2 (some .boolean), Cond.methodLink RX11 134 yX9_dig, Cond.instanceMethod yX9_dig, Cond.selects RX9 yX9_dig yX9_dig, Cond.code yX9_dig cX9_dig 5 none, Cond.methodLink RL 52 yX12_well, Cond.instanceMethod yX12_well, Cond.selects RX12 yX12_well yX12_well]
def wsL_law_r16 : List Cond := [Cond.code yX12_well cX12_well 6 (some .boolean), Cond.methodLink RX12 91 yX12_cellAt, Cond.instanceMethod yX12_cellAt, Cond.selects RX12 yX12_cellAt yX12_cellAt, Cond.code yX12_cellAt cX12_cellAt 3 (some .int), Cond.methodLink RL 53 yX11_beds, Cond.instanceMethod yX11_beds, Cond.selects RX11 yX11_beds yX11_beds, Cond.code yX11_beds cX11_beds 5 (some .int), Cond.fieldLink RX11 138 "RingsUnder$Land" "beds" "[I", Cond.constantLong RX11 141 (20), Cond.methodLink RL 57 yX12_beds, Cond.instanceMethod yX12_beds, Cond.selects RX12 yX12_beds yX12_beds, Cond.code yX12_beds cX12_beds 3 (some .int), Cond.methodLink RL 58 yX11_lot, Cond.instanceMethod yX11_lot, Cond.selects RX11 yX11_lot yX11_lot, Cond.code yX11_lot cX11_lot 3 (some .int), Cond.fieldLink RX11 143 "RingsUnder$World" "folk" "LRingsUnder$Folk;", Cond.fieldLink RX11 147 "RingsUnder$Folk" "lots" "I", Cond.fieldLink RX11 152 "RingsUnder$Folk" "lotBeds" "[I", Cond.methodLink RL 62 yX12_lot, Cond.instanceMethod yX12_lot]
def wsL_law_r17 : List Cond := [Cond.selects RX12 yX12_lot yX12_lot, Cond.code yX12_lot cX12_lot 2 (some .int), Cond.methodLink RL 63 yX11_person, Cond.instanceMethod yX11_person, Cond.selects RX11 yX11_person yX11_person, Cond.code yX11_person cX11_person 7 (some .int), Cond.fieldLink RX11 155 "RingsUnder$Folk" "persons" "I", Cond.methodLink RX11 158 yX0_addPerson, Cond.instanceMethod yX0_addPerson, Cond.selects RX0 yX0_addPerson yX0_addPerson, Cond.code yX0_addPerson cX0_addPerson 7 (some .int), Cond.fieldLink RX0 54 "RingsUnder$Folk" "persons" "I", Cond.methodLink RL 67 yX12_person, Cond.instanceMethod yX12_person, Cond.selects RX12 yX12_person yX12_person, Cond.code yX12_person cX12_person 7 (some .int), Cond.methodLink RL 68 yX11_go, Cond.instanceMethod yX11_go, Cond.selects RX11 yX11_go yX11_go, Cond.code yX11_go cX11_go 5 (some .boolean), Cond.fieldLink RX11 165 "RingsUnder$Folk" "place" "[I", Cond.methodLink RX11 162 yX11_isPerson, Cond.instanceMethod yX11_isPerson, Cond.selects RX11 yX11_isPerson yX11_isPerson]
def wsL_law_r18 : List Cond := [Cond.code yX11_isPerson cX11_isPerson 2 (some .boolean), Cond.methodLink RX11 168 yX11_isLot, Cond.instanceMethod yX11_isLot, Cond.selects RX11 yX11_isLot yX11_isLot, Cond.code yX11_isLot cX11_isLot 2 (some .boolean), Cond.methodLink RX11 171 yX0_freeBeds, Cond.instanceMethod yX0_freeBeds, Cond.selects RX0 yX0_freeBeds yX0_freeBeds, Cond.code yX0_freeBeds cX0_freeBeds 2 (some .int), Cond.methodLink RX0 69 yX0_countAt, Cond.instanceMethod yX0_countAt, Cond.selects RX0 yX0_countAt yX0_countAt, Cond.code yX0_countAt cX0_countAt 4 (some .int), Cond.methodLink RL 71 yX12_go, Cond.instanceMethod yX12_go, Cond.selects RX12 yX12_go yX12_go, Cond.code yX12_go cX12_go 3 (some .boolean), Cond.methodLink RX12 104 yX12_isPerson, Cond.instanceMethod yX12_isPerson, Cond.selects RX12 yX12_isPerson yX12_isPerson, Cond.code yX12_isPerson cX12_isPerson 2 (some .boolean), Cond.methodLink RX12 107 yX12_isPlace, Cond.instanceMethod yX12_isPlace, Cond.selects RX12 yX12_isPlace yX12_isPlace]
def wsL_law_r19 : List Cond := [Cond.code yX12_isPlace cX12_isPlace 2 (some .boolean), Cond.methodLink RX12 101 yX12_isLot, Cond.instanceMethod yX12_isLot, Cond.selects RX12 yX12_isLot yX12_isLot, Cond.code yX12_isLot cX12_isLot 2 (some .boolean), Cond.methodLink RX12 94 yX12_personAt, Cond.instanceMethod yX12_personAt, Cond.selects RX12 yX12_personAt yX12_personAt, Cond.code yX12_personAt cX12_personAt 3 (some .int), Cond.methodLink RX12 110 yX12_freeIn, Cond.instanceMethod yX12_freeIn, Cond.selects RX12 yX12_freeIn yX12_freeIn, Cond.code yX12_freeIn cX12_freeIn 2 (some .int), Cond.methodLink RX12 97 yX12_manyAt, Cond.instanceMethod yX12_manyAt, Cond.selects RX12 yX12_manyAt yX12_manyAt, Cond.code yX12_manyAt cX12_manyAt 4 (some .int), Cond.methodLink RL 72 yX11_death, Cond.instanceMethod yX11_death, Cond.selects RX11 yX11_death yX11_death, Cond.code yX11_death cX11_death 2 (some .int), Cond.methodLink RX11 175 yX10_heirOf, Cond.instanceMethod yX10_heirOf, Cond.selects RX10 yX10_heirOf yX10_heirOf]
def wsL_law_r20 : List Cond := [Cond.code yX10_heirOf cX10_heirOf 4 (some .int), Cond.fieldLink RX10 67 "RingsUnder$World" "clock" "I", Cond.fieldLink RX10 146 "RingsUnder$Folk" "persons" "I", Cond.fieldLink RX10 240 "RingsUnder$Folk" "kin" "[I", Cond.fieldLink RX10 243 "RingsUnder$Folk" "place" "[I", Cond.methodLink RX10 134 yX3_line, Cond.instanceMethod yX3_line, Cond.selects RX3 yX3_line yX3_line, Cond.code yX3_line cX3_line 11 none, Cond.fieldLink RX3 60 "RingsUnder$Folk" "persons" "I", Cond.methodLink RX3 80 Lib.Math.min.name, Cond.static Lib.Math.min.name, Cond.code Lib.Math.min.name Lib.Math.min.code 2 (some .int), Cond.methodLink RX3 52 yX3_textFor, Cond.instanceMethod yX3_textFor, Cond.selects RX3 yX3_textFor yX3_textFor, Cond.code yX3_textFor cX3_textFor 5 (some (.object "RingsUnder$Text")), Cond.fieldLink RX3 37 "RingsUnder$Law" "forces" "I", Cond.methodLink RX3 44 yX8_firstOf, Cond.instanceMethod yX8_firstOf, Cond.selects RX8 yX8_firstOf yX8_firstOf, Cond.code yX8_firstOf cX8_firstOf 3 (some .int), Cond.fieldLink RX8 21 "RingsUnder$Text" "clauses" "I", Cond.methodLink RX3 85 yX8_isAhead]
def wsL_law_r21 : List Cond := [Cond.instanceMethod yX8_isAhead, Cond.selects RX8 yX8_isAhead yX8_isAhead, Cond.code yX8_isAhead cX8_isAhead 8 (some .boolean), Cond.methodLink RX8 33 Lib.Math.abs.name, Cond.static Lib.Math.abs.name, Cond.code Lib.Math.abs.name Lib.Math.abs.code 1 (some .int), Cond.methodLink RX8 38 yX0_valueOf, Cond.instanceMethod yX0_valueOf, Cond.selects RX0 yX0_valueOf yX0_valueOf, Cond.code yX0_valueOf cX0_valueOf 4 (some .int), Cond.methodLink RX8 44 yJ6_compare_7cf53, Cond.static yJ6_compare_7cf53, Cond.initialized RJ6, Cond.code yJ6_compare_7cf53 cJ6_compare_7cf53 2 (some .int), Cond.methodLink RX11 178 yX10_passTitles, Cond.instanceMethod yX10_passTitles, Cond.selects RX10 yX10_passTitles yX10_passTitles, Cond.code yX10_passTitles cX10_passTitles 5 (some .int), Cond.fieldLink RX10 104 "RingsUnder$Land" "cells" "I", Cond.methodLink RL 75 yX12_death, Cond.instanceMethod yX12_death, Cond.selects RX12 yX12_death yX12_death, Cond.code yX12_death cX12_death 6 (some .int), Cond.methodLink RX12 113 yX12_keysFor]
def wsL_law_r22 : List Cond := [Cond.instanceMethod yX12_keysFor, Cond.selects RX12 yX12_keysFor yX12_keysFor, Cond.code yX12_keysFor cX12_keysFor 4 (some .boolean), Cond.fieldLink RX12 307 "RingsUnderModel" "keys0" "I", Cond.methodLink RX12 275 yX12_textFor, Cond.instanceMethod yX12_textFor, Cond.selects RX12 yX12_textFor yX12_textFor, Cond.code yX12_textFor cX12_textFor 5 (some .int), Cond.methodLink RX12 272 yX12_firstOf, Cond.instanceMethod yX12_firstOf, Cond.selects RX12 yX12_firstOf yX12_firstOf, Cond.code yX12_firstOf cX12_firstOf 4 (some .int), Cond.methodLink RX12 266 yX12_clausesOf, Cond.instanceMethod yX12_clausesOf, Cond.selects RX12 yX12_clausesOf yX12_clausesOf, Cond.code yX12_clausesOf cX12_clausesOf 2 (some .int), Cond.methodLink RX12 269 yX12_clauseAt, Cond.instanceMethod yX12_clauseAt, Cond.selects RX12 yX12_clauseAt yX12_clauseAt, Cond.code yX12_clauseAt cX12_clauseAt 3 (some .int), Cond.methodLink RX12 117 yX12_isAhead, Cond.instanceMethod yX12_isAhead, Cond.selects RX12 yX12_isAhead yX12_isAhead, Cond.code yX12_isAhead cX12_isAhead 9 (some .boolean)]
def wsL_law_r23 : List Cond := [Cond.methodLink RX12 286 yX12_named, Cond.instanceMethod yX12_named, Cond.selects RX12 yX12_named yX12_named, Cond.code yX12_named cX12_named 5 (some .int), Cond.methodLink RL 76 yX11_title, Cond.instanceMethod yX11_title, Cond.selects RX11 yX11_title yX11_title, Cond.code yX11_title cX11_title 4 (some .boolean), Cond.fieldLink RX11 182 "RingsUnder$World" "holder" "[I", Cond.methodLink RL 79 yX12_title, Cond.instanceMethod yX12_title, Cond.selects RX12 yX12_title yX12_title, Cond.code yX12_title cX12_title 3 (some .boolean), Cond.methodLink RL 80 yX11_titleOf, Cond.instanceMethod yX11_titleOf, Cond.selects RX11 yX11_titleOf yX11_titleOf, Cond.code yX11_titleOf cX11_titleOf 3 (some .int), Cond.methodLink RX11 185 yX10_titleStands, Cond.instanceMethod yX10_titleStands, Cond.selects RX10 yX10_titleStands yX10_titleStands, Cond.code yX10_titleStands cX10_titleStands 3 (some .boolean), Cond.fieldLink RX10 233 "RingsUnder$Land" "under" "[I", Cond.methodLink RX10 230 yX10_wasDry, Cond.instanceMethod yX10_wasDry]
def wsL_law_r24 : List Cond := [Cond.selects RX10 yX10_wasDry yX10_wasDry, Cond.code yX10_wasDry cX10_wasDry 2 (some .int), Cond.methodLink RX10 222 yX2_isDry, Cond.instanceMethod yX2_isDry, Cond.selects RX2 yX2_isDry yX2_isDry, Cond.code yX2_isDry cX2_isDry 2 (some .boolean), Cond.fieldLink RX2 79 "RingsUnder$Land" "dry" "J", Cond.static yX11_hasBit, Cond.code yX11_hasBit cX11_hasBit 3 (some .boolean), Cond.methodLink RX10 236 yX3_lastsFor, Cond.instanceMethod yX3_lastsFor, Cond.selects RX3 yX3_lastsFor yX3_lastsFor, Cond.code yX3_lastsFor cX3_lastsFor 6 (some .boolean), Cond.methodLink RX3 69 yX3_nameAll, Cond.instanceMethod yX3_nameAll, Cond.selects RX3 yX3_nameAll yX3_nameAll, Cond.code yX3_nameAll cX3_nameAll 6 none, Cond.methodLink RX3 77 yX0_valueOf, Cond.methodLink RX3 73 yX8_firstSo, Cond.instanceMethod yX8_firstSo, Cond.selects RX8 yX8_firstSo yX8_firstSo, Cond.code yX8_firstSo cX8_firstSo 5 (some .int), Cond.methodLink RX8 29 yX8_work, Cond.instanceMethod yX8_work]
def wsL_law_r25 : List Cond := [Cond.selects RX8 yX8_work yX8_work, Cond.code yX8_work cX8_work 7 (some .int), Cond.methodLink RX8 50 yX8_join, Cond.static yX8_join, Cond.code yX8_join cX8_join 5 (some .int), Cond.constantLong RX8 53 (-1000000000), Cond.constantLong RX8 55 (1000000000), Cond.methodLink RX8 57 Lib.MathLoose.min_long.x, Cond.static Lib.MathLoose.min_long.x, Cond.code Lib.MathLoose.min_long.x Lib.MathLoose.min_long.code 4 (some .long), Cond.methodLink RX8 61 Lib.MathLoose.max_long.x, Cond.static Lib.MathLoose.max_long.x, Cond.code Lib.MathLoose.max_long.x Lib.MathLoose.max_long.code 4 (some .long), Cond.methodLink RL 83 yX12_titleOf, Cond.instanceMethod yX12_titleOf, Cond.selects RX12 yX12_titleOf yX12_titleOf, Cond.code yX12_titleOf cX12_titleOf 3 (some .int), Cond.methodLink RX12 124 yX12_stands, Cond.instanceMethod yX12_stands, Cond.selects RX12 yX12_stands yX12_stands, Cond.code yX12_stands cX12_stands 3 (some .boolean), Cond.methodLink RX12 120 yX12_firstSo, Cond.instanceMethod yX12_firstSo, Cond.selects RX12 yX12_firstSo yX12_firstSo]
def wsL_law_r26 : List Cond := [Cond.code yX12_firstSo cX12_firstSo 7 (some .int), Cond.methodLink RX12 297 yX12_isSo, Cond.instanceMethod yX12_isSo, Cond.selects RX12 yX12_isSo yX12_isSo, Cond.code yX12_isSo cX12_isSo 11 (some .boolean), Cond.methodLink RX12 289 yX12_two, Cond.static yX12_two, Cond.code yX12_two cX12_two 5 (some .long), Cond.methodLink RX12 282 yX12_clip, Cond.static yX12_clip, Cond.code yX12_clip cX12_clip 2 (some .long), Cond.constantLong RX12 278 (1000000000), Cond.constantLong RX12 280 (-1000000000), Cond.methodLink RX12 293 yX12_isAsked, Cond.static yX12_isAsked, Cond.code yX12_isAsked cX12_isAsked 5 (some .boolean), Cond.methodLink RL 84 yX11_feed, Cond.instanceMethod yX11_feed, Cond.selects RX11 yX11_feed yX11_feed, Cond.code yX11_feed cX11_feed 7 (some .int), Cond.fieldLink RX11 195 "RingsUnder$Reader" "scanner" "LRingsUnder$Scanner;", Cond.fieldLink RX11 199 "RingsUnder$Scanner" "length" "I", Cond.methodLink RX11 204 yX6_append, Cond.instanceMethod yX6_append]
def wsL_law_r27 : List Cond := [Cond.selects RX6 yX6_append yX6_append, Cond.code yX6_append cX6_append 3 none, Cond.fieldLink RX6 15 "RingsUnder$Scanner" "length" "I", Cond.methodLink RL 87 yX12_feed, Cond.instanceMethod yX12_feed, Cond.selects RX12 yX12_feed yX12_feed, Cond.code yX12_feed cX12_feed 6 (some .int), Cond.fieldLink RX12 127 "RingsUnderModel" "taped" "I", Cond.methodLink RX12 130 yX12_four, Cond.instanceMethod yX12_four, Cond.selects RX12 yX12_four yX12_four, Cond.code yX12_four cX12_four 3 none, Cond.methodLink RL 88 yX11_end, Cond.instanceMethod yX11_end, Cond.selects RX11 yX11_end yX11_end, Cond.code yX11_end cX11_end 2 (some .int), Cond.methodLink RL 91 yX12_end, Cond.instanceMethod yX12_end, Cond.selects RX12 yX12_end yX12_end, Cond.code yX12_end cX12_end 2 (some .int), Cond.methodLink RL 92 yX11_text, Cond.instanceMethod yX11_text, Cond.selects RX11 yX11_text yX11_text, Cond.code yX11_text cX11_text 3 (some .int)]
def wsL_law_r28 : List Cond := [Cond.fieldLink RX11 208 "RingsUnder$World" "law" "LRingsUnder$Law;", Cond.fieldLink RX11 212 "RingsUnder$Law" "textCount" "I", Cond.fieldLink RX11 221 "RingsUnder$Reader" "fault" "I", Cond.fieldLink RX11 224 "RingsUnder$Law" "texts" "[LRingsUnder$Text;", Cond.methodLink RX11 217 yX4_read, Cond.instanceMethod yX4_read, Cond.selects RX4 yX4_read yX4_read, Cond.code yX4_read cX4_read 2 (some (.object "RingsUnder$Text")), Cond.fieldLink RX4 36 "RingsUnder$Reader" "codes" "I", Cond.fieldLink RX4 45 "RingsUnder$Scanner" "token" "I", Cond.methodLink RX4 39 yX6_rewind, Cond.instanceMethod yX6_rewind, Cond.selects RX6 yX6_rewind yX6_rewind, Cond.code yX6_rewind cX6_rewind 1 none, Cond.fieldLink RX6 19 "RingsUnder$Scanner" "at" "I", Cond.methodLink RX4 42 yX6_advance, Cond.instanceMethod yX6_advance, Cond.selects RX6 yX6_advance yX6_advance, Cond.code yX6_advance cX6_advance 1 none, Cond.fieldLink RX6 22 "RingsUnder$Scanner" "start" "I", Cond.fieldLink RX6 25 "RingsUnder$Scanner" "token" "I", Cond.methodLink RX6 28 yX6_isDigit, Cond.static yX6_isDigit, Cond.code yX6_isDigit cX6_isDigit 1 (some .boolean)]
def wsL_law_r29 : List Cond := [Cond.methodLink RX6 32 yX6_takeNumber, Cond.instanceMethod yX6_takeNumber, Cond.selects RX6 yX6_takeNumber yX6_takeNumber, Cond.code yX6_takeNumber cX6_takeNumber 1 none, Cond.fieldLink RX6 48 "RingsUnder$Scanner" "value" "I", Cond.methodLink RX6 51 Lib.Math.min.name, Cond.methodLink RX6 35 yX6_isLetter, Cond.static yX6_isLetter, Cond.code yX6_isLetter cX6_isLetter 1 (some .boolean), Cond.methodLink RX6 38 yX6_takeWord, Cond.instanceMethod yX6_takeWord, Cond.selects RX6 yX6_takeWord yX6_takeWord, Cond.code yX6_takeWord cX6_takeWord 5 none, Cond.methodLink RX6 59 yJ0_length_8abf5, Cond.instanceMethod yJ0_length_8abf5, Cond.selects RJ0 yJ0_length_8abf5 yJ0_length_8abf5, Cond.initialized RJ0, Cond.code yJ0_length_8abf5 cJ0_length_8abf5 1 (some .int), Cond.fieldLink RJ0 9 "java/lang/String" "value" "[B", Cond.methodLink RJ0 335 yJ0_coder_7d493, Cond.instanceMethod yJ0_coder_7d493, Cond.selects RJ0 yJ0_coder_7d493 yJ0_coder_7d493, Cond.code yJ0_coder_7d493 cJ0_coder_7d493 1 (some .byte), Cond.fieldLink RJ0 38 "java/lang/String" "COMPACT_STRINGS" "Z"]
def wsL_law_r30 : List Cond := [Cond.fieldLink RJ0 15 "java/lang/String" "coder" "B", Cond.methodLink RX6 64 yJ0_charAt_5068e, Cond.instanceMethod yJ0_charAt_5068e, Cond.selects RJ0 yJ0_charAt_5068e yJ0_charAt_5068e, Cond.code yJ0_charAt_5068e cJ0_charAt_5068e 2 (some .char), Cond.methodLink RJ0 492 yJ0_isLatin1_aae02, Cond.instanceMethod yJ0_isLatin1_aae02, Cond.selects RJ0 yJ0_isLatin1_aae02 yJ0_isLatin1_aae02, Cond.code yJ0_isLatin1_aae02 cJ0_isLatin1_aae02 1 (some .boolean), Cond.methodLink RJ0 495 yJ1_charAt_3b067, Cond.static yJ1_charAt_3b067, Cond.initialized RJ1, Cond.code yJ1_charAt_3b067 cJ1_charAt_3b067 2 (some .char), Cond.methodLink RJ1 9 yJ0_checkIndex_df160, Cond.static yJ0_checkIndex_df160, Cond.code yJ0_checkIndex_df160 cJ0_checkIndex_df160 2 none, Cond.fieldLink RJ0 1053 "jdk/internal/util/Preconditions" "SIOOBE_FORMATTER" "Ljava/util/function/BiFunction;", Cond.methodLink RJ0 1059 yJ3_checkIndex_8e157, Cond.static yJ3_checkIndex_8e157, Cond.initialized RJ3, Cond.code yJ3_checkIndex_8e157 cJ3_checkIndex_8e157 3 (some .int), Cond.methodLink RJ0 498 yJ2_charAt_3b067, Cond.static yJ2_charAt_3b067, Cond.initialized RJ2]
def wsL_law_r31 : List Cond := [Cond.code yJ2_charAt_3b067 cJ2_charAt_3b067 2 (some .char), Cond.methodLink RJ2 67 yJ2_checkIndex_2214a, Cond.static yJ2_checkIndex_2214a, Cond.code yJ2_checkIndex_2214a cJ2_checkIndex_2214a 2 none, Cond.methodLink RJ2 48 yJ2_length_9d52b, Cond.static yJ2_length_9d52b, Cond.code yJ2_length_9d52b cJ2_length_9d52b 1 (some .int), Cond.methodLink RJ2 414 yJ0_checkIndex_df160, Cond.methodLink RJ2 71 yJ2_getChar_3b067, Cond.static yJ2_getChar_3b067, Cond.code yJ2_getChar_3b067 cJ2_getChar_3b067 2 (some .char), Cond.fieldLink RJ2 44 "java/lang/StringUTF16" "$assertionsDisabled" "Z", Cond.fieldLink RJ2 59 "java/lang/StringUTF16" "HI_BYTE_SHIFT" "I", Cond.fieldLink RJ2 63 "java/lang/StringUTF16" "LO_BYTE_SHIFT" "I", Cond.methodLink RX6 41 yX6_signOf, Cond.static yX6_signOf, Cond.code yX6_signOf cX6_signOf 1 (some .int), Cond.methodLink RX6 45 yX6_takeLonger, Cond.instanceMethod yX6_takeLonger, Cond.selects RX6 yX6_takeLonger yX6_takeLonger, Cond.code yX6_takeLonger cX6_takeLonger 2 none, Cond.methodLink RX4 48 yX4_readClause, Cond.instanceMethod yX4_readClause, Cond.selects RX4 yX4_readClause yX4_readClause]
def wsL_law_r32 : List Cond := [Cond.code yX4_readClause cX4_readClause 2 none, Cond.fieldLink RX4 65 "RingsUnder$Text" "clauses" "I", Cond.fieldLink RX4 68 "RingsUnder$Text" "sorts" "[I", Cond.fieldLink RX4 83 "RingsUnder$Text" "from" "[I", Cond.methodLink RX4 57 yX4_refuse, Cond.instanceMethod yX4_refuse, Cond.selects RX4 yX4_refuse yX4_refuse, Cond.code yX4_refuse cX4_refuse 2 none, Cond.fieldLink RX4 51 "RingsUnder$Scanner" "start" "I", Cond.methodLink RX4 61 yX8_firstOf, Cond.methodLink RX4 71 yX4_readEither, Cond.instanceMethod yX4_readEither, Cond.selects RX4 yX4_readEither yX4_readEither, Cond.code yX4_readEither cX4_readEither 3 none, Cond.fieldLink RX4 102 "RingsUnder$Reader" "waits" "I", Cond.fieldLink RX4 105 "RingsUnder$Reader" "open" "I", Cond.fieldLink RX4 108 "RingsUnder$Reader" "brackets" "I", Cond.fieldLink RX4 111 "RingsUnder$Reader" "atAsk" "Z", Cond.fieldLink RX4 115 "RingsUnder$Reader" "compared" "Z", Cond.fieldLink RX4 118 "RingsUnder$Reader" "closed" "Z", Cond.methodLink RX4 121 yX4_readOne, Cond.instanceMethod yX4_readOne, Cond.selects RX4 yX4_readOne yX4_readOne, Cond.code yX4_readOne cX4_readOne 2 (some .boolean)]
def wsL_law_r33 : List Cond := [Cond.fieldLink RX4 86 "RingsUnder$Scanner" "value" "I", Cond.methodLink RX4 89 yX4_emit, Cond.instanceMethod yX4_emit, Cond.selects RX4 yX4_emit yX4_emit, Cond.code yX4_emit cX4_emit 2 none, Cond.fieldLink RX4 54 "RingsUnder$Text" "code" "[I", Cond.methodLink RX4 98 yX4_isName, Cond.static yX4_isName, Cond.code yX4_isName cX4_isName 1 (some .boolean), Cond.methodLink RX4 128 yX4_openUp, Cond.instanceMethod yX4_openUp, Cond.selects RX4 yX4_openUp yX4_openUp, Cond.code yX4_openUp cX4_openUp 2 none, Cond.methodLink RX4 131 yX4_await, Cond.instanceMethod yX4_await, Cond.selects RX4 yX4_await yX4_await, Cond.code yX4_await cX4_await 2 none, Cond.methodLink RX4 125 yX4_readBehindOne, Cond.instanceMethod yX4_readBehindOne, Cond.selects RX4 yX4_readBehindOne yX4_readBehindOne, Cond.code yX4_readBehindOne cX4_readBehindOne 2 (some .boolean), Cond.methodLink RX4 140 Lib.Math.max.name, Cond.methodLink RX4 134 yX4_rank, Cond.static yX4_rank]
def wsL_law_r34 : List Cond := [Cond.code yX4_rank cX4_rank 1 (some .int), Cond.methodLink RX4 137 yX4_settle, Cond.instanceMethod yX4_settle, Cond.selects RX4 yX4_settle yX4_settle, Cond.code yX4_settle cX4_settle 3 none, Cond.methodLink RX4 74 yX4_readKeys, Cond.instanceMethod yX4_readKeys, Cond.selects RX4 yX4_readKeys yX4_readKeys, Cond.code yX4_readKeys cX4_readKeys 3 none, Cond.methodLink RX4 95 yX4_readKey, Cond.instanceMethod yX4_readKey, Cond.selects RX4 yX4_readKey yX4_readKey, Cond.code yX4_readKey cX4_readKey 3 none, Cond.methodLink RX4 92 yX4_expectSemicolon, Cond.instanceMethod yX4_expectSemicolon, Cond.selects RX4 yX4_expectSemicolon yX4_expectSemicolon, Cond.code yX4_expectSemicolon cX4_expectSemicolon 1 none, Cond.methodLink RX4 77 yX4_mostOf, Cond.static yX4_mostOf, Cond.code yX4_mostOf cX4_mostOf 1 (some .int), Cond.methodLink RX4 80 yX4_readNumber, Cond.instanceMethod yX4_readNumber, Cond.selects RX4 yX4_readNumber yX4_readNumber, Cond.code yX4_readNumber cX4_readNumber 2 none]
def wsL_law_r35 : List Cond := [Cond.methodLink RL 95 yX12_text, Cond.instanceMethod yX12_text, Cond.selects RX12 yX12_text yX12_text, Cond.code yX12_text cX12_text 1 (some .int), Cond.fieldLink RX12 140 "RingsUnderModel" "place" "I", Cond.fieldLink RX12 172 "RingsUnderModel" "text0" "I", Cond.fieldLink RX12 248 "RingsUnderModel" "clauses" "I", Cond.methodLink RX12 263 yX12_readText, Cond.instanceMethod yX12_readText, Cond.selects RX12 yX12_readText yX12_readText, Cond.code yX12_readText cX12_readText 2 (some .int), Cond.fieldLink RX12 175 "RingsUnderModel" "written" "I", Cond.fieldLink RX12 185 "RingsUnderModel" "opens" "I", Cond.fieldLink RX12 245 "RingsUnderModel" "came" "I", Cond.fieldLink RX12 134 "RingsUnderModel" "at" "I", Cond.fieldLink RX12 143 "RingsUnderModel" "token" "I", Cond.methodLink RX12 196 yX12_nextToken, Cond.instanceMethod yX12_nextToken, Cond.selects RX12 yX12_nextToken yX12_nextToken, Cond.code yX12_nextToken cX12_nextToken 3 none, Cond.fieldLink RX12 149 "RingsUnderModel" "number" "I", Cond.constant RX12 152 (100000), Cond.fieldLink RX12 156 "RingsUnderModel" "word" "J", Cond.methodLink RX12 137 yX12_see]
def wsL_law_r36 : List Cond := [Cond.instanceMethod yX12_see, Cond.selects RX12 yX12_see yX12_see, Cond.code yX12_see cX12_see 2 (some .int), Cond.methodLink RX12 146 yX12_isDigit, Cond.static yX12_isDigit, Cond.code yX12_isDigit cX12_isDigit 1 (some .boolean), Cond.methodLink RX12 153 yX12_isLetter, Cond.static yX12_isLetter, Cond.code yX12_isLetter cX12_isLetter 1 (some .boolean), Cond.methodLink RX12 260 yX12_clause, Cond.instanceMethod yX12_clause, Cond.selects RX12 yX12_clause yX12_clause, Cond.code yX12_clause cX12_clause 4 (some .int), Cond.methodLink RX12 242 yX12_sortOf, Cond.instanceMethod yX12_sortOf, Cond.selects RX12 yX12_sortOf yX12_sortOf, Cond.code yX12_sortOf cX12_sortOf 1 (some .int), Cond.constantLong RX12 240 (108), Cond.methodLink RX12 168 yX12_w5, Cond.static yX12_w5, Cond.code yX12_w5 cX12_w5 5 (some .long), Cond.methodLink RX12 164 yX12_w4, Cond.static yX12_w4, Cond.code yX12_w4 cX12_w4 4 (some .long)]
def wsL_law_r37 : List Cond := [Cond.methodLink RX12 160 yX12_w3, Cond.static yX12_w3, Cond.code yX12_w3 cX12_w3 3 (some .long), Cond.methodLink RX12 236 yX12_w6, Cond.static yX12_w6, Cond.code yX12_w6 cX12_w6 6 (some .long), Cond.methodLink RX12 251 yX12_either, Cond.instanceMethod yX12_either, Cond.selects RX12 yX12_either yX12_either, Cond.code yX12_either cX12_either 6 (some .int), Cond.constantLong RX12 234 (28530), Cond.methodLink RX12 231 yX12_ask, Cond.instanceMethod yX12_ask, Cond.selects RX12 yX12_ask yX12_ask, Cond.code yX12_ask cX12_ask 5 (some .int), Cond.methodLink RX12 221 yX12_isWord, Cond.instanceMethod yX12_isWord, Cond.selects RX12 yX12_isWord yX12_isWord, Cond.code yX12_isWord cX12_isWord 3 (some .boolean), Cond.methodLink RX12 225 yX12_sum, Cond.instanceMethod yX12_sum, Cond.selects RX12 yX12_sum yX12_sum, Cond.code yX12_sum cX12_sum 2 (some .int), Cond.fieldLink RX12 178 "RingsUnderModel" "piled" "I"]
def wsL_law_r38 : List Cond := [Cond.fieldLink RX12 181 "RingsUnderModel" "isWhole" "Z", Cond.methodLink RX12 212 yX12_goesOn, Cond.instanceMethod yX12_goesOn, Cond.selects RX12 yX12_goesOn yX12_goesOn, Cond.code yX12_goesOn cX12_goesOn 1 (some .boolean), Cond.methodLink RX12 205 yX12_hasParen, Cond.instanceMethod yX12_hasParen, Cond.selects RX12 yX12_hasParen yX12_hasParen, Cond.code yX12_hasParen cX12_hasParen 2 (some .boolean), Cond.methodLink RX12 215 yX12_behindOne, Cond.instanceMethod yX12_behindOne, Cond.selects RX12 yX12_behindOne yX12_behindOne, Cond.code yX12_behindOne cX12_behindOne 3 none, Cond.methodLink RX12 209 yX12_settle, Cond.instanceMethod yX12_settle, Cond.selects RX12 yX12_settle yX12_settle, Cond.code yX12_settle cX12_settle 2 none, Cond.methodLink RX12 188 yX12_emit, Cond.instanceMethod yX12_emit, Cond.selects RX12 yX12_emit yX12_emit, Cond.code yX12_emit cX12_emit 3 none, Cond.methodLink RX12 199 yX12_whole, Cond.instanceMethod yX12_whole, Cond.selects RX12 yX12_whole yX12_whole]
def wsL_law_r39 : List Cond := [Cond.code yX12_whole cX12_whole 1 none, Cond.methodLink RX12 202 yX12_push, Cond.instanceMethod yX12_push, Cond.selects RX12 yX12_push yX12_push, Cond.code yX12_push cX12_push 2 none, Cond.methodLink RX12 218 yX12_beginOne, Cond.instanceMethod yX12_beginOne, Cond.selects RX12 yX12_beginOne yX12_beginOne, Cond.code yX12_beginOne cX12_beginOne 1 (some .int), Cond.methodLink RX12 192 yX12_nameOf, Cond.instanceMethod yX12_nameOf, Cond.selects RX12 yX12_nameOf yX12_nameOf, Cond.code yX12_nameOf cX12_nameOf 1 (some .int), Cond.methodLink RX12 228 yX12_compareOf, Cond.instanceMethod yX12_compareOf, Cond.selects RX12 yX12_compareOf yX12_compareOf, Cond.code yX12_compareOf cX12_compareOf 1 (some .int), Cond.methodLink RX12 254 yX12_keys, Cond.instanceMethod yX12_keys, Cond.selects RX12 yX12_keys yX12_keys, Cond.code yX12_keys cX12_keys 4 (some .int), Cond.methodLink RX12 257 yX12_take, Cond.instanceMethod yX12_take, Cond.selects RX12 yX12_take yX12_take]
def wsL_law_r40 : List Cond := [Cond.code yX12_take cX12_take 3 (some .int), Cond.methodLink RL 96 yX11_fault, Cond.instanceMethod yX11_fault, Cond.selects RX11 yX11_fault yX11_fault, Cond.code yX11_fault cX11_fault 2 (some .int), Cond.fieldLink RX11 228 "RingsUnder$Reader" "place" "I", Cond.methodLink RL 99 yX12_fault, Cond.instanceMethod yX12_fault, Cond.selects RX12 yX12_fault yX12_fault, Cond.code yX12_fault cX12_fault 2 (some .int), Cond.methodLink RL 100 yX11_force, Cond.instanceMethod yX11_force, Cond.selects RX11 yX11_force yX11_force, Cond.code yX11_force cX11_force 6 (some .int), Cond.fieldLink RX11 230 "RingsUnder$Law" "forces" "I", Cond.methodLink RX11 233 yX3_addForce, Cond.instanceMethod yX3_addForce, Cond.selects RX3 yX3_addForce yX3_addForce, Cond.code yX3_addForce cX3_addForce 4 (some .int), Cond.methodLink RL 103 yX12_force, Cond.instanceMethod yX12_force, Cond.selects RX12 yX12_force yX12_force, Cond.code yX12_force cX12_force 5 (some .int), Cond.methodLink RL 104 yX11_is]
def wsL_law_r41 : List Cond := [Cond.instanceMethod yX11_is, Cond.selects RX11 yX11_is yX11_is, Cond.code yX11_is cX11_is 4 (some .int), Cond.methodLink RX11 236 yX3_whoIsSo, Cond.instanceMethod yX3_whoIsSo, Cond.selects RX3 yX3_whoIsSo yX3_whoIsSo, Cond.code yX3_whoIsSo cX3_whoIsSo 10 (some .long), Cond.methodLink RL 107 yX12_is, Cond.instanceMethod yX12_is, Cond.selects RX12 yX12_is yX12_is, Cond.code yX12_is cX12_is 4 (some .int), Cond.methodLink RX12 301 yX12_isFor, Cond.instanceMethod yX12_isFor, Cond.selects RX12 yX12_isFor yX12_isFor, Cond.code yX12_isFor cX12_isFor 4 (some .boolean), Cond.methodLink RL 108 yX11_why, Cond.instanceMethod yX11_why, Cond.selects RX11 yX11_why yX11_why, Cond.code yX11_why cX11_why 4 (some .int), Cond.methodLink RX11 240 yX3_clauseBy, Cond.instanceMethod yX3_clauseBy, Cond.selects RX3 yX3_clauseBy yX3_clauseBy, Cond.code yX3_clauseBy cX3_clauseBy 6 (some .int), Cond.methodLink RL 111 yX12_why]
def wsL_law_r42 : List Cond := [Cond.instanceMethod yX12_why, Cond.selects RX12 yX12_why yX12_why, Cond.code yX12_why cX12_why 4 (some .int), Cond.methodLink RL 112 yX11_says, Cond.instanceMethod yX11_says, Cond.selects RX11 yX11_says yX11_says, Cond.code yX11_says cX11_says 3 (some .int), Cond.methodLink RX11 244 yX3_councilIn, Cond.instanceMethod yX3_councilIn, Cond.selects RX3 yX3_councilIn yX3_councilIn, Cond.code yX3_councilIn cX3_councilIn 2 (some .int), Cond.methodLink RX3 48 yX3_numberIn, Cond.instanceMethod yX3_numberIn, Cond.selects RX3 yX3_numberIn yX3_numberIn, Cond.code yX3_numberIn cX3_numberIn 5 (some .int), Cond.methodLink RX3 56 yX8_numberOf, Cond.instanceMethod yX8_numberOf, Cond.selects RX8 yX8_numberOf yX8_numberOf, Cond.code yX8_numberOf cX8_numberOf 4 (some .int), Cond.methodLink RX8 25 yX8_firstOf, Cond.methodLink RX11 247 yX3_leaveIn, Cond.instanceMethod yX3_leaveIn, Cond.selects RX3 yX3_leaveIn yX3_leaveIn, Cond.code yX3_leaveIn cX3_leaveIn 2 (some .int)]
def wsL_law_r43 : List Cond := [Cond.methodLink RX11 250 yX3_fixIn, Cond.instanceMethod yX3_fixIn, Cond.selects RX3 yX3_fixIn yX3_fixIn, Cond.code yX3_fixIn cX3_fixIn 2 (some .int), Cond.methodLink RL 115 yX12_says, Cond.instanceMethod yX12_says, Cond.selects RX12 yX12_says yX12_says, Cond.code yX12_says cX12_says 3 (some .int), Cond.methodLink RX12 304 yX12_numberOf, Cond.instanceMethod yX12_numberOf, Cond.selects RX12 yX12_numberOf yX12_numberOf, Cond.code yX12_numberOf cX12_numberOf 5 (some .int), Cond.methodLink RL 116 yX11_sail, Cond.instanceMethod yX11_sail, Cond.selects RX11 yX11_sail yX11_sail, Cond.code yX11_sail cX11_sail 3 (some .boolean), Cond.constant RX11 253 (100000), Cond.fieldLink RX11 254 "RingsUnder$World" "boats" "I", Cond.fieldLink RX11 257 "RingsUnder$World" "fund" "I", Cond.methodLink RL 119 yX12_sail, Cond.instanceMethod yX12_sail, Cond.selects RX12 yX12_sail yX12_sail, Cond.code yX12_sail cX12_sail 3 (some .boolean), Cond.methodLink RL 120 yX11_months]
def wsL_law_r44 : List Cond := [Cond.instanceMethod yX11_months, Cond.selects RX11 yX11_months yX11_months, Cond.code yX11_months cX11_months 4 (some .int), Cond.methodLink RX11 260 yX11_canGoBy, Cond.instanceMethod yX11_canGoBy, Cond.selects RX11 yX11_canGoBy yX11_canGoBy, Cond.code yX11_canGoBy cX11_canGoBy 4 (some .boolean), Cond.methodLink RX11 263 yX10_goBy, Cond.instanceMethod yX10_goBy, Cond.selects RX10 yX10_goBy yX10_goBy, Cond.code yX10_goBy cX10_goBy 4 none, Cond.fieldLink RX10 100 "RingsUnder$Land" "wells" "LRingsUnder$Wells;", Cond.fieldLink RX10 107 "RingsUnder$Land" "dry" "J", Cond.fieldLink RX10 111 "RingsUnder$Seas" "rain" "[I", Cond.fieldLink RX10 73 "RingsUnder$World" "boats" "I", Cond.methodLink RX10 96 yX10_nature, Cond.instanceMethod yX10_nature, Cond.selects RX10 yX10_nature yX10_nature, Cond.code yX10_nature cX10_nature 4 none, Cond.fieldLink RX10 157 "RingsUnder$Seas" "warm" "[I", Cond.fieldLink RX10 160 "RingsUnder$Seas" "bear" "I", Cond.fieldLink RX10 163 "RingsUnder$Seas" "grow" "I", Cond.fieldLink RX10 166 "RingsUnder$Seas" "die" "I", Cond.fieldLink RX10 172 "RingsUnder$Seas" "drift" "[I"]
def wsL_law_r45 : List Cond := [Cond.fieldLink RX10 178 "RingsUnder$Seas" "high" "[I", Cond.fieldLink RX10 181 "RingsUnder$Seas" "low" "[I", Cond.methodLink RX10 153 yX7_known, Cond.methodLink RX10 169 yX2_growReef, Cond.instanceMethod yX2_growReef, Cond.selects RX2 yX2_growReef yX2_growReef, Cond.code yX2_growReef cX2_growReef 3 none, Cond.methodLink RX2 105 Lib.Math.min.name, Cond.methodLink RX2 111 Lib.Math.max.name, Cond.methodLink RX10 175 yX2_walk, Cond.instanceMethod yX2_walk, Cond.selects RX2 yX2_walk yX2_walk, Cond.code yX2_walk cX2_walk 3 none, Cond.fieldLink RX2 76 "RingsUnder$Land" "deep" "I", Cond.methodLink RX10 184 yX2_tide, Cond.instanceMethod yX2_tide, Cond.selects RX2 yX2_tide yX2_tide, Cond.code yX2_tide cX2_tide 8 none, Cond.methodLink RX2 114 yX2_topOf, Cond.instanceMethod yX2_topOf, Cond.selects RX2 yX2_topOf yX2_topOf, Cond.code yX2_topOf cX2_topOf 2 (some .int), Cond.methodLink RX10 188 yX2_giveUpBeds, Cond.instanceMethod yX2_giveUpBeds]
def wsL_law_r46 : List Cond := [Cond.selects RX2 yX2_giveUpBeds yX2_giveUpBeds, Cond.code yX2_giveUpBeds cX2_giveUpBeds 2 none, Cond.methodLink RX2 118 yX2_isDry, Cond.methodLink RX10 114 yX9_fillUp, Cond.instanceMethod yX9_fillUp, Cond.selects RX9 yX9_fillUp yX9_fillUp, Cond.code yX9_fillUp cX9_fillUp 6 none, Cond.methodLink RX9 33 Lib.Math.min.name, Cond.methodLink RX9 39 Lib.Math.max.name, Cond.methodLink RX9 25 yX9_isAt, Cond.methodLink RX10 120 yX2_countBeds, Cond.instanceMethod yX2_countBeds, Cond.selects RX2 yX2_countBeds yX2_countBeds, Cond.code yX2_countBeds cX2_countBeds 4 none, Cond.methodLink RX10 123 yX0_drink, Cond.instanceMethod yX0_drink, Cond.selects RX0 yX0_drink yX0_drink, Cond.code yX0_drink cX0_drink 5 (some .int), Cond.fieldLink RX0 77 "RingsUnder$Land" "first" "[I", Cond.fieldLink RX0 85 "RingsUnder$Land" "wells" "LRingsUnder$Wells;", Cond.fieldLink RX0 89 "RingsUnder$Wells" "lens" "[I", Cond.static yX11_copy, Cond.code yX11_copy cX11_copy 2 none, Cond.methodLink RX11 378 Lib.Math.min.name]
def wsL_law_r47 : List Cond := [Cond.methodLink RX11 383 arraycopyName, Cond.native arraycopyName, Cond.static arraycopyName, Cond.initialized "java/lang/System", Cond.methodLink RX0 65 yX0_isOnRing, Cond.instanceMethod yX0_isOnRing, Cond.selects RX0 yX0_isOnRing yX0_isOnRing, Cond.code yX0_isOnRing cX0_isOnRing 2 (some .boolean), Cond.methodLink RX0 82 yX2_sweetFrom, Cond.instanceMethod yX2_sweetFrom, Cond.selects RX2 yX2_sweetFrom yX2_sweetFrom, Cond.code yX2_sweetFrom cX2_sweetFrom 4 (some .int), Cond.methodLink RX2 122 yX9_isSweet, Cond.instanceMethod yX9_isSweet, Cond.selects RX9 yX9_isSweet yX9_isSweet, Cond.code yX9_isSweet cX9_isSweet 2 (some .boolean), Cond.methodLink RX10 127 yX0_sleep, Cond.instanceMethod yX0_sleep, Cond.selects RX0 yX0_sleep yX0_sleep, Cond.code yX0_sleep cX0_sleep 5 (some .int), Cond.methodLink RX0 94 arraycopyName, Cond.methodLink RX10 131 yX10_reckon, Cond.instanceMethod yX10_reckon, Cond.selects RX10 yX10_reckon yX10_reckon]
def wsL_law_r48 : List Cond := [Cond.code yX10_reckon cX10_reckon 3 none, Cond.fieldLink RX10 195 "RingsUnder$Land" "rocks" "[J", Cond.fieldLink RX10 199 "RingsUnder$Seas" "reach" "I", Cond.fieldLink RX10 70 "RingsUnder$World" "fund" "I", Cond.fieldLink RX10 213 "RingsUnder$Seas" "cost" "I", Cond.methodLink RX10 191 yX3_fixIn, Cond.methodLink RX10 202 yX2_countArea, Cond.instanceMethod yX2_countArea, Cond.selects RX2 yX2_countArea yX2_countArea, Cond.code yX2_countArea cX2_countArea 6 (some .int), Cond.methodLink RX2 125 yX2_measure, Cond.instanceMethod yX2_measure, Cond.selects RX2 yX2_measure yX2_measure, Cond.code yX2_measure cX2_measure 4 none, Cond.methodLink RX2 129 yX2_mark, Cond.instanceMethod yX2_mark, Cond.selects RX2 yX2_mark yX2_mark, Cond.code yX2_mark cX2_mark 10 none, Cond.methodLink RX2 138 Lib.Math.abs.name, Cond.methodLink RX2 133 yJ6_bitCount_0f7a4, Cond.static yJ6_bitCount_0f7a4, Cond.code yJ6_bitCount_0f7a4 cJ6_bitCount_0f7a4 1 (some .int), Cond.constant RJ6 265 (1431655765), Cond.constant RJ6 266 (858993459)]
def wsL_law_r49 : List Cond := [Cond.constant RJ6 267 (252645135), Cond.methodLink RX10 206 yX0_sendings, Cond.instanceMethod yX0_sendings, Cond.selects RX0 yX0_sendings yX0_sendings, Cond.code yX0_sendings cX0_sendings 3 (some .int), Cond.methodLink RX10 210 yX3_leaveIn, Cond.methodLink RX10 216 yX2_countWalls, Cond.instanceMethod yX2_countWalls, Cond.selects RX2 yX2_countWalls yX2_countWalls, Cond.code yX2_countWalls cX2_countWalls 3 (some .int), Cond.methodLink RX10 138 yX0_onRings, Cond.instanceMethod yX0_onRings, Cond.selects RX0 yX0_onRings yX0_onRings, Cond.code yX0_onRings cX0_onRings 4 (some .long), Cond.methodLink RX10 142 yX3_whoIsSo, Cond.methodLink RX10 149 yX0_board, Cond.instanceMethod yX0_board, Cond.selects RX0 yX0_board yX0_board, Cond.code yX0_board cX0_board 11 none, Cond.fieldLink RX0 62 "RingsUnder$Folk" "lots" "I", Cond.methodLink RX0 100 yX0_countGroups, Cond.instanceMethod yX0_countGroups, Cond.selects RX0 yX0_countGroups yX0_countGroups, Cond.code yX0_countGroups cX0_countGroups 4 none]
def wsL_law_r50 : List Cond := [Cond.methodLink RX0 107 yX0_groupOf, Cond.instanceMethod yX0_groupOf, Cond.selects RX0 yX0_groupOf yX0_groupOf, Cond.code yX0_groupOf cX0_groupOf 2 (some .int), Cond.methodLink RX0 104 yX0_freeBeds, Cond.methodLink RX0 110 yX0_takeLot, Cond.instanceMethod yX0_takeLot, Cond.selects RX0 yX0_takeLot yX0_takeLot, Cond.code yX0_takeLot cX0_takeLot 3 (some .int), Cond.methodLink RL 123 yX12_months, Cond.instanceMethod yX12_months, Cond.selects RX12 yX12_months yX12_months, Cond.code yX12_months cX12_months 4 (some .int), Cond.methodLink RX12 369 yX12_isTime, Cond.instanceMethod yX12_isTime, Cond.selects RX12 yX12_isTime yX12_isTime, Cond.code yX12_isTime cX12_isTime 4 (some .boolean), Cond.methodLink RX12 372 yX12_month, Cond.instanceMethod yX12_month, Cond.selects RX12 yX12_month yX12_month, Cond.code yX12_month cX12_month 3 none, Cond.methodLink RX12 348 yX12_reefGoes, Cond.instanceMethod yX12_reefGoes, Cond.selects RX12 yX12_reefGoes yX12_reefGoes]
def wsL_law_r51 : List Cond := [Cond.code yX12_reefGoes cX12_reefGoes 4 none, Cond.methodLink RX12 310 yX12_tableAt, Cond.instanceMethod yX12_tableAt, Cond.selects RX12 yX12_tableAt yX12_tableAt, Cond.code yX12_tableAt cX12_tableAt 3 (some .int), Cond.methodLink RX12 351 yX12_sandGoes, Cond.instanceMethod yX12_sandGoes, Cond.selects RX12 yX12_sandGoes yX12_sandGoes, Cond.code yX12_sandGoes cX12_sandGoes 4 none, Cond.methodLink RX12 354 yX12_seaStands, Cond.instanceMethod yX12_seaStands, Cond.selects RX12 yX12_seaStands yX12_seaStands, Cond.code yX12_seaStands cX12_seaStands 9 none, Cond.methodLink RX12 313 yX12_topOf, Cond.instanceMethod yX12_topOf, Cond.selects RX12 yX12_topOf yX12_topOf, Cond.code yX12_topOf cX12_topOf 2 (some .int), Cond.methodLink RX12 357 yX12_drink, Cond.instanceMethod yX12_drink, Cond.selects RX12 yX12_drink yX12_drink, Cond.code yX12_drink cX12_drink 3 none, Cond.methodLink RX12 316 yX12_isOnRing, Cond.instanceMethod yX12_isOnRing, Cond.selects RX12 yX12_isOnRing yX12_isOnRing]
def wsL_law_r52 : List Cond := [Cond.code yX12_isOnRing cX12_isOnRing 2 (some .boolean), Cond.methodLink RX12 319 yX12_isSweet, Cond.instanceMethod yX12_isSweet, Cond.selects RX12 yX12_isSweet yX12_isSweet, Cond.code yX12_isSweet cX12_isSweet 3 (some .boolean), Cond.methodLink RX12 360 yX12_sleep, Cond.instanceMethod yX12_sleep, Cond.selects RX12 yX12_sleep yX12_sleep, Cond.code yX12_sleep cX12_sleep 4 none, Cond.methodLink RX12 363 yX12_fundGoes, Cond.instanceMethod yX12_fundGoes, Cond.selects RX12 yX12_fundGoes yX12_fundGoes, Cond.code yX12_fundGoes cX12_fundGoes 3 none, Cond.fieldLink RX12 325 "RingsUnderModel" "cantNow" "I", Cond.fieldLink RX12 328 "RingsUnderModel" "lawless" "I", Cond.methodLink RX12 331 yX12_areaOf, Cond.instanceMethod yX12_areaOf, Cond.selects RX12 yX12_areaOf yX12_areaOf, Cond.code yX12_areaOf cX12_areaOf 10 (some .int), Cond.methodLink RX12 322 yX12_wasRock, Cond.instanceMethod yX12_wasRock, Cond.selects RX12 yX12_wasRock yX12_wasRock, Cond.code yX12_wasRock cX12_wasRock 3 (some .boolean), Cond.methodLink RX12 366 yX12_boatsGo]
def wsL_law_r53 : List Cond := [Cond.instanceMethod yX12_boatsGo, Cond.selects RX12 yX12_boatsGo yX12_boatsGo, Cond.code yX12_boatsGo cX12_boatsGo 6 none, Cond.methodLink RX12 334 yX12_goesAhead, Cond.instanceMethod yX12_goesAhead, Cond.selects RX12 yX12_goesAhead yX12_goesAhead, Cond.code yX12_goesAhead cX12_goesAhead 5 (some .boolean), Cond.methodLink RX12 338 yX12_family, Cond.instanceMethod yX12_family, Cond.selects RX12 yX12_family yX12_family, Cond.code yX12_family cX12_family 9 (some .int), Cond.methodLink RX12 341 yX12_isOfKin, Cond.instanceMethod yX12_isOfKin, Cond.selects RX12 yX12_isOfKin yX12_isOfKin, Cond.code yX12_isOfKin cX12_isOfKin 4 (some .boolean), Cond.methodLink RX12 344 yX12_sails, Cond.instanceMethod yX12_sails, Cond.selects RX12 yX12_sails yX12_sails, Cond.code yX12_sails cX12_sails 4 none, Cond.methodLink RL 124 yX11_cellOf, Cond.instanceMethod yX11_cellOf, Cond.selects RX11 yX11_cellOf yX11_cellOf, Cond.code yX11_cellOf cX11_cellOf 4 (some .int), Cond.fieldLink RX11 295 "RingsUnder$Land" "ring" "[I"]
def wsL_law_r54 : List Cond := [Cond.fieldLink RX11 298 "RingsUnder$Land" "height" "[I", Cond.fieldLink RX11 301 "RingsUnder$Land" "sand" "[I", Cond.fieldLink RX11 304 "RingsUnder$Land" "reef" "[I", Cond.fieldLink RX11 310 "RingsUnder$Wells" "lens" "[I", Cond.fieldLink RX11 313 "RingsUnder$Wells" "salt" "[I", Cond.fieldLink RX11 316 "RingsUnder$Land" "under" "[I", Cond.methodLink RX11 307 yX2_topOf, Cond.methodLink RX11 319 yX10_wasDry, Cond.methodLink RX11 322 yX10_wasRock, Cond.instanceMethod yX10_wasRock, Cond.selects RX10 yX10_wasRock yX10_wasRock, Cond.code yX10_wasRock cX10_wasRock 2 (some .int), Cond.methodLink RL 127 yX12_cellOf, Cond.instanceMethod yX12_cellOf, Cond.selects RX12 yX12_cellOf yX12_cellOf, Cond.code yX12_cellOf cX12_cellOf 3 (some .int), Cond.methodLink RL 128 yX11_personOf, Cond.instanceMethod yX11_personOf, Cond.selects RX11 yX11_personOf yX11_personOf, Cond.code yX11_personOf cX11_personOf 4 (some .int), Cond.fieldLink RX11 325 "RingsUnder$Folk" "kin" "[I", Cond.fieldLink RX11 328 "RingsUnder$Folk" "age" "[I", Cond.fieldLink RX11 331 "RingsUnder$Folk" "craft" "[I", Cond.fieldLink RX11 334 "RingsUnder$Folk" "send" "[I"]
def wsL_law_r55 : List Cond := [Cond.fieldLink RX11 337 "RingsUnder$Folk" "thirst" "[I", Cond.fieldLink RX11 340 "RingsUnder$Folk" "noBed" "[I", Cond.fieldLink RX11 343 "RingsUnder$Folk" "went" "[I", Cond.methodLink RL 131 yX12_personOf, Cond.instanceMethod yX12_personOf, Cond.selects RX12 yX12_personOf yX12_personOf, Cond.code yX12_personOf cX12_personOf 3 (some .int), Cond.methodLink RL 132 yX11_at, Cond.instanceMethod yX11_at, Cond.selects RX11 yX11_at yX11_at, Cond.code yX11_at cX11_at 3 (some .int), Cond.methodLink RX11 346 yX0_countAt, Cond.methodLink RL 135 yX12_at, Cond.instanceMethod yX12_at, Cond.selects RX12 yX12_at yX12_at, Cond.code yX12_at cX12_at 2 (some .int), Cond.methodLink RL 136 yX11_area, Cond.instanceMethod yX11_area, Cond.selects RX11 yX11_area yX11_area, Cond.code yX11_area cX11_area 1 (some .int), Cond.fieldLink RX11 349 "RingsUnder$World" "area" "I", Cond.methodLink RL 139 yX12_area, Cond.instanceMethod yX12_area, Cond.selects RX12 yX12_area yX12_area]
def wsL_law_r56 : List Cond := [Cond.code yX12_area cX12_area 1 (some .int), Cond.methodLink RL 140 yX11_choose, Cond.instanceMethod yX11_choose, Cond.selects RX11 yX11_choose yX11_choose, Cond.code yX11_choose cX11_choose 3 (some .boolean), Cond.fieldLink RX11 188 "RingsUnder$Folk" "vote" "[I", Cond.methodLink RL 143 yX12_choose, Cond.instanceMethod yX12_choose, Cond.selects RX12 yX12_choose yX12_choose, Cond.code yX12_choose cX12_choose 3 (some .boolean), Cond.methodLink RL 146 yX11_council, Cond.instanceMethod yX11_council, Cond.selects RX11 yX11_council yX11_council, Cond.code yX11_council cX11_council 3 (some .int), Cond.methodLink RX11 191 yX10_decide, Cond.instanceMethod yX10_decide, Cond.selects RX10 yX10_decide yX10_decide, Cond.code yX10_decide cX10_decide 8 (some .int), Cond.methodLink RX10 246 yX0_notDead, Cond.instanceMethod yX0_notDead, Cond.selects RX0 yX0_notDead yX0_notDead, Cond.code yX0_notDead cX0_notDead 4 (some .long), Cond.methodLink RX10 249 yJ13_bitCount_95d88, Cond.static yJ13_bitCount_95d88]
def wsL_law_r57 : List Cond := [Cond.initialized RJ13, Cond.code yJ13_bitCount_95d88 cJ13_bitCount_95d88 2 (some .int), Cond.constantLong RJ13 314 (6148914691236517205), Cond.constantLong RJ13 316 (3689348814741910323), Cond.constantLong RJ13 318 (1085102592571150095), Cond.methodLink RX10 255 yX3_councilIn, Cond.methodLink RX10 258 yX0_countVotes, Cond.instanceMethod yX0_countVotes, Cond.selects RX0 yX0_countVotes yX0_countVotes, Cond.code yX0_countVotes cX0_countVotes 6 (some .int), Cond.methodLink RL 150 yX12_council, Cond.instanceMethod yX12_council, Cond.selects RX12 yX12_council yX12_council, Cond.code yX12_council cX12_council 8 (some .int), Cond.methodLink RL 151 yX11_sinks, Cond.instanceMethod yX11_sinks, Cond.selects RX11 yX11_sinks yX11_sinks, Cond.code yX11_sinks cX11_sinks 5 (some .int), Cond.methodLink RX11 266 yX10_copyFrom, Cond.instanceMethod yX10_copyFrom, Cond.selects RX10 yX10_copyFrom yX10_copyFrom, Cond.code yX10_copyFrom cX10_copyFrom 2 none, Cond.methodLink RX10 80 yX7_copyFrom, Cond.instanceMethod yX7_copyFrom]
def wsL_law_r58 : List Cond := [Cond.selects RX7 yX7_copyFrom yX7_copyFrom, Cond.code yX7_copyFrom cX7_copyFrom 2 none, Cond.methodLink RX10 84 yX2_copyFrom, Cond.instanceMethod yX2_copyFrom, Cond.selects RX2 yX2_copyFrom yX2_copyFrom, Cond.code yX2_copyFrom cX2_copyFrom 2 none, Cond.fieldLink RX2 69 "RingsUnder$Land" "rings" "I", Cond.methodLink RX2 83 arraycopyName, Cond.methodLink RX2 93 yX9_copyFrom, Cond.instanceMethod yX9_copyFrom, Cond.selects RX9 yX9_copyFrom yX9_copyFrom, Cond.code yX9_copyFrom cX9_copyFrom 2 none, Cond.methodLink RX10 87 yX0_copyFrom, Cond.instanceMethod yX0_copyFrom, Cond.selects RX0 yX0_copyFrom yX0_copyFrom, Cond.code yX0_copyFrom cX0_copyFrom 2 none, Cond.methodLink RX10 90 yX3_copyFrom, Cond.instanceMethod yX3_copyFrom, Cond.selects RX3 yX3_copyFrom yX3_copyFrom, Cond.code yX3_copyFrom cX3_copyFrom 3 none, Cond.fieldLink RX3 33 "RingsUnder$Law" "textCount" "I", Cond.methodLink RX10 93 yX1_copyFrom, Cond.instanceMethod yX1_copyFrom, Cond.selects RX1 yX1_copyFrom yX1_copyFrom]
def wsL_law_r59 : List Cond := [Cond.code yX1_copyFrom cX1_copyFrom 2 none, Cond.fieldLink RX1 19 "RingsUnder$Graves" "count" "I", Cond.methodLink RX1 27 arraycopyName, Cond.methodLink RX11 270 yX10_nature, Cond.methodLink RX11 273 yX2_isDry, Cond.methodLink RL 154 yX12_sinks, Cond.instanceMethod yX12_sinks, Cond.selects RX12 yX12_sinks yX12_sinks, Cond.code yX12_sinks cX12_sinks 6 (some .int), Cond.methodLink RL 155 yX11_cant, Cond.instanceMethod yX11_cant, Cond.selects RX11 yX11_cant yX11_cant, Cond.code yX11_cant cX11_cant 4 (some .int), Cond.fieldLink RX11 276 "RingsUnder$World" "cantMonth" "I", Cond.methodLink RX11 279 yX10_reckon, Cond.methodLink RL 158 yX12_cant, Cond.instanceMethod yX12_cant, Cond.selects RX12 yX12_cant yX12_cant, Cond.code yX12_cant cX12_cant 5 (some .int), Cond.methodLink RL 159 yX11_keeps, Cond.instanceMethod yX11_keeps, Cond.selects RX11 yX11_keeps yX11_keeps, Cond.code yX11_keeps cX11_keeps 7 (some .int), Cond.methodLink RX11 282 yX10_sandBehind]
def wsL_law_r60 : List Cond := [Cond.instanceMethod yX10_sandBehind, Cond.selects RX10 yX10_sandBehind yX10_sandBehind, Cond.code yX10_sandBehind cX10_sandBehind 4 (some .int), Cond.fieldLink RX10 219 "RingsUnder$Land" "sand" "[I", Cond.methodLink RL 163 yX12_keeps, Cond.instanceMethod yX12_keeps, Cond.selects RX12 yX12_keeps yX12_keeps, Cond.code yX12_keeps cX12_keeps 6 (some .int), Cond.methodLink RX12 375 yX12_sandBehind, Cond.instanceMethod yX12_sandBehind, Cond.selects RX12 yX12_sandBehind yX12_sandBehind, Cond.code yX12_sandBehind cX12_sandBehind 5 (some .int), Cond.methodLink RL 164 yX11_order, Cond.instanceMethod yX11_order, Cond.selects RX11 yX11_order yX11_order, Cond.code yX11_order cX11_order 5 (some .int), Cond.fieldLink RX11 289 "RingsUnder$RingOrders" "least" "I", Cond.fieldLink RX11 292 "RingsUnder$RingOrders" "best" "[I", Cond.methodLink RX11 285 yX5_seek, Cond.instanceMethod yX5_seek, Cond.selects RX5 yX5_seek yX5_seek, Cond.code yX5_seek cX5_seek 9 none, Cond.fieldLink RX5 31 "RingsUnder$World" "land" "LRingsUnder$Land;", Cond.fieldLink RX5 37 "RingsUnder$Land" "rings" "I"]
def wsL_law_r61 : List Cond := [Cond.methodLink RX5 43 Lib.Math.min.name, Cond.fieldLink RX5 53 "RingsUnder$RingOrders" "least" "I", Cond.methodLink RX5 49 yX5_foresee, Cond.instanceMethod yX5_foresee, Cond.selects RX5 yX5_foresee yX5_foresee, Cond.code yX5_foresee cX5_foresee 7 none, Cond.fieldLink RX5 68 "RingsUnder$World" "folk" "LRingsUnder$Folk;", Cond.fieldLink RX5 82 "RingsUnder$Land" "dry" "J", Cond.fieldLink RX5 89 "RingsUnder$World" "law" "LRingsUnder$Law;", Cond.fieldLink RX5 93 "RingsUnder$World" "clock" "I", Cond.methodLink RX5 72 yX0_onRings, Cond.methodLink RX5 78 yX10_nature, Cond.methodLink RX5 85 yX2_countBeds, Cond.methodLink RX5 96 yX3_whoIsSo, Cond.methodLink RX5 56 yX5_lacksOf, Cond.instanceMethod yX5_lacksOf, Cond.selects RX5 yX5_lacksOf yX5_lacksOf, Cond.code yX5_lacksOf cX5_lacksOf 7 (some .int), Cond.fieldLink RX5 102 "RingsUnder$Land" "wells" "LRingsUnder$Wells;", Cond.fieldLink RX5 112 "RingsUnder$Folk" "place" "[I", Cond.fieldLink RX5 119 "RingsUnder$Land" "cells" "I", Cond.fieldLink RX5 122 "RingsUnder$World" "seas" "LRingsUnder$Seas;", Cond.fieldLink RX5 126 "RingsUnder$Seas" "rain" "[I", Cond.fieldLink RX5 143 "RingsUnder$World" "boats" "I"]
def wsL_law_r62 : List Cond := [Cond.fieldLink RX5 146 "RingsUnder$RingOrders" "queued" "I", Cond.methodLink RX5 106 yX9_copyFrom, Cond.methodLink RX5 115 yX5_lineUp, Cond.instanceMethod yX5_lineUp, Cond.selects RX5 yX5_lineUp yX5_lineUp, Cond.code yX5_lineUp cX5_lineUp 5 none, Cond.fieldLink RX5 153 "RingsUnder$Folk" "persons" "I", Cond.methodLink RX5 131 yX9_fillUp, Cond.methodLink RX5 135 yX0_drink, Cond.methodLink RX5 139 yX0_sleep, Cond.methodLink RX5 149 yX0_board, Cond.methodLink RX5 64 yX5_toNextOrder, Cond.instanceMethod yX5_toNextOrder, Cond.selects RX5 yX5_toNextOrder yX5_toNextOrder, Cond.code yX5_toNextOrder cX5_toNextOrder 6 (some .boolean), Cond.methodLink RX5 156 yX5_swap, Cond.instanceMethod yX5_swap, Cond.selects RX5 yX5_swap yX5_swap, Cond.code yX5_swap cX5_swap 4 none, Cond.methodLink RL 167 yX12_order, Cond.instanceMethod yX12_order, Cond.selects RX12 yX12_order yX12_order, Cond.code yX12_order cX12_order 10 (some .int), Cond.methodLink RX12 378 yX12_wants]
def wsL_law_r63 : List Cond := [Cond.instanceMethod yX12_wants, Cond.selects RX12 yX12_wants yX12_wants, Cond.code yX12_wants cX12_wants 3 (some .int), Cond.methodLink RX12 381 yX12_nextOrder, Cond.instanceMethod yX12_nextOrder, Cond.selects RX12 yX12_nextOrder yX12_nextOrder, Cond.code yX12_nextOrder cX12_nextOrder 7 (some .boolean), Cond.methodLink RL 168 yX11_grave, Cond.instanceMethod yX11_grave, Cond.selects RX11 yX11_grave yX11_grave, Cond.code yX11_grave cX11_grave 2 (some .int), Cond.fieldLink RX11 355 "RingsUnder$World" "graves" "LRingsUnder$Graves;", Cond.fieldLink RX11 359 "RingsUnder$Graves" "count" "I", Cond.methodLink RX11 369 yX1_dig, Cond.instanceMethod yX1_dig, Cond.selects RX1 yX1_dig yX1_dig, Cond.code yX1_dig cX1_dig 2 (some .int), Cond.methodLink RL 171 yX12_grave, Cond.instanceMethod yX12_grave, Cond.selects RX12 yX12_grave yX12_grave, Cond.code yX12_grave cX12_grave 2 (some .int), Cond.methodLink RX12 384 yX12_lies, Cond.instanceMethod yX12_lies, Cond.selects RX12 yX12_lies yX12_lies]
def wsL_law_r64 : List Cond := [Cond.code yX12_lies cX12_lies 4 none, Cond.methodLink RL 172 yX11_bury, Cond.instanceMethod yX11_bury, Cond.selects RX11 yX11_bury yX11_bury, Cond.code yX11_bury cX11_bury 3 (some .boolean), Cond.methodLink RX11 371 yX1_carry, Cond.instanceMethod yX1_carry, Cond.selects RX1 yX1_carry yX1_carry, Cond.code yX1_carry cX1_carry 3 (some .boolean), Cond.methodLink RL 175 yX12_bury, Cond.instanceMethod yX12_bury, Cond.selects RX12 yX12_bury yX12_bury, Cond.code yX12_bury cX12_bury 3 (some .boolean), Cond.methodLink RL 176 yX11_found, Cond.instanceMethod yX11_found, Cond.selects RX11 yX11_found yX11_found, Cond.code yX11_found cX11_found 3 (some .int), Cond.methodLink RX11 375 yX1_whereNow, Cond.instanceMethod yX1_whereNow, Cond.selects RX1 yX1_whereNow yX1_whereNow, Cond.code yX1_whereNow cX1_whereNow 5 (some .int), Cond.methodLink RL 179 yX12_found, Cond.instanceMethod yX12_found, Cond.selects RX12 yX12_found yX12_found]
def wsL_law_r65 : List Cond := [Cond.code yX12_found cX12_found 7 (some .int), Cond.methodLink RL 180 yX11_image, Cond.instanceMethod yX11_image, Cond.selects RX11 yX11_image yX11_image, Cond.code yX11_image cX11_image 1 (some .int), Cond.methodLink RL 183 yX12_image, Cond.instanceMethod yX12_image, Cond.selects RX12 yX12_image yX12_image, Cond.code yX12_image cX12_image 1 (some .int), Cond.methodLink RL 184 yX11_back, Cond.instanceMethod yX11_back, Cond.selects RX11 yX11_back yX11_back, Cond.code yX11_back cX11_back 1 (some .int), Cond.methodLink RL 187 yX12_back, Cond.instanceMethod yX12_back, Cond.selects RX12 yX12_back yX12_back, Cond.code yX12_back cX12_back 1 (some .int), Cond.methodLink RL 188 yX11_about, Cond.instanceMethod yX11_about, Cond.selects RX11 yX11_about yX11_about, Cond.code yX11_about cX11_about 2 (some .int), Cond.fieldLink RX11 352 "RingsUnder$Land" "deep" "I", Cond.constant RX11 368 (-1000000000), Cond.methodLink RX11 364 yX11_sum]
def wsL_law_r66 : List Cond := [Cond.static yX11_sum, Cond.code yX11_sum cX11_sum 4 (some .int), Cond.methodLink RL 191 yX12_about, Cond.instanceMethod yX12_about, Cond.selects RX12 yX12_about yX12_about, Cond.code yX12_about cX12_about 4 (some .int), Cond.constant RX12 387 (-1000000000)]
def wsL_law : List Cond := (wsL_law_r1 ++ (wsL_law_r2 ++ (wsL_law_r3 ++ (wsL_law_r4 ++ (wsL_law_r5 ++ (wsL_law_r6 ++ (wsL_law_r7 ++ (wsL_law_r8 ++ (wsL_law_r9 ++ (wsL_law_r10 ++ (wsL_law_r11 ++ (wsL_law_r12 ++ (wsL_law_r13 ++ (wsL_law_r14 ++ (wsL_law_r15 ++ (wsL_law_r16 ++ (wsL_law_r17 ++ (wsL_law_r18 ++ (wsL_law_r19 ++ (wsL_law_r20 ++ (wsL_law_r21 ++ (wsL_law_r22 ++ (wsL_law_r23 ++ (wsL_law_r24 ++ (wsL_law_r25 ++ (wsL_law_r26 ++ (wsL_law_r27 ++ (wsL_law_r28 ++ (wsL_law_r29 ++ (wsL_law_r30 ++ (wsL_law_r31 ++ (wsL_law_r32 ++ (wsL_law_r33 ++ (wsL_law_r34 ++ (wsL_law_r35 ++ (wsL_law_r36 ++ (wsL_law_r37 ++ (wsL_law_r38 ++ (wsL_law_r39 ++ (wsL_law_r40 ++ (wsL_law_r41 ++ (wsL_law_r42 ++ (wsL_law_r43 ++ (wsL_law_r44 ++ (wsL_law_r45 ++ (wsL_law_r46 ++ (wsL_law_r47 ++ (wsL_law_r48 ++ (wsL_law_r49 ++ (wsL_law_r50 ++ (wsL_law_r51 ++ (wsL_law_r52 ++ (wsL_law_r53 ++ (wsL_law_r54 ++ (wsL_law_r55 ++ (wsL_law_r56 ++ (wsL_law_r57 ++ (wsL_law_r58 ++ (wsL_law_r59 ++ (wsL_law_r60 ++ (wsL_law_r61 ++ (wsL_law_r62 ++ (wsL_law_r63 ++ (wsL_law_r64 ++ (wsL_law_r65 ++ wsL_law_r66))))))))))))))))))))))))))))))))))))))))))))))))))))))))))))))))) ++ wsX110 ++ wsX120 ++ wsX100 ++ wsX50 ++ wsX40 ++ wsX70 ++ wsX20 ++ wsX00 ++ wsX30 ++ wsX10 ++ wsX90 ++ wsX60 ++ wsX80 ++ ([] : List Cond)
theorem inlX0 : ∀ w ∈ wsX00, w ∈ wsL_law := fun _ h => List.mem_append_left _ (List.mem_append_left _ (List.mem_append_left _ (List.mem_append_left _ (List.mem_append_left _ (List.mem_append_left _ (List.mem_append_right _ h))))))
theorem inlX1 : ∀ w ∈ wsX10, w ∈ wsL_law := fun _ h => List.mem_append_left _ (List.mem_append_left _ (List.mem_append_left _ (List.mem_append_left _ (List.mem_append_right _ h))))
theorem inlX2 : ∀ w ∈ wsX20, w ∈ wsL_law := fun _ h => List.mem_append_left _ (List.mem_append_left _ (List.mem_append_left _ (List.mem_append_left _ (List.mem_append_left _ (List.mem_append_left _ (List.mem_append_left _ (List.mem_append_right _ h)))))))
theorem inlX3 : ∀ w ∈ wsX30, w ∈ wsL_law := fun _ h => List.mem_append_left _ (List.mem_append_left _ (List.mem_append_left _ (List.mem_append_left _ (List.mem_append_left _ (List.mem_append_right _ h)))))
theorem inlX4 : ∀ w ∈ wsX40, w ∈ wsL_law := fun _ h => List.mem_append_left _ (List.mem_append_left _ (List.mem_append_left _ (List.mem_append_left _ (List.mem_append_left _ (List.mem_append_left _ (List.mem_append_left _ (List.mem_append_left _ (List.mem_append_left _ (List.mem_append_right _ h)))))))))
theorem inlX5 : ∀ w ∈ wsX50, w ∈ wsL_law := fun _ h => List.mem_append_left _ (List.mem_append_left _ (List.mem_append_left _ (List.mem_append_left _ (List.mem_append_left _ (List.mem_append_left _ (List.mem_append_left _ (List.mem_append_left _ (List.mem_append_left _ (List.mem_append_left _ (List.mem_append_right _ h))))))))))
theorem inlX6 : ∀ w ∈ wsX60, w ∈ wsL_law := fun _ h => List.mem_append_left _ (List.mem_append_left _ (List.mem_append_right _ h))
theorem inlX7 : ∀ w ∈ wsX70, w ∈ wsL_law := fun _ h => List.mem_append_left _ (List.mem_append_left _ (List.mem_append_left _ (List.mem_append_left _ (List.mem_append_left _ (List.mem_append_left _ (List.mem_append_left _ (List.mem_append_left _ (List.mem_append_right _ h))))))))
theorem inlX8 : ∀ w ∈ wsX80, w ∈ wsL_law := fun _ h => List.mem_append_left _ (List.mem_append_right _ h)
theorem inlX9 : ∀ w ∈ wsX90, w ∈ wsL_law := fun _ h => List.mem_append_left _ (List.mem_append_left _ (List.mem_append_left _ (List.mem_append_right _ h)))
theorem inlX10 : ∀ w ∈ wsX100, w ∈ wsL_law := fun _ h => List.mem_append_left _ (List.mem_append_left _ (List.mem_append_left _ (List.mem_append_left _ (List.mem_append_left _ (List.mem_append_left _ (List.mem_append_left _ (List.mem_append_left _ (List.mem_append_left _ (List.mem_append_left _ (List.mem_append_left _ (List.mem_append_right _ h)))))))))))
theorem inlX11 : ∀ w ∈ wsX110, w ∈ wsL_law := fun _ h => List.mem_append_left _ (List.mem_append_left _ (List.mem_append_left _ (List.mem_append_left _ (List.mem_append_left _ (List.mem_append_left _ (List.mem_append_left _ (List.mem_append_left _ (List.mem_append_left _ (List.mem_append_left _ (List.mem_append_left _ (List.mem_append_left _ (List.mem_append_left _ (List.mem_append_right _ h)))))))))))))
theorem inlX12 : ∀ w ∈ wsX120, w ∈ wsL_law := fun _ h => List.mem_append_left _ (List.mem_append_left _ (List.mem_append_left _ (List.mem_append_left _ (List.mem_append_left _ (List.mem_append_left _ (List.mem_append_left _ (List.mem_append_left _ (List.mem_append_left _ (List.mem_append_left _ (List.mem_append_left _ (List.mem_append_left _ (List.mem_append_right _ h))))))))))))
abbrev vwCl : List vw_C := [(RX0, TX0, 16), (RX1, TX1, 3), (RX2, TX2, 20), (RX3, TX3, 8), (RX4, TX4, 12), (RX5, TX5, 8), (RX6, TX6, 6), (RX7, TX7, 15), (RX8, TX8, 4), (RX9, TX9, 3), (RX10, TX10, 13), (RX11, TX11, 5), (RX12, TX12, 31)]
theorem sg_1 : ∀ w ∈ wsL_law_r1, w ∈ wsL_law := fun _ h => List.mem_append_left _ (List.mem_append_left _ (List.mem_append_left _ (List.mem_append_left _ (List.mem_append_left _ (List.mem_append_left _ (List.mem_append_left _ (List.mem_append_left _ (List.mem_append_left _ (List.mem_append_left _ (List.mem_append_left _ (List.mem_append_left _ (List.mem_append_left _ (List.mem_append_left _ (List.mem_append_left _ h))))))))))))))
theorem sg_2 : ∀ w ∈ wsL_law_r2, w ∈ wsL_law := fun _ h => List.mem_append_left _ (List.mem_append_left _ (List.mem_append_left _ (List.mem_append_left _ (List.mem_append_left _ (List.mem_append_left _ (List.mem_append_left _ (List.mem_append_left _ (List.mem_append_left _ (List.mem_append_left _ (List.mem_append_left _ (List.mem_append_left _ (List.mem_append_left _ (List.mem_append_left _ (List.mem_append_right _ (List.mem_append_left _ h)))))))))))))))
theorem sg_3 : ∀ w ∈ wsL_law_r3, w ∈ wsL_law := fun _ h => List.mem_append_left _ (List.mem_append_left _ (List.mem_append_left _ (List.mem_append_left _ (List.mem_append_left _ (List.mem_append_left _ (List.mem_append_left _ (List.mem_append_left _ (List.mem_append_left _ (List.mem_append_left _ (List.mem_append_left _ (List.mem_append_left _ (List.mem_append_left _ (List.mem_append_left _ (List.mem_append_right _ (List.mem_append_right _ (List.mem_append_left _ h))))))))))))))))
theorem sg_4 : ∀ w ∈ wsL_law_r4, w ∈ wsL_law := fun _ h => List.mem_append_left _ (List.mem_append_left _ (List.mem_append_left _ (List.mem_append_left _ (List.mem_append_left _ (List.mem_append_left _ (List.mem_append_left _ (List.mem_append_left _ (List.mem_append_left _ (List.mem_append_left _ (List.mem_append_left _ (List.mem_append_left _ (List.mem_append_left _ (List.mem_append_left _ (List.mem_append_right _ (List.mem_append_right _ (List.mem_append_right _ (List.mem_append_left _ h)))))))))))))))))
theorem sg_5 : ∀ w ∈ wsL_law_r5, w ∈ wsL_law := fun _ h => List.mem_append_left _ (List.mem_append_left _ (List.mem_append_left _ (List.mem_append_left _ (List.mem_append_left _ (List.mem_append_left _ (List.mem_append_left _ (List.mem_append_left _ (List.mem_append_left _ (List.mem_append_left _ (List.mem_append_left _ (List.mem_append_left _ (List.mem_append_left _ (List.mem_append_left _ (List.mem_append_right _ (List.mem_append_right _ (List.mem_append_right _ (List.mem_append_right _ (List.mem_append_left _ h))))))))))))))))))
theorem sg_6 : ∀ w ∈ wsL_law_r6, w ∈ wsL_law := fun _ h => List.mem_append_left _ (List.mem_append_left _ (List.mem_append_left _ (List.mem_append_left _ (List.mem_append_left _ (List.mem_append_left _ (List.mem_append_left _ (List.mem_append_left _ (List.mem_append_left _ (List.mem_append_left _ (List.mem_append_left _ (List.mem_append_left _ (List.mem_append_left _ (List.mem_append_left _ (List.mem_append_right _ (List.mem_append_right _ (List.mem_append_right _ (List.mem_append_right _ (List.mem_append_right _ (List.mem_append_left _ h)))))))))))))))))))
theorem sg_7 : ∀ w ∈ wsL_law_r7, w ∈ wsL_law := fun _ h => List.mem_append_left _ (List.mem_append_left _ (List.mem_append_left _ (List.mem_append_left _ (List.mem_append_left _ (List.mem_append_left _ (List.mem_append_left _ (List.mem_append_left _ (List.mem_append_left _ (List.mem_append_left _ (List.mem_append_left _ (List.mem_append_left _ (List.mem_append_left _ (List.mem_append_left _ (List.mem_append_right _ (List.mem_append_right _ (List.mem_append_right _ (List.mem_append_right _ (List.mem_append_right _ (List.mem_append_right _ (List.mem_append_left _ h))))))))))))))))))))
theorem sg_8 : ∀ w ∈ wsL_law_r8, w ∈ wsL_law := fun _ h => List.mem_append_left _ (List.mem_append_left _ (List.mem_append_left _ (List.mem_append_left _ (List.mem_append_left _ (List.mem_append_left _ (List.mem_append_left _ (List.mem_append_left _ (List.mem_append_left _ (List.mem_append_left _ (List.mem_append_left _ (List.mem_append_left _ (List.mem_append_left _ (List.mem_append_left _ (List.mem_append_right _ (List.mem_append_right _ (List.mem_append_right _ (List.mem_append_right _ (List.mem_append_right _ (List.mem_append_right _ (List.mem_append_right _ (List.mem_append_left _ h)))))))))))))))))))))
theorem sg_9 : ∀ w ∈ wsL_law_r9, w ∈ wsL_law := fun _ h => List.mem_append_left _ (List.mem_append_left _ (List.mem_append_left _ (List.mem_append_left _ (List.mem_append_left _ (List.mem_append_left _ (List.mem_append_left _ (List.mem_append_left _ (List.mem_append_left _ (List.mem_append_left _ (List.mem_append_left _ (List.mem_append_left _ (List.mem_append_left _ (List.mem_append_left _ (List.mem_append_right _ (List.mem_append_right _ (List.mem_append_right _ (List.mem_append_right _ (List.mem_append_right _ (List.mem_append_right _ (List.mem_append_right _ (List.mem_append_right _ (List.mem_append_left _ h))))))))))))))))))))))
theorem sg_10 : ∀ w ∈ wsL_law_r10, w ∈ wsL_law := fun _ h => List.mem_append_left _ (List.mem_append_left _ (List.mem_append_left _ (List.mem_append_left _ (List.mem_append_left _ (List.mem_append_left _ (List.mem_append_left _ (List.mem_append_left _ (List.mem_append_left _ (List.mem_append_left _ (List.mem_append_left _ (List.mem_append_left _ (List.mem_append_left _ (List.mem_append_left _ (List.mem_append_right _ (List.mem_append_right _ (List.mem_append_right _ (List.mem_append_right _ (List.mem_append_right _ (List.mem_append_right _ (List.mem_append_right _ (List.mem_append_right _ (List.mem_append_right _ (List.mem_append_left _ h)))))))))))))))))))))))
theorem sg_11 : ∀ w ∈ wsL_law_r11, w ∈ wsL_law := fun _ h => List.mem_append_left _ (List.mem_append_left _ (List.mem_append_left _ (List.mem_append_left _ (List.mem_append_left _ (List.mem_append_left _ (List.mem_append_left _ (List.mem_append_left _ (List.mem_append_left _ (List.mem_append_left _ (List.mem_append_left _ (List.mem_append_left _ (List.mem_append_left _ (List.mem_append_left _ (List.mem_append_right _ (List.mem_append_right _ (List.mem_append_right _ (List.mem_append_right _ (List.mem_append_right _ (List.mem_append_right _ (List.mem_append_right _ (List.mem_append_right _ (List.mem_append_right _ (List.mem_append_right _ (List.mem_append_left _ h))))))))))))))))))))))))
theorem sg_12 : ∀ w ∈ wsL_law_r12, w ∈ wsL_law := fun _ h => List.mem_append_left _ (List.mem_append_left _ (List.mem_append_left _ (List.mem_append_left _ (List.mem_append_left _ (List.mem_append_left _ (List.mem_append_left _ (List.mem_append_left _ (List.mem_append_left _ (List.mem_append_left _ (List.mem_append_left _ (List.mem_append_left _ (List.mem_append_left _ (List.mem_append_left _ (List.mem_append_right _ (List.mem_append_right _ (List.mem_append_right _ (List.mem_append_right _ (List.mem_append_right _ (List.mem_append_right _ (List.mem_append_right _ (List.mem_append_right _ (List.mem_append_right _ (List.mem_append_right _ (List.mem_append_right _ (List.mem_append_left _ h)))))))))))))))))))))))))
theorem sg_13 : ∀ w ∈ wsL_law_r13, w ∈ wsL_law := fun _ h => List.mem_append_left _ (List.mem_append_left _ (List.mem_append_left _ (List.mem_append_left _ (List.mem_append_left _ (List.mem_append_left _ (List.mem_append_left _ (List.mem_append_left _ (List.mem_append_left _ (List.mem_append_left _ (List.mem_append_left _ (List.mem_append_left _ (List.mem_append_left _ (List.mem_append_left _ (List.mem_append_right _ (List.mem_append_right _ (List.mem_append_right _ (List.mem_append_right _ (List.mem_append_right _ (List.mem_append_right _ (List.mem_append_right _ (List.mem_append_right _ (List.mem_append_right _ (List.mem_append_right _ (List.mem_append_right _ (List.mem_append_right _ (List.mem_append_left _ h))))))))))))))))))))))))))
theorem sg_14 : ∀ w ∈ wsL_law_r14, w ∈ wsL_law := fun _ h => List.mem_append_left _ (List.mem_append_left _ (List.mem_append_left _ (List.mem_append_left _ (List.mem_append_left _ (List.mem_append_left _ (List.mem_append_left _ (List.mem_append_left _ (List.mem_append_left _ (List.mem_append_left _ (List.mem_append_left _ (List.mem_append_left _ (List.mem_append_left _ (List.mem_append_left _ (List.mem_append_right _ (List.mem_append_right _ (List.mem_append_right _ (List.mem_append_right _ (List.mem_append_right _ (List.mem_append_right _ (List.mem_append_right _ (List.mem_append_right _ (List.mem_append_right _ (List.mem_append_right _ (List.mem_append_right _ (List.mem_append_right _ (List.mem_append_right _ (List.mem_append_left _ h)))))))))))))))))))))))))))
theorem sg_15 : ∀ w ∈ wsL_law_r15, w ∈ wsL_law := fun _ h => List.mem_append_left _ (List.mem_append_left _ (List.mem_append_left _ (List.mem_append_left _ (List.mem_append_left _ (List.mem_append_left _ (List.mem_append_left _ (List.mem_append_left _ (List.mem_append_left _ (List.mem_append_left _ (List.mem_append_left _ (List.mem_append_left _ (List.mem_append_left _ (List.mem_append_left _ (List.mem_append_right _ (List.mem_append_right _ (List.mem_append_right _ (List.mem_append_right _ (List.mem_append_right _ (List.mem_append_right _ (List.mem_append_right _ (List.mem_append_right _ (List.mem_append_right _ (List.mem_append_right _ (List.mem_append_right _ (List.mem_append_right _ (List.mem_append_right _ (List.mem_append_right _ (List.mem_append_left _ h))))))))))))))))))))))))))))
theorem sg_16 : ∀ w ∈ wsL_law_r16, w ∈ wsL_law := fun _ h => List.mem_append_left _ (List.mem_append_left _ (List.mem_append_left _ (List.mem_append_left _ (List.mem_append_left _ (List.mem_append_left _ (List.mem_append_left _ (List.mem_append_left _ (List.mem_append_left _ (List.mem_append_left _ (List.mem_append_left _ (List.mem_append_left _ (List.mem_append_left _ (List.mem_append_left _ (List.mem_append_right _ (List.mem_append_right _ (List.mem_append_right _ (List.mem_append_right _ (List.mem_append_right _ (List.mem_append_right _ (List.mem_append_right _ (List.mem_append_right _ (List.mem_append_right _ (List.mem_append_right _ (List.mem_append_right _ (List.mem_append_right _ (List.mem_append_right _ (List.mem_append_right _ (List.mem_append_right _ (List.mem_append_left _ h)))))))))))))))))))))))))))))
theorem sg_17 : ∀ w ∈ wsL_law_r17, w ∈ wsL_law := fun _ h => List.mem_append_left _ (List.mem_append_left _ (List.mem_append_left _ (List.mem_append_left _ (List.mem_append_left _ (List.mem_append_left _ (List.mem_append_left _ (List.mem_append_left _ (List.mem_append_left _ (List.mem_append_left _ (List.mem_append_left _ (List.mem_append_left _ (List.mem_append_left _ (List.mem_append_left _ (List.mem_append_right _ (List.mem_append_right _ (List.mem_append_right _ (List.mem_append_right _ (List.mem_append_right _ (List.mem_append_right _ (List.mem_append_right _ (List.mem_append_right _ (List.mem_append_right _ (List.mem_append_right _ (List.mem_append_right _ (List.mem_append_right _ (List.mem_append_right _ (List.mem_append_right _ (List.mem_append_right _ (List.mem_append_right _ (List.mem_append_left _ h))))))))))))))))))))))))))))))
theorem sg_18 : ∀ w ∈ wsL_law_r18, w ∈ wsL_law := fun _ h => List.mem_append_left _ (List.mem_append_left _ (List.mem_append_left _ (List.mem_append_left _ (List.mem_append_left _ (List.mem_append_left _ (List.mem_append_left _ (List.mem_append_left _ (List.mem_append_left _ (List.mem_append_left _ (List.mem_append_left _ (List.mem_append_left _ (List.mem_append_left _ (List.mem_append_left _ (List.mem_append_right _ (List.mem_append_right _ (List.mem_append_right _ (List.mem_append_right _ (List.mem_append_right _ (List.mem_append_right _ (List.mem_append_right _ (List.mem_append_right _ (List.mem_append_right _ (List.mem_append_right _ (List.mem_append_right _ (List.mem_append_right _ (List.mem_append_right _ (List.mem_append_right _ (List.mem_append_right _ (List.mem_append_right _ (List.mem_append_right _ (List.mem_append_left _ h)))))))))))))))))))))))))))))))
theorem sg_19 : ∀ w ∈ wsL_law_r19, w ∈ wsL_law := fun _ h => List.mem_append_left _ (List.mem_append_left _ (List.mem_append_left _ (List.mem_append_left _ (List.mem_append_left _ (List.mem_append_left _ (List.mem_append_left _ (List.mem_append_left _ (List.mem_append_left _ (List.mem_append_left _ (List.mem_append_left _ (List.mem_append_left _ (List.mem_append_left _ (List.mem_append_left _ (List.mem_append_right _ (List.mem_append_right _ (List.mem_append_right _ (List.mem_append_right _ (List.mem_append_right _ (List.mem_append_right _ (List.mem_append_right _ (List.mem_append_right _ (List.mem_append_right _ (List.mem_append_right _ (List.mem_append_right _ (List.mem_append_right _ (List.mem_append_right _ (List.mem_append_right _ (List.mem_append_right _ (List.mem_append_right _ (List.mem_append_right _ (List.mem_append_right _ (List.mem_append_left _ h))))))))))))))))))))))))))))))))
theorem sg_20 : ∀ w ∈ wsL_law_r20, w ∈ wsL_law := fun _ h => List.mem_append_left _ (List.mem_append_left _ (List.mem_append_left _ (List.mem_append_left _ (List.mem_append_left _ (List.mem_append_left _ (List.mem_append_left _ (List.mem_append_left _ (List.mem_append_left _ (List.mem_append_left _ (List.mem_append_left _ (List.mem_append_left _ (List.mem_append_left _ (List.mem_append_left _ (List.mem_append_right _ (List.mem_append_right _ (List.mem_append_right _ (List.mem_append_right _ (List.mem_append_right _ (List.mem_append_right _ (List.mem_append_right _ (List.mem_append_right _ (List.mem_append_right _ (List.mem_append_right _ (List.mem_append_right _ (List.mem_append_right _ (List.mem_append_right _ (List.mem_append_right _ (List.mem_append_right _ (List.mem_append_right _ (List.mem_append_right _ (List.mem_append_right _ (List.mem_append_right _ (List.mem_append_left _ h)))))))))))))))))))))))))))))))))
theorem sg_21 : ∀ w ∈ wsL_law_r21, w ∈ wsL_law := fun _ h => List.mem_append_left _ (List.mem_append_left _ (List.mem_append_left _ (List.mem_append_left _ (List.mem_append_left _ (List.mem_append_left _ (List.mem_append_left _ (List.mem_append_left _ (List.mem_append_left _ (List.mem_append_left _ (List.mem_append_left _ (List.mem_append_left _ (List.mem_append_left _ (List.mem_append_left _ (List.mem_append_right _ (List.mem_append_right _ (List.mem_append_right _ (List.mem_append_right _ (List.mem_append_right _ (List.mem_append_right _ (List.mem_append_right _ (List.mem_append_right _ (List.mem_append_right _ (List.mem_append_right _ (List.mem_append_right _ (List.mem_append_right _ (List.mem_append_right _ (List.mem_append_right _ (List.mem_append_right _ (List.mem_append_right _ (List.mem_append_right _ (List.mem_append_right _ (List.mem_append_right _ (List.mem_append_right _ (List.mem_append_left _ h))))))))))))))))))))))))))))))))))
theorem sg_22 : ∀ w ∈ wsL_law_r22, w ∈ wsL_law := fun _ h => List.mem_append_left _ (List.mem_append_left _ (List.mem_append_left _ (List.mem_append_left _ (List.mem_append_left _ (List.mem_append_left _ (List.mem_append_left _ (List.mem_append_left _ (List.mem_append_left _ (List.mem_append_left _ (List.mem_append_left _ (List.mem_append_left _ (List.mem_append_left _ (List.mem_append_left _ (List.mem_append_right _ (List.mem_append_right _ (List.mem_append_right _ (List.mem_append_right _ (List.mem_append_right _ (List.mem_append_right _ (List.mem_append_right _ (List.mem_append_right _ (List.mem_append_right _ (List.mem_append_right _ (List.mem_append_right _ (List.mem_append_right _ (List.mem_append_right _ (List.mem_append_right _ (List.mem_append_right _ (List.mem_append_right _ (List.mem_append_right _ (List.mem_append_right _ (List.mem_append_right _ (List.mem_append_right _ (List.mem_append_right _ (List.mem_append_left _ h)))))))))))))))))))))))))))))))))))
theorem sg_23 : ∀ w ∈ wsL_law_r23, w ∈ wsL_law := fun _ h => List.mem_append_left _ (List.mem_append_left _ (List.mem_append_left _ (List.mem_append_left _ (List.mem_append_left _ (List.mem_append_left _ (List.mem_append_left _ (List.mem_append_left _ (List.mem_append_left _ (List.mem_append_left _ (List.mem_append_left _ (List.mem_append_left _ (List.mem_append_left _ (List.mem_append_left _ (List.mem_append_right _ (List.mem_append_right _ (List.mem_append_right _ (List.mem_append_right _ (List.mem_append_right _ (List.mem_append_right _ (List.mem_append_right _ (List.mem_append_right _ (List.mem_append_right _ (List.mem_append_right _ (List.mem_append_right _ (List.mem_append_right _ (List.mem_append_right _ (List.mem_append_right _ (List.mem_append_right _ (List.mem_append_right _ (List.mem_append_right _ (List.mem_append_right _ (List.mem_append_right _ (List.mem_append_right _ (List.mem_append_right _ (List.mem_append_right _ (List.mem_append_left _ h))))))))))))))))))))))))))))))))))))
theorem sg_24 : ∀ w ∈ wsL_law_r24, w ∈ wsL_law := fun _ h => List.mem_append_left _ (List.mem_append_left _ (List.mem_append_left _ (List.mem_append_left _ (List.mem_append_left _ (List.mem_append_left _ (List.mem_append_left _ (List.mem_append_left _ (List.mem_append_left _ (List.mem_append_left _ (List.mem_append_left _ (List.mem_append_left _ (List.mem_append_left _ (List.mem_append_left _ (List.mem_append_right _ (List.mem_append_right _ (List.mem_append_right _ (List.mem_append_right _ (List.mem_append_right _ (List.mem_append_right _ (List.mem_append_right _ (List.mem_append_right _ (List.mem_append_right _ (List.mem_append_right _ (List.mem_append_right _ (List.mem_append_right _ (List.mem_append_right _ (List.mem_append_right _ (List.mem_append_right _ (List.mem_append_right _ (List.mem_append_right _ (List.mem_append_right _ (List.mem_append_right _ (List.mem_append_right _ (List.mem_append_right _ (List.mem_append_right _ (List.mem_append_right _ (List.mem_append_left _ h)))))))))))))))))))))))))))))))))))))
theorem sg_25 : ∀ w ∈ wsL_law_r25, w ∈ wsL_law := fun _ h => List.mem_append_left _ (List.mem_append_left _ (List.mem_append_left _ (List.mem_append_left _ (List.mem_append_left _ (List.mem_append_left _ (List.mem_append_left _ (List.mem_append_left _ (List.mem_append_left _ (List.mem_append_left _ (List.mem_append_left _ (List.mem_append_left _ (List.mem_append_left _ (List.mem_append_left _ (List.mem_append_right _ (List.mem_append_right _ (List.mem_append_right _ (List.mem_append_right _ (List.mem_append_right _ (List.mem_append_right _ (List.mem_append_right _ (List.mem_append_right _ (List.mem_append_right _ (List.mem_append_right _ (List.mem_append_right _ (List.mem_append_right _ (List.mem_append_right _ (List.mem_append_right _ (List.mem_append_right _ (List.mem_append_right _ (List.mem_append_right _ (List.mem_append_right _ (List.mem_append_right _ (List.mem_append_right _ (List.mem_append_right _ (List.mem_append_right _ (List.mem_append_right _ (List.mem_append_right _ (List.mem_append_left _ h))))))))))))))))))))))))))))))))))))))
theorem sg_26 : ∀ w ∈ wsL_law_r26, w ∈ wsL_law := fun _ h => List.mem_append_left _ (List.mem_append_left _ (List.mem_append_left _ (List.mem_append_left _ (List.mem_append_left _ (List.mem_append_left _ (List.mem_append_left _ (List.mem_append_left _ (List.mem_append_left _ (List.mem_append_left _ (List.mem_append_left _ (List.mem_append_left _ (List.mem_append_left _ (List.mem_append_left _ (List.mem_append_right _ (List.mem_append_right _ (List.mem_append_right _ (List.mem_append_right _ (List.mem_append_right _ (List.mem_append_right _ (List.mem_append_right _ (List.mem_append_right _ (List.mem_append_right _ (List.mem_append_right _ (List.mem_append_right _ (List.mem_append_right _ (List.mem_append_right _ (List.mem_append_right _ (List.mem_append_right _ (List.mem_append_right _ (List.mem_append_right _ (List.mem_append_right _ (List.mem_append_right _ (List.mem_append_right _ (List.mem_append_right _ (List.mem_append_right _ (List.mem_append_right _ (List.mem_append_right _ (List.mem_append_right _ (List.mem_append_left _ h)))))))))))))))))))))))))))))))))))))))
theorem sg_27 : ∀ w ∈ wsL_law_r27, w ∈ wsL_law := fun _ h => List.mem_append_left _ (List.mem_append_left _ (List.mem_append_left _ (List.mem_append_left _ (List.mem_append_left _ (List.mem_append_left _ (List.mem_append_left _ (List.mem_append_left _ (List.mem_append_left _ (List.mem_append_left _ (List.mem_append_left _ (List.mem_append_left _ (List.mem_append_left _ (List.mem_append_left _ (List.mem_append_right _ (List.mem_append_right _ (List.mem_append_right _ (List.mem_append_right _ (List.mem_append_right _ (List.mem_append_right _ (List.mem_append_right _ (List.mem_append_right _ (List.mem_append_right _ (List.mem_append_right _ (List.mem_append_right _ (List.mem_append_right _ (List.mem_append_right _ (List.mem_append_right _ (List.mem_append_right _ (List.mem_append_right _ (List.mem_append_right _ (List.mem_append_right _ (List.mem_append_right _ (List.mem_append_right _ (List.mem_append_right _ (List.mem_append_right _ (List.mem_append_right _ (List.mem_append_right _ (List.mem_append_right _ (List.mem_append_right _ (List.mem_append_left _ h))))))))))))))))))))))))))))))))))))))))
theorem sg_28 : ∀ w ∈ wsL_law_r28, w ∈ wsL_law := fun _ h => List.mem_append_left _ (List.mem_append_left _ (List.mem_append_left _ (List.mem_append_left _ (List.mem_append_left _ (List.mem_append_left _ (List.mem_append_left _ (List.mem_append_left _ (List.mem_append_left _ (List.mem_append_left _ (List.mem_append_left _ (List.mem_append_left _ (List.mem_append_left _ (List.mem_append_left _ (List.mem_append_right _ (List.mem_append_right _ (List.mem_append_right _ (List.mem_append_right _ (List.mem_append_right _ (List.mem_append_right _ (List.mem_append_right _ (List.mem_append_right _ (List.mem_append_right _ (List.mem_append_right _ (List.mem_append_right _ (List.mem_append_right _ (List.mem_append_right _ (List.mem_append_right _ (List.mem_append_right _ (List.mem_append_right _ (List.mem_append_right _ (List.mem_append_right _ (List.mem_append_right _ (List.mem_append_right _ (List.mem_append_right _ (List.mem_append_right _ (List.mem_append_right _ (List.mem_append_right _ (List.mem_append_right _ (List.mem_append_right _ (List.mem_append_right _ (List.mem_append_left _ h)))))))))))))))))))))))))))))))))))))))))
theorem sg_29 : ∀ w ∈ wsL_law_r29, w ∈ wsL_law := fun _ h => List.mem_append_left _ (List.mem_append_left _ (List.mem_append_left _ (List.mem_append_left _ (List.mem_append_left _ (List.mem_append_left _ (List.mem_append_left _ (List.mem_append_left _ (List.mem_append_left _ (List.mem_append_left _ (List.mem_append_left _ (List.mem_append_left _ (List.mem_append_left _ (List.mem_append_left _ (List.mem_append_right _ (List.mem_append_right _ (List.mem_append_right _ (List.mem_append_right _ (List.mem_append_right _ (List.mem_append_right _ (List.mem_append_right _ (List.mem_append_right _ (List.mem_append_right _ (List.mem_append_right _ (List.mem_append_right _ (List.mem_append_right _ (List.mem_append_right _ (List.mem_append_right _ (List.mem_append_right _ (List.mem_append_right _ (List.mem_append_right _ (List.mem_append_right _ (List.mem_append_right _ (List.mem_append_right _ (List.mem_append_right _ (List.mem_append_right _ (List.mem_append_right _ (List.mem_append_right _ (List.mem_append_right _ (List.mem_append_right _ (List.mem_append_right _ (List.mem_append_right _ (List.mem_append_left _ h))))))))))))))))))))))))))))))))))))))))))
theorem sg_30 : ∀ w ∈ wsL_law_r30, w ∈ wsL_law := fun _ h => List.mem_append_left _ (List.mem_append_left _ (List.mem_append_left _ (List.mem_append_left _ (List.mem_append_left _ (List.mem_append_left _ (List.mem_append_left _ (List.mem_append_left _ (List.mem_append_left _ (List.mem_append_left _ (List.mem_append_left _ (List.mem_append_left _ (List.mem_append_left _ (List.mem_append_left _ (List.mem_append_right _ (List.mem_append_right _ (List.mem_append_right _ (List.mem_append_right _ (List.mem_append_right _ (List.mem_append_right _ (List.mem_append_right _ (List.mem_append_right _ (List.mem_append_right _ (List.mem_append_right _ (List.mem_append_right _ (List.mem_append_right _ (List.mem_append_right _ (List.mem_append_right _ (List.mem_append_right _ (List.mem_append_right _ (List.mem_append_right _ (List.mem_append_right _ (List.mem_append_right _ (List.mem_append_right _ (List.mem_append_right _ (List.mem_append_right _ (List.mem_append_right _ (List.mem_append_right _ (List.mem_append_right _ (List.mem_append_right _ (List.mem_append_right _ (List.mem_append_right _ (List.mem_append_right _ (List.mem_append_left _ h)))))))))))))))))))))))))))))))))))))))))))
theorem sg_31 : ∀ w ∈ wsL_law_r31, w ∈ wsL_law := fun _ h => List.mem_append_left _ (List.mem_append_left _ (List.mem_append_left _ (List.mem_append_left _ (List.mem_append_left _ (List.mem_append_left _ (List.mem_append_left _ (List.mem_append_left _ (List.mem_append_left _ (List.mem_append_left _ (List.mem_append_left _ (List.mem_append_left _ (List.mem_append_left _ (List.mem_append_left _ (List.mem_append_right _ (List.mem_append_right _ (List.mem_append_right _ (List.mem_append_right _ (List.mem_append_right _ (List.mem_append_right _ (List.mem_append_right _ (List.mem_append_right _ (List.mem_append_right _ (List.mem_append_right _ (List.mem_append_right _ (List.mem_append_right _ (List.mem_append_right _ (List.mem_append_right _ (List.mem_append_right _ (List.mem_append_right _ (List.mem_append_right _ (List.mem_append_right _ (List.mem_append_right _ (List.mem_append_right _ (List.mem_append_right _ (List.mem_append_right _ (List.mem_append_right _ (List.mem_append_right _ (List.mem_append_right _ (List.mem_append_right _ (List.mem_append_right _ (List.mem_append_right _ (List.mem_append_right _ (List.mem_append_right _ (List.mem_append_left _ h))))))))))))))))))))))))))))))))))))))))))))
theorem sg_32 : ∀ w ∈ wsL_law_r32, w ∈ wsL_law := fun _ h => List.mem_append_left _ (List.mem_append_left _ (List.mem_append_left _ (List.mem_append_left _ (List.mem_append_left _ (List.mem_append_left _ (List.mem_append_left _ (List.mem_append_left _ (List.mem_append_left _ (List.mem_append_left _ (List.mem_append_left _ (List.mem_append_left _ (List.mem_append_left _ (List.mem_append_left _ (List.mem_append_right _ (List.mem_append_right _ (List.mem_append_right _ (List.mem_append_right _ (List.mem_append_right _ (List.mem_append_right _ (List.mem_append_right _ (List.mem_append_right _ (List.mem_append_right _ (List.mem_append_right _ (List.mem_append_right _ (List.mem_append_right _ (List.mem_append_right _ (List.mem_append_right _ (List.mem_append_right _ (List.mem_append_right _ (List.mem_append_right _ (List.mem_append_right _ (List.mem_append_right _ (List.mem_append_right _ (List.mem_append_right _ (List.mem_append_right _ (List.mem_append_right _ (List.mem_append_right _ (List.mem_append_right _ (List.mem_append_right _ (List.mem_append_right _ (List.mem_append_right _ (List.mem_append_right _ (List.mem_append_right _ (List.mem_append_right _ (List.mem_append_left _ h)))))))))))))))))))))))))))))))))))))))))))))
theorem sg_33 : ∀ w ∈ wsL_law_r33, w ∈ wsL_law := fun _ h => List.mem_append_left _ (List.mem_append_left _ (List.mem_append_left _ (List.mem_append_left _ (List.mem_append_left _ (List.mem_append_left _ (List.mem_append_left _ (List.mem_append_left _ (List.mem_append_left _ (List.mem_append_left _ (List.mem_append_left _ (List.mem_append_left _ (List.mem_append_left _ (List.mem_append_left _ (List.mem_append_right _ (List.mem_append_right _ (List.mem_append_right _ (List.mem_append_right _ (List.mem_append_right _ (List.mem_append_right _ (List.mem_append_right _ (List.mem_append_right _ (List.mem_append_right _ (List.mem_append_right _ (List.mem_append_right _ (List.mem_append_right _ (List.mem_append_right _ (List.mem_append_right _ (List.mem_append_right _ (List.mem_append_right _ (List.mem_append_right _ (List.mem_append_right _ (List.mem_append_right _ (List.mem_append_right _ (List.mem_append_right _ (List.mem_append_right _ (List.mem_append_right _ (List.mem_append_right _ (List.mem_append_right _ (List.mem_append_right _ (List.mem_append_right _ (List.mem_append_right _ (List.mem_append_right _ (List.mem_append_right _ (List.mem_append_right _ (List.mem_append_right _ (List.mem_append_left _ h))))))))))))))))))))))))))))))))))))))))))))))
theorem sg_34 : ∀ w ∈ wsL_law_r34, w ∈ wsL_law := fun _ h => List.mem_append_left _ (List.mem_append_left _ (List.mem_append_left _ (List.mem_append_left _ (List.mem_append_left _ (List.mem_append_left _ (List.mem_append_left _ (List.mem_append_left _ (List.mem_append_left _ (List.mem_append_left _ (List.mem_append_left _ (List.mem_append_left _ (List.mem_append_left _ (List.mem_append_left _ (List.mem_append_right _ (List.mem_append_right _ (List.mem_append_right _ (List.mem_append_right _ (List.mem_append_right _ (List.mem_append_right _ (List.mem_append_right _ (List.mem_append_right _ (List.mem_append_right _ (List.mem_append_right _ (List.mem_append_right _ (List.mem_append_right _ (List.mem_append_right _ (List.mem_append_right _ (List.mem_append_right _ (List.mem_append_right _ (List.mem_append_right _ (List.mem_append_right _ (List.mem_append_right _ (List.mem_append_right _ (List.mem_append_right _ (List.mem_append_right _ (List.mem_append_right _ (List.mem_append_right _ (List.mem_append_right _ (List.mem_append_right _ (List.mem_append_right _ (List.mem_append_right _ (List.mem_append_right _ (List.mem_append_right _ (List.mem_append_right _ (List.mem_append_right _ (List.mem_append_right _ (List.mem_append_left _ h)))))))))))))))))))))))))))))))))))))))))))))))
theorem sg_35 : ∀ w ∈ wsL_law_r35, w ∈ wsL_law := fun _ h => List.mem_append_left _ (List.mem_append_left _ (List.mem_append_left _ (List.mem_append_left _ (List.mem_append_left _ (List.mem_append_left _ (List.mem_append_left _ (List.mem_append_left _ (List.mem_append_left _ (List.mem_append_left _ (List.mem_append_left _ (List.mem_append_left _ (List.mem_append_left _ (List.mem_append_left _ (List.mem_append_right _ (List.mem_append_right _ (List.mem_append_right _ (List.mem_append_right _ (List.mem_append_right _ (List.mem_append_right _ (List.mem_append_right _ (List.mem_append_right _ (List.mem_append_right _ (List.mem_append_right _ (List.mem_append_right _ (List.mem_append_right _ (List.mem_append_right _ (List.mem_append_right _ (List.mem_append_right _ (List.mem_append_right _ (List.mem_append_right _ (List.mem_append_right _ (List.mem_append_right _ (List.mem_append_right _ (List.mem_append_right _ (List.mem_append_right _ (List.mem_append_right _ (List.mem_append_right _ (List.mem_append_right _ (List.mem_append_right _ (List.mem_append_right _ (List.mem_append_right _ (List.mem_append_right _ (List.mem_append_right _ (List.mem_append_right _ (List.mem_append_right _ (List.mem_append_right _ (List.mem_append_right _ (List.mem_append_left _ h))))))))))))))))))))))))))))))))))))))))))))))))
theorem sg_36 : ∀ w ∈ wsL_law_r36, w ∈ wsL_law := fun _ h => List.mem_append_left _ (List.mem_append_left _ (List.mem_append_left _ (List.mem_append_left _ (List.mem_append_left _ (List.mem_append_left _ (List.mem_append_left _ (List.mem_append_left _ (List.mem_append_left _ (List.mem_append_left _ (List.mem_append_left _ (List.mem_append_left _ (List.mem_append_left _ (List.mem_append_left _ (List.mem_append_right _ (List.mem_append_right _ (List.mem_append_right _ (List.mem_append_right _ (List.mem_append_right _ (List.mem_append_right _ (List.mem_append_right _ (List.mem_append_right _ (List.mem_append_right _ (List.mem_append_right _ (List.mem_append_right _ (List.mem_append_right _ (List.mem_append_right _ (List.mem_append_right _ (List.mem_append_right _ (List.mem_append_right _ (List.mem_append_right _ (List.mem_append_right _ (List.mem_append_right _ (List.mem_append_right _ (List.mem_append_right _ (List.mem_append_right _ (List.mem_append_right _ (List.mem_append_right _ (List.mem_append_right _ (List.mem_append_right _ (List.mem_append_right _ (List.mem_append_right _ (List.mem_append_right _ (List.mem_append_right _ (List.mem_append_right _ (List.mem_append_right _ (List.mem_append_right _ (List.mem_append_right _ (List.mem_append_right _ (List.mem_append_left _ h)))))))))))))))))))))))))))))))))))))))))))))))))
theorem sg_37 : ∀ w ∈ wsL_law_r37, w ∈ wsL_law := fun _ h => List.mem_append_left _ (List.mem_append_left _ (List.mem_append_left _ (List.mem_append_left _ (List.mem_append_left _ (List.mem_append_left _ (List.mem_append_left _ (List.mem_append_left _ (List.mem_append_left _ (List.mem_append_left _ (List.mem_append_left _ (List.mem_append_left _ (List.mem_append_left _ (List.mem_append_left _ (List.mem_append_right _ (List.mem_append_right _ (List.mem_append_right _ (List.mem_append_right _ (List.mem_append_right _ (List.mem_append_right _ (List.mem_append_right _ (List.mem_append_right _ (List.mem_append_right _ (List.mem_append_right _ (List.mem_append_right _ (List.mem_append_right _ (List.mem_append_right _ (List.mem_append_right _ (List.mem_append_right _ (List.mem_append_right _ (List.mem_append_right _ (List.mem_append_right _ (List.mem_append_right _ (List.mem_append_right _ (List.mem_append_right _ (List.mem_append_right _ (List.mem_append_right _ (List.mem_append_right _ (List.mem_append_right _ (List.mem_append_right _ (List.mem_append_right _ (List.mem_append_right _ (List.mem_append_right _ (List.mem_append_right _ (List.mem_append_right _ (List.mem_append_right _ (List.mem_append_right _ (List.mem_append_right _ (List.mem_append_right _ (List.mem_append_right _ (List.mem_append_left _ h))))))))))))))))))))))))))))))))))))))))))))))))))
theorem sg_38 : ∀ w ∈ wsL_law_r38, w ∈ wsL_law := fun _ h => List.mem_append_left _ (List.mem_append_left _ (List.mem_append_left _ (List.mem_append_left _ (List.mem_append_left _ (List.mem_append_left _ (List.mem_append_left _ (List.mem_append_left _ (List.mem_append_left _ (List.mem_append_left _ (List.mem_append_left _ (List.mem_append_left _ (List.mem_append_left _ (List.mem_append_left _ (List.mem_append_right _ (List.mem_append_right _ (List.mem_append_right _ (List.mem_append_right _ (List.mem_append_right _ (List.mem_append_right _ (List.mem_append_right _ (List.mem_append_right _ (List.mem_append_right _ (List.mem_append_right _ (List.mem_append_right _ (List.mem_append_right _ (List.mem_append_right _ (List.mem_append_right _ (List.mem_append_right _ (List.mem_append_right _ (List.mem_append_right _ (List.mem_append_right _ (List.mem_append_right _ (List.mem_append_right _ (List.mem_append_right _ (List.mem_append_right _ (List.mem_append_right _ (List.mem_append_right _ (List.mem_append_right _ (List.mem_append_right _ (List.mem_append_right _ (List.mem_append_right _ (List.mem_append_right _ (List.mem_append_right _ (List.mem_append_right _ (List.mem_append_right _ (List.mem_append_right _ (List.mem_append_right _ (List.mem_append_right _ (List.mem_append_right _ (List.mem_append_right _ (List.mem_append_left _ h)))))))))))))))))))))))))))))))))))))))))))))))))))
theorem sg_39 : ∀ w ∈ wsL_law_r39, w ∈ wsL_law := fun _ h => List.mem_append_left _ (List.mem_append_left _ (List.mem_append_left _ (List.mem_append_left _ (List.mem_append_left _ (List.mem_append_left _ (List.mem_append_left _ (List.mem_append_left _ (List.mem_append_left _ (List.mem_append_left _ (List.mem_append_left _ (List.mem_append_left _ (List.mem_append_left _ (List.mem_append_left _ (List.mem_append_right _ (List.mem_append_right _ (List.mem_append_right _ (List.mem_append_right _ (List.mem_append_right _ (List.mem_append_right _ (List.mem_append_right _ (List.mem_append_right _ (List.mem_append_right _ (List.mem_append_right _ (List.mem_append_right _ (List.mem_append_right _ (List.mem_append_right _ (List.mem_append_right _ (List.mem_append_right _ (List.mem_append_right _ (List.mem_append_right _ (List.mem_append_right _ (List.mem_append_right _ (List.mem_append_right _ (List.mem_append_right _ (List.mem_append_right _ (List.mem_append_right _ (List.mem_append_right _ (List.mem_append_right _ (List.mem_append_right _ (List.mem_append_right _ (List.mem_append_right _ (List.mem_append_right _ (List.mem_append_right _ (List.mem_append_right _ (List.mem_append_right _ (List.mem_append_right _ (List.mem_append_right _ (List.mem_append_right _ (List.mem_append_right _ (List.mem_append_right _ (List.mem_append_right _ (List.mem_append_left _ h))))))))))))))))))))))))))))))))))))))))))))))))))))
theorem sg_40 : ∀ w ∈ wsL_law_r40, w ∈ wsL_law := fun _ h => List.mem_append_left _ (List.mem_append_left _ (List.mem_append_left _ (List.mem_append_left _ (List.mem_append_left _ (List.mem_append_left _ (List.mem_append_left _ (List.mem_append_left _ (List.mem_append_left _ (List.mem_append_left _ (List.mem_append_left _ (List.mem_append_left _ (List.mem_append_left _ (List.mem_append_left _ (List.mem_append_right _ (List.mem_append_right _ (List.mem_append_right _ (List.mem_append_right _ (List.mem_append_right _ (List.mem_append_right _ (List.mem_append_right _ (List.mem_append_right _ (List.mem_append_right _ (List.mem_append_right _ (List.mem_append_right _ (List.mem_append_right _ (List.mem_append_right _ (List.mem_append_right _ (List.mem_append_right _ (List.mem_append_right _ (List.mem_append_right _ (List.mem_append_right _ (List.mem_append_right _ (List.mem_append_right _ (List.mem_append_right _ (List.mem_append_right _ (List.mem_append_right _ (List.mem_append_right _ (List.mem_append_right _ (List.mem_append_right _ (List.mem_append_right _ (List.mem_append_right _ (List.mem_append_right _ (List.mem_append_right _ (List.mem_append_right _ (List.mem_append_right _ (List.mem_append_right _ (List.mem_append_right _ (List.mem_append_right _ (List.mem_append_right _ (List.mem_append_right _ (List.mem_append_right _ (List.mem_append_right _ (List.mem_append_left _ h)))))))))))))))))))))))))))))))))))))))))))))))))))))
theorem sg_41 : ∀ w ∈ wsL_law_r41, w ∈ wsL_law := fun _ h => List.mem_append_left _ (List.mem_append_left _ (List.mem_append_left _ (List.mem_append_left _ (List.mem_append_left _ (List.mem_append_left _ (List.mem_append_left _ (List.mem_append_left _ (List.mem_append_left _ (List.mem_append_left _ (List.mem_append_left _ (List.mem_append_left _ (List.mem_append_left _ (List.mem_append_left _ (List.mem_append_right _ (List.mem_append_right _ (List.mem_append_right _ (List.mem_append_right _ (List.mem_append_right _ (List.mem_append_right _ (List.mem_append_right _ (List.mem_append_right _ (List.mem_append_right _ (List.mem_append_right _ (List.mem_append_right _ (List.mem_append_right _ (List.mem_append_right _ (List.mem_append_right _ (List.mem_append_right _ (List.mem_append_right _ (List.mem_append_right _ (List.mem_append_right _ (List.mem_append_right _ (List.mem_append_right _ (List.mem_append_right _ (List.mem_append_right _ (List.mem_append_right _ (List.mem_append_right _ (List.mem_append_right _ (List.mem_append_right _ (List.mem_append_right _ (List.mem_append_right _ (List.mem_append_right _ (List.mem_append_right _ (List.mem_append_right _ (List.mem_append_right _ (List.mem_append_right _ (List.mem_append_right _ (List.mem_append_right _ (List.mem_append_right _ (List.mem_append_right _ (List.mem_append_right _ (List.mem_append_right _ (List.mem_append_right _ (List.mem_append_left _ h))))))))))))))))))))))))))))))))))))))))))))))))))))))
theorem sg_42 : ∀ w ∈ wsL_law_r42, w ∈ wsL_law := fun _ h => List.mem_append_left _ (List.mem_append_left _ (List.mem_append_left _ (List.mem_append_left _ (List.mem_append_left _ (List.mem_append_left _ (List.mem_append_left _ (List.mem_append_left _ (List.mem_append_left _ (List.mem_append_left _ (List.mem_append_left _ (List.mem_append_left _ (List.mem_append_left _ (List.mem_append_left _ (List.mem_append_right _ (List.mem_append_right _ (List.mem_append_right _ (List.mem_append_right _ (List.mem_append_right _ (List.mem_append_right _ (List.mem_append_right _ (List.mem_append_right _ (List.mem_append_right _ (List.mem_append_right _ (List.mem_append_right _ (List.mem_append_right _ (List.mem_append_right _ (List.mem_append_right _ (List.mem_append_right _ (List.mem_append_right _ (List.mem_append_right _ (List.mem_append_right _ (List.mem_append_right _ (List.mem_append_right _ (List.mem_append_right _ (List.mem_append_right _ (List.mem_append_right _ (List.mem_append_right _ (List.mem_append_right _ (List.mem_append_right _ (List.mem_append_right _ (List.mem_append_right _ (List.mem_append_right _ (List.mem_append_right _ (List.mem_append_right _ (List.mem_append_right _ (List.mem_append_right _ (List.mem_append_right _ (List.mem_append_right _ (List.mem_append_right _ (List.mem_append_right _ (List.mem_append_right _ (List.mem_append_right _ (List.mem_append_right _ (List.mem_append_right _ (List.mem_append_left _ h)))))))))))))))))))))))))))))))))))))))))))))))))))))))
theorem sg_43 : ∀ w ∈ wsL_law_r43, w ∈ wsL_law := fun _ h => List.mem_append_left _ (List.mem_append_left _ (List.mem_append_left _ (List.mem_append_left _ (List.mem_append_left _ (List.mem_append_left _ (List.mem_append_left _ (List.mem_append_left _ (List.mem_append_left _ (List.mem_append_left _ (List.mem_append_left _ (List.mem_append_left _ (List.mem_append_left _ (List.mem_append_left _ (List.mem_append_right _ (List.mem_append_right _ (List.mem_append_right _ (List.mem_append_right _ (List.mem_append_right _ (List.mem_append_right _ (List.mem_append_right _ (List.mem_append_right _ (List.mem_append_right _ (List.mem_append_right _ (List.mem_append_right _ (List.mem_append_right _ (List.mem_append_right _ (List.mem_append_right _ (List.mem_append_right _ (List.mem_append_right _ (List.mem_append_right _ (List.mem_append_right _ (List.mem_append_right _ (List.mem_append_right _ (List.mem_append_right _ (List.mem_append_right _ (List.mem_append_right _ (List.mem_append_right _ (List.mem_append_right _ (List.mem_append_right _ (List.mem_append_right _ (List.mem_append_right _ (List.mem_append_right _ (List.mem_append_right _ (List.mem_append_right _ (List.mem_append_right _ (List.mem_append_right _ (List.mem_append_right _ (List.mem_append_right _ (List.mem_append_right _ (List.mem_append_right _ (List.mem_append_right _ (List.mem_append_right _ (List.mem_append_right _ (List.mem_append_right _ (List.mem_append_right _ (List.mem_append_left _ h))))))))))))))))))))))))))))))))))))))))))))))))))))))))
theorem sg_44 : ∀ w ∈ wsL_law_r44, w ∈ wsL_law := fun _ h => List.mem_append_left _ (List.mem_append_left _ (List.mem_append_left _ (List.mem_append_left _ (List.mem_append_left _ (List.mem_append_left _ (List.mem_append_left _ (List.mem_append_left _ (List.mem_append_left _ (List.mem_append_left _ (List.mem_append_left _ (List.mem_append_left _ (List.mem_append_left _ (List.mem_append_left _ (List.mem_append_right _ (List.mem_append_right _ (List.mem_append_right _ (List.mem_append_right _ (List.mem_append_right _ (List.mem_append_right _ (List.mem_append_right _ (List.mem_append_right _ (List.mem_append_right _ (List.mem_append_right _ (List.mem_append_right _ (List.mem_append_right _ (List.mem_append_right _ (List.mem_append_right _ (List.mem_append_right _ (List.mem_append_right _ (List.mem_append_right _ (List.mem_append_right _ (List.mem_append_right _ (List.mem_append_right _ (List.mem_append_right _ (List.mem_append_right _ (List.mem_append_right _ (List.mem_append_right _ (List.mem_append_right _ (List.mem_append_right _ (List.mem_append_right _ (List.mem_append_right _ (List.mem_append_right _ (List.mem_append_right _ (List.mem_append_right _ (List.mem_append_right _ (List.mem_append_right _ (List.mem_append_right _ (List.mem_append_right _ (List.mem_append_right _ (List.mem_append_right _ (List.mem_append_right _ (List.mem_append_right _ (List.mem_append_right _ (List.mem_append_right _ (List.mem_append_right _ (List.mem_append_right _ (List.mem_append_left _ h)))))))))))))))))))))))))))))))))))))))))))))))))))))))))
theorem sg_45 : ∀ w ∈ wsL_law_r45, w ∈ wsL_law := fun _ h => List.mem_append_left _ (List.mem_append_left _ (List.mem_append_left _ (List.mem_append_left _ (List.mem_append_left _ (List.mem_append_left _ (List.mem_append_left _ (List.mem_append_left _ (List.mem_append_left _ (List.mem_append_left _ (List.mem_append_left _ (List.mem_append_left _ (List.mem_append_left _ (List.mem_append_left _ (List.mem_append_right _ (List.mem_append_right _ (List.mem_append_right _ (List.mem_append_right _ (List.mem_append_right _ (List.mem_append_right _ (List.mem_append_right _ (List.mem_append_right _ (List.mem_append_right _ (List.mem_append_right _ (List.mem_append_right _ (List.mem_append_right _ (List.mem_append_right _ (List.mem_append_right _ (List.mem_append_right _ (List.mem_append_right _ (List.mem_append_right _ (List.mem_append_right _ (List.mem_append_right _ (List.mem_append_right _ (List.mem_append_right _ (List.mem_append_right _ (List.mem_append_right _ (List.mem_append_right _ (List.mem_append_right _ (List.mem_append_right _ (List.mem_append_right _ (List.mem_append_right _ (List.mem_append_right _ (List.mem_append_right _ (List.mem_append_right _ (List.mem_append_right _ (List.mem_append_right _ (List.mem_append_right _ (List.mem_append_right _ (List.mem_append_right _ (List.mem_append_right _ (List.mem_append_right _ (List.mem_append_right _ (List.mem_append_right _ (List.mem_append_right _ (List.mem_append_right _ (List.mem_append_right _ (List.mem_append_right _ (List.mem_append_left _ h))))))))))))))))))))))))))))))))))))))))))))))))))))))))))
theorem sg_46 : ∀ w ∈ wsL_law_r46, w ∈ wsL_law := fun _ h => List.mem_append_left _ (List.mem_append_left _ (List.mem_append_left _ (List.mem_append_left _ (List.mem_append_left _ (List.mem_append_left _ (List.mem_append_left _ (List.mem_append_left _ (List.mem_append_left _ (List.mem_append_left _ (List.mem_append_left _ (List.mem_append_left _ (List.mem_append_left _ (List.mem_append_left _ (List.mem_append_right _ (List.mem_append_right _ (List.mem_append_right _ (List.mem_append_right _ (List.mem_append_right _ (List.mem_append_right _ (List.mem_append_right _ (List.mem_append_right _ (List.mem_append_right _ (List.mem_append_right _ (List.mem_append_right _ (List.mem_append_right _ (List.mem_append_right _ (List.mem_append_right _ (List.mem_append_right _ (List.mem_append_right _ (List.mem_append_right _ (List.mem_append_right _ (List.mem_append_right _ (List.mem_append_right _ (List.mem_append_right _ (List.mem_append_right _ (List.mem_append_right _ (List.mem_append_right _ (List.mem_append_right _ (List.mem_append_right _ (List.mem_append_right _ (List.mem_append_right _ (List.mem_append_right _ (List.mem_append_right _ (List.mem_append_right _ (List.mem_append_right _ (List.mem_append_right _ (List.mem_append_right _ (List.mem_append_right _ (List.mem_append_right _ (List.mem_append_right _ (List.mem_append_right _ (List.mem_append_right _ (List.mem_append_right _ (List.mem_append_right _ (List.mem_append_right _ (List.mem_append_right _ (List.mem_append_right _ (List.mem_append_right _ (List.mem_append_left _ h)))))))))))))))))))))))))))))))))))))))))))))))))))))))))))
theorem sg_47 : ∀ w ∈ wsL_law_r47, w ∈ wsL_law := fun _ h => List.mem_append_left _ (List.mem_append_left _ (List.mem_append_left _ (List.mem_append_left _ (List.mem_append_left _ (List.mem_append_left _ (List.mem_append_left _ (List.mem_append_left _ (List.mem_append_left _ (List.mem_append_left _ (List.mem_append_left _ (List.mem_append_left _ (List.mem_append_left _ (List.mem_append_left _ (List.mem_append_right _ (List.mem_append_right _ (List.mem_append_right _ (List.mem_append_right _ (List.mem_append_right _ (List.mem_append_right _ (List.mem_append_right _ (List.mem_append_right _ (List.mem_append_right _ (List.mem_append_right _ (List.mem_append_right _ (List.mem_append_right _ (List.mem_append_right _ (List.mem_append_right _ (List.mem_append_right _ (List.mem_append_right _ (List.mem_append_right _ (List.mem_append_right _ (List.mem_append_right _ (List.mem_append_right _ (List.mem_append_right _ (List.mem_append_right _ (List.mem_append_right _ (List.mem_append_right _ (List.mem_append_right _ (List.mem_append_right _ (List.mem_append_right _ (List.mem_append_right _ (List.mem_append_right _ (List.mem_append_right _ (List.mem_append_right _ (List.mem_append_right _ (List.mem_append_right _ (List.mem_append_right _ (List.mem_append_right _ (List.mem_append_right _ (List.mem_append_right _ (List.mem_append_right _ (List.mem_append_right _ (List.mem_append_right _ (List.mem_append_right _ (List.mem_append_right _ (List.mem_append_right _ (List.mem_append_right _ (List.mem_append_right _ (List.mem_append_right _ (List.mem_append_left _ h))))))))))))))))))))))))))))))))))))))))))))))))))))))))))))
theorem sg_48 : ∀ w ∈ wsL_law_r48, w ∈ wsL_law := fun _ h => List.mem_append_left _ (List.mem_append_left _ (List.mem_append_left _ (List.mem_append_left _ (List.mem_append_left _ (List.mem_append_left _ (List.mem_append_left _ (List.mem_append_left _ (List.mem_append_left _ (List.mem_append_left _ (List.mem_append_left _ (List.mem_append_left _ (List.mem_append_left _ (List.mem_append_left _ (List.mem_append_right _ (List.mem_append_right _ (List.mem_append_right _ (List.mem_append_right _ (List.mem_append_right _ (List.mem_append_right _ (List.mem_append_right _ (List.mem_append_right _ (List.mem_append_right _ (List.mem_append_right _ (List.mem_append_right _ (List.mem_append_right _ (List.mem_append_right _ (List.mem_append_right _ (List.mem_append_right _ (List.mem_append_right _ (List.mem_append_right _ (List.mem_append_right _ (List.mem_append_right _ (List.mem_append_right _ (List.mem_append_right _ (List.mem_append_right _ (List.mem_append_right _ (List.mem_append_right _ (List.mem_append_right _ (List.mem_append_right _ (List.mem_append_right _ (List.mem_append_right _ (List.mem_append_right _ (List.mem_append_right _ (List.mem_append_right _ (List.mem_append_right _ (List.mem_append_right _ (List.mem_append_right _ (List.mem_append_right _ (List.mem_append_right _ (List.mem_append_right _ (List.mem_append_right _ (List.mem_append_right _ (List.mem_append_right _ (List.mem_append_right _ (List.mem_append_right _ (List.mem_append_right _ (List.mem_append_right _ (List.mem_append_right _ (List.mem_append_right _ (List.mem_append_right _ (List.mem_append_left _ h)))))))))))))))))))))))))))))))))))))))))))))))))))))))))))))
theorem sg_49 : ∀ w ∈ wsL_law_r49, w ∈ wsL_law := fun _ h => List.mem_append_left _ (List.mem_append_left _ (List.mem_append_left _ (List.mem_append_left _ (List.mem_append_left _ (List.mem_append_left _ (List.mem_append_left _ (List.mem_append_left _ (List.mem_append_left _ (List.mem_append_left _ (List.mem_append_left _ (List.mem_append_left _ (List.mem_append_left _ (List.mem_append_left _ (List.mem_append_right _ (List.mem_append_right _ (List.mem_append_right _ (List.mem_append_right _ (List.mem_append_right _ (List.mem_append_right _ (List.mem_append_right _ (List.mem_append_right _ (List.mem_append_right _ (List.mem_append_right _ (List.mem_append_right _ (List.mem_append_right _ (List.mem_append_right _ (List.mem_append_right _ (List.mem_append_right _ (List.mem_append_right _ (List.mem_append_right _ (List.mem_append_right _ (List.mem_append_right _ (List.mem_append_right _ (List.mem_append_right _ (List.mem_append_right _ (List.mem_append_right _ (List.mem_append_right _ (List.mem_append_right _ (List.mem_append_right _ (List.mem_append_right _ (List.mem_append_right _ (List.mem_append_right _ (List.mem_append_right _ (List.mem_append_right _ (List.mem_append_right _ (List.mem_append_right _ (List.mem_append_right _ (List.mem_append_right _ (List.mem_append_right _ (List.mem_append_right _ (List.mem_append_right _ (List.mem_append_right _ (List.mem_append_right _ (List.mem_append_right _ (List.mem_append_right _ (List.mem_append_right _ (List.mem_append_right _ (List.mem_append_right _ (List.mem_append_right _ (List.mem_append_right _ (List.mem_append_right _ (List.mem_append_left _ h))))))))))))))))))))))))))))))))))))))))))))))))))))))))))))))
theorem sg_50 : ∀ w ∈ wsL_law_r50, w ∈ wsL_law := fun _ h => List.mem_append_left _ (List.mem_append_left _ (List.mem_append_left _ (List.mem_append_left _ (List.mem_append_left _ (List.mem_append_left _ (List.mem_append_left _ (List.mem_append_left _ (List.mem_append_left _ (List.mem_append_left _ (List.mem_append_left _ (List.mem_append_left _ (List.mem_append_left _ (List.mem_append_left _ (List.mem_append_right _ (List.mem_append_right _ (List.mem_append_right _ (List.mem_append_right _ (List.mem_append_right _ (List.mem_append_right _ (List.mem_append_right _ (List.mem_append_right _ (List.mem_append_right _ (List.mem_append_right _ (List.mem_append_right _ (List.mem_append_right _ (List.mem_append_right _ (List.mem_append_right _ (List.mem_append_right _ (List.mem_append_right _ (List.mem_append_right _ (List.mem_append_right _ (List.mem_append_right _ (List.mem_append_right _ (List.mem_append_right _ (List.mem_append_right _ (List.mem_append_right _ (List.mem_append_right _ (List.mem_append_right _ (List.mem_append_right _ (List.mem_append_right _ (List.mem_append_right _ (List.mem_append_right _ (List.mem_append_right _ (List.mem_append_right _ (List.mem_append_right _ (List.mem_append_right _ (List.mem_append_right _ (List.mem_append_right _ (List.mem_append_right _ (List.mem_append_right _ (List.mem_append_right _ (List.mem_append_right _ (List.mem_append_right _ (List.mem_append_right _ (List.mem_append_right _ (List.mem_append_right _ (List.mem_append_right _ (List.mem_append_right _ (List.mem_append_right _ (List.mem_append_right _ (List.mem_append_right _ (List.mem_append_right _ (List.mem_append_left _ h)))))))))))))))))))))))))))))))))))))))))))))))))))))))))))))))
theorem sg_51 : ∀ w ∈ wsL_law_r51, w ∈ wsL_law := fun _ h => List.mem_append_left _ (List.mem_append_left _ (List.mem_append_left _ (List.mem_append_left _ (List.mem_append_left _ (List.mem_append_left _ (List.mem_append_left _ (List.mem_append_left _ (List.mem_append_left _ (List.mem_append_left _ (List.mem_append_left _ (List.mem_append_left _ (List.mem_append_left _ (List.mem_append_left _ (List.mem_append_right _ (List.mem_append_right _ (List.mem_append_right _ (List.mem_append_right _ (List.mem_append_right _ (List.mem_append_right _ (List.mem_append_right _ (List.mem_append_right _ (List.mem_append_right _ (List.mem_append_right _ (List.mem_append_right _ (List.mem_append_right _ (List.mem_append_right _ (List.mem_append_right _ (List.mem_append_right _ (List.mem_append_right _ (List.mem_append_right _ (List.mem_append_right _ (List.mem_append_right _ (List.mem_append_right _ (List.mem_append_right _ (List.mem_append_right _ (List.mem_append_right _ (List.mem_append_right _ (List.mem_append_right _ (List.mem_append_right _ (List.mem_append_right _ (List.mem_append_right _ (List.mem_append_right _ (List.mem_append_right _ (List.mem_append_right _ (List.mem_append_right _ (List.mem_append_right _ (List.mem_append_right _ (List.mem_append_right _ (List.mem_append_right _ (List.mem_append_right _ (List.mem_append_right _ (List.mem_append_right _ (List.mem_append_right _ (List.mem_append_right _ (List.mem_append_right _ (List.mem_append_right _ (List.mem_append_right _ (List.mem_append_right _ (List.mem_append_right _ (List.mem_append_right _ (List.mem_append_right _ (List.mem_append_right _ (List.mem_append_right _ (List.mem_append_left _ h))))))))))))))))))))))))))))))))))))))))))))))))))))))))))))))))
theorem sg_52 : ∀ w ∈ wsL_law_r52, w ∈ wsL_law := fun _ h => List.mem_append_left _ (List.mem_append_left _ (List.mem_append_left _ (List.mem_append_left _ (List.mem_append_left _ (List.mem_append_left _ (List.mem_append_left _ (List.mem_append_left _ (List.mem_append_left _ (List.mem_append_left _ (List.mem_append_left _ (List.mem_append_left _ (List.mem_append_left _ (List.mem_append_left _ (List.mem_append_right _ (List.mem_append_right _ (List.mem_append_right _ (List.mem_append_right _ (List.mem_append_right _ (List.mem_append_right _ (List.mem_append_right _ (List.mem_append_right _ (List.mem_append_right _ (List.mem_append_right _ (List.mem_append_right _ (List.mem_append_right _ (List.mem_append_right _ (List.mem_append_right _ (List.mem_append_right _ (List.mem_append_right _ (List.mem_append_right _ (List.mem_append_right _ (List.mem_append_right _ (List.mem_append_right _ (List.mem_append_right _ (List.mem_append_right _ (List.mem_append_right _ (List.mem_append_right _ (List.mem_append_right _ (List.mem_append_right _ (List.mem_append_right _ (List.mem_append_right _ (List.mem_append_right _ (List.mem_append_right _ (List.mem_append_right _ (List.mem_append_right _ (List.mem_append_right _ (List.mem_append_right _ (List.mem_append_right _ (List.mem_append_right _ (List.mem_append_right _ (List.mem_append_right _ (List.mem_append_right _ (List.mem_append_right _ (List.mem_append_right _ (List.mem_append_right _ (List.mem_append_right _ (List.mem_append_right _ (List.mem_append_right _ (List.mem_append_right _ (List.mem_append_right _ (List.mem_append_right _ (List.mem_append_right _ (List.mem_append_right _ (List.mem_append_right _ (List.mem_append_left _ h)))))))))))))))))))))))))))))))))))))))))))))))))))))))))))))))))
theorem sg_53 : ∀ w ∈ wsL_law_r53, w ∈ wsL_law := fun _ h => List.mem_append_left _ (List.mem_append_left _ (List.mem_append_left _ (List.mem_append_left _ (List.mem_append_left _ (List.mem_append_left _ (List.mem_append_left _ (List.mem_append_left _ (List.mem_append_left _ (List.mem_append_left _ (List.mem_append_left _ (List.mem_append_left _ (List.mem_append_left _ (List.mem_append_left _ (List.mem_append_right _ (List.mem_append_right _ (List.mem_append_right _ (List.mem_append_right _ (List.mem_append_right _ (List.mem_append_right _ (List.mem_append_right _ (List.mem_append_right _ (List.mem_append_right _ (List.mem_append_right _ (List.mem_append_right _ (List.mem_append_right _ (List.mem_append_right _ (List.mem_append_right _ (List.mem_append_right _ (List.mem_append_right _ (List.mem_append_right _ (List.mem_append_right _ (List.mem_append_right _ (List.mem_append_right _ (List.mem_append_right _ (List.mem_append_right _ (List.mem_append_right _ (List.mem_append_right _ (List.mem_append_right _ (List.mem_append_right _ (List.mem_append_right _ (List.mem_append_right _ (List.mem_append_right _ (List.mem_append_right _ (List.mem_append_right _ (List.mem_append_right _ (List.mem_append_right _ (List.mem_append_right _ (List.mem_append_right _ (List.mem_append_right _ (List.mem_append_right _ (List.mem_append_right _ (List.mem_append_right _ (List.mem_append_right _ (List.mem_append_right _ (List.mem_append_right _ (List.mem_append_right _ (List.mem_append_right _ (List.mem_append_right _ (List.mem_append_right _ (List.mem_append_right _ (List.mem_append_right _ (List.mem_append_right _ (List.mem_append_right _ (List.mem_append_right _ (List.mem_append_right _ (List.mem_append_left _ h))))))))))))))))))))))))))))))))))))))))))))))))))))))))))))))))))
theorem sg_54 : ∀ w ∈ wsL_law_r54, w ∈ wsL_law := fun _ h => List.mem_append_left _ (List.mem_append_left _ (List.mem_append_left _ (List.mem_append_left _ (List.mem_append_left _ (List.mem_append_left _ (List.mem_append_left _ (List.mem_append_left _ (List.mem_append_left _ (List.mem_append_left _ (List.mem_append_left _ (List.mem_append_left _ (List.mem_append_left _ (List.mem_append_left _ (List.mem_append_right _ (List.mem_append_right _ (List.mem_append_right _ (List.mem_append_right _ (List.mem_append_right _ (List.mem_append_right _ (List.mem_append_right _ (List.mem_append_right _ (List.mem_append_right _ (List.mem_append_right _ (List.mem_append_right _ (List.mem_append_right _ (List.mem_append_right _ (List.mem_append_right _ (List.mem_append_right _ (List.mem_append_right _ (List.mem_append_right _ (List.mem_append_right _ (List.mem_append_right _ (List.mem_append_right _ (List.mem_append_right _ (List.mem_append_right _ (List.mem_append_right _ (List.mem_append_right _ (List.mem_append_right _ (List.mem_append_right _ (List.mem_append_right _ (List.mem_append_right _ (List.mem_append_right _ (List.mem_append_right _ (List.mem_append_right _ (List.mem_append_right _ (List.mem_append_right _ (List.mem_append_right _ (List.mem_append_right _ (List.mem_append_right _ (List.mem_append_right _ (List.mem_append_right _ (List.mem_append_right _ (List.mem_append_right _ (List.mem_append_right _ (List.mem_append_right _ (List.mem_append_right _ (List.mem_append_right _ (List.mem_append_right _ (List.mem_append_right _ (List.mem_append_right _ (List.mem_append_right _ (List.mem_append_right _ (List.mem_append_right _ (List.mem_append_right _ (List.mem_append_right _ (List.mem_append_right _ (List.mem_append_left _ h)))))))))))))))))))))))))))))))))))))))))))))))))))))))))))))))))))
theorem sg_55 : ∀ w ∈ wsL_law_r55, w ∈ wsL_law := fun _ h => List.mem_append_left _ (List.mem_append_left _ (List.mem_append_left _ (List.mem_append_left _ (List.mem_append_left _ (List.mem_append_left _ (List.mem_append_left _ (List.mem_append_left _ (List.mem_append_left _ (List.mem_append_left _ (List.mem_append_left _ (List.mem_append_left _ (List.mem_append_left _ (List.mem_append_left _ (List.mem_append_right _ (List.mem_append_right _ (List.mem_append_right _ (List.mem_append_right _ (List.mem_append_right _ (List.mem_append_right _ (List.mem_append_right _ (List.mem_append_right _ (List.mem_append_right _ (List.mem_append_right _ (List.mem_append_right _ (List.mem_append_right _ (List.mem_append_right _ (List.mem_append_right _ (List.mem_append_right _ (List.mem_append_right _ (List.mem_append_right _ (List.mem_append_right _ (List.mem_append_right _ (List.mem_append_right _ (List.mem_append_right _ (List.mem_append_right _ (List.mem_append_right _ (List.mem_append_right _ (List.mem_append_right _ (List.mem_append_right _ (List.mem_append_right _ (List.mem_append_right _ (List.mem_append_right _ (List.mem_append_right _ (List.mem_append_right _ (List.mem_append_right _ (List.mem_append_right _ (List.mem_append_right _ (List.mem_append_right _ (List.mem_append_right _ (List.mem_append_right _ (List.mem_append_right _ (List.mem_append_right _ (List.mem_append_right _ (List.mem_append_right _ (List.mem_append_right _ (List.mem_append_right _ (List.mem_append_right _ (List.mem_append_right _ (List.mem_append_right _ (List.mem_append_right _ (List.mem_append_right _ (List.mem_append_right _ (List.mem_append_right _ (List.mem_append_right _ (List.mem_append_right _ (List.mem_append_right _ (List.mem_append_right _ (List.mem_append_left _ h))))))))))))))))))))))))))))))))))))))))))))))))))))))))))))))))))))
theorem sg_56 : ∀ w ∈ wsL_law_r56, w ∈ wsL_law := fun _ h => List.mem_append_left _ (List.mem_append_left _ (List.mem_append_left _ (List.mem_append_left _ (List.mem_append_left _ (List.mem_append_left _ (List.mem_append_left _ (List.mem_append_left _ (List.mem_append_left _ (List.mem_append_left _ (List.mem_append_left _ (List.mem_append_left _ (List.mem_append_left _ (List.mem_append_left _ (List.mem_append_right _ (List.mem_append_right _ (List.mem_append_right _ (List.mem_append_right _ (List.mem_append_right _ (List.mem_append_right _ (List.mem_append_right _ (List.mem_append_right _ (List.mem_append_right _ (List.mem_append_right _ (List.mem_append_right _ (List.mem_append_right _ (List.mem_append_right _ (List.mem_append_right _ (List.mem_append_right _ (List.mem_append_right _ (List.mem_append_right _ (List.mem_append_right _ (List.mem_append_right _ (List.mem_append_right _ (List.mem_append_right _ (List.mem_append_right _ (List.mem_append_right _ (List.mem_append_right _ (List.mem_append_right _ (List.mem_append_right _ (List.mem_append_right _ (List.mem_append_right _ (List.mem_append_right _ (List.mem_append_right _ (List.mem_append_right _ (List.mem_append_right _ (List.mem_append_right _ (List.mem_append_right _ (List.mem_append_right _ (List.mem_append_right _ (List.mem_append_right _ (List.mem_append_right _ (List.mem_append_right _ (List.mem_append_right _ (List.mem_append_right _ (List.mem_append_right _ (List.mem_append_right _ (List.mem_append_right _ (List.mem_append_right _ (List.mem_append_right _ (List.mem_append_right _ (List.mem_append_right _ (List.mem_append_right _ (List.mem_append_right _ (List.mem_append_right _ (List.mem_append_right _ (List.mem_append_right _ (List.mem_append_right _ (List.mem_append_right _ (List.mem_append_left _ h)))))))))))))))))))))))))))))))))))))))))))))))))))))))))))))))))))))
theorem sg_57 : ∀ w ∈ wsL_law_r57, w ∈ wsL_law := fun _ h => List.mem_append_left _ (List.mem_append_left _ (List.mem_append_left _ (List.mem_append_left _ (List.mem_append_left _ (List.mem_append_left _ (List.mem_append_left _ (List.mem_append_left _ (List.mem_append_left _ (List.mem_append_left _ (List.mem_append_left _ (List.mem_append_left _ (List.mem_append_left _ (List.mem_append_left _ (List.mem_append_right _ (List.mem_append_right _ (List.mem_append_right _ (List.mem_append_right _ (List.mem_append_right _ (List.mem_append_right _ (List.mem_append_right _ (List.mem_append_right _ (List.mem_append_right _ (List.mem_append_right _ (List.mem_append_right _ (List.mem_append_right _ (List.mem_append_right _ (List.mem_append_right _ (List.mem_append_right _ (List.mem_append_right _ (List.mem_append_right _ (List.mem_append_right _ (List.mem_append_right _ (List.mem_append_right _ (List.mem_append_right _ (List.mem_append_right _ (List.mem_append_right _ (List.mem_append_right _ (List.mem_append_right _ (List.mem_append_right _ (List.mem_append_right _ (List.mem_append_right _ (List.mem_append_right _ (List.mem_append_right _ (List.mem_append_right _ (List.mem_append_right _ (List.mem_append_right _ (List.mem_append_right _ (List.mem_append_right _ (List.mem_append_right _ (List.mem_append_right _ (List.mem_append_right _ (List.mem_append_right _ (List.mem_append_right _ (List.mem_append_right _ (List.mem_append_right _ (List.mem_append_right _ (List.mem_append_right _ (List.mem_append_right _ (List.mem_append_right _ (List.mem_append_right _ (List.mem_append_right _ (List.mem_append_right _ (List.mem_append_right _ (List.mem_append_right _ (List.mem_append_right _ (List.mem_append_right _ (List.mem_append_right _ (List.mem_append_right _ (List.mem_append_right _ (List.mem_append_left _ h))))))))))))))))))))))))))))))))))))))))))))))))))))))))))))))))))))))
theorem sg_58 : ∀ w ∈ wsL_law_r58, w ∈ wsL_law := fun _ h => List.mem_append_left _ (List.mem_append_left _ (List.mem_append_left _ (List.mem_append_left _ (List.mem_append_left _ (List.mem_append_left _ (List.mem_append_left _ (List.mem_append_left _ (List.mem_append_left _ (List.mem_append_left _ (List.mem_append_left _ (List.mem_append_left _ (List.mem_append_left _ (List.mem_append_left _ (List.mem_append_right _ (List.mem_append_right _ (List.mem_append_right _ (List.mem_append_right _ (List.mem_append_right _ (List.mem_append_right _ (List.mem_append_right _ (List.mem_append_right _ (List.mem_append_right _ (List.mem_append_right _ (List.mem_append_right _ (List.mem_append_right _ (List.mem_append_right _ (List.mem_append_right _ (List.mem_append_right _ (List.mem_append_right _ (List.mem_append_right _ (List.mem_append_right _ (List.mem_append_right _ (List.mem_append_right _ (List.mem_append_right _ (List.mem_append_right _ (List.mem_append_right _ (List.mem_append_right _ (List.mem_append_right _ (List.mem_append_right _ (List.mem_append_right _ (List.mem_append_right _ (List.mem_append_right _ (List.mem_append_right _ (List.mem_append_right _ (List.mem_append_right _ (List.mem_append_right _ (List.mem_append_right _ (List.mem_append_right _ (List.mem_append_right _ (List.mem_append_right _ (List.mem_append_right _ (List.mem_append_right _ (List.mem_append_right _ (List.mem_append_right _ (List.mem_append_right _ (List.mem_append_right _ (List.mem_append_right _ (List.mem_append_right _ (List.mem_append_right _ (List.mem_append_right _ (List.mem_append_right _ (List.mem_append_right _ (List.mem_append_right _ (List.mem_append_right _ (List.mem_append_right _ (List.mem_append_right _ (List.mem_append_right _ (List.mem_append_right _ (List.mem_append_right _ (List.mem_append_right _ (List.mem_append_left _ h)))))))))))))))))))))))))))))))))))))))))))))))))))))))))))))))))))))))
theorem sg_59 : ∀ w ∈ wsL_law_r59, w ∈ wsL_law := fun _ h => List.mem_append_left _ (List.mem_append_left _ (List.mem_append_left _ (List.mem_append_left _ (List.mem_append_left _ (List.mem_append_left _ (List.mem_append_left _ (List.mem_append_left _ (List.mem_append_left _ (List.mem_append_left _ (List.mem_append_left _ (List.mem_append_left _ (List.mem_append_left _ (List.mem_append_left _ (List.mem_append_right _ (List.mem_append_right _ (List.mem_append_right _ (List.mem_append_right _ (List.mem_append_right _ (List.mem_append_right _ (List.mem_append_right _ (List.mem_append_right _ (List.mem_append_right _ (List.mem_append_right _ (List.mem_append_right _ (List.mem_append_right _ (List.mem_append_right _ (List.mem_append_right _ (List.mem_append_right _ (List.mem_append_right _ (List.mem_append_right _ (List.mem_append_right _ (List.mem_append_right _ (List.mem_append_right _ (List.mem_append_right _ (List.mem_append_right _ (List.mem_append_right _ (List.mem_append_right _ (List.mem_append_right _ (List.mem_append_right _ (List.mem_append_right _ (List.mem_append_right _ (List.mem_append_right _ (List.mem_append_right _ (List.mem_append_right _ (List.mem_append_right _ (List.mem_append_right _ (List.mem_append_right _ (List.mem_append_right _ (List.mem_append_right _ (List.mem_append_right _ (List.mem_append_right _ (List.mem_append_right _ (List.mem_append_right _ (List.mem_append_right _ (List.mem_append_right _ (List.mem_append_right _ (List.mem_append_right _ (List.mem_append_right _ (List.mem_append_right _ (List.mem_append_right _ (List.mem_append_right _ (List.mem_append_right _ (List.mem_append_right _ (List.mem_append_right _ (List.mem_append_right _ (List.mem_append_right _ (List.mem_append_right _ (List.mem_append_right _ (List.mem_append_right _ (List.mem_append_right _ (List.mem_append_right _ (List.mem_append_left _ h))))))))))))))))))))))))))))))))))))))))))))))))))))))))))))))))))))))))
theorem sg_60 : ∀ w ∈ wsL_law_r60, w ∈ wsL_law := fun _ h => List.mem_append_left _ (List.mem_append_left _ (List.mem_append_left _ (List.mem_append_left _ (List.mem_append_left _ (List.mem_append_left _ (List.mem_append_left _ (List.mem_append_left _ (List.mem_append_left _ (List.mem_append_left _ (List.mem_append_left _ (List.mem_append_left _ (List.mem_append_left _ (List.mem_append_left _ (List.mem_append_right _ (List.mem_append_right _ (List.mem_append_right _ (List.mem_append_right _ (List.mem_append_right _ (List.mem_append_right _ (List.mem_append_right _ (List.mem_append_right _ (List.mem_append_right _ (List.mem_append_right _ (List.mem_append_right _ (List.mem_append_right _ (List.mem_append_right _ (List.mem_append_right _ (List.mem_append_right _ (List.mem_append_right _ (List.mem_append_right _ (List.mem_append_right _ (List.mem_append_right _ (List.mem_append_right _ (List.mem_append_right _ (List.mem_append_right _ (List.mem_append_right _ (List.mem_append_right _ (List.mem_append_right _ (List.mem_append_right _ (List.mem_append_right _ (List.mem_append_right _ (List.mem_append_right _ (List.mem_append_right _ (List.mem_append_right _ (List.mem_append_right _ (List.mem_append_right _ (List.mem_append_right _ (List.mem_append_right _ (List.mem_append_right _ (List.mem_append_right _ (List.mem_append_right _ (List.mem_append_right _ (List.mem_append_right _ (List.mem_append_right _ (List.mem_append_right _ (List.mem_append_right _ (List.mem_append_right _ (List.mem_append_right _ (List.mem_append_right _ (List.mem_append_right _ (List.mem_append_right _ (List.mem_append_right _ (List.mem_append_right _ (List.mem_append_right _ (List.mem_append_right _ (List.mem_append_right _ (List.mem_append_right _ (List.mem_append_right _ (List.mem_append_right _ (List.mem_append_right _ (List.mem_append_right _ (List.mem_append_right _ (List.mem_append_left _ h)))))))))))))))))))))))))))))))))))))))))))))))))))))))))))))))))))))))))
theorem sg_61 : ∀ w ∈ wsL_law_r61, w ∈ wsL_law := fun _ h => List.mem_append_left _ (List.mem_append_left _ (List.mem_append_left _ (List.mem_append_left _ (List.mem_append_left _ (List.mem_append_left _ (List.mem_append_left _ (List.mem_append_left _ (List.mem_append_left _ (List.mem_append_left _ (List.mem_append_left _ (List.mem_append_left _ (List.mem_append_left _ (List.mem_append_left _ (List.mem_append_right _ (List.mem_append_right _ (List.mem_append_right _ (List.mem_append_right _ (List.mem_append_right _ (List.mem_append_right _ (List.mem_append_right _ (List.mem_append_right _ (List.mem_append_right _ (List.mem_append_right _ (List.mem_append_right _ (List.mem_append_right _ (List.mem_append_right _ (List.mem_append_right _ (List.mem_append_right _ (List.mem_append_right _ (List.mem_append_right _ (List.mem_append_right _ (List.mem_append_right _ (List.mem_append_right _ (List.mem_append_right _ (List.mem_append_right _ (List.mem_append_right _ (List.mem_append_right _ (List.mem_append_right _ (List.mem_append_right _ (List.mem_append_right _ (List.mem_append_right _ (List.mem_append_right _ (List.mem_append_right _ (List.mem_append_right _ (List.mem_append_right _ (List.mem_append_right _ (List.mem_append_right _ (List.mem_append_right _ (List.mem_append_right _ (List.mem_append_right _ (List.mem_append_right _ (List.mem_append_right _ (List.mem_append_right _ (List.mem_append_right _ (List.mem_append_right _ (List.mem_append_right _ (List.mem_append_right _ (List.mem_append_right _ (List.mem_append_right _ (List.mem_append_right _ (List.mem_append_right _ (List.mem_append_right _ (List.mem_append_right _ (List.mem_append_right _ (List.mem_append_right _ (List.mem_append_right _ (List.mem_append_right _ (List.mem_append_right _ (List.mem_append_right _ (List.mem_append_right _ (List.mem_append_right _ (List.mem_append_right _ (List.mem_append_right _ (List.mem_append_left _ h))))))))))))))))))))))))))))))))))))))))))))))))))))))))))))))))))))))))))
theorem sg_62 : ∀ w ∈ wsL_law_r62, w ∈ wsL_law := fun _ h => List.mem_append_left _ (List.mem_append_left _ (List.mem_append_left _ (List.mem_append_left _ (List.mem_append_left _ (List.mem_append_left _ (List.mem_append_left _ (List.mem_append_left _ (List.mem_append_left _ (List.mem_append_left _ (List.mem_append_left _ (List.mem_append_left _ (List.mem_append_left _ (List.mem_append_left _ (List.mem_append_right _ (List.mem_append_right _ (List.mem_append_right _ (List.mem_append_right _ (List.mem_append_right _ (List.mem_append_right _ (List.mem_append_right _ (List.mem_append_right _ (List.mem_append_right _ (List.mem_append_right _ (List.mem_append_right _ (List.mem_append_right _ (List.mem_append_right _ (List.mem_append_right _ (List.mem_append_right _ (List.mem_append_right _ (List.mem_append_right _ (List.mem_append_right _ (List.mem_append_right _ (List.mem_append_right _ (List.mem_append_right _ (List.mem_append_right _ (List.mem_append_right _ (List.mem_append_right _ (List.mem_append_right _ (List.mem_append_right _ (List.mem_append_right _ (List.mem_append_right _ (List.mem_append_right _ (List.mem_append_right _ (List.mem_append_right _ (List.mem_append_right _ (List.mem_append_right _ (List.mem_append_right _ (List.mem_append_right _ (List.mem_append_right _ (List.mem_append_right _ (List.mem_append_right _ (List.mem_append_right _ (List.mem_append_right _ (List.mem_append_right _ (List.mem_append_right _ (List.mem_append_right _ (List.mem_append_right _ (List.mem_append_right _ (List.mem_append_right _ (List.mem_append_right _ (List.mem_append_right _ (List.mem_append_right _ (List.mem_append_right _ (List.mem_append_right _ (List.mem_append_right _ (List.mem_append_right _ (List.mem_append_right _ (List.mem_append_right _ (List.mem_append_right _ (List.mem_append_right _ (List.mem_append_right _ (List.mem_append_right _ (List.mem_append_right _ (List.mem_append_right _ (List.mem_append_left _ h)))))))))))))))))))))))))))))))))))))))))))))))))))))))))))))))))))))))))))
theorem sg_63 : ∀ w ∈ wsL_law_r63, w ∈ wsL_law := fun _ h => List.mem_append_left _ (List.mem_append_left _ (List.mem_append_left _ (List.mem_append_left _ (List.mem_append_left _ (List.mem_append_left _ (List.mem_append_left _ (List.mem_append_left _ (List.mem_append_left _ (List.mem_append_left _ (List.mem_append_left _ (List.mem_append_left _ (List.mem_append_left _ (List.mem_append_left _ (List.mem_append_right _ (List.mem_append_right _ (List.mem_append_right _ (List.mem_append_right _ (List.mem_append_right _ (List.mem_append_right _ (List.mem_append_right _ (List.mem_append_right _ (List.mem_append_right _ (List.mem_append_right _ (List.mem_append_right _ (List.mem_append_right _ (List.mem_append_right _ (List.mem_append_right _ (List.mem_append_right _ (List.mem_append_right _ (List.mem_append_right _ (List.mem_append_right _ (List.mem_append_right _ (List.mem_append_right _ (List.mem_append_right _ (List.mem_append_right _ (List.mem_append_right _ (List.mem_append_right _ (List.mem_append_right _ (List.mem_append_right _ (List.mem_append_right _ (List.mem_append_right _ (List.mem_append_right _ (List.mem_append_right _ (List.mem_append_right _ (List.mem_append_right _ (List.mem_append_right _ (List.mem_append_right _ (List.mem_append_right _ (List.mem_append_right _ (List.mem_append_right _ (List.mem_append_right _ (List.mem_append_right _ (List.mem_append_right _ (List.mem_append_right _ (List.mem_append_right _ (List.mem_append_right _ (List.mem_append_right _ (List.mem_append_right _ (List.mem_append_right _ (List.mem_append_right _ (List.mem_append_right _ (List.mem_append_right _ (List.mem_append_right _ (List.mem_append_right _ (List.mem_append_right _ (List.mem_append_right _ (List.mem_append_right _ (List.mem_append_right _ (List.mem_append_right _ (List.mem_append_right _ (List.mem_append_right _ (List.mem_append_right _ (List.mem_append_right _ (List.mem_append_right _ (List.mem_append_right _ (List.mem_append_left _ h))))))))))))))))))))))))))))))))))))))))))))))))))))))))))))))))))))))))))))
theorem sg_64 : ∀ w ∈ wsL_law_r64, w ∈ wsL_law := fun _ h => List.mem_append_left _ (List.mem_append_left _ (List.mem_append_left _ (List.mem_append_left _ (List.mem_append_left _ (List.mem_append_left _ (List.mem_append_left _ (List.mem_append_left _ (List.mem_append_left _ (List.mem_append_left _ (List.mem_append_left _ (List.mem_append_left _ (List.mem_append_left _ (List.mem_append_left _ (List.mem_append_right _ (List.mem_append_right _ (List.mem_append_right _ (List.mem_append_right _ (List.mem_append_right _ (List.mem_append_right _ (List.mem_append_right _ (List.mem_append_right _ (List.mem_append_right _ (List.mem_append_right _ (List.mem_append_right _ (List.mem_append_right _ (List.mem_append_right _ (List.mem_append_right _ (List.mem_append_right _ (List.mem_append_right _ (List.mem_append_right _ (List.mem_append_right _ (List.mem_append_right _ (List.mem_append_right _ (List.mem_append_right _ (List.mem_append_right _ (List.mem_append_right _ (List.mem_append_right _ (List.mem_append_right _ (List.mem_append_right _ (List.mem_append_right _ (List.mem_append_right _ (List.mem_append_right _ (List.mem_append_right _ (List.mem_append_right _ (List.mem_append_right _ (List.mem_append_right _ (List.mem_append_right _ (List.mem_append_right _ (List.mem_append_right _ (List.mem_append_right _ (List.mem_append_right _ (List.mem_append_right _ (List.mem_append_right _ (List.mem_append_right _ (List.mem_append_right _ (List.mem_append_right _ (List.mem_append_right _ (List.mem_append_right _ (List.mem_append_right _ (List.mem_append_right _ (List.mem_append_right _ (List.mem_append_right _ (List.mem_append_right _ (List.mem_append_right _ (List.mem_append_right _ (List.mem_append_right _ (List.mem_append_right _ (List.mem_append_right _ (List.mem_append_right _ (List.mem_append_right _ (List.mem_append_right _ (List.mem_append_right _ (List.mem_append_right _ (List.mem_append_right _ (List.mem_append_right _ (List.mem_append_right _ (List.mem_append_left _ h)))))))))))))))))))))))))))))))))))))))))))))))))))))))))))))))))))))))))))))
theorem sg_65 : ∀ w ∈ wsL_law_r65, w ∈ wsL_law := fun _ h => List.mem_append_left _ (List.mem_append_left _ (List.mem_append_left _ (List.mem_append_left _ (List.mem_append_left _ (List.mem_append_left _ (List.mem_append_left _ (List.mem_append_left _ (List.mem_append_left _ (List.mem_append_left _ (List.mem_append_left _ (List.mem_append_left _ (List.mem_append_left _ (List.mem_append_left _ (List.mem_append_right _ (List.mem_append_right _ (List.mem_append_right _ (List.mem_append_right _ (List.mem_append_right _ (List.mem_append_right _ (List.mem_append_right _ (List.mem_append_right _ (List.mem_append_right _ (List.mem_append_right _ (List.mem_append_right _ (List.mem_append_right _ (List.mem_append_right _ (List.mem_append_right _ (List.mem_append_right _ (List.mem_append_right _ (List.mem_append_right _ (List.mem_append_right _ (List.mem_append_right _ (List.mem_append_right _ (List.mem_append_right _ (List.mem_append_right _ (List.mem_append_right _ (List.mem_append_right _ (List.mem_append_right _ (List.mem_append_right _ (List.mem_append_right _ (List.mem_append_right _ (List.mem_append_right _ (List.mem_append_right _ (List.mem_append_right _ (List.mem_append_right _ (List.mem_append_right _ (List.mem_append_right _ (List.mem_append_right _ (List.mem_append_right _ (List.mem_append_right _ (List.mem_append_right _ (List.mem_append_right _ (List.mem_append_right _ (List.mem_append_right _ (List.mem_append_right _ (List.mem_append_right _ (List.mem_append_right _ (List.mem_append_right _ (List.mem_append_right _ (List.mem_append_right _ (List.mem_append_right _ (List.mem_append_right _ (List.mem_append_right _ (List.mem_append_right _ (List.mem_append_right _ (List.mem_append_right _ (List.mem_append_right _ (List.mem_append_right _ (List.mem_append_right _ (List.mem_append_right _ (List.mem_append_right _ (List.mem_append_right _ (List.mem_append_right _ (List.mem_append_right _ (List.mem_append_right _ (List.mem_append_right _ (List.mem_append_right _ (List.mem_append_left _ h))))))))))))))))))))))))))))))))))))))))))))))))))))))))))))))))))))))))))))))
theorem sg_66 : ∀ w ∈ wsL_law_r66, w ∈ wsL_law := fun _ h => List.mem_append_left _ (List.mem_append_left _ (List.mem_append_left _ (List.mem_append_left _ (List.mem_append_left _ (List.mem_append_left _ (List.mem_append_left _ (List.mem_append_left _ (List.mem_append_left _ (List.mem_append_left _ (List.mem_append_left _ (List.mem_append_left _ (List.mem_append_left _ (List.mem_append_left _ (List.mem_append_right _ (List.mem_append_right _ (List.mem_append_right _ (List.mem_append_right _ (List.mem_append_right _ (List.mem_append_right _ (List.mem_append_right _ (List.mem_append_right _ (List.mem_append_right _ (List.mem_append_right _ (List.mem_append_right _ (List.mem_append_right _ (List.mem_append_right _ (List.mem_append_right _ (List.mem_append_right _ (List.mem_append_right _ (List.mem_append_right _ (List.mem_append_right _ (List.mem_append_right _ (List.mem_append_right _ (List.mem_append_right _ (List.mem_append_right _ (List.mem_append_right _ (List.mem_append_right _ (List.mem_append_right _ (List.mem_append_right _ (List.mem_append_right _ (List.mem_append_right _ (List.mem_append_right _ (List.mem_append_right _ (List.mem_append_right _ (List.mem_append_right _ (List.mem_append_right _ (List.mem_append_right _ (List.mem_append_right _ (List.mem_append_right _ (List.mem_append_right _ (List.mem_append_right _ (List.mem_append_right _ (List.mem_append_right _ (List.mem_append_right _ (List.mem_append_right _ (List.mem_append_right _ (List.mem_append_right _ (List.mem_append_right _ (List.mem_append_right _ (List.mem_append_right _ (List.mem_append_right _ (List.mem_append_right _ (List.mem_append_right _ (List.mem_append_right _ (List.mem_append_right _ (List.mem_append_right _ (List.mem_append_right _ (List.mem_append_right _ (List.mem_append_right _ (List.mem_append_right _ (List.mem_append_right _ (List.mem_append_right _ (List.mem_append_right _ (List.mem_append_right _ (List.mem_append_right _ (List.mem_append_right _ (List.mem_append_right _ (List.mem_append_right _ (h)))))))))))))))))))))))))))))))))))))))))))))))))))))))))))))))))))))))))))))))
