-- PART A of the skeleton (a starting text), then names out of the printed NAMES (a starting text), then tables of our own
/-- a private method of a class that the tables say can be made, by its rows of tables_1 -/
def lw_okq (q : MethodName × Nat) : Prop := (q.1.cls ≠ "java/lang/invoke/MethodHandle" ∧ q.1.cls ≠ "java/lang/invoke/VarHandle") ∧ Cond.instantiable q.1.cls q.2 ∈ tables_1 ∧ Cond.privateMethod q.1 ∈ tables_1 ∧ Cond.instanceMethod q.1 ∈ tables_1
theorem lw_p0 : lw_okq (⟨"SeamReadings$History", "dropOldest", "()V"⟩, 2) := ⟨⟨by decide +kernel, by decide +kernel⟩, List.mem_of_getElem? (i := 67) (by decide +kernel), List.mem_of_getElem? (i := 179) (by decide +kernel), List.mem_of_getElem? (i := 180) (by decide +kernel)⟩
theorem lw_p1 : lw_okq (⟨"SeamReadings", "sewText", "()V"⟩, 8) := ⟨⟨by decide +kernel, by decide +kernel⟩, List.mem_of_getElem? (i := 10) (by decide +kernel), List.mem_of_getElem? (i := 198) (by decide +kernel), List.mem_of_getElem? (i := 199) (by decide +kernel)⟩
theorem lw_p2 : lw_okq (⟨"SeamReadings", "readingsOf", "(LSeamReadings$Scroll;)I"⟩, 8) := ⟨⟨by decide +kernel, by decide +kernel⟩, List.mem_of_getElem? (i := 10) (by decide +kernel), List.mem_of_getElem? (i := 308) (by decide +kernel), List.mem_of_getElem? (i := 309) (by decide +kernel)⟩
theorem lw_p3 : lw_okq (⟨"SeamReadings$Scroll", "standsAt", "([IIIIIZ)Z"⟩, 3) := ⟨⟨by decide +kernel, by decide +kernel⟩, List.mem_of_getElem? (i := 25) (by decide +kernel), List.mem_of_getElem? (i := 337) (by decide +kernel), List.mem_of_getElem? (i := 338) (by decide +kernel)⟩
theorem lw_p4 : lw_okq (⟨"SeamReadings$End", "addDigit", "(II)V"⟩, 5) := ⟨⟨by decide +kernel, by decide +kernel⟩, List.mem_of_getElem? (i := 90) (by decide +kernel), List.mem_of_getElem? (i := 440) (by decide +kernel), List.mem_of_getElem? (i := 441) (by decide +kernel)⟩
theorem lw_p5 : lw_okq (⟨"SeamReadings$Readings", "orderOfEnds", "()I"⟩, 4) := ⟨⟨by decide +kernel, by decide +kernel⟩, List.mem_of_getElem? (i := 84) (by decide +kernel), List.mem_of_getElem? (i := 452) (by decide +kernel), List.mem_of_getElem? (i := 453) (by decide +kernel)⟩
theorem lw_p6 : lw_okq (⟨"SeamReadings", "evenReadings", "(LSeamReadings$Scroll;)I"⟩, 8) := ⟨⟨by decide +kernel, by decide +kernel⟩, List.mem_of_getElem? (i := 10) (by decide +kernel), List.mem_of_getElem? (i := 473) (by decide +kernel), List.mem_of_getElem? (i := 474) (by decide +kernel)⟩
theorem lw_p7 : lw_okq (⟨"SeamReadings", "idleSeams", "(LSeamReadings$Scroll;)I"⟩, 8) := ⟨⟨by decide +kernel, by decide +kernel⟩, List.mem_of_getElem? (i := 10) (by decide +kernel), List.mem_of_getElem? (i := 478) (by decide +kernel), List.mem_of_getElem? (i := 479) (by decide +kernel)⟩
theorem lw_p8 : lw_okq (⟨"SeamReadings", "tellTheSame", "(LSeamReadings$Scroll;LSeamReadings$Scroll;)Z"⟩, 8) := ⟨⟨by decide +kernel, by decide +kernel⟩, List.mem_of_getElem? (i := 10) (by decide +kernel), List.mem_of_getElem? (i := 483) (by decide +kernel), List.mem_of_getElem? (i := 484) (by decide +kernel)⟩
theorem lw_p9 : lw_okq (⟨"SeamReadings", "readingsOfBoth", "(LSeamReadings$Scroll;LSeamReadings$Scroll;)I"⟩, 8) := ⟨⟨by decide +kernel, by decide +kernel⟩, List.mem_of_getElem? (i := 10) (by decide +kernel), List.mem_of_getElem? (i := 487) (by decide +kernel), List.mem_of_getElem? (i := 488) (by decide +kernel)⟩
theorem lw_p10 : lw_okq (⟨"SeamReadings", "readingsOfAll", "()I"⟩, 8) := ⟨⟨by decide +kernel, by decide +kernel⟩, List.mem_of_getElem? (i := 10) (by decide +kernel), List.mem_of_getElem? (i := 517) (by decide +kernel), List.mem_of_getElem? (i := 518) (by decide +kernel)⟩
theorem lw_p11 : lw_okq (⟨"SeamReadings", "readingsNotToldBefore", "(LSeamReadings$Scroll;I)I"⟩, 8) := ⟨⟨by decide +kernel, by decide +kernel⟩, List.mem_of_getElem? (i := 10) (by decide +kernel), List.mem_of_getElem? (i := 521) (by decide +kernel), List.mem_of_getElem? (i := 522) (by decide +kernel)⟩
theorem lw_p12 : lw_okq (⟨"SeamReadings", "pairsOfTheSame", "()I"⟩, 8) := ⟨⟨by decide +kernel, by decide +kernel⟩, List.mem_of_getElem? (i := 10) (by decide +kernel), List.mem_of_getElem? (i := 530) (by decide +kernel), List.mem_of_getElem? (i := 531) (by decide +kernel)⟩
theorem lw_p13 : lw_okq (⟨"SeamReadings", "readingsWithCut", "(LSeamReadings$Scroll;II)I"⟩, 8) := ⟨⟨by decide +kernel, by decide +kernel⟩, List.mem_of_getElem? (i := 10) (by decide +kernel), List.mem_of_getElem? (i := 541) (by decide +kernel), List.mem_of_getElem? (i := 542) (by decide +kernel)⟩
theorem lw_p14 : lw_okq (⟨"SeamReadings", "findWord", "(LSeamReadings$Scroll;I)I"⟩, 8) := ⟨⟨by decide +kernel, by decide +kernel⟩, List.mem_of_getElem? (i := 10) (by decide +kernel), List.mem_of_getElem? (i := 560) (by decide +kernel), List.mem_of_getElem? (i := 561) (by decide +kernel)⟩
theorem lw_p15 : lw_okq (⟨"SeamReadings$Pad", "standsAt", "([II)Z"⟩, 2) := ⟨⟨by decide +kernel, by decide +kernel⟩, List.mem_of_getElem? (i := 53) (by decide +kernel), List.mem_of_getElem? (i := 568) (by decide +kernel), List.mem_of_getElem? (i := 569) (by decide +kernel)⟩
def lw_privs_1 : List (MethodName × Nat) := [(⟨"SeamReadings$History", "dropOldest", "()V"⟩, 2), (⟨"SeamReadings", "sewText", "()V"⟩, 8), (⟨"SeamReadings", "readingsOf", "(LSeamReadings$Scroll;)I"⟩, 8), (⟨"SeamReadings$Scroll", "standsAt", "([IIIIIZ)Z"⟩, 3), (⟨"SeamReadings$End", "addDigit", "(II)V"⟩, 5), (⟨"SeamReadings$Readings", "orderOfEnds", "()I"⟩, 4), (⟨"SeamReadings", "evenReadings", "(LSeamReadings$Scroll;)I"⟩, 8), (⟨"SeamReadings", "idleSeams", "(LSeamReadings$Scroll;)I"⟩, 8), (⟨"SeamReadings", "tellTheSame", "(LSeamReadings$Scroll;LSeamReadings$Scroll;)Z"⟩, 8), (⟨"SeamReadings", "readingsOfBoth", "(LSeamReadings$Scroll;LSeamReadings$Scroll;)I"⟩, 8), (⟨"SeamReadings", "readingsOfAll", "()I"⟩, 8), (⟨"SeamReadings", "readingsNotToldBefore", "(LSeamReadings$Scroll;I)I"⟩, 8), (⟨"SeamReadings", "pairsOfTheSame", "()I"⟩, 8), (⟨"SeamReadings", "readingsWithCut", "(LSeamReadings$Scroll;II)I"⟩, 8), (⟨"SeamReadings", "findWord", "(LSeamReadings$Scroll;I)I"⟩, 8), (⟨"SeamReadings$Pad", "standsAt", "([II)Z"⟩, 2)]
theorem lw_r1 : ∀ q ∈ lw_privs_1, lw_okq q := List.forall_mem_cons.mpr ⟨lw_p0, List.forall_mem_cons.mpr ⟨lw_p1, List.forall_mem_cons.mpr ⟨lw_p2, List.forall_mem_cons.mpr ⟨lw_p3, List.forall_mem_cons.mpr ⟨lw_p4, List.forall_mem_cons.mpr ⟨lw_p5, List.forall_mem_cons.mpr ⟨lw_p6, List.forall_mem_cons.mpr ⟨lw_p7, List.forall_mem_cons.mpr ⟨lw_p8, List.forall_mem_cons.mpr ⟨lw_p9, List.forall_mem_cons.mpr ⟨lw_p10, List.forall_mem_cons.mpr ⟨lw_p11, List.forall_mem_cons.mpr ⟨lw_p12, List.forall_mem_cons.mpr ⟨lw_p13, List.forall_mem_cons.mpr ⟨lw_p14, List.forall_mem_cons.mpr ⟨lw_p15, fun _ h => absurd h List.not_mem_nil⟩⟩⟩⟩⟩⟩⟩⟩⟩⟩⟩⟩⟩⟩⟩⟩
def lw_privs : List (MethodName × Nat) := lw_privs_1
def lw_tbl : List Cond := k2_sels lw_privs ++ tables_1
theorem lw_privs_ok : ∀ q ∈ lw_privs, lw_okq q := lw_r1

def RX0 : String := "SeamReadings$End"
def TX0 : u_T := fun k => match k with
  | 0 => ("SeamReadings$End", "row", "[I", true)
  | 1 => ("SeamReadings$End", "starts", "[I", true)
  | 2 => ("SeamReadings$End", "ends", "[I", true)
  | 3 => ("SeamReadings$End", "digits", "I", false)
  | _ => ("SeamReadings$End", "number", "I", false)
def tyX0 : Nat → FieldType := fun k => match k with
  | 0 => .array .int
  | 1 => .array .int
  | 2 => .array .int
  | 3 => .int
  | _ => .int
abbrev wsX00 : List Cond := u_ws RX0 TX0 5
theorem nmX0 : ∀ a, a < 5 → ∀ b, b < 5 → a ≠ b → (TX0 a).2.1 ≠ (TX0 b).2.1 := by decide +kernel
theorem tyX0_ok : ∀ k, k < 5 → parseFieldDescriptor (TX0 k).2.2.1 = some (tyX0 k) := by decide +kernel
abbrev cX0_init : ByteArray := prog_2_method_1_code
def yX0_init : MethodName := ⟨RX0, "<init>", "()V"⟩
abbrev cX0_begin : ByteArray := prog_2_method_2_code
def yX0_begin : MethodName := ⟨RX0, "begin", "(LSeamReadings$Scroll;Z)V"⟩
abbrev cX0_addDigit : ByteArray := prog_2_method_3_code
def yX0_addDigit : MethodName := ⟨RX0, "addDigit", "(II)V"⟩
abbrev cX0_isOver : ByteArray := prog_2_method_4_code
def yX0_isOver : MethodName := ⟨RX0, "isOver", "()Z"⟩
abbrev cX0_step : ByteArray := prog_2_method_5_code
def yX0_step : MethodName := ⟨RX0, "step", "()V"⟩
def RX1 : String := "SeamReadings$History"
def TX1 : u_T := fun k => match k with
  | 0 => ("SeamReadings$History", "states", "[LSeamReadings$Shelf;", true)
  | _ => ("SeamReadings$History", "size", "I", false)
def tyX1 : Nat → FieldType := fun k => match k with
  | 0 => .array (.object "SeamReadings$Shelf")
  | _ => .int
abbrev wsX10 : List Cond := u_ws RX1 TX1 2
theorem nmX1 : ∀ a, a < 2 → ∀ b, b < 2 → a ≠ b → (TX1 a).2.1 ≠ (TX1 b).2.1 := by decide +kernel
theorem tyX1_ok : ∀ k, k < 2 → parseFieldDescriptor (TX1 k).2.2.1 = some (tyX1 k) := by decide +kernel
abbrev cX1_init : ByteArray := prog_3_method_1_code
def yX1_init : MethodName := ⟨RX1, "<init>", "()V"⟩
abbrev cX1_record : ByteArray := prog_3_method_2_code
def yX1_record : MethodName := ⟨RX1, "record", "(LSeamReadings$Shelf;)V"⟩
abbrev cX1_dropOldest : ByteArray := prog_3_method_3_code
def yX1_dropOldest : MethodName := ⟨RX1, "dropOldest", "()V"⟩
def RX2 : String := "SeamReadings$Pad"
def TX2 : u_T := fun k => match k with
  | 0 => ("SeamReadings$Pad", "codes", "[I", true)
  | _ => ("SeamReadings$Pad", "length", "I", false)
def tyX2 : Nat → FieldType := fun k => match k with
  | 0 => .array .int
  | _ => .int
abbrev wsX20 : List Cond := u_ws RX2 TX2 2
theorem nmX2 : ∀ a, a < 2 → ∀ b, b < 2 → a ≠ b → (TX2 a).2.1 ≠ (TX2 b).2.1 := by decide +kernel
theorem tyX2_ok : ∀ k, k < 2 → parseFieldDescriptor (TX2 k).2.2.1 = some (tyX2 k) := by decide +kernel
abbrev cX2_init : ByteArray := prog_4_method_1_code
def yX2_init : MethodName := ⟨RX2, "<init>", "()V"⟩
abbrev cX2_empty : ByteArray := prog_4_method_2_code
def yX2_empty : MethodName := ⟨RX2, "empty", "()V"⟩
abbrev cX2_append : ByteArray := prog_4_method_3_code
def yX2_append : MethodName := ⟨RX2, "append", "(I)V"⟩
abbrev cX2_codeAt : ByteArray := prog_4_method_4_code
def yX2_codeAt : MethodName := ⟨RX2, "codeAt", "(I)I"⟩
abbrev cX2_scrollsOfText : ByteArray := prog_4_method_5_code
def yX2_scrollsOfText : MethodName := ⟨RX2, "scrollsOfText", "()I"⟩
abbrev cX2_firstFault : ByteArray := prog_4_method_6_code
def yX2_firstFault : MethodName := ⟨RX2, "firstFault", "()I"⟩
abbrev cX2_isWord : ByteArray := prog_4_method_7_code
def yX2_isWord : MethodName := ⟨RX2, "isWord", "()Z"⟩
abbrev cX2_placeIn : ByteArray := prog_4_method_8_code
def yX2_placeIn : MethodName := ⟨RX2, "placeIn", "([II)I"⟩
abbrev cX2_standsAt : ByteArray := prog_4_method_9_code
def yX2_standsAt : MethodName := ⟨RX2, "standsAt", "([II)Z"⟩
def RX3 : String := "SeamReadings$Readings"
def TX3 : u_T := fun k => match k with
  | 0 => ("SeamReadings$Readings", "first", "LSeamReadings$End;", true)
  | 1 => ("SeamReadings$Readings", "last", "LSeamReadings$End;", true)
  | 2 => ("SeamReadings$Readings", "row", "[I", true)
  | _ => ("SeamReadings$Readings", "length", "I", false)
def tyX3 : Nat → FieldType := fun k => match k with
  | 0 => .object "SeamReadings$End"
  | 1 => .object "SeamReadings$End"
  | 2 => .array .int
  | _ => .int
abbrev wsX30 : List Cond := u_ws RX3 TX3 4
theorem nmX3 : ∀ a, a < 4 → ∀ b, b < 4 → a ≠ b → (TX3 a).2.1 ≠ (TX3 b).2.1 := by decide +kernel
theorem tyX3_ok : ∀ k, k < 4 → parseFieldDescriptor (TX3 k).2.2.1 = some (tyX3 k) := by decide +kernel
abbrev cX3_init : ByteArray := prog_5_method_1_code
def yX3_init : MethodName := ⟨RX3, "<init>", "()V"⟩
abbrev cX3_begin : ByteArray := prog_5_method_2_code
def yX3_begin : MethodName := ⟨RX3, "begin", "(LSeamReadings$Scroll;)V"⟩
abbrev cX3_next : ByteArray := prog_5_method_3_code
def yX3_next : MethodName := ⟨RX3, "next", "()Z"⟩
abbrev cX3_orderOfEnds : ByteArray := prog_5_method_4_code
def yX3_orderOfEnds : MethodName := ⟨RX3, "orderOfEnds", "()I"⟩
abbrev cX3_letterAt : ByteArray := prog_5_method_5_code
def yX3_letterAt : MethodName := ⟨RX3, "letterAt", "(I)I"⟩
def RX4 : String := "SeamReadings$Scroll"
def TX4 : u_T := fun k => match k with
  | 0 => ("SeamReadings$Scroll", "letters", "[I", true)
  | 1 => ("SeamReadings$Scroll", "ends", "[I", true)
  | _ => ("SeamReadings$Scroll", "patches", "I", false)
def tyX4 : Nat → FieldType := fun k => match k with
  | 0 => .array .int
  | 1 => .array .int
  | _ => .int
abbrev wsX40 : List Cond := u_ws RX4 TX4 3
theorem nmX4 : ∀ a, a < 3 → ∀ b, b < 3 → a ≠ b → (TX4 a).2.1 ≠ (TX4 b).2.1 := by decide +kernel
theorem tyX4_ok : ∀ k, k < 3 → parseFieldDescriptor (TX4 k).2.2.1 = some (tyX4 k) := by decide +kernel
abbrev cX4_init : ByteArray := prog_6_method_1_code
def yX4_init : MethodName := ⟨RX4, "<init>", "()V"⟩
abbrev cX4_startAnew : ByteArray := prog_6_method_2_code
def yX4_startAnew : MethodName := ⟨RX4, "startAnew", "()V"⟩
abbrev cX4_addPatch : ByteArray := prog_6_method_3_code
def yX4_addPatch : MethodName := ⟨RX4, "addPatch", "()V"⟩
abbrev cX4_addLetter : ByteArray := prog_6_method_4_code
def yX4_addLetter : MethodName := ⟨RX4, "addLetter", "(I)V"⟩
abbrev cX4_copyFrom : ByteArray := prog_6_method_5_code
def yX4_copyFrom : MethodName := ⟨RX4, "copyFrom", "(LSeamReadings$Scroll;)V"⟩
abbrev cX4_hasPatch : ByteArray := prog_6_method_6_code
def yX4_hasPatch : MethodName := ⟨RX4, "hasPatch", "(I)Z"⟩
abbrev cX4_hasSeam : ByteArray := prog_6_method_7_code
def yX4_hasSeam : MethodName := ⟨RX4, "hasSeam", "(I)Z"⟩
abbrev cX4_canBeCut : ByteArray := prog_6_method_8_code
def yX4_canBeCut : MethodName := ⟨RX4, "canBeCut", "(II)Z"⟩
abbrev cX4_endOf : ByteArray := prog_6_method_9_code
def yX4_endOf : MethodName := ⟨RX4, "endOf", "(I)I"⟩
abbrev cX4_startOf : ByteArray := prog_6_method_10_code
def yX4_startOf : MethodName := ⟨RX4, "startOf", "(I)I"⟩
abbrev cX4_sizeOf : ByteArray := prog_6_method_11_code
def yX4_sizeOf : MethodName := ⟨RX4, "sizeOf", "(I)I"⟩
abbrev cX4_length : ByteArray := prog_6_method_12_code
def yX4_length : MethodName := ⟨RX4, "length", "()I"⟩
abbrev cX4_letterAt : ByteArray := prog_6_method_13_code
def yX4_letterAt : MethodName := ⟨RX4, "letterAt", "(I)I"⟩
abbrev cX4_split : ByteArray := prog_6_method_14_code
def yX4_split : MethodName := ⟨RX4, "split", "(II)V"⟩
abbrev cX4_merge : ByteArray := prog_6_method_15_code
def yX4_merge : MethodName := ⟨RX4, "merge", "(I)V"⟩
abbrev cX4_unlikeTurned : ByteArray := prog_6_method_16_code
def yX4_unlikeTurned : MethodName := ⟨RX4, "unlikeTurned", "(I)I"⟩
abbrev cX4_turnRound : ByteArray := prog_6_method_17_code
def yX4_turnRound : MethodName := ⟨RX4, "turnRound", "(I)V"⟩
abbrev cX4_swapBeside : ByteArray := prog_6_method_18_code
def yX4_swapBeside : MethodName := ⟨RX4, "swapBeside", "(I)V"⟩
abbrev cX4_sewOn : ByteArray := prog_6_method_19_code
def yX4_sewOn : MethodName := ⟨RX4, "sewOn", "(LSeamReadings$Scroll;)V"⟩
abbrev cX4_isEven : ByteArray := prog_6_method_20_code
def yX4_isEven : MethodName := ⟨RX4, "isEven", "(I)Z"⟩
abbrev cX4_evenPatches : ByteArray := prog_6_method_21_code
def yX4_evenPatches : MethodName := ⟨RX4, "evenPatches", "()I"⟩
abbrev cX4_waysFromFirst : ByteArray := prog_6_method_22_code
def yX4_waysFromFirst : MethodName := ⟨RX4, "waysFromFirst", "()I"⟩
abbrev cX4_lay : ByteArray := prog_6_method_23_code
def yX4_lay : MethodName := ⟨RX4, "lay", "(IIZ[II)V"⟩
abbrev cX4_tells : ByteArray := prog_6_method_24_code
def yX4_tells : MethodName := ⟨RX4, "tells", "([II)Z"⟩
abbrev cX4_beginsWith : ByteArray := prog_6_method_25_code
def yX4_beginsWith : MethodName := ⟨RX4, "beginsWith", "([IIZ)Z"⟩
abbrev cX4_standsAt : ByteArray := prog_6_method_26_code
def yX4_standsAt : MethodName := ⟨RX4, "standsAt", "([IIIIIZ)Z"⟩
def RX5 : String := "SeamReadings$Shelf"
def TX5 : u_T := fun k => match k with
  | 0 => ("SeamReadings$Shelf", "scrolls", "[LSeamReadings$Scroll;", true)
  | _ => ("SeamReadings$Shelf", "size", "I", false)
def tyX5 : Nat → FieldType := fun k => match k with
  | 0 => .array (.object "SeamReadings$Scroll")
  | _ => .int
abbrev wsX50 : List Cond := u_ws RX5 TX5 2
theorem nmX5 : ∀ a, a < 2 → ∀ b, b < 2 → a ≠ b → (TX5 a).2.1 ≠ (TX5 b).2.1 := by decide +kernel
theorem tyX5_ok : ∀ k, k < 2 → parseFieldDescriptor (TX5 k).2.2.1 = some (tyX5 k) := by decide +kernel
abbrev cX5_init : ByteArray := prog_7_method_1_code
def yX5_init : MethodName := ⟨RX5, "<init>", "()V"⟩
abbrev cX5_at : ByteArray := prog_7_method_2_code
def yX5_at : MethodName := ⟨RX5, "at", "(I)LSeamReadings$Scroll;"⟩
abbrev cX5_addScroll : ByteArray := prog_7_method_3_code
def yX5_addScroll : MethodName := ⟨RX5, "addScroll", "()LSeamReadings$Scroll;"⟩
abbrev cX5_remove : ByteArray := prog_7_method_4_code
def yX5_remove : MethodName := ⟨RX5, "remove", "(I)V"⟩
abbrev cX5_copyFrom : ByteArray := prog_7_method_5_code
def yX5_copyFrom : MethodName := ⟨RX5, "copyFrom", "(LSeamReadings$Shelf;)V"⟩
abbrev cX5_patchesOfAll : ByteArray := prog_7_method_6_code
def yX5_patchesOfAll : MethodName := ⟨RX5, "patchesOfAll", "()I"⟩
abbrev cX5_lettersOfAll : ByteArray := prog_7_method_7_code
def yX5_lettersOfAll : MethodName := ⟨RX5, "lettersOfAll", "()I"⟩
abbrev cX5_tellsBefore : ByteArray := prog_7_method_8_code
def yX5_tellsBefore : MethodName := ⟨RX5, "tellsBefore", "(I[II)Z"⟩
def RX6 : String := "SeamReadings"
def TX6 : u_T := fun k => match k with
  | 0 => ("SeamReadings", "shelf", "LSeamReadings$Shelf;", true)
  | 1 => ("SeamReadings", "pad", "LSeamReadings$Pad;", true)
  | 2 => ("SeamReadings", "history", "LSeamReadings$History;", true)
  | 3 => ("SeamReadings", "slots", "[LSeamReadings$Shelf;", true)
  | 4 => ("SeamReadings", "saved", "[Z", true)
  | 5 => ("SeamReadings", "readings", "LSeamReadings$Readings;", true)
  | 6 => ("SeamReadings", "trial", "LSeamReadings$Scroll;", true)
  | _ => ("SeamReadings", "trialRow", "[I", true)
def tyX6 : Nat → FieldType := fun k => match k with
  | 0 => .object "SeamReadings$Shelf"
  | 1 => .object "SeamReadings$Pad"
  | 2 => .object "SeamReadings$History"
  | 3 => .array (.object "SeamReadings$Shelf")
  | 4 => .array .boolean
  | 5 => .object "SeamReadings$Readings"
  | 6 => .object "SeamReadings$Scroll"
  | _ => .array .int
abbrev wsX60 : List Cond := u_ws RX6 TX6 8
theorem nmX6 : ∀ a, a < 8 → ∀ b, b < 8 → a ≠ b → (TX6 a).2.1 ≠ (TX6 b).2.1 := by decide +kernel
theorem tyX6_ok : ∀ k, k < 8 → parseFieldDescriptor (TX6 k).2.2.1 = some (tyX6 k) := by decide +kernel
abbrev cX6_init : ByteArray := prog_1_method_1_code
def yX6_init : MethodName := ⟨RX6, "<init>", "()V"⟩
abbrev cX6_sew : ByteArray := prog_1_method_2_code
def yX6_sew : MethodName := ⟨RX6, "sew", "()I"⟩
abbrev cX6_burn : ByteArray := prog_1_method_3_code
def yX6_burn : MethodName := ⟨RX6, "burn", "(I)I"⟩
abbrev cX6_cut : ByteArray := prog_1_method_4_code
def yX6_cut : MethodName := ⟨RX6, "cut", "(III)I"⟩
abbrev cX6_undoSeam : ByteArray := prog_1_method_5_code
def yX6_undoSeam : MethodName := ⟨RX6, "undoSeam", "(II)I"⟩
abbrev cX6_turn : ByteArray := prog_1_method_6_code
def yX6_turn : MethodName := ⟨RX6, "turn", "(II)I"⟩
abbrev cX6_exchange : ByteArray := prog_1_method_7_code
def yX6_exchange : MethodName := ⟨RX6, "exchange", "(II)I"⟩
abbrev cX6_join : ByteArray := prog_1_method_8_code
def yX6_join : MethodName := ⟨RX6, "join", "(II)I"⟩
abbrev cX6_scroll : ByteArray := prog_1_method_9_code
def yX6_scroll : MethodName := ⟨RX6, "scroll", "(II)I"⟩
abbrev cX6_patch : ByteArray := prog_1_method_10_code
def yX6_patch : MethodName := ⟨RX6, "patch", "(II)I"⟩
abbrev cX6_letter : ByteArray := prog_1_method_11_code
def yX6_letter : MethodName := ⟨RX6, "letter", "(III)I"⟩
abbrev cX6_reading : ByteArray := prog_1_method_12_code
def yX6_reading : MethodName := ⟨RX6, "reading", "(III)I"⟩
abbrev cX6_find : ByteArray := prog_1_method_13_code
def yX6_find : MethodName := ⟨RX6, "find", "(II)I"⟩
abbrev cX6_shared : ByteArray := prog_1_method_14_code
def yX6_shared : MethodName := ⟨RX6, "shared", "(II)I"⟩
abbrev cX6_compare : ByteArray := prog_1_method_15_code
def yX6_compare : MethodName := ⟨RX6, "compare", "(II)I"⟩
abbrev cX6_count : ByteArray := prog_1_method_16_code
def yX6_count : MethodName := ⟨RX6, "count", "(I)I"⟩
abbrev cX6_ifCut : ByteArray := prog_1_method_17_code
def yX6_ifCut : MethodName := ⟨RX6, "ifCut", "(III)I"⟩
abbrev cX6_bestCut : ByteArray := prog_1_method_18_code
def yX6_bestCut : MethodName := ⟨RX6, "bestCut", "(II)I"⟩
abbrev cX6_put : ByteArray := prog_1_method_19_code
def yX6_put : MethodName := ⟨RX6, "put", "(J)I"⟩
abbrev cX6_wipe : ByteArray := prog_1_method_20_code
def yX6_wipe : MethodName := ⟨RX6, "wipe", "()I"⟩
abbrev cX6_fault : ByteArray := prog_1_method_21_code
def yX6_fault : MethodName := ⟨RX6, "fault", "()I"⟩
abbrev cX6_codeIn : ByteArray := prog_1_method_25_code
def yX6_codeIn : MethodName := ⟨RX6, "codeIn", "(JI)I"⟩
abbrev cX6_charactersIn : ByteArray := prog_1_method_26_code
def yX6_charactersIn : MethodName := ⟨RX6, "charactersIn", "(J)I"⟩
abbrev cX6_isLetter : ByteArray := prog_1_method_27_code
def yX6_isLetter : MethodName := ⟨RX6, "isLetter", "(I)Z"⟩
abbrev cX6_sewText : ByteArray := prog_1_method_28_code
def yX6_sewText : MethodName := ⟨RX6, "sewText", "()V"⟩
abbrev cX6_readingsOf : ByteArray := prog_1_method_29_code
def yX6_readingsOf : MethodName := ⟨RX6, "readingsOf", "(LSeamReadings$Scroll;)I"⟩
abbrev cX6_toldFromBothEnds : ByteArray := prog_1_method_30_code
def yX6_toldFromBothEnds : MethodName := ⟨RX6, "toldFromBothEnds", "(LSeamReadings$Scroll;[II)I"⟩
abbrev cX6_readingsWithCut : ByteArray := prog_1_method_31_code
def yX6_readingsWithCut : MethodName := ⟨RX6, "readingsWithCut", "(LSeamReadings$Scroll;II)I"⟩
abbrev cX6_readingsOfBoth : ByteArray := prog_1_method_32_code
def yX6_readingsOfBoth : MethodName := ⟨RX6, "readingsOfBoth", "(LSeamReadings$Scroll;LSeamReadings$Scroll;)I"⟩
abbrev cX6_tellTheSame : ByteArray := prog_1_method_33_code
def yX6_tellTheSame : MethodName := ⟨RX6, "tellTheSame", "(LSeamReadings$Scroll;LSeamReadings$Scroll;)Z"⟩
abbrev cX6_evenReadings : ByteArray := prog_1_method_34_code
def yX6_evenReadings : MethodName := ⟨RX6, "evenReadings", "(LSeamReadings$Scroll;)I"⟩
abbrev cX6_idleSeams : ByteArray := prog_1_method_35_code
def yX6_idleSeams : MethodName := ⟨RX6, "idleSeams", "(LSeamReadings$Scroll;)I"⟩
abbrev cX6_findWord : ByteArray := prog_1_method_36_code
def yX6_findWord : MethodName := ⟨RX6, "findWord", "(LSeamReadings$Scroll;I)I"⟩
abbrev cX6_readingsOfAll : ByteArray := prog_1_method_37_code
def yX6_readingsOfAll : MethodName := ⟨RX6, "readingsOfAll", "()I"⟩
abbrev cX6_readingsNotToldBefore : ByteArray := prog_1_method_38_code
def yX6_readingsNotToldBefore : MethodName := ⟨RX6, "readingsNotToldBefore", "(LSeamReadings$Scroll;I)I"⟩
abbrev cX6_pairsOfTheSame : ByteArray := prog_1_method_39_code
def yX6_pairsOfTheSame : MethodName := ⟨RX6, "pairsOfTheSame", "()I"⟩
abbrev cX6_turnPart : ByteArray := prog_1_method_40_code
def yX6_turnPart : MethodName := ⟨RX6, "turnPart", "([III)V"⟩
abbrev cX6_orderTurned : ByteArray := prog_1_method_41_code
def yX6_orderTurned : MethodName := ⟨RX6, "orderTurned", "([III)I"⟩
def RX7 : String := "SeamReadingsModel"
def TX7 : u_T := fun k => match k with
  | _ => ("", "", "", false)
def tyX7 : Nat → FieldType := fun k => match k with
  | _ => .int
abbrev wsX70 : List Cond := u_ws RX7 TX7 0
theorem nmX7 : ∀ a, a < 0 → ∀ b, b < 0 → a ≠ b → (TX7 a).2.1 ≠ (TX7 b).2.1 := by decide +kernel
theorem tyX7_ok : ∀ k, k < 0 → parseFieldDescriptor (TX7 k).2.2.1 = some (tyX7 k) := by decide +kernel
def RL : String := "SeamReadingsLaw"
abbrev cL_cell : ByteArray := method_2_code
def yL_cell : MethodName := ⟨RL, "cell", "([II)I"⟩
abbrev cL_low : ByteArray := method_3_code
def yL_low : MethodName := ⟨RL, "low", "(II)I"⟩
abbrev cL_size : ByteArray := method_4_code
def yL_size : MethodName := ⟨RL, "size", "(II[I)I"⟩
abbrev cL_with : ByteArray := method_5_code
def yL_with : MethodName := ⟨RL, "with", "(JIIZ[I)J"⟩
abbrev cL_readings : ByteArray := method_6_code
def yL_readings : MethodName := ⟨RL, "readings", "(IZ[I[J)I"⟩
abbrev cL_length : ByteArray := method_7_code
def yL_length : MethodName := ⟨RL, "length", "(I[I)I"⟩
abbrev cL_digit : ByteArray := method_8_code
def yL_digit : MethodName := ⟨RL, "digit", "(JII)I"⟩
abbrev cL_shared : ByteArray := method_9_code
def yL_shared : MethodName := ⟨RL, "shared", "(I[JI[J)I"⟩
abbrev cL_copy : ByteArray := method_10_code
def yL_copy : MethodName := ⟨RL, "copy", "(I[II[I)V"⟩
abbrev cL_seam : ByteArray := method_11_code
def yL_seam : MethodName := ⟨RL, "seam", "(III[I)V"⟩
abbrev cL_undone : ByteArray := method_12_code
def yL_undone : MethodName := ⟨RL, "undone", "(II[I)V"⟩
abbrev cL_same : ByteArray := method_13_code
def yL_same : MethodName := ⟨RL, "same", "(LSeamReadings;II[I[I[J[J)Z"⟩
abbrev cL_cuts : ByteArray := method_14_code
def yL_cuts : MethodName := ⟨RL, "cuts", "(LSeamReadings;I[I[I[J)Z"⟩
abbrev cL_finds : ByteArray := method_15_code
def yL_finds : MethodName := ⟨RL, "finds", "(LSeamReadings;II[I[J)Z"⟩
abbrev cL_law : ByteArray := code
def yL_law : MethodName := ⟨RL, "law", "([I)Z"⟩
/-- the classes of the worlds -/
abbrev vwCl : List vw_C := [(RX0, TX0, 5), (RX1, TX1, 2), (RX2, TX2, 2), (RX3, TX3, 4), (RX4, TX4, 3), (RX5, TX5, 2), (RX6, TX6, 8)]
def zCn (o : Nat) : String := match o with
  | 0 => RX0
  | 1 => RX1
  | 2 => RX2
  | 3 => RX3
  | 4 => RX4
  | 5 => RX5
  | 6 => RX6
  | _ => RL
/-- a method: its class, its name, its bytes, its locals, its answer -/
abbrev zY : Type := Nat × MethodName × ByteArray × Nat × Option FieldType
def zYo (k : zY) : Nat := k.1
def zYn (k : zY) : MethodName := k.2.1
def zYb (k : zY) : ByteArray := k.2.2.1
def zYl (k : zY) : Nat := k.2.2.2.1
def zYr (k : zY) : Option FieldType := k.2.2.2.2
def zYi (k : zY) : Bool := (zYn k).name == "<init>"
def kX6_init : zY := (6, yX6_init, cX6_init, 2, none)
theorem o_X6_init : zYo kX6_init = 6 := rfl
theorem r_X6_init : zYr kX6_init = none := rfl
theorem i_X6_init : zYi kX6_init = true := rfl
def kX5_init : zY := (5, yX5_init, cX5_init, 2, none)
theorem o_X5_init : zYo kX5_init = 5 := rfl
theorem r_X5_init : zYr kX5_init = none := rfl
theorem i_X5_init : zYi kX5_init = true := rfl
def kX4_init : zY := (4, yX4_init, cX4_init, 1, none)
theorem o_X4_init : zYo kX4_init = 4 := rfl
theorem r_X4_init : zYr kX4_init = none := rfl
theorem i_X4_init : zYi kX4_init = true := rfl
def kX2_init : zY := (2, yX2_init, cX2_init, 1, none)
theorem o_X2_init : zYo kX2_init = 2 := rfl
theorem r_X2_init : zYr kX2_init = none := rfl
theorem i_X2_init : zYi kX2_init = true := rfl
def kX1_init : zY := (1, yX1_init, cX1_init, 2, none)
theorem o_X1_init : zYo kX1_init = 1 := rfl
theorem r_X1_init : zYr kX1_init = none := rfl
theorem i_X1_init : zYi kX1_init = true := rfl
def kX3_init : zY := (3, yX3_init, cX3_init, 1, none)
theorem o_X3_init : zYo kX3_init = 3 := rfl
theorem r_X3_init : zYr kX3_init = none := rfl
theorem i_X3_init : zYi kX3_init = true := rfl
def kX0_init : zY := (0, yX0_init, cX0_init, 1, none)
theorem o_X0_init : zYo kX0_init = 0 := rfl
theorem r_X0_init : zYr kX0_init = none := rfl
theorem i_X0_init : zYi kX0_init = true := rfl
def kX6_sew : zY := (6, yX6_sew, cX6_sew, 1, some (FieldType.int))
theorem o_X6_sew : zYo kX6_sew = 6 := rfl
theorem r_X6_sew : zYr kX6_sew = some (FieldType.int) := rfl
def kX2_firstFault : zY := (2, yX2_firstFault, cX2_firstFault, 6, some (FieldType.int))
theorem o_X2_firstFault : zYo kX2_firstFault = 2 := rfl
theorem r_X2_firstFault : zYr kX2_firstFault = some (FieldType.int) := rfl
def kX2_codeAt : zY := (2, yX2_codeAt, cX2_codeAt, 2, some (FieldType.int))
theorem o_X2_codeAt : zYo kX2_codeAt = 2 := rfl
theorem r_X2_codeAt : zYr kX2_codeAt = some (FieldType.int) := rfl
def kX6_isLetter : zY := (6, yX6_isLetter, cX6_isLetter, 1, some (FieldType.boolean))
theorem o_X6_isLetter : zYo kX6_isLetter = 6 := rfl
theorem r_X6_isLetter : zYr kX6_isLetter = some (FieldType.boolean) := rfl
def kX2_scrollsOfText : zY := (2, yX2_scrollsOfText, cX2_scrollsOfText, 3, some (FieldType.int))
theorem o_X2_scrollsOfText : zYo kX2_scrollsOfText = 2 := rfl
theorem r_X2_scrollsOfText : zYr kX2_scrollsOfText = some (FieldType.int) := rfl
def kX1_record : zY := (1, yX1_record, cX1_record, 3, none)
theorem o_X1_record : zYo kX1_record = 1 := rfl
theorem r_X1_record : zYr kX1_record = none := rfl
def kX1_dropOldest : zY := (1, yX1_dropOldest, cX1_dropOldest, 3, none)
theorem o_X1_dropOldest : zYo kX1_dropOldest = 1 := rfl
theorem r_X1_dropOldest : zYr kX1_dropOldest = none := rfl
def kX5_copyFrom : zY := (5, yX5_copyFrom, cX5_copyFrom, 5, none)
theorem o_X5_copyFrom : zYo kX5_copyFrom = 5 := rfl
theorem r_X5_copyFrom : zYr kX5_copyFrom = none := rfl
def kX5_at : zY := (5, yX5_at, cX5_at, 2, some (FieldType.object "SeamReadings$Scroll"))
theorem o_X5_at : zYo kX5_at = 5 := rfl
theorem r_X5_at : zYr kX5_at = some (FieldType.object "SeamReadings$Scroll") := rfl
def kX4_copyFrom : zY := (4, yX4_copyFrom, cX4_copyFrom, 2, none)
theorem o_X4_copyFrom : zYo kX4_copyFrom = 4 := rfl
theorem r_X4_copyFrom : zYr kX4_copyFrom = none := rfl
def kX6_sewText : zY := (6, yX6_sewText, cX6_sewText, 4, none)
theorem o_X6_sewText : zYo kX6_sewText = 6 := rfl
theorem r_X6_sewText : zYr kX6_sewText = none := rfl
def kX5_addScroll : zY := (5, yX5_addScroll, cX5_addScroll, 2, some (FieldType.object "SeamReadings$Scroll"))
theorem o_X5_addScroll : zYo kX5_addScroll = 5 := rfl
theorem r_X5_addScroll : zYr kX5_addScroll = some (FieldType.object "SeamReadings$Scroll") := rfl
def kX4_startAnew : zY := (4, yX4_startAnew, cX4_startAnew, 1, none)
theorem o_X4_startAnew : zYo kX4_startAnew = 4 := rfl
theorem r_X4_startAnew : zYr kX4_startAnew = none := rfl
def kX4_addPatch : zY := (4, yX4_addPatch, cX4_addPatch, 1, none)
theorem o_X4_addPatch : zYo kX4_addPatch = 4 := rfl
theorem r_X4_addPatch : zYr kX4_addPatch = none := rfl
def kX4_length : zY := (4, yX4_length, cX4_length, 1, some (FieldType.int))
theorem o_X4_length : zYo kX4_length = 4 := rfl
theorem r_X4_length : zYr kX4_length = some (FieldType.int) := rfl
def kX4_startOf : zY := (4, yX4_startOf, cX4_startOf, 2, some (FieldType.int))
theorem o_X4_startOf : zYo kX4_startOf = 4 := rfl
theorem r_X4_startOf : zYr kX4_startOf = some (FieldType.int) := rfl
def kX4_addLetter : zY := (4, yX4_addLetter, cX4_addLetter, 4, none)
theorem o_X4_addLetter : zYo kX4_addLetter = 4 := rfl
theorem r_X4_addLetter : zYr kX4_addLetter = none := rfl
def kX2_empty : zY := (2, yX2_empty, cX2_empty, 1, none)
theorem o_X2_empty : zYo kX2_empty = 2 := rfl
theorem r_X2_empty : zYr kX2_empty = none := rfl
def kX6_burn : zY := (6, yX6_burn, cX6_burn, 4, some (FieldType.int))
theorem o_X6_burn : zYo kX6_burn = 6 := rfl
theorem r_X6_burn : zYr kX6_burn = some (FieldType.int) := rfl
def kX5_remove : zY := (5, yX5_remove, cX5_remove, 4, none)
theorem o_X5_remove : zYo kX5_remove = 5 := rfl
theorem r_X5_remove : zYr kX5_remove = none := rfl
def kX6_cut : zY := (6, yX6_cut, cX6_cut, 5, some (FieldType.int))
theorem o_X6_cut : zYo kX6_cut = 6 := rfl
theorem r_X6_cut : zYr kX6_cut = some (FieldType.int) := rfl
def kX4_hasPatch : zY := (4, yX4_hasPatch, cX4_hasPatch, 2, some (FieldType.boolean))
theorem o_X4_hasPatch : zYo kX4_hasPatch = 4 := rfl
theorem r_X4_hasPatch : zYr kX4_hasPatch = some (FieldType.boolean) := rfl
def kX4_canBeCut : zY := (4, yX4_canBeCut, cX4_canBeCut, 3, some (FieldType.boolean))
theorem o_X4_canBeCut : zYo kX4_canBeCut = 4 := rfl
theorem r_X4_canBeCut : zYr kX4_canBeCut = some (FieldType.boolean) := rfl
def kX4_sizeOf : zY := (4, yX4_sizeOf, cX4_sizeOf, 2, some (FieldType.int))
theorem o_X4_sizeOf : zYo kX4_sizeOf = 4 := rfl
theorem r_X4_sizeOf : zYr kX4_sizeOf = some (FieldType.int) := rfl
def kX4_endOf : zY := (4, yX4_endOf, cX4_endOf, 2, some (FieldType.int))
theorem o_X4_endOf : zYo kX4_endOf = 4 := rfl
theorem r_X4_endOf : zYr kX4_endOf = some (FieldType.int) := rfl
def kX4_split : zY := (4, yX4_split, cX4_split, 5, none)
theorem o_X4_split : zYo kX4_split = 4 := rfl
theorem r_X4_split : zYr kX4_split = none := rfl
def kX6_undoSeam : zY := (6, yX6_undoSeam, cX6_undoSeam, 4, some (FieldType.int))
theorem o_X6_undoSeam : zYo kX6_undoSeam = 6 := rfl
theorem r_X6_undoSeam : zYr kX6_undoSeam = some (FieldType.int) := rfl
def kX4_hasSeam : zY := (4, yX4_hasSeam, cX4_hasSeam, 2, some (FieldType.boolean))
theorem o_X4_hasSeam : zYo kX4_hasSeam = 4 := rfl
theorem r_X4_hasSeam : zYr kX4_hasSeam = some (FieldType.boolean) := rfl
def kX4_merge : zY := (4, yX4_merge, cX4_merge, 3, none)
theorem o_X4_merge : zYo kX4_merge = 4 := rfl
theorem r_X4_merge : zYr kX4_merge = none := rfl
def kX6_turn : zY := (6, yX6_turn, cX6_turn, 5, some (FieldType.int))
theorem o_X6_turn : zYo kX6_turn = 6 := rfl
theorem r_X6_turn : zYr kX6_turn = some (FieldType.int) := rfl
def kX4_unlikeTurned : zY := (4, yX4_unlikeTurned, cX4_unlikeTurned, 6, some (FieldType.int))
theorem o_X4_unlikeTurned : zYo kX4_unlikeTurned = 4 := rfl
theorem r_X4_unlikeTurned : zYr kX4_unlikeTurned = some (FieldType.int) := rfl
def kX4_letterAt : zY := (4, yX4_letterAt, cX4_letterAt, 2, some (FieldType.int))
theorem o_X4_letterAt : zYo kX4_letterAt = 4 := rfl
theorem r_X4_letterAt : zYr kX4_letterAt = some (FieldType.int) := rfl
def kX4_turnRound : zY := (4, yX4_turnRound, cX4_turnRound, 2, none)
theorem o_X4_turnRound : zYo kX4_turnRound = 4 := rfl
theorem r_X4_turnRound : zYr kX4_turnRound = none := rfl
def kX6_turnPart : zY := (6, yX6_turnPart, cX6_turnPart, 6, none)
theorem o_X6_turnPart : zYo kX6_turnPart = 6 := rfl
theorem r_X6_turnPart : zYr kX6_turnPart = none := rfl
def kX6_exchange : zY := (6, yX6_exchange, cX6_exchange, 4, some (FieldType.int))
theorem o_X6_exchange : zYo kX6_exchange = 6 := rfl
theorem r_X6_exchange : zYr kX6_exchange = some (FieldType.int) := rfl
def kX4_swapBeside : zY := (4, yX4_swapBeside, cX4_swapBeside, 5, none)
theorem o_X4_swapBeside : zYo kX4_swapBeside = 4 := rfl
theorem r_X4_swapBeside : zYr kX4_swapBeside = none := rfl
def kX6_readingsOf : zY := (6, yX6_readingsOf, cX6_readingsOf, 2, some (FieldType.int))
theorem o_X6_readingsOf : zYo kX6_readingsOf = 6 := rfl
theorem r_X6_readingsOf : zYr kX6_readingsOf = some (FieldType.int) := rfl
def kX4_waysFromFirst : zY := (4, yX4_waysFromFirst, cX4_waysFromFirst, 3, some (FieldType.int))
theorem o_X4_waysFromFirst : zYo kX4_waysFromFirst = 4 := rfl
theorem r_X4_waysFromFirst : zYr kX4_waysFromFirst = some (FieldType.int) := rfl
def kX4_isEven : zY := (4, yX4_isEven, cX4_isEven, 2, some (FieldType.boolean))
theorem o_X4_isEven : zYo kX4_isEven = 4 := rfl
theorem r_X4_isEven : zYr kX4_isEven = some (FieldType.boolean) := rfl
def kX6_orderTurned : zY := (6, yX6_orderTurned, cX6_orderTurned, 5, some (FieldType.int))
theorem o_X6_orderTurned : zYo kX6_orderTurned = 6 := rfl
theorem r_X6_orderTurned : zYr kX6_orderTurned = some (FieldType.int) := rfl
def kX6_toldFromBothEnds : zY := (6, yX6_toldFromBothEnds, cX6_toldFromBothEnds, 8, some (FieldType.int))
theorem o_X6_toldFromBothEnds : zYo kX6_toldFromBothEnds = 6 := rfl
theorem r_X6_toldFromBothEnds : zYr kX6_toldFromBothEnds = some (FieldType.int) := rfl
def kX4_lay : zY := (4, yX4_lay, cX4_lay, 7, none)
theorem o_X4_lay : zYo kX4_lay = 4 := rfl
theorem r_X4_lay : zYr kX4_lay = none := rfl
def kX4_beginsWith : zY := (4, yX4_beginsWith, cX4_beginsWith, 9, some (FieldType.boolean))
theorem o_X4_beginsWith : zYo kX4_beginsWith = 4 := rfl
theorem r_X4_beginsWith : zYr kX4_beginsWith = some (FieldType.boolean) := rfl
def kX4_standsAt : zY := (4, yX4_standsAt, cX4_standsAt, 8, some (FieldType.boolean))
theorem o_X4_standsAt : zYo kX4_standsAt = 4 := rfl
theorem r_X4_standsAt : zYr kX4_standsAt = some (FieldType.boolean) := rfl
def kX6_join : zY := (6, yX6_join, cX6_join, 5, some (FieldType.int))
theorem o_X6_join : zYo kX6_join = 6 := rfl
theorem r_X6_join : zYr kX6_join = some (FieldType.int) := rfl
def kX4_sewOn : zY := (4, yX4_sewOn, cX4_sewOn, 4, none)
theorem o_X4_sewOn : zYo kX4_sewOn = 4 := rfl
theorem r_X4_sewOn : zYr kX4_sewOn = none := rfl
def kX6_put : zY := (6, yX6_put, cX6_put, 5, some (FieldType.int))
theorem o_X6_put : zYo kX6_put = 6 := rfl
theorem r_X6_put : zYr kX6_put = some (FieldType.int) := rfl
def kX6_charactersIn : zY := (6, yX6_charactersIn, cX6_charactersIn, 5, some (FieldType.int))
theorem o_X6_charactersIn : zYo kX6_charactersIn = 6 := rfl
theorem r_X6_charactersIn : zYr kX6_charactersIn = some (FieldType.int) := rfl
def kX6_codeIn : zY := (6, yX6_codeIn, cX6_codeIn, 3, some (FieldType.int))
theorem o_X6_codeIn : zYo kX6_codeIn = 6 := rfl
theorem r_X6_codeIn : zYr kX6_codeIn = some (FieldType.int) := rfl
def kX2_append : zY := (2, yX2_append, cX2_append, 2, none)
theorem o_X2_append : zYo kX2_append = 2 := rfl
theorem r_X2_append : zYr kX2_append = none := rfl
def kX6_wipe : zY := (6, yX6_wipe, cX6_wipe, 2, some (FieldType.int))
theorem o_X6_wipe : zYo kX6_wipe = 6 := rfl
theorem r_X6_wipe : zYr kX6_wipe = some (FieldType.int) := rfl
def kX6_fault : zY := (6, yX6_fault, cX6_fault, 1, some (FieldType.int))
theorem o_X6_fault : zYo kX6_fault = 6 := rfl
theorem r_X6_fault : zYr kX6_fault = some (FieldType.int) := rfl
def kL_cell : zY := (8, yL_cell, cL_cell, 2, some (FieldType.int))
theorem o_L_cell : zYo kL_cell = 8 := rfl
theorem r_L_cell : zYr kL_cell = some (FieldType.int) := rfl
def kL_low : zY := (8, yL_low, cL_low, 2, some (FieldType.int))
theorem o_L_low : zYo kL_low = 8 := rfl
theorem r_L_low : zYr kL_low = some (FieldType.int) := rfl
def kL_size : zY := (8, yL_size, cL_size, 3, some (FieldType.int))
theorem o_L_size : zYo kL_size = 8 := rfl
theorem r_L_size : zYr kL_size = some (FieldType.int) := rfl
def kL_readings : zY := (8, yL_readings, cL_readings, 12, some (FieldType.int))
theorem o_L_readings : zYo kL_readings = 8 := rfl
theorem r_L_readings : zYr kL_readings = some (FieldType.int) := rfl
def kL_with : zY := (8, yL_with, cL_with, 10, some (FieldType.long))
theorem o_L_with : zYo kL_with = 8 := rfl
theorem r_L_with : zYr kL_with = some (FieldType.long) := rfl
def kL_length : zY := (8, yL_length, cL_length, 2, some (FieldType.int))
theorem o_L_length : zYo kL_length = 8 := rfl
theorem r_L_length : zYr kL_length = some (FieldType.int) := rfl
def kL_copy : zY := (8, yL_copy, cL_copy, 5, none)
theorem o_L_copy : zYo kL_copy = 8 := rfl
theorem r_L_copy : zYr kL_copy = none := rfl
def kL_seam : zY := (8, yL_seam, cL_seam, 5, none)
theorem o_L_seam : zYo kL_seam = 8 := rfl
theorem r_L_seam : zYr kL_seam = none := rfl
def kL_undone : zY := (8, yL_undone, cL_undone, 4, none)
theorem o_L_undone : zYo kL_undone = 8 := rfl
theorem r_L_undone : zYr kL_undone = none := rfl
def kL_same : zY := (8, yL_same, cL_same, 26, some (FieldType.boolean))
theorem o_L_same : zYo kL_same = 8 := rfl
theorem r_L_same : zYr kL_same = some (FieldType.boolean) := rfl
def kX6_letter : zY := (6, yX6_letter, cX6_letter, 5, some (FieldType.int))
theorem o_X6_letter : zYo kX6_letter = 6 := rfl
theorem r_X6_letter : zYr kX6_letter = some (FieldType.int) := rfl
def kX6_patch : zY := (6, yX6_patch, cX6_patch, 4, some (FieldType.int))
theorem o_X6_patch : zYo kX6_patch = 6 := rfl
theorem r_X6_patch : zYr kX6_patch = some (FieldType.int) := rfl
def kL_digit : zY := (8, yL_digit, cL_digit, 4, some (FieldType.int))
theorem o_L_digit : zYo kL_digit = 8 := rfl
theorem r_L_digit : zYr kL_digit = some (FieldType.int) := rfl
def kL_shared : zY := (8, yL_shared, cL_shared, 7, some (FieldType.int))
theorem o_L_shared : zYo kL_shared = 8 := rfl
theorem r_L_shared : zYr kL_shared = some (FieldType.int) := rfl
def kX6_reading : zY := (6, yX6_reading, cX6_reading, 6, some (FieldType.int))
theorem o_X6_reading : zYo kX6_reading = 6 := rfl
theorem r_X6_reading : zYr kX6_reading = some (FieldType.int) := rfl
def kX3_begin : zY := (3, yX3_begin, cX3_begin, 2, none)
theorem o_X3_begin : zYo kX3_begin = 3 := rfl
theorem r_X3_begin : zYr kX3_begin = none := rfl
def kX0_begin : zY := (0, yX0_begin, cX0_begin, 10, none)
theorem o_X0_begin : zYo kX0_begin = 0 := rfl
theorem r_X0_begin : zYr kX0_begin = none := rfl
def kX0_addDigit : zY := (0, yX0_addDigit, cX0_addDigit, 3, none)
theorem o_X0_addDigit : zYo kX0_addDigit = 0 := rfl
theorem r_X0_addDigit : zYr kX0_addDigit = none := rfl
def kX3_next : zY := (3, yX3_next, cX3_next, 3, some (FieldType.boolean))
theorem o_X3_next : zYo kX3_next = 3 := rfl
theorem r_X3_next : zYr kX3_next = some (FieldType.boolean) := rfl
def kX0_isOver : zY := (0, yX0_isOver, cX0_isOver, 1, some (FieldType.boolean))
theorem o_X0_isOver : zYo kX0_isOver = 0 := rfl
theorem r_X0_isOver : zYr kX0_isOver = some (FieldType.boolean) := rfl
def kX3_orderOfEnds : zY := (3, yX3_orderOfEnds, cX3_orderOfEnds, 2, some (FieldType.int))
theorem o_X3_orderOfEnds : zYo kX3_orderOfEnds = 3 := rfl
theorem r_X3_orderOfEnds : zYr kX3_orderOfEnds = some (FieldType.int) := rfl
def kX0_step : zY := (0, yX0_step, cX0_step, 3, none)
theorem o_X0_step : zYo kX0_step = 0 := rfl
theorem r_X0_step : zYr kX0_step = none := rfl
def kX3_letterAt : zY := (3, yX3_letterAt, cX3_letterAt, 2, some (FieldType.int))
theorem o_X3_letterAt : zYo kX3_letterAt = 3 := rfl
theorem r_X3_letterAt : zYr kX3_letterAt = some (FieldType.int) := rfl
def kX6_scroll : zY := (6, yX6_scroll, cX6_scroll, 4, some (FieldType.int))
theorem o_X6_scroll : zYo kX6_scroll = 6 := rfl
theorem r_X6_scroll : zYr kX6_scroll = some (FieldType.int) := rfl
def kX4_evenPatches : zY := (4, yX4_evenPatches, cX4_evenPatches, 3, some (FieldType.int))
theorem o_X4_evenPatches : zYo kX4_evenPatches = 4 := rfl
theorem r_X4_evenPatches : zYr kX4_evenPatches = some (FieldType.int) := rfl
def kX6_evenReadings : zY := (6, yX6_evenReadings, cX6_evenReadings, 4, some (FieldType.int))
theorem o_X6_evenReadings : zYo kX6_evenReadings = 6 := rfl
theorem r_X6_evenReadings : zYr kX6_evenReadings = some (FieldType.int) := rfl
def kX6_idleSeams : zY := (6, yX6_idleSeams, cX6_idleSeams, 4, some (FieldType.int))
theorem o_X6_idleSeams : zYo kX6_idleSeams = 6 := rfl
theorem r_X6_idleSeams : zYr kX6_idleSeams = some (FieldType.int) := rfl
def kX6_tellTheSame : zY := (6, yX6_tellTheSame, cX6_tellTheSame, 4, some (FieldType.boolean))
theorem o_X6_tellTheSame : zYo kX6_tellTheSame = 6 := rfl
theorem r_X6_tellTheSame : zYr kX6_tellTheSame = some (FieldType.boolean) := rfl
def kX6_readingsOfBoth : zY := (6, yX6_readingsOfBoth, cX6_readingsOfBoth, 5, some (FieldType.int))
theorem o_X6_readingsOfBoth : zYo kX6_readingsOfBoth = 6 := rfl
theorem r_X6_readingsOfBoth : zYr kX6_readingsOfBoth = some (FieldType.int) := rfl
def kX4_tells : zY := (4, yX4_tells, cX4_tells, 3, some (FieldType.boolean))
theorem o_X4_tells : zYo kX4_tells = 4 := rfl
theorem r_X4_tells : zYr kX4_tells = some (FieldType.boolean) := rfl
def kX6_shared : zY := (6, yX6_shared, cX6_shared, 5, some (FieldType.int))
theorem o_X6_shared : zYo kX6_shared = 6 := rfl
theorem r_X6_shared : zYr kX6_shared = some (FieldType.int) := rfl
def kX6_compare : zY := (6, yX6_compare, cX6_compare, 8, some (FieldType.int))
theorem o_X6_compare : zYo kX6_compare = 6 := rfl
theorem r_X6_compare : zYr kX6_compare = some (FieldType.int) := rfl
def kX6_count : zY := (6, yX6_count, cX6_count, 2, some (FieldType.int))
theorem o_X6_count : zYo kX6_count = 6 := rfl
theorem r_X6_count : zYr kX6_count = some (FieldType.int) := rfl
def kX5_patchesOfAll : zY := (5, yX5_patchesOfAll, cX5_patchesOfAll, 4, some (FieldType.int))
theorem o_X5_patchesOfAll : zYo kX5_patchesOfAll = 5 := rfl
theorem r_X5_patchesOfAll : zYr kX5_patchesOfAll = some (FieldType.int) := rfl
def kX5_lettersOfAll : zY := (5, yX5_lettersOfAll, cX5_lettersOfAll, 4, some (FieldType.int))
theorem o_X5_lettersOfAll : zYo kX5_lettersOfAll = 5 := rfl
theorem r_X5_lettersOfAll : zYr kX5_lettersOfAll = some (FieldType.int) := rfl
def kX6_readingsOfAll : zY := (6, yX6_readingsOfAll, cX6_readingsOfAll, 4, some (FieldType.int))
theorem o_X6_readingsOfAll : zYo kX6_readingsOfAll = 6 := rfl
theorem r_X6_readingsOfAll : zYr kX6_readingsOfAll = some (FieldType.int) := rfl
def kX6_readingsNotToldBefore : zY := (6, yX6_readingsNotToldBefore, cX6_readingsNotToldBefore, 5, some (FieldType.int))
theorem o_X6_readingsNotToldBefore : zYo kX6_readingsNotToldBefore = 6 := rfl
theorem r_X6_readingsNotToldBefore : zYr kX6_readingsNotToldBefore = some (FieldType.int) := rfl
def kX5_tellsBefore : zY := (5, yX5_tellsBefore, cX5_tellsBefore, 6, some (FieldType.boolean))
theorem o_X5_tellsBefore : zYo kX5_tellsBefore = 5 := rfl
theorem r_X5_tellsBefore : zYr kX5_tellsBefore = some (FieldType.boolean) := rfl
def kX6_pairsOfTheSame : zY := (6, yX6_pairsOfTheSame, cX6_pairsOfTheSame, 6, some (FieldType.int))
theorem o_X6_pairsOfTheSame : zYo kX6_pairsOfTheSame = 6 := rfl
theorem r_X6_pairsOfTheSame : zYr kX6_pairsOfTheSame = some (FieldType.int) := rfl
def kL_cuts : zY := (8, yL_cuts, cL_cuts, 11, some (FieldType.boolean))
theorem o_L_cuts : zYo kL_cuts = 8 := rfl
theorem r_L_cuts : zYr kL_cuts = some (FieldType.boolean) := rfl
def kX6_ifCut : zY := (6, yX6_ifCut, cX6_ifCut, 5, some (FieldType.int))
theorem o_X6_ifCut : zYo kX6_ifCut = 6 := rfl
theorem r_X6_ifCut : zYr kX6_ifCut = some (FieldType.int) := rfl
def kX6_readingsWithCut : zY := (6, yX6_readingsWithCut, cX6_readingsWithCut, 4, some (FieldType.int))
theorem o_X6_readingsWithCut : zYo kX6_readingsWithCut = 6 := rfl
theorem r_X6_readingsWithCut : zYr kX6_readingsWithCut = some (FieldType.int) := rfl
def kX6_bestCut : zY := (6, yX6_bestCut, cX6_bestCut, 10, some (FieldType.int))
theorem o_X6_bestCut : zYo kX6_bestCut = 6 := rfl
theorem r_X6_bestCut : zYr kX6_bestCut = some (FieldType.int) := rfl
def kL_finds : zY := (8, yL_finds, cL_finds, 16, some (FieldType.boolean))
theorem o_L_finds : zYo kL_finds = 8 := rfl
theorem r_L_finds : zYr kL_finds = some (FieldType.boolean) := rfl
def kX6_find : zY := (6, yX6_find, cX6_find, 4, some (FieldType.int))
theorem o_X6_find : zYo kX6_find = 6 := rfl
theorem r_X6_find : zYr kX6_find = some (FieldType.int) := rfl
def kX2_isWord : zY := (2, yX2_isWord, cX2_isWord, 2, some (FieldType.boolean))
theorem o_X2_isWord : zYo kX2_isWord = 2 := rfl
theorem r_X2_isWord : zYr kX2_isWord = some (FieldType.boolean) := rfl
def kX6_findWord : zY := (6, yX6_findWord, cX6_findWord, 9, some (FieldType.int))
theorem o_X6_findWord : zYo kX6_findWord = 6 := rfl
theorem r_X6_findWord : zYr kX6_findWord = some (FieldType.int) := rfl
def kX2_placeIn : zY := (2, yX2_placeIn, cX2_placeIn, 4, some (FieldType.int))
theorem o_X2_placeIn : zYo kX2_placeIn = 2 := rfl
theorem r_X2_placeIn : zYr kX2_placeIn = some (FieldType.int) := rfl
def kX2_standsAt : zY := (2, yX2_standsAt, cX2_standsAt, 4, some (FieldType.boolean))
theorem o_X2_standsAt : zYo kX2_standsAt = 2 := rfl
theorem r_X2_standsAt : zYr kX2_standsAt = some (FieldType.boolean) := rfl
def kL_law : zY := (8, yL_law, cL_law, 19, some (FieldType.boolean))
theorem o_L_law : zYo kL_law = 8 := rfl
theorem r_L_law : zYr kL_law = some (FieldType.boolean) := rfl
/-- field links: (own class, pool number), (class of the object, slot, 0 an int or 1 a final reference), (nest mate, place in the tables) -/
def zFt : List ((Nat × Nat) × (Nat × Nat × Nat) × (Nat × Nat)) := [((4, 9), (4, 0, 1), (0, 46)), ((4, 15), (4, 1, 1), (0, 47)), ((4, 18), (4, 2, 0), (0, 48)), ((0, 28), (4, 2, 0), (1, 49)), ((6, 96), (4, 2, 0), (1, 50)), ((5, 33), (4, 2, 0), (1, 51)), ((5, 11), (5, 0, 1), (0, 60)), ((5, 18), (5, 1, 0), (0, 61)), ((6, 60), (5, 1, 0), (1, 62)), ((2, 9), (2, 0, 1), (0, 74)), ((2, 15), (2, 1, 0), (0, 75)), ((6, 179), (2, 1, 0), (1, 76)), ((1, 11), (1, 0, 1), (0, 91)), ((1, 18), (1, 1, 0), (0, 92)), ((6, 181), (1, 1, 0), (1, 93)), ((0, 9), (0, 0, 1), (0, 111)), ((3, 45), (0, 0, 1), (1, 112)), ((0, 15), (0, 1, 1), (0, 113)), ((0, 18), (0, 2, 1), (0, 114)), ((0, 21), (0, 3, 0), (0, 115)), ((0, 25), (0, 4, 0), (0, 116)), ((3, 12), (3, 0, 1), (0, 129)), ((3, 18), (3, 1, 1), (0, 130)), ((3, 21), (3, 2, 1), (0, 131)), ((6, 239), (3, 2, 1), (1, 132)), ((3, 31), (3, 3, 0), (0, 133)), ((6, 242), (3, 3, 0), (1, 134)), ((6, 10), (6, 0, 1), (0, 146)), ((6, 19), (6, 1, 1), (0, 147)), ((6, 26), (6, 2, 1), (0, 148)), ((6, 30), (6, 3, 1), (0, 149)), ((6, 34), (6, 4, 1), (0, 150)), ((6, 41), (6, 5, 1), (0, 151)), ((6, 48), (6, 6, 1), (0, 152)), ((6, 52), (6, 7, 1), (0, 153))]
def zF (o i : Nat) : Option (Nat × Nat × Nat) := (zFt.find? (fun x => x.1 == (o, i))).map (fun x => x.2.1)
theorem zF_4_9 : zF 4 9 = some (4, 0, 1) := by decide +kernel
theorem zF_4_15 : zF 4 15 = some (4, 1, 1) := by decide +kernel
theorem zF_4_18 : zF 4 18 = some (4, 2, 0) := by decide +kernel
theorem zF_0_28 : zF 0 28 = some (4, 2, 0) := by decide +kernel
theorem zF_6_96 : zF 6 96 = some (4, 2, 0) := by decide +kernel
theorem zF_5_33 : zF 5 33 = some (4, 2, 0) := by decide +kernel
theorem zF_5_11 : zF 5 11 = some (5, 0, 1) := by decide +kernel
theorem zF_5_18 : zF 5 18 = some (5, 1, 0) := by decide +kernel
theorem zF_6_60 : zF 6 60 = some (5, 1, 0) := by decide +kernel
theorem zF_2_9 : zF 2 9 = some (2, 0, 1) := by decide +kernel
theorem zF_2_15 : zF 2 15 = some (2, 1, 0) := by decide +kernel
theorem zF_6_179 : zF 6 179 = some (2, 1, 0) := by decide +kernel
theorem zF_1_11 : zF 1 11 = some (1, 0, 1) := by decide +kernel
theorem zF_1_18 : zF 1 18 = some (1, 1, 0) := by decide +kernel
theorem zF_6_181 : zF 6 181 = some (1, 1, 0) := by decide +kernel
theorem zF_0_9 : zF 0 9 = some (0, 0, 1) := by decide +kernel
theorem zF_3_45 : zF 3 45 = some (0, 0, 1) := by decide +kernel
theorem zF_0_15 : zF 0 15 = some (0, 1, 1) := by decide +kernel
theorem zF_0_18 : zF 0 18 = some (0, 2, 1) := by decide +kernel
theorem zF_0_21 : zF 0 21 = some (0, 3, 0) := by decide +kernel
theorem zF_0_25 : zF 0 25 = some (0, 4, 0) := by decide +kernel
theorem zF_3_12 : zF 3 12 = some (3, 0, 1) := by decide +kernel
theorem zF_3_18 : zF 3 18 = some (3, 1, 1) := by decide +kernel
theorem zF_3_21 : zF 3 21 = some (3, 2, 1) := by decide +kernel
theorem zF_6_239 : zF 6 239 = some (3, 2, 1) := by decide +kernel
theorem zF_3_31 : zF 3 31 = some (3, 3, 0) := by decide +kernel
theorem zF_6_242 : zF 6 242 = some (3, 3, 0) := by decide +kernel
theorem zF_6_10 : zF 6 10 = some (6, 0, 1) := by decide +kernel
theorem zF_6_19 : zF 6 19 = some (6, 1, 1) := by decide +kernel
theorem zF_6_26 : zF 6 26 = some (6, 2, 1) := by decide +kernel
theorem zF_6_30 : zF 6 30 = some (6, 3, 1) := by decide +kernel
theorem zF_6_34 : zF 6 34 = some (6, 4, 1) := by decide +kernel
theorem zF_6_41 : zF 6 41 = some (6, 5, 1) := by decide +kernel
theorem zF_6_48 : zF 6 48 = some (6, 6, 1) := by decide +kernel
theorem zF_6_52 : zF 6 52 = some (6, 7, 1) := by decide +kernel
set_option maxRecDepth 100000 in
theorem kc_X6_init : Cond.code (zYn kX6_init) (zYb kX6_init) (zYl kX6_init) (zYr kX6_init) ∈ lw_tbl := List.mem_of_getElem? (i := 29) rfl
set_option maxRecDepth 100000 in
theorem kc_X5_init : Cond.code (zYn kX5_init) (zYb kX5_init) (zYl kX5_init) (zYr kX5_init) ∈ lw_tbl := List.mem_of_getElem? (i := 37) rfl
set_option maxRecDepth 100000 in
theorem kc_X4_init : Cond.code (zYn kX4_init) (zYb kX4_init) (zYl kX4_init) (zYr kX4_init) ∈ lw_tbl := List.mem_of_getElem? (i := 44) rfl
set_option maxRecDepth 100000 in
theorem kc_X2_init : Cond.code (zYn kX2_init) (zYb kX2_init) (zYl kX2_init) (zYr kX2_init) ∈ lw_tbl := List.mem_of_getElem? (i := 72) rfl
set_option maxRecDepth 100000 in
theorem kc_X1_init : Cond.code (zYn kX1_init) (zYb kX1_init) (zYl kX1_init) (zYr kX1_init) ∈ lw_tbl := List.mem_of_getElem? (i := 86) rfl
set_option maxRecDepth 100000 in
theorem kc_X3_init : Cond.code (zYn kX3_init) (zYb kX3_init) (zYl kX3_init) (zYr kX3_init) ∈ lw_tbl := List.mem_of_getElem? (i := 103) rfl
set_option maxRecDepth 100000 in
theorem kc_X0_init : Cond.code (zYn kX0_init) (zYb kX0_init) (zYl kX0_init) (zYr kX0_init) ∈ lw_tbl := List.mem_of_getElem? (i := 109) rfl
set_option maxRecDepth 100000 in
theorem kc_X6_sew : Cond.code (zYn kX6_sew) (zYb kX6_sew) (zYl kX6_sew) (zYr kX6_sew) ∈ lw_tbl := List.mem_of_getElem? (i := 174) rfl
set_option maxRecDepth 100000 in
theorem kc_X2_firstFault : Cond.code (zYn kX2_firstFault) (zYb kX2_firstFault) (zYl kX2_firstFault) (zYr kX2_firstFault) ∈ lw_tbl := List.mem_of_getElem? (i := 178) rfl
set_option maxRecDepth 100000 in
theorem kc_X2_codeAt : Cond.code (zYn kX2_codeAt) (zYb kX2_codeAt) (zYl kX2_codeAt) (zYr kX2_codeAt) ∈ lw_tbl := List.mem_of_getElem? (i := 182) rfl
set_option maxRecDepth 100000 in
theorem kc_X6_isLetter : Cond.code (zYn kX6_isLetter) (zYb kX6_isLetter) (zYl kX6_isLetter) (zYr kX6_isLetter) ∈ lw_tbl := List.mem_of_getElem? (i := 185) rfl
set_option maxRecDepth 100000 in
theorem kc_X2_scrollsOfText : Cond.code (zYn kX2_scrollsOfText) (zYb kX2_scrollsOfText) (zYl kX2_scrollsOfText) (zYr kX2_scrollsOfText) ∈ lw_tbl := List.mem_of_getElem? (i := 189) rfl
set_option maxRecDepth 100000 in
theorem kc_X1_record : Cond.code (zYn kX1_record) (zYb kX1_record) (zYl kX1_record) (zYr kX1_record) ∈ lw_tbl := List.mem_of_getElem? (i := 193) rfl
set_option maxRecDepth 100000 in
theorem kc_X1_dropOldest : Cond.code (zYn kX1_dropOldest) (zYb kX1_dropOldest) (zYl kX1_dropOldest) (zYr kX1_dropOldest) ∈ lw_tbl := List.mem_of_getElem? (i := 197) rfl
set_option maxRecDepth 100000 in
theorem kc_X5_copyFrom : Cond.code (zYn kX5_copyFrom) (zYb kX5_copyFrom) (zYl kX5_copyFrom) (zYr kX5_copyFrom) ∈ lw_tbl := List.mem_of_getElem? (i := 201) rfl
set_option maxRecDepth 100000 in
theorem kc_X5_at : Cond.code (zYn kX5_at) (zYb kX5_at) (zYl kX5_at) (zYr kX5_at) ∈ lw_tbl := List.mem_of_getElem? (i := 205) rfl
set_option maxRecDepth 100000 in
theorem kc_X4_copyFrom : Cond.code (zYn kX4_copyFrom) (zYb kX4_copyFrom) (zYl kX4_copyFrom) (zYr kX4_copyFrom) ∈ lw_tbl := List.mem_of_getElem? (i := 209) rfl
set_option maxRecDepth 100000 in
theorem kc_X6_sewText : Cond.code (zYn kX6_sewText) (zYb kX6_sewText) (zYl kX6_sewText) (zYr kX6_sewText) ∈ lw_tbl := List.mem_of_getElem? (i := 216) rfl
set_option maxRecDepth 100000 in
theorem kc_X5_addScroll : Cond.code (zYn kX5_addScroll) (zYb kX5_addScroll) (zYl kX5_addScroll) (zYr kX5_addScroll) ∈ lw_tbl := List.mem_of_getElem? (i := 220) rfl
set_option maxRecDepth 100000 in
theorem kc_X4_startAnew : Cond.code (zYn kX4_startAnew) (zYb kX4_startAnew) (zYl kX4_startAnew) (zYr kX4_startAnew) ∈ lw_tbl := List.mem_of_getElem? (i := 224) rfl
set_option maxRecDepth 100000 in
theorem kc_X4_addPatch : Cond.code (zYn kX4_addPatch) (zYb kX4_addPatch) (zYl kX4_addPatch) (zYr kX4_addPatch) ∈ lw_tbl := List.mem_of_getElem? (i := 228) rfl
set_option maxRecDepth 100000 in
theorem kc_X4_length : Cond.code (zYn kX4_length) (zYb kX4_length) (zYl kX4_length) (zYr kX4_length) ∈ lw_tbl := List.mem_of_getElem? (i := 232) rfl
set_option maxRecDepth 100000 in
theorem kc_X4_startOf : Cond.code (zYn kX4_startOf) (zYb kX4_startOf) (zYl kX4_startOf) (zYr kX4_startOf) ∈ lw_tbl := List.mem_of_getElem? (i := 236) rfl
set_option maxRecDepth 100000 in
theorem kc_X4_addLetter : Cond.code (zYn kX4_addLetter) (zYb kX4_addLetter) (zYl kX4_addLetter) (zYr kX4_addLetter) ∈ lw_tbl := List.mem_of_getElem? (i := 242) rfl
set_option maxRecDepth 100000 in
theorem kc_X2_empty : Cond.code (zYn kX2_empty) (zYb kX2_empty) (zYl kX2_empty) (zYr kX2_empty) ∈ lw_tbl := List.mem_of_getElem? (i := 246) rfl
set_option maxRecDepth 100000 in
theorem kc_X6_burn : Cond.code (zYn kX6_burn) (zYb kX6_burn) (zYl kX6_burn) (zYr kX6_burn) ∈ lw_tbl := List.mem_of_getElem? (i := 250) rfl
set_option maxRecDepth 100000 in
theorem kc_X5_remove : Cond.code (zYn kX5_remove) (zYb kX5_remove) (zYl kX5_remove) (zYr kX5_remove) ∈ lw_tbl := List.mem_of_getElem? (i := 256) rfl
set_option maxRecDepth 100000 in
theorem kc_X6_cut : Cond.code (zYn kX6_cut) (zYb kX6_cut) (zYl kX6_cut) (zYr kX6_cut) ∈ lw_tbl := List.mem_of_getElem? (i := 260) rfl
set_option maxRecDepth 100000 in
theorem kc_X4_hasPatch : Cond.code (zYn kX4_hasPatch) (zYb kX4_hasPatch) (zYl kX4_hasPatch) (zYr kX4_hasPatch) ∈ lw_tbl := List.mem_of_getElem? (i := 264) rfl
set_option maxRecDepth 100000 in
theorem kc_X4_canBeCut : Cond.code (zYn kX4_canBeCut) (zYb kX4_canBeCut) (zYl kX4_canBeCut) (zYr kX4_canBeCut) ∈ lw_tbl := List.mem_of_getElem? (i := 268) rfl
set_option maxRecDepth 100000 in
theorem kc_X4_sizeOf : Cond.code (zYn kX4_sizeOf) (zYb kX4_sizeOf) (zYl kX4_sizeOf) (zYr kX4_sizeOf) ∈ lw_tbl := List.mem_of_getElem? (i := 272) rfl
set_option maxRecDepth 100000 in
theorem kc_X4_endOf : Cond.code (zYn kX4_endOf) (zYb kX4_endOf) (zYl kX4_endOf) (zYr kX4_endOf) ∈ lw_tbl := List.mem_of_getElem? (i := 276) rfl
set_option maxRecDepth 100000 in
theorem kc_X4_split : Cond.code (zYn kX4_split) (zYb kX4_split) (zYl kX4_split) (zYr kX4_split) ∈ lw_tbl := List.mem_of_getElem? (i := 280) rfl
set_option maxRecDepth 100000 in
theorem kc_X6_undoSeam : Cond.code (zYn kX6_undoSeam) (zYb kX6_undoSeam) (zYl kX6_undoSeam) (zYr kX6_undoSeam) ∈ lw_tbl := List.mem_of_getElem? (i := 285) rfl
set_option maxRecDepth 100000 in
theorem kc_X4_hasSeam : Cond.code (zYn kX4_hasSeam) (zYb kX4_hasSeam) (zYl kX4_hasSeam) (zYr kX4_hasSeam) ∈ lw_tbl := List.mem_of_getElem? (i := 289) rfl
set_option maxRecDepth 100000 in
theorem kc_X4_merge : Cond.code (zYn kX4_merge) (zYb kX4_merge) (zYl kX4_merge) (zYr kX4_merge) ∈ lw_tbl := List.mem_of_getElem? (i := 294) rfl
set_option maxRecDepth 100000 in
theorem kc_X6_turn : Cond.code (zYn kX6_turn) (zYb kX6_turn) (zYl kX6_turn) (zYr kX6_turn) ∈ lw_tbl := List.mem_of_getElem? (i := 299) rfl
set_option maxRecDepth 100000 in
theorem kc_X4_unlikeTurned : Cond.code (zYn kX4_unlikeTurned) (zYb kX4_unlikeTurned) (zYl kX4_unlikeTurned) (zYr kX4_unlikeTurned) ∈ lw_tbl := List.mem_of_getElem? (i := 303) rfl
set_option maxRecDepth 100000 in
theorem kc_X4_letterAt : Cond.code (zYn kX4_letterAt) (zYb kX4_letterAt) (zYl kX4_letterAt) (zYr kX4_letterAt) ∈ lw_tbl := List.mem_of_getElem? (i := 307) rfl
set_option maxRecDepth 100000 in
theorem kc_X4_turnRound : Cond.code (zYn kX4_turnRound) (zYb kX4_turnRound) (zYl kX4_turnRound) (zYr kX4_turnRound) ∈ lw_tbl := List.mem_of_getElem? (i := 311) rfl
set_option maxRecDepth 100000 in
theorem kc_X6_turnPart : Cond.code (zYn kX6_turnPart) (zYb kX6_turnPart) (zYl kX6_turnPart) (zYr kX6_turnPart) ∈ lw_tbl := List.mem_of_getElem? (i := 314) rfl
set_option maxRecDepth 100000 in
theorem kc_X6_exchange : Cond.code (zYn kX6_exchange) (zYb kX6_exchange) (zYl kX6_exchange) (zYr kX6_exchange) ∈ lw_tbl := List.mem_of_getElem? (i := 318) rfl
set_option maxRecDepth 100000 in
theorem kc_X4_swapBeside : Cond.code (zYn kX4_swapBeside) (zYb kX4_swapBeside) (zYl kX4_swapBeside) (zYr kX4_swapBeside) ∈ lw_tbl := List.mem_of_getElem? (i := 322) rfl
set_option maxRecDepth 100000 in
theorem kc_X6_readingsOf : Cond.code (zYn kX6_readingsOf) (zYb kX6_readingsOf) (zYl kX6_readingsOf) (zYr kX6_readingsOf) ∈ lw_tbl := List.mem_of_getElem? (i := 326) rfl
set_option maxRecDepth 100000 in
theorem kc_X4_waysFromFirst : Cond.code (zYn kX4_waysFromFirst) (zYb kX4_waysFromFirst) (zYl kX4_waysFromFirst) (zYr kX4_waysFromFirst) ∈ lw_tbl := List.mem_of_getElem? (i := 330) rfl
set_option maxRecDepth 100000 in
theorem kc_X4_isEven : Cond.code (zYn kX4_isEven) (zYb kX4_isEven) (zYl kX4_isEven) (zYr kX4_isEven) ∈ lw_tbl := List.mem_of_getElem? (i := 334) rfl
set_option maxRecDepth 100000 in
theorem kc_X6_orderTurned : Cond.code (zYn kX6_orderTurned) (zYb kX6_orderTurned) (zYl kX6_orderTurned) (zYr kX6_orderTurned) ∈ lw_tbl := List.mem_of_getElem? (i := 337) rfl
set_option maxRecDepth 100000 in
theorem kc_X6_toldFromBothEnds : Cond.code (zYn kX6_toldFromBothEnds) (zYb kX6_toldFromBothEnds) (zYl kX6_toldFromBothEnds) (zYr kX6_toldFromBothEnds) ∈ lw_tbl := List.mem_of_getElem? (i := 340) rfl
set_option maxRecDepth 100000 in
theorem kc_X4_lay : Cond.code (zYn kX4_lay) (zYb kX4_lay) (zYl kX4_lay) (zYr kX4_lay) ∈ lw_tbl := List.mem_of_getElem? (i := 347) rfl
set_option maxRecDepth 100000 in
theorem kc_X4_beginsWith : Cond.code (zYn kX4_beginsWith) (zYb kX4_beginsWith) (zYl kX4_beginsWith) (zYr kX4_beginsWith) ∈ lw_tbl := List.mem_of_getElem? (i := 351) rfl
set_option maxRecDepth 100000 in
theorem kc_X4_standsAt : Cond.code (zYn kX4_standsAt) (zYb kX4_standsAt) (zYl kX4_standsAt) (zYr kX4_standsAt) ∈ lw_tbl := List.mem_of_getElem? (i := 355) rfl
set_option maxRecDepth 100000 in
theorem kc_X6_join : Cond.code (zYn kX6_join) (zYb kX6_join) (zYl kX6_join) (zYr kX6_join) ∈ lw_tbl := List.mem_of_getElem? (i := 359) rfl
set_option maxRecDepth 100000 in
theorem kc_X4_sewOn : Cond.code (zYn kX4_sewOn) (zYb kX4_sewOn) (zYl kX4_sewOn) (zYr kX4_sewOn) ∈ lw_tbl := List.mem_of_getElem? (i := 363) rfl
set_option maxRecDepth 100000 in
theorem kc_X6_put : Cond.code (zYn kX6_put) (zYb kX6_put) (zYl kX6_put) (zYr kX6_put) ∈ lw_tbl := List.mem_of_getElem? (i := 368) rfl
set_option maxRecDepth 100000 in
theorem kc_X6_charactersIn : Cond.code (zYn kX6_charactersIn) (zYb kX6_charactersIn) (zYl kX6_charactersIn) (zYr kX6_charactersIn) ∈ lw_tbl := List.mem_of_getElem? (i := 371) rfl
set_option maxRecDepth 100000 in
theorem kc_X6_codeIn : Cond.code (zYn kX6_codeIn) (zYb kX6_codeIn) (zYl kX6_codeIn) (zYr kX6_codeIn) ∈ lw_tbl := List.mem_of_getElem? (i := 374) rfl
set_option maxRecDepth 100000 in
theorem kc_X2_append : Cond.code (zYn kX2_append) (zYb kX2_append) (zYl kX2_append) (zYr kX2_append) ∈ lw_tbl := List.mem_of_getElem? (i := 379) rfl
set_option maxRecDepth 100000 in
theorem kc_X6_wipe : Cond.code (zYn kX6_wipe) (zYb kX6_wipe) (zYl kX6_wipe) (zYr kX6_wipe) ∈ lw_tbl := List.mem_of_getElem? (i := 383) rfl
set_option maxRecDepth 100000 in
theorem kc_X6_fault : Cond.code (zYn kX6_fault) (zYb kX6_fault) (zYl kX6_fault) (zYr kX6_fault) ∈ lw_tbl := List.mem_of_getElem? (i := 387) rfl
set_option maxRecDepth 100000 in
theorem kc_L_cell : Cond.code (zYn kL_cell) (zYb kL_cell) (zYl kL_cell) (zYr kL_cell) ∈ lw_tbl := List.mem_of_getElem? (i := 390) rfl
set_option maxRecDepth 100000 in
theorem kc_L_low : Cond.code (zYn kL_low) (zYb kL_low) (zYl kL_low) (zYr kL_low) ∈ lw_tbl := List.mem_of_getElem? (i := 395) rfl
set_option maxRecDepth 100000 in
theorem kc_L_size : Cond.code (zYn kL_size) (zYb kL_size) (zYl kL_size) (zYr kL_size) ∈ lw_tbl := List.mem_of_getElem? (i := 399) rfl
set_option maxRecDepth 100000 in
theorem kc_L_readings : Cond.code (zYn kL_readings) (zYb kL_readings) (zYl kL_readings) (zYr kL_readings) ∈ lw_tbl := List.mem_of_getElem? (i := 402) rfl
set_option maxRecDepth 100000 in
theorem kc_L_with : Cond.code (zYn kL_with) (zYb kL_with) (zYl kL_with) (zYr kL_with) ∈ lw_tbl := List.mem_of_getElem? (i := 405) rfl
set_option maxRecDepth 100000 in
theorem kc_L_length : Cond.code (zYn kL_length) (zYb kL_length) (zYl kL_length) (zYr kL_length) ∈ lw_tbl := List.mem_of_getElem? (i := 409) rfl
set_option maxRecDepth 100000 in
theorem kc_L_copy : Cond.code (zYn kL_copy) (zYb kL_copy) (zYl kL_copy) (zYr kL_copy) ∈ lw_tbl := List.mem_of_getElem? (i := 412) rfl
set_option maxRecDepth 100000 in
theorem kc_L_seam : Cond.code (zYn kL_seam) (zYb kL_seam) (zYl kL_seam) (zYr kL_seam) ∈ lw_tbl := List.mem_of_getElem? (i := 415) rfl
set_option maxRecDepth 100000 in
theorem kc_L_undone : Cond.code (zYn kL_undone) (zYb kL_undone) (zYl kL_undone) (zYr kL_undone) ∈ lw_tbl := List.mem_of_getElem? (i := 418) rfl
set_option maxRecDepth 100000 in
theorem kc_L_same : Cond.code (zYn kL_same) (zYb kL_same) (zYl kL_same) (zYr kL_same) ∈ lw_tbl := List.mem_of_getElem? (i := 421) rfl
set_option maxRecDepth 100000 in
theorem kc_X6_letter : Cond.code (zYn kX6_letter) (zYb kX6_letter) (zYl kX6_letter) (zYr kX6_letter) ∈ lw_tbl := List.mem_of_getElem? (i := 425) rfl
set_option maxRecDepth 100000 in
theorem kc_X6_patch : Cond.code (zYn kX6_patch) (zYb kX6_patch) (zYl kX6_patch) (zYr kX6_patch) ∈ lw_tbl := List.mem_of_getElem? (i := 430) rfl
set_option maxRecDepth 100000 in
theorem kc_L_digit : Cond.code (zYn kL_digit) (zYb kL_digit) (zYl kL_digit) (zYr kL_digit) ∈ lw_tbl := List.mem_of_getElem? (i := 433) rfl
set_option maxRecDepth 100000 in
theorem kc_L_shared : Cond.code (zYn kL_shared) (zYb kL_shared) (zYl kL_shared) (zYr kL_shared) ∈ lw_tbl := List.mem_of_getElem? (i := 436) rfl
set_option maxRecDepth 100000 in
theorem kc_X6_reading : Cond.code (zYn kX6_reading) (zYb kX6_reading) (zYl kX6_reading) (zYr kX6_reading) ∈ lw_tbl := List.mem_of_getElem? (i := 440) rfl
set_option maxRecDepth 100000 in
theorem kc_X3_begin : Cond.code (zYn kX3_begin) (zYb kX3_begin) (zYl kX3_begin) (zYr kX3_begin) ∈ lw_tbl := List.mem_of_getElem? (i := 444) rfl
set_option maxRecDepth 100000 in
theorem kc_X0_begin : Cond.code (zYn kX0_begin) (zYb kX0_begin) (zYl kX0_begin) (zYr kX0_begin) ∈ lw_tbl := List.mem_of_getElem? (i := 449) rfl
set_option maxRecDepth 100000 in
theorem kc_X0_addDigit : Cond.code (zYn kX0_addDigit) (zYb kX0_addDigit) (zYl kX0_addDigit) (zYr kX0_addDigit) ∈ lw_tbl := List.mem_of_getElem? (i := 458) rfl
set_option maxRecDepth 100000 in
theorem kc_X3_next : Cond.code (zYn kX3_next) (zYb kX3_next) (zYl kX3_next) (zYr kX3_next) ∈ lw_tbl := List.mem_of_getElem? (i := 462) rfl
set_option maxRecDepth 100000 in
theorem kc_X0_isOver : Cond.code (zYn kX0_isOver) (zYb kX0_isOver) (zYl kX0_isOver) (zYr kX0_isOver) ∈ lw_tbl := List.mem_of_getElem? (i := 466) rfl
set_option maxRecDepth 100000 in
theorem kc_X3_orderOfEnds : Cond.code (zYn kX3_orderOfEnds) (zYb kX3_orderOfEnds) (zYl kX3_orderOfEnds) (zYr kX3_orderOfEnds) ∈ lw_tbl := List.mem_of_getElem? (i := 470) rfl
set_option maxRecDepth 100000 in
theorem kc_X0_step : Cond.code (zYn kX0_step) (zYb kX0_step) (zYl kX0_step) (zYr kX0_step) ∈ lw_tbl := List.mem_of_getElem? (i := 475) rfl
set_option maxRecDepth 100000 in
theorem kc_X3_letterAt : Cond.code (zYn kX3_letterAt) (zYb kX3_letterAt) (zYl kX3_letterAt) (zYr kX3_letterAt) ∈ lw_tbl := List.mem_of_getElem? (i := 479) rfl
set_option maxRecDepth 100000 in
theorem kc_X6_scroll : Cond.code (zYn kX6_scroll) (zYb kX6_scroll) (zYl kX6_scroll) (zYr kX6_scroll) ∈ lw_tbl := List.mem_of_getElem? (i := 483) rfl
set_option maxRecDepth 100000 in
theorem kc_X4_evenPatches : Cond.code (zYn kX4_evenPatches) (zYb kX4_evenPatches) (zYl kX4_evenPatches) (zYr kX4_evenPatches) ∈ lw_tbl := List.mem_of_getElem? (i := 487) rfl
set_option maxRecDepth 100000 in
theorem kc_X6_evenReadings : Cond.code (zYn kX6_evenReadings) (zYb kX6_evenReadings) (zYl kX6_evenReadings) (zYr kX6_evenReadings) ∈ lw_tbl := List.mem_of_getElem? (i := 491) rfl
set_option maxRecDepth 100000 in
theorem kc_X6_idleSeams : Cond.code (zYn kX6_idleSeams) (zYb kX6_idleSeams) (zYl kX6_idleSeams) (zYr kX6_idleSeams) ∈ lw_tbl := List.mem_of_getElem? (i := 496) rfl
set_option maxRecDepth 100000 in
theorem kc_X6_tellTheSame : Cond.code (zYn kX6_tellTheSame) (zYb kX6_tellTheSame) (zYl kX6_tellTheSame) (zYr kX6_tellTheSame) ∈ lw_tbl := List.mem_of_getElem? (i := 501) rfl
set_option maxRecDepth 100000 in
theorem kc_X6_readingsOfBoth : Cond.code (zYn kX6_readingsOfBoth) (zYb kX6_readingsOfBoth) (zYl kX6_readingsOfBoth) (zYr kX6_readingsOfBoth) ∈ lw_tbl := List.mem_of_getElem? (i := 505) rfl
set_option maxRecDepth 100000 in
theorem kc_X4_tells : Cond.code (zYn kX4_tells) (zYb kX4_tells) (zYl kX4_tells) (zYr kX4_tells) ∈ lw_tbl := List.mem_of_getElem? (i := 509) rfl
set_option maxRecDepth 100000 in
theorem kc_X6_shared : Cond.code (zYn kX6_shared) (zYb kX6_shared) (zYl kX6_shared) (zYr kX6_shared) ∈ lw_tbl := List.mem_of_getElem? (i := 514) rfl
set_option maxRecDepth 100000 in
theorem kc_X6_compare : Cond.code (zYn kX6_compare) (zYb kX6_compare) (zYl kX6_compare) (zYr kX6_compare) ∈ lw_tbl := List.mem_of_getElem? (i := 518) rfl
set_option maxRecDepth 100000 in
theorem kc_X6_count : Cond.code (zYn kX6_count) (zYb kX6_count) (zYl kX6_count) (zYr kX6_count) ∈ lw_tbl := List.mem_of_getElem? (i := 522) rfl
set_option maxRecDepth 100000 in
theorem kc_X5_patchesOfAll : Cond.code (zYn kX5_patchesOfAll) (zYb kX5_patchesOfAll) (zYl kX5_patchesOfAll) (zYr kX5_patchesOfAll) ∈ lw_tbl := List.mem_of_getElem? (i := 526) rfl
set_option maxRecDepth 100000 in
theorem kc_X5_lettersOfAll : Cond.code (zYn kX5_lettersOfAll) (zYb kX5_lettersOfAll) (zYl kX5_lettersOfAll) (zYr kX5_lettersOfAll) ∈ lw_tbl := List.mem_of_getElem? (i := 530) rfl
set_option maxRecDepth 100000 in
theorem kc_X6_readingsOfAll : Cond.code (zYn kX6_readingsOfAll) (zYb kX6_readingsOfAll) (zYl kX6_readingsOfAll) (zYr kX6_readingsOfAll) ∈ lw_tbl := List.mem_of_getElem? (i := 535) rfl
set_option maxRecDepth 100000 in
theorem kc_X6_readingsNotToldBefore : Cond.code (zYn kX6_readingsNotToldBefore) (zYb kX6_readingsNotToldBefore) (zYl kX6_readingsNotToldBefore) (zYr kX6_readingsNotToldBefore) ∈ lw_tbl := List.mem_of_getElem? (i := 539) rfl
set_option maxRecDepth 100000 in
theorem kc_X5_tellsBefore : Cond.code (zYn kX5_tellsBefore) (zYb kX5_tellsBefore) (zYl kX5_tellsBefore) (zYr kX5_tellsBefore) ∈ lw_tbl := List.mem_of_getElem? (i := 543) rfl
set_option maxRecDepth 100000 in
theorem kc_X6_pairsOfTheSame : Cond.code (zYn kX6_pairsOfTheSame) (zYb kX6_pairsOfTheSame) (zYl kX6_pairsOfTheSame) (zYr kX6_pairsOfTheSame) ∈ lw_tbl := List.mem_of_getElem? (i := 548) rfl
set_option maxRecDepth 100000 in
theorem kc_L_cuts : Cond.code (zYn kL_cuts) (zYb kL_cuts) (zYl kL_cuts) (zYr kL_cuts) ∈ lw_tbl := List.mem_of_getElem? (i := 551) rfl
set_option maxRecDepth 100000 in
theorem kc_X6_ifCut : Cond.code (zYn kX6_ifCut) (zYb kX6_ifCut) (zYl kX6_ifCut) (zYr kX6_ifCut) ∈ lw_tbl := List.mem_of_getElem? (i := 555) rfl
set_option maxRecDepth 100000 in
theorem kc_X6_readingsWithCut : Cond.code (zYn kX6_readingsWithCut) (zYb kX6_readingsWithCut) (zYl kX6_readingsWithCut) (zYr kX6_readingsWithCut) ∈ lw_tbl := List.mem_of_getElem? (i := 559) rfl
set_option maxRecDepth 100000 in
theorem kc_X6_bestCut : Cond.code (zYn kX6_bestCut) (zYb kX6_bestCut) (zYl kX6_bestCut) (zYr kX6_bestCut) ∈ lw_tbl := List.mem_of_getElem? (i := 563) rfl
set_option maxRecDepth 100000 in
theorem kc_L_finds : Cond.code (zYn kL_finds) (zYb kL_finds) (zYl kL_finds) (zYr kL_finds) ∈ lw_tbl := List.mem_of_getElem? (i := 566) rfl
set_option maxRecDepth 100000 in
theorem kc_X6_find : Cond.code (zYn kX6_find) (zYb kX6_find) (zYl kX6_find) (zYr kX6_find) ∈ lw_tbl := List.mem_of_getElem? (i := 570) rfl
set_option maxRecDepth 100000 in
theorem kc_X2_isWord : Cond.code (zYn kX2_isWord) (zYb kX2_isWord) (zYl kX2_isWord) (zYr kX2_isWord) ∈ lw_tbl := List.mem_of_getElem? (i := 574) rfl
set_option maxRecDepth 100000 in
theorem kc_X6_findWord : Cond.code (zYn kX6_findWord) (zYb kX6_findWord) (zYl kX6_findWord) (zYr kX6_findWord) ∈ lw_tbl := List.mem_of_getElem? (i := 578) rfl
set_option maxRecDepth 100000 in
theorem kc_X2_placeIn : Cond.code (zYn kX2_placeIn) (zYb kX2_placeIn) (zYl kX2_placeIn) (zYr kX2_placeIn) ∈ lw_tbl := List.mem_of_getElem? (i := 582) rfl
set_option maxRecDepth 100000 in
theorem kc_X2_standsAt : Cond.code (zYn kX2_standsAt) (zYb kX2_standsAt) (zYl kX2_standsAt) (zYr kX2_standsAt) ∈ lw_tbl := List.mem_of_getElem? (i := 586) rfl
def zKs0 : List zY := [kX6_init, kX5_init, kX4_init, kX2_init, kX1_init, kX3_init, kX0_init, kX6_sew, kX2_firstFault, kX2_codeAt, kX6_isLetter, kX2_scrollsOfText, kX1_record, kX1_dropOldest, kX5_copyFrom, kX5_at, kX4_copyFrom, kX6_sewText, kX5_addScroll, kX4_startAnew]
theorem zKs0_ok : ∀ k ∈ zKs0, Cond.code (zYn k) (zYb k) (zYl k) (zYr k) ∈ lw_tbl := List.forall_mem_cons.mpr ⟨kc_X6_init, List.forall_mem_cons.mpr ⟨kc_X5_init, List.forall_mem_cons.mpr ⟨kc_X4_init, List.forall_mem_cons.mpr ⟨kc_X2_init, List.forall_mem_cons.mpr ⟨kc_X1_init, List.forall_mem_cons.mpr ⟨kc_X3_init, List.forall_mem_cons.mpr ⟨kc_X0_init, List.forall_mem_cons.mpr ⟨kc_X6_sew, List.forall_mem_cons.mpr ⟨kc_X2_firstFault, List.forall_mem_cons.mpr ⟨kc_X2_codeAt, List.forall_mem_cons.mpr ⟨kc_X6_isLetter, List.forall_mem_cons.mpr ⟨kc_X2_scrollsOfText, List.forall_mem_cons.mpr ⟨kc_X1_record, List.forall_mem_cons.mpr ⟨kc_X1_dropOldest, List.forall_mem_cons.mpr ⟨kc_X5_copyFrom, List.forall_mem_cons.mpr ⟨kc_X5_at, List.forall_mem_cons.mpr ⟨kc_X4_copyFrom, List.forall_mem_cons.mpr ⟨kc_X6_sewText, List.forall_mem_cons.mpr ⟨kc_X5_addScroll, List.forall_mem_cons.mpr ⟨kc_X4_startAnew, fun _ h => absurd h List.not_mem_nil⟩⟩⟩⟩⟩⟩⟩⟩⟩⟩⟩⟩⟩⟩⟩⟩⟩⟩⟩⟩
def zKs1 : List zY := [kX4_addPatch, kX4_length, kX4_startOf, kX4_addLetter, kX2_empty, kX6_burn, kX5_remove, kX6_cut, kX4_hasPatch, kX4_canBeCut, kX4_sizeOf, kX4_endOf, kX4_split, kX6_undoSeam, kX4_hasSeam, kX4_merge, kX6_turn, kX4_unlikeTurned, kX4_letterAt, kX4_turnRound]
theorem zKs1_ok : ∀ k ∈ zKs1, Cond.code (zYn k) (zYb k) (zYl k) (zYr k) ∈ lw_tbl := List.forall_mem_cons.mpr ⟨kc_X4_addPatch, List.forall_mem_cons.mpr ⟨kc_X4_length, List.forall_mem_cons.mpr ⟨kc_X4_startOf, List.forall_mem_cons.mpr ⟨kc_X4_addLetter, List.forall_mem_cons.mpr ⟨kc_X2_empty, List.forall_mem_cons.mpr ⟨kc_X6_burn, List.forall_mem_cons.mpr ⟨kc_X5_remove, List.forall_mem_cons.mpr ⟨kc_X6_cut, List.forall_mem_cons.mpr ⟨kc_X4_hasPatch, List.forall_mem_cons.mpr ⟨kc_X4_canBeCut, List.forall_mem_cons.mpr ⟨kc_X4_sizeOf, List.forall_mem_cons.mpr ⟨kc_X4_endOf, List.forall_mem_cons.mpr ⟨kc_X4_split, List.forall_mem_cons.mpr ⟨kc_X6_undoSeam, List.forall_mem_cons.mpr ⟨kc_X4_hasSeam, List.forall_mem_cons.mpr ⟨kc_X4_merge, List.forall_mem_cons.mpr ⟨kc_X6_turn, List.forall_mem_cons.mpr ⟨kc_X4_unlikeTurned, List.forall_mem_cons.mpr ⟨kc_X4_letterAt, List.forall_mem_cons.mpr ⟨kc_X4_turnRound, fun _ h => absurd h List.not_mem_nil⟩⟩⟩⟩⟩⟩⟩⟩⟩⟩⟩⟩⟩⟩⟩⟩⟩⟩⟩⟩
def zKs2 : List zY := [kX6_turnPart, kX6_exchange, kX4_swapBeside, kX6_readingsOf, kX4_waysFromFirst, kX4_isEven, kX6_orderTurned, kX6_toldFromBothEnds, kX4_lay, kX4_beginsWith, kX4_standsAt, kX6_join, kX4_sewOn, kX6_put, kX6_charactersIn, kX6_codeIn, kX2_append, kX6_wipe, kX6_fault, kL_cell]
theorem zKs2_ok : ∀ k ∈ zKs2, Cond.code (zYn k) (zYb k) (zYl k) (zYr k) ∈ lw_tbl := List.forall_mem_cons.mpr ⟨kc_X6_turnPart, List.forall_mem_cons.mpr ⟨kc_X6_exchange, List.forall_mem_cons.mpr ⟨kc_X4_swapBeside, List.forall_mem_cons.mpr ⟨kc_X6_readingsOf, List.forall_mem_cons.mpr ⟨kc_X4_waysFromFirst, List.forall_mem_cons.mpr ⟨kc_X4_isEven, List.forall_mem_cons.mpr ⟨kc_X6_orderTurned, List.forall_mem_cons.mpr ⟨kc_X6_toldFromBothEnds, List.forall_mem_cons.mpr ⟨kc_X4_lay, List.forall_mem_cons.mpr ⟨kc_X4_beginsWith, List.forall_mem_cons.mpr ⟨kc_X4_standsAt, List.forall_mem_cons.mpr ⟨kc_X6_join, List.forall_mem_cons.mpr ⟨kc_X4_sewOn, List.forall_mem_cons.mpr ⟨kc_X6_put, List.forall_mem_cons.mpr ⟨kc_X6_charactersIn, List.forall_mem_cons.mpr ⟨kc_X6_codeIn, List.forall_mem_cons.mpr ⟨kc_X2_append, List.forall_mem_cons.mpr ⟨kc_X6_wipe, List.forall_mem_cons.mpr ⟨kc_X6_fault, List.forall_mem_cons.mpr ⟨kc_L_cell, fun _ h => absurd h List.not_mem_nil⟩⟩⟩⟩⟩⟩⟩⟩⟩⟩⟩⟩⟩⟩⟩⟩⟩⟩⟩⟩
def zKs3 : List zY := [kL_low, kL_size, kL_readings, kL_with, kL_length, kL_copy, kL_seam, kL_undone, kL_same, kX6_letter, kX6_patch, kL_digit, kL_shared, kX6_reading, kX3_begin, kX0_begin, kX0_addDigit, kX3_next, kX0_isOver, kX3_orderOfEnds]
theorem zKs3_ok : ∀ k ∈ zKs3, Cond.code (zYn k) (zYb k) (zYl k) (zYr k) ∈ lw_tbl := List.forall_mem_cons.mpr ⟨kc_L_low, List.forall_mem_cons.mpr ⟨kc_L_size, List.forall_mem_cons.mpr ⟨kc_L_readings, List.forall_mem_cons.mpr ⟨kc_L_with, List.forall_mem_cons.mpr ⟨kc_L_length, List.forall_mem_cons.mpr ⟨kc_L_copy, List.forall_mem_cons.mpr ⟨kc_L_seam, List.forall_mem_cons.mpr ⟨kc_L_undone, List.forall_mem_cons.mpr ⟨kc_L_same, List.forall_mem_cons.mpr ⟨kc_X6_letter, List.forall_mem_cons.mpr ⟨kc_X6_patch, List.forall_mem_cons.mpr ⟨kc_L_digit, List.forall_mem_cons.mpr ⟨kc_L_shared, List.forall_mem_cons.mpr ⟨kc_X6_reading, List.forall_mem_cons.mpr ⟨kc_X3_begin, List.forall_mem_cons.mpr ⟨kc_X0_begin, List.forall_mem_cons.mpr ⟨kc_X0_addDigit, List.forall_mem_cons.mpr ⟨kc_X3_next, List.forall_mem_cons.mpr ⟨kc_X0_isOver, List.forall_mem_cons.mpr ⟨kc_X3_orderOfEnds, fun _ h => absurd h List.not_mem_nil⟩⟩⟩⟩⟩⟩⟩⟩⟩⟩⟩⟩⟩⟩⟩⟩⟩⟩⟩⟩
def zKs4 : List zY := [kX0_step, kX3_letterAt, kX6_scroll, kX4_evenPatches, kX6_evenReadings, kX6_idleSeams, kX6_tellTheSame, kX6_readingsOfBoth, kX4_tells, kX6_shared, kX6_compare, kX6_count, kX5_patchesOfAll, kX5_lettersOfAll, kX6_readingsOfAll, kX6_readingsNotToldBefore, kX5_tellsBefore, kX6_pairsOfTheSame, kL_cuts, kX6_ifCut]
theorem zKs4_ok : ∀ k ∈ zKs4, Cond.code (zYn k) (zYb k) (zYl k) (zYr k) ∈ lw_tbl := List.forall_mem_cons.mpr ⟨kc_X0_step, List.forall_mem_cons.mpr ⟨kc_X3_letterAt, List.forall_mem_cons.mpr ⟨kc_X6_scroll, List.forall_mem_cons.mpr ⟨kc_X4_evenPatches, List.forall_mem_cons.mpr ⟨kc_X6_evenReadings, List.forall_mem_cons.mpr ⟨kc_X6_idleSeams, List.forall_mem_cons.mpr ⟨kc_X6_tellTheSame, List.forall_mem_cons.mpr ⟨kc_X6_readingsOfBoth, List.forall_mem_cons.mpr ⟨kc_X4_tells, List.forall_mem_cons.mpr ⟨kc_X6_shared, List.forall_mem_cons.mpr ⟨kc_X6_compare, List.forall_mem_cons.mpr ⟨kc_X6_count, List.forall_mem_cons.mpr ⟨kc_X5_patchesOfAll, List.forall_mem_cons.mpr ⟨kc_X5_lettersOfAll, List.forall_mem_cons.mpr ⟨kc_X6_readingsOfAll, List.forall_mem_cons.mpr ⟨kc_X6_readingsNotToldBefore, List.forall_mem_cons.mpr ⟨kc_X5_tellsBefore, List.forall_mem_cons.mpr ⟨kc_X6_pairsOfTheSame, List.forall_mem_cons.mpr ⟨kc_L_cuts, List.forall_mem_cons.mpr ⟨kc_X6_ifCut, fun _ h => absurd h List.not_mem_nil⟩⟩⟩⟩⟩⟩⟩⟩⟩⟩⟩⟩⟩⟩⟩⟩⟩⟩⟩⟩
def zKs5 : List zY := [kX6_readingsWithCut, kX6_bestCut, kL_finds, kX6_find, kX2_isWord, kX6_findWord, kX2_placeIn, kX2_standsAt]
theorem zKs5_ok : ∀ k ∈ zKs5, Cond.code (zYn k) (zYb k) (zYl k) (zYr k) ∈ lw_tbl := List.forall_mem_cons.mpr ⟨kc_X6_readingsWithCut, List.forall_mem_cons.mpr ⟨kc_X6_bestCut, List.forall_mem_cons.mpr ⟨kc_L_finds, List.forall_mem_cons.mpr ⟨kc_X6_find, List.forall_mem_cons.mpr ⟨kc_X2_isWord, List.forall_mem_cons.mpr ⟨kc_X6_findWord, List.forall_mem_cons.mpr ⟨kc_X2_placeIn, List.forall_mem_cons.mpr ⟨kc_X2_standsAt, fun _ h => absurd h List.not_mem_nil⟩⟩⟩⟩⟩⟩⟩⟩
def zKs : List zY := zKs0 ++ (zKs1 ++ (zKs2 ++ (zKs3 ++ (zKs4 ++ (zKs5)))))
theorem zKs_ok : ∀ k ∈ zKs, Cond.code (zYn k) (zYb k) (zYl k) (zYr k) ∈ lw_tbl := List.forall_mem_append.mpr ⟨zKs0_ok, List.forall_mem_append.mpr ⟨zKs1_ok, List.forall_mem_append.mpr ⟨zKs2_ok, List.forall_mem_append.mpr ⟨zKs3_ok, List.forall_mem_append.mpr ⟨zKs4_ok, zKs5_ok⟩⟩⟩⟩⟩
def zKey (n : Nat) : zY := zKs.getD n kX6_init
/-- calls: (own class, pool number), kind (0 virtual, 1 static, 2 constructor), nest mate, callee (its number), arguments, its cells and slots, places in the tables -/
abbrev zCE : Type := (Nat × Nat) × Nat × Nat × Nat × Nat × (Nat × Nat) × (Nat × Nat × Nat × Nat)
def zCt0 : List zCE := [((8, 95), 2, 0, 0, 0, (173, 3593), (27, 28, 0, 17)), ((6, 9), 2, 0, 1, 0, (16, 350), (35, 36, 0, 18)), ((5, 17), 2, 1, 2, 0, (2, 66), (42, 43, 0, 19)), ((6, 18), 2, 1, 3, 0, (1, 64), (70, 71, 0, 20)), ((6, 25), 2, 0, 4, 0, (103, 2118), (84, 85, 0, 21)), ((1, 17), 2, 0, 1, 0, (16, 350), (90, 36, 0, 18)), ((6, 40), 2, 1, 5, 0, (9, 214), (101, 102, 0, 22)), ((3, 11), 2, 1, 6, 0, (3, 72), (107, 108, 0, 23)), ((6, 47), 2, 1, 2, 0, (2, 66), (145, 43, 0, 19)), ((8, 105), 0, 0, 7, 0, (0, 0), (171, 172, 173, 17)), ((6, 56), 0, 0, 8, 0, (0, 0), (175, 176, 177, 20)), ((2, 19), 0, 0, 9, 1, (0, 0), (179, 180, 181, 20)), ((2, 23), 1, 1, 10, 1, (0, 0), (183, 184, 0, 17)), ((6, 64), 0, 0, 11, 0, (0, 0), (186, 187, 188, 20)), ((6, 67), 0, 0, 12, 1, (0, 0), (190, 191, 192, 21)), ((1, 22), 0, 0, 13, 0, (0, 0), (194, 196, 0, 21)), ((1, 25), 0, 0, 14, 1, (0, 0), (198, 199, 200, 18)), ((5, 22), 0, 0, 15, 1, (0, 0), (202, 203, 204, 18)), ((5, 29), 0, 0, 16, 1, (0, 0), (206, 207, 208, 19)), ((6, 71), 0, 0, 17, 0, (0, 0), (213, 215, 1, 17)), ((6, 206), 0, 0, 18, 0, (0, 0), (217, 218, 219, 18)), ((5, 26), 0, 0, 19, 0, (0, 0), (221, 222, 223, 19)), ((4, 22), 0, 0, 20, 0, (0, 0), (225, 226, 227, 19)), ((4, 25), 0, 0, 21, 0, (0, 0), (229, 230, 231, 19))]
def zCt1 : List zCE := [((4, 42), 0, 0, 22, 1, (0, 0), (233, 234, 235, 19)), ((6, 210), 0, 0, 9, 1, (0, 0), (237, 180, 181, 20)), ((6, 213), 0, 0, 20, 0, (0, 0), (238, 226, 227, 19)), ((6, 216), 0, 0, 23, 1, (0, 0), (239, 240, 241, 19)), ((6, 74), 0, 0, 24, 0, (0, 0), (243, 244, 245, 20)), ((8, 123), 0, 0, 25, 1, (0, 0), (247, 248, 249, 17)), ((6, 77), 0, 0, 15, 1, (0, 0), (251, 203, 204, 18)), ((6, 81), 0, 0, 21, 0, (0, 0), (252, 230, 231, 19)), ((6, 84), 0, 0, 26, 1, (0, 0), (253, 254, 255, 18)), ((8, 108), 0, 0, 27, 3, (0, 0), (257, 258, 259, 17)), ((6, 88), 0, 0, 28, 1, (0, 0), (261, 262, 263, 19)), ((6, 92), 0, 0, 29, 2, (0, 0), (265, 266, 267, 19)), ((4, 35), 0, 0, 30, 1, (0, 0), (269, 270, 271, 19)), ((4, 39), 0, 0, 31, 1, (0, 0), (273, 274, 275, 19)), ((6, 99), 0, 0, 32, 2, (0, 0), (277, 278, 279, 19)), ((4, 45), 0, 0, 28, 1, (0, 0), (281, 262, 263, 19)), ((8, 111), 0, 0, 33, 2, (0, 0), (282, 283, 284, 17)), ((6, 103), 0, 0, 34, 1, (0, 0), (286, 287, 288, 19)), ((6, 106), 0, 0, 30, 1, (0, 0), (290, 270, 271, 19)), ((6, 110), 0, 0, 35, 1, (0, 0), (291, 292, 293, 19)), ((4, 49), 0, 0, 34, 1, (0, 0), (295, 287, 288, 19)), ((8, 114), 0, 0, 36, 2, (0, 0), (296, 297, 298, 17)), ((6, 113), 0, 0, 37, 1, (0, 0), (300, 301, 302, 19)), ((4, 52), 0, 0, 38, 1, (0, 0), (304, 305, 306, 19))]
def zCt2 : List zCE := [((6, 116), 0, 0, 39, 1, (0, 0), (308, 309, 310, 19)), ((4, 55), 1, 1, 40, 3, (0, 0), (312, 313, 0, 17)), ((8, 117), 0, 0, 41, 2, (0, 0), (315, 316, 317, 17)), ((6, 119), 0, 0, 42, 1, (0, 0), (319, 320, 321, 19)), ((6, 122), 0, 0, 43, 1, (0, 0), (323, 325, 2, 17)), ((6, 130), 0, 0, 44, 0, (0, 0), (327, 328, 329, 19)), ((4, 67), 0, 0, 45, 1, (0, 0), (331, 332, 333, 19)), ((4, 63), 1, 1, 46, 3, (0, 0), (335, 336, 0, 17)), ((6, 219), 1, 0, 47, 3, (0, 0), (338, 339, 0, 17)), ((6, 223), 0, 0, 45, 1, (0, 0), (341, 332, 333, 19)), ((6, 142), 0, 0, 22, 1, (0, 0), (342, 234, 235, 19)), ((6, 226), 0, 0, 31, 1, (0, 0), (343, 274, 275, 19)), ((6, 229), 0, 0, 48, 5, (0, 0), (344, 345, 346, 19)), ((6, 233), 0, 0, 49, 3, (0, 0), (348, 349, 350, 19)), ((4, 74), 0, 0, 50, 6, (0, 0), (352, 354, 3, 19)), ((8, 120), 0, 0, 51, 2, (0, 0), (356, 357, 358, 17)), ((6, 126), 0, 0, 52, 1, (0, 0), (360, 361, 362, 19)), ((4, 59), 0, 0, 23, 1, (0, 0), (364, 240, 241, 19)), ((8, 88), 0, 0, 53, 1, (0, 0), (365, 366, 367, 17)), ((6, 186), 1, 0, 54, 1, (0, 0), (369, 370, 0, 17)), ((6, 190), 1, 0, 55, 2, (0, 0), (372, 373, 0, 17)), ((6, 194), 0, 0, 56, 1, (0, 0), (376, 377, 378, 20)), ((8, 84), 0, 0, 57, 0, (0, 0), (380, 381, 382, 17)), ((8, 102), 0, 0, 58, 0, (0, 0), (384, 385, 386, 17))]
def zCt3 : List zCE := [((8, 96), 1, 0, 59, 2, (0, 0), (388, 389, 0, 16)), ((8, 56), 1, 0, 60, 2, (0, 0), (393, 394, 0, 16)), ((8, 10), 1, 0, 61, 3, (0, 0), (397, 398, 0, 16)), ((8, 36), 1, 0, 62, 4, (0, 0), (400, 401, 0, 16)), ((8, 18), 1, 0, 63, 5, (0, 0), (403, 404, 0, 16)), ((8, 22), 1, 0, 64, 2, (0, 0), (407, 408, 0, 16)), ((8, 44), 1, 0, 65, 4, (0, 0), (410, 411, 0, 16)), ((8, 74), 1, 0, 66, 4, (0, 0), (413, 414, 0, 16)), ((8, 48), 1, 0, 67, 3, (0, 0), (416, 417, 0, 16)), ((8, 126), 1, 0, 68, 7, (0, 0), (419, 420, 0, 16)), ((8, 26), 0, 0, 69, 3, (0, 0), (422, 423, 424, 17)), ((6, 145), 0, 0, 38, 1, (0, 0), (426, 305, 306, 19)), ((8, 32), 0, 0, 70, 2, (0, 0), (427, 428, 429, 17)), ((8, 40), 1, 0, 71, 3, (0, 0), (431, 432, 0, 16)), ((8, 52), 1, 0, 72, 4, (0, 0), (434, 435, 0, 16)), ((8, 59), 0, 0, 73, 3, (0, 0), (437, 438, 439, 17)), ((6, 148), 0, 0, 74, 1, (0, 0), (441, 442, 443, 22)), ((3, 25), 0, 0, 21, 0, (0, 0), (445, 230, 231, 19)), ((3, 34), 0, 0, 75, 2, (0, 0), (446, 447, 448, 23)), ((0, 33), 0, 0, 22, 1, (0, 0), (450, 234, 235, 19)), ((0, 37), 0, 0, 31, 1, (0, 0), (451, 274, 275, 19)), ((0, 40), 0, 0, 48, 5, (0, 0), (452, 345, 346, 19)), ((0, 44), 1, 1, 46, 3, (0, 0), (453, 336, 0, 17)), ((0, 48), 1, 1, 40, 3, (0, 0), (454, 313, 0, 17))]
def zCt4 : List zCE := [((0, 52), 0, 0, 76, 2, (0, 0), (455, 457, 4, 23)), ((6, 151), 0, 0, 77, 0, (0, 0), (459, 460, 461, 22)), ((3, 38), 0, 0, 78, 0, (0, 0), (463, 464, 465, 23)), ((3, 42), 0, 0, 79, 0, (0, 0), (467, 469, 5, 22)), ((3, 52), 0, 0, 80, 0, (0, 0), (472, 473, 474, 23)), ((6, 155), 0, 0, 81, 1, (0, 0), (476, 477, 478, 22)), ((8, 62), 0, 0, 82, 2, (0, 0), (480, 481, 482, 17)), ((6, 133), 0, 0, 83, 0, (0, 0), (484, 485, 486, 19)), ((6, 136), 0, 0, 84, 1, (0, 0), (488, 490, 6, 17)), ((6, 247), 1, 0, 46, 3, (0, 0), (492, 336, 0, 17)), ((6, 139), 0, 0, 85, 1, (0, 0), (493, 495, 7, 17)), ((6, 237), 0, 0, 16, 1, (0, 0), (497, 207, 208, 19)), ((6, 251), 0, 0, 86, 2, (0, 0), (498, 500, 8, 17)), ((6, 163), 0, 0, 87, 2, (0, 0), (502, 504, 9, 17)), ((6, 243), 0, 0, 88, 2, (0, 0), (506, 507, 508, 19)), ((4, 70), 0, 0, 49, 3, (0, 0), (510, 349, 350, 19)), ((8, 65), 0, 0, 89, 2, (0, 0), (511, 512, 513, 17)), ((8, 67), 0, 0, 90, 2, (0, 0), (515, 516, 517, 17)), ((8, 70), 0, 0, 91, 1, (0, 0), (519, 520, 521, 17)), ((6, 167), 0, 0, 92, 0, (0, 0), (523, 524, 525, 18)), ((6, 170), 0, 0, 93, 0, (0, 0), (527, 528, 529, 18)), ((5, 36), 0, 0, 21, 0, (0, 0), (531, 230, 231, 19)), ((6, 173), 0, 0, 94, 0, (0, 0), (532, 534, 10, 17)), ((6, 259), 0, 0, 95, 2, (0, 0), (536, 538, 11, 17))]
def zCt5 : List zCE := [((6, 262), 0, 0, 96, 3, (0, 0), (540, 541, 542, 18)), ((5, 40), 0, 0, 88, 2, (0, 0), (544, 507, 508, 19)), ((6, 176), 0, 0, 97, 0, (0, 0), (545, 547, 12, 17)), ((8, 130), 1, 0, 98, 5, (0, 0), (549, 550, 0, 16)), ((8, 78), 0, 0, 99, 3, (0, 0), (552, 553, 554, 17)), ((6, 182), 0, 0, 100, 3, (0, 0), (556, 558, 13, 17)), ((8, 81), 0, 0, 101, 2, (0, 0), (560, 561, 562, 17)), ((8, 134), 1, 0, 102, 5, (0, 0), (564, 565, 0, 16)), ((8, 92), 0, 0, 103, 2, (0, 0), (567, 568, 569, 17)), ((6, 156), 0, 0, 104, 0, (0, 0), (571, 572, 573, 20)), ((6, 159), 0, 0, 105, 2, (0, 0), (575, 577, 14, 17)), ((6, 255), 0, 0, 106, 2, (0, 0), (579, 580, 581, 20)), ((2, 27), 0, 0, 107, 2, (0, 0), (583, 585, 15, 20))]
def zCtA : List zCE := zCt0 ++ (zCt1 ++ (zCt2 ++ (zCt3 ++ (zCt4 ++ (zCt5)))))
/-- kind, callee, arguments, cells, slots -/
abbrev zCR : Type := Nat × zY × Nat × Nat × Nat
def zCl (o i : Nat) : Option zCR := (zCtA.find? (fun x => x.1 == (o, i))).map (fun x => (x.2.1, zKey x.2.2.2.1, x.2.2.2.2.1, x.2.2.2.2.2.1.1, x.2.2.2.2.2.1.2))
set_option maxRecDepth 100000 in
theorem zC_8_95 : zCl 8 95 = some (2, kX6_init, 0, 173, 3593) := rfl
set_option maxRecDepth 100000 in
theorem zC_6_9 : zCl 6 9 = some (2, kX5_init, 0, 16, 350) := rfl
set_option maxRecDepth 100000 in
theorem zC_5_17 : zCl 5 17 = some (2, kX4_init, 0, 2, 66) := rfl
set_option maxRecDepth 100000 in
theorem zC_6_18 : zCl 6 18 = some (2, kX2_init, 0, 1, 64) := rfl
set_option maxRecDepth 100000 in
theorem zC_6_25 : zCl 6 25 = some (2, kX1_init, 0, 103, 2118) := rfl
set_option maxRecDepth 100000 in
theorem zC_1_17 : zCl 1 17 = some (2, kX5_init, 0, 16, 350) := rfl
set_option maxRecDepth 100000 in
theorem zC_6_40 : zCl 6 40 = some (2, kX3_init, 0, 9, 214) := rfl
set_option maxRecDepth 100000 in
theorem zC_3_11 : zCl 3 11 = some (2, kX0_init, 0, 3, 72) := rfl
set_option maxRecDepth 100000 in
theorem zC_6_47 : zCl 6 47 = some (2, kX4_init, 0, 2, 66) := rfl
set_option maxRecDepth 100000 in
theorem zC_8_105 : zCl 8 105 = some (0, kX6_sew, 0, 0, 0) := rfl
set_option maxRecDepth 100000 in
theorem zC_6_56 : zCl 6 56 = some (0, kX2_firstFault, 0, 0, 0) := rfl
set_option maxRecDepth 100000 in
theorem zC_2_19 : zCl 2 19 = some (0, kX2_codeAt, 1, 0, 0) := rfl
set_option maxRecDepth 100000 in
theorem zC_2_23 : zCl 2 23 = some (1, kX6_isLetter, 1, 0, 0) := rfl
set_option maxRecDepth 100000 in
theorem zC_6_64 : zCl 6 64 = some (0, kX2_scrollsOfText, 0, 0, 0) := rfl
set_option maxRecDepth 100000 in
theorem zC_6_67 : zCl 6 67 = some (0, kX1_record, 1, 0, 0) := rfl
set_option maxRecDepth 100000 in
theorem zC_1_22 : zCl 1 22 = some (0, kX1_dropOldest, 0, 0, 0) := rfl
set_option maxRecDepth 100000 in
theorem zC_1_25 : zCl 1 25 = some (0, kX5_copyFrom, 1, 0, 0) := rfl
set_option maxRecDepth 100000 in
theorem zC_5_22 : zCl 5 22 = some (0, kX5_at, 1, 0, 0) := rfl
set_option maxRecDepth 100000 in
theorem zC_5_29 : zCl 5 29 = some (0, kX4_copyFrom, 1, 0, 0) := rfl
set_option maxRecDepth 100000 in
theorem zC_6_71 : zCl 6 71 = some (0, kX6_sewText, 0, 0, 0) := rfl
set_option maxRecDepth 100000 in
theorem zC_6_206 : zCl 6 206 = some (0, kX5_addScroll, 0, 0, 0) := rfl
set_option maxRecDepth 100000 in
theorem zC_5_26 : zCl 5 26 = some (0, kX4_startAnew, 0, 0, 0) := rfl
set_option maxRecDepth 100000 in
theorem zC_4_22 : zCl 4 22 = some (0, kX4_addPatch, 0, 0, 0) := rfl
set_option maxRecDepth 100000 in
theorem zC_4_25 : zCl 4 25 = some (0, kX4_length, 0, 0, 0) := rfl
set_option maxRecDepth 100000 in
theorem zC_4_42 : zCl 4 42 = some (0, kX4_startOf, 1, 0, 0) := rfl
set_option maxRecDepth 100000 in
theorem zC_6_210 : zCl 6 210 = some (0, kX2_codeAt, 1, 0, 0) := rfl
set_option maxRecDepth 100000 in
theorem zC_6_213 : zCl 6 213 = some (0, kX4_addPatch, 0, 0, 0) := rfl
set_option maxRecDepth 100000 in
theorem zC_6_216 : zCl 6 216 = some (0, kX4_addLetter, 1, 0, 0) := rfl
set_option maxRecDepth 100000 in
theorem zC_6_74 : zCl 6 74 = some (0, kX2_empty, 0, 0, 0) := rfl
set_option maxRecDepth 100000 in
theorem zC_8_123 : zCl 8 123 = some (0, kX6_burn, 1, 0, 0) := rfl
set_option maxRecDepth 100000 in
theorem zC_6_77 : zCl 6 77 = some (0, kX5_at, 1, 0, 0) := rfl
set_option maxRecDepth 100000 in
theorem zC_6_81 : zCl 6 81 = some (0, kX4_length, 0, 0, 0) := rfl
set_option maxRecDepth 100000 in
theorem zC_6_84 : zCl 6 84 = some (0, kX5_remove, 1, 0, 0) := rfl
set_option maxRecDepth 100000 in
theorem zC_8_108 : zCl 8 108 = some (0, kX6_cut, 3, 0, 0) := rfl
set_option maxRecDepth 100000 in
theorem zC_6_88 : zCl 6 88 = some (0, kX4_hasPatch, 1, 0, 0) := rfl
set_option maxRecDepth 100000 in
theorem zC_6_92 : zCl 6 92 = some (0, kX4_canBeCut, 2, 0, 0) := rfl
set_option maxRecDepth 100000 in
theorem zC_4_35 : zCl 4 35 = some (0, kX4_sizeOf, 1, 0, 0) := rfl
set_option maxRecDepth 100000 in
theorem zC_4_39 : zCl 4 39 = some (0, kX4_endOf, 1, 0, 0) := rfl
set_option maxRecDepth 100000 in
theorem zC_6_99 : zCl 6 99 = some (0, kX4_split, 2, 0, 0) := rfl
set_option maxRecDepth 100000 in
theorem zC_4_45 : zCl 4 45 = some (0, kX4_hasPatch, 1, 0, 0) := rfl
set_option maxRecDepth 100000 in
theorem zC_8_111 : zCl 8 111 = some (0, kX6_undoSeam, 2, 0, 0) := rfl
set_option maxRecDepth 100000 in
theorem zC_6_103 : zCl 6 103 = some (0, kX4_hasSeam, 1, 0, 0) := rfl
set_option maxRecDepth 100000 in
theorem zC_6_106 : zCl 6 106 = some (0, kX4_sizeOf, 1, 0, 0) := rfl
set_option maxRecDepth 100000 in
theorem zC_6_110 : zCl 6 110 = some (0, kX4_merge, 1, 0, 0) := rfl
set_option maxRecDepth 100000 in
theorem zC_4_49 : zCl 4 49 = some (0, kX4_hasSeam, 1, 0, 0) := rfl
set_option maxRecDepth 100000 in
theorem zC_8_114 : zCl 8 114 = some (0, kX6_turn, 2, 0, 0) := rfl
set_option maxRecDepth 100000 in
theorem zC_6_113 : zCl 6 113 = some (0, kX4_unlikeTurned, 1, 0, 0) := rfl
set_option maxRecDepth 100000 in
theorem zC_4_52 : zCl 4 52 = some (0, kX4_letterAt, 1, 0, 0) := rfl
set_option maxRecDepth 100000 in
theorem zC_6_116 : zCl 6 116 = some (0, kX4_turnRound, 1, 0, 0) := rfl
set_option maxRecDepth 100000 in
theorem zC_4_55 : zCl 4 55 = some (1, kX6_turnPart, 3, 0, 0) := rfl
set_option maxRecDepth 100000 in
theorem zC_8_117 : zCl 8 117 = some (0, kX6_exchange, 2, 0, 0) := rfl
set_option maxRecDepth 100000 in
theorem zC_6_119 : zCl 6 119 = some (0, kX4_swapBeside, 1, 0, 0) := rfl
set_option maxRecDepth 100000 in
theorem zC_6_122 : zCl 6 122 = some (0, kX6_readingsOf, 1, 0, 0) := rfl
set_option maxRecDepth 100000 in
theorem zC_6_130 : zCl 6 130 = some (0, kX4_waysFromFirst, 0, 0, 0) := rfl
set_option maxRecDepth 100000 in
theorem zC_4_67 : zCl 4 67 = some (0, kX4_isEven, 1, 0, 0) := rfl
set_option maxRecDepth 100000 in
theorem zC_4_63 : zCl 4 63 = some (1, kX6_orderTurned, 3, 0, 0) := rfl
set_option maxRecDepth 100000 in
theorem zC_6_219 : zCl 6 219 = some (1, kX6_toldFromBothEnds, 3, 0, 0) := rfl
set_option maxRecDepth 100000 in
theorem zC_6_223 : zCl 6 223 = some (0, kX4_isEven, 1, 0, 0) := rfl
set_option maxRecDepth 100000 in
theorem zC_6_142 : zCl 6 142 = some (0, kX4_startOf, 1, 0, 0) := rfl
set_option maxRecDepth 100000 in
theorem zC_6_226 : zCl 6 226 = some (0, kX4_endOf, 1, 0, 0) := rfl
set_option maxRecDepth 100000 in
theorem zC_6_229 : zCl 6 229 = some (0, kX4_lay, 5, 0, 0) := rfl
set_option maxRecDepth 100000 in
theorem zC_6_233 : zCl 6 233 = some (0, kX4_beginsWith, 3, 0, 0) := rfl
set_option maxRecDepth 100000 in
theorem zC_4_74 : zCl 4 74 = some (0, kX4_standsAt, 6, 0, 0) := rfl
set_option maxRecDepth 100000 in
theorem zC_8_120 : zCl 8 120 = some (0, kX6_join, 2, 0, 0) := rfl
set_option maxRecDepth 100000 in
theorem zC_6_126 : zCl 6 126 = some (0, kX4_sewOn, 1, 0, 0) := rfl
set_option maxRecDepth 100000 in
theorem zC_4_59 : zCl 4 59 = some (0, kX4_addLetter, 1, 0, 0) := rfl
set_option maxRecDepth 100000 in
theorem zC_8_88 : zCl 8 88 = some (0, kX6_put, 1, 0, 0) := rfl
set_option maxRecDepth 100000 in
theorem zC_6_186 : zCl 6 186 = some (1, kX6_charactersIn, 1, 0, 0) := rfl
set_option maxRecDepth 100000 in
theorem zC_6_190 : zCl 6 190 = some (1, kX6_codeIn, 2, 0, 0) := rfl
set_option maxRecDepth 100000 in
theorem zC_6_194 : zCl 6 194 = some (0, kX2_append, 1, 0, 0) := rfl
set_option maxRecDepth 100000 in
theorem zC_8_84 : zCl 8 84 = some (0, kX6_wipe, 0, 0, 0) := rfl
set_option maxRecDepth 100000 in
theorem zC_8_102 : zCl 8 102 = some (0, kX6_fault, 0, 0, 0) := rfl
set_option maxRecDepth 100000 in
theorem zC_8_96 : zCl 8 96 = some (1, kL_cell, 2, 0, 0) := rfl
set_option maxRecDepth 100000 in
theorem zC_8_56 : zCl 8 56 = some (1, kL_low, 2, 0, 0) := rfl
set_option maxRecDepth 100000 in
theorem zC_8_10 : zCl 8 10 = some (1, kL_size, 3, 0, 0) := rfl
set_option maxRecDepth 100000 in
theorem zC_8_36 : zCl 8 36 = some (1, kL_readings, 4, 0, 0) := rfl
set_option maxRecDepth 100000 in
theorem zC_8_18 : zCl 8 18 = some (1, kL_with, 5, 0, 0) := rfl
set_option maxRecDepth 100000 in
theorem zC_8_22 : zCl 8 22 = some (1, kL_length, 2, 0, 0) := rfl
set_option maxRecDepth 100000 in
theorem zC_8_44 : zCl 8 44 = some (1, kL_copy, 4, 0, 0) := rfl
set_option maxRecDepth 100000 in
theorem zC_8_74 : zCl 8 74 = some (1, kL_seam, 4, 0, 0) := rfl
set_option maxRecDepth 100000 in
theorem zC_8_48 : zCl 8 48 = some (1, kL_undone, 3, 0, 0) := rfl
set_option maxRecDepth 100000 in
theorem zC_8_126 : zCl 8 126 = some (1, kL_same, 7, 0, 0) := rfl
set_option maxRecDepth 100000 in
theorem zC_8_26 : zCl 8 26 = some (0, kX6_letter, 3, 0, 0) := rfl
set_option maxRecDepth 100000 in
theorem zC_6_145 : zCl 6 145 = some (0, kX4_letterAt, 1, 0, 0) := rfl
set_option maxRecDepth 100000 in
theorem zC_8_32 : zCl 8 32 = some (0, kX6_patch, 2, 0, 0) := rfl
set_option maxRecDepth 100000 in
theorem zC_8_40 : zCl 8 40 = some (1, kL_digit, 3, 0, 0) := rfl
set_option maxRecDepth 100000 in
theorem zC_8_52 : zCl 8 52 = some (1, kL_shared, 4, 0, 0) := rfl
set_option maxRecDepth 100000 in
theorem zC_8_59 : zCl 8 59 = some (0, kX6_reading, 3, 0, 0) := rfl
set_option maxRecDepth 100000 in
theorem zC_6_148 : zCl 6 148 = some (0, kX3_begin, 1, 0, 0) := rfl
set_option maxRecDepth 100000 in
theorem zC_3_25 : zCl 3 25 = some (0, kX4_length, 0, 0, 0) := rfl
set_option maxRecDepth 100000 in
theorem zC_3_34 : zCl 3 34 = some (0, kX0_begin, 2, 0, 0) := rfl
set_option maxRecDepth 100000 in
theorem zC_0_33 : zCl 0 33 = some (0, kX4_startOf, 1, 0, 0) := rfl
set_option maxRecDepth 100000 in
theorem zC_0_37 : zCl 0 37 = some (0, kX4_endOf, 1, 0, 0) := rfl
set_option maxRecDepth 100000 in
theorem zC_0_40 : zCl 0 40 = some (0, kX4_lay, 5, 0, 0) := rfl
set_option maxRecDepth 100000 in
theorem zC_0_44 : zCl 0 44 = some (1, kX6_orderTurned, 3, 0, 0) := rfl
set_option maxRecDepth 100000 in
theorem zC_0_48 : zCl 0 48 = some (1, kX6_turnPart, 3, 0, 0) := rfl
set_option maxRecDepth 100000 in
theorem zC_0_52 : zCl 0 52 = some (0, kX0_addDigit, 2, 0, 0) := rfl
set_option maxRecDepth 100000 in
theorem zC_6_151 : zCl 6 151 = some (0, kX3_next, 0, 0, 0) := rfl
set_option maxRecDepth 100000 in
theorem zC_3_38 : zCl 3 38 = some (0, kX0_isOver, 0, 0, 0) := rfl
set_option maxRecDepth 100000 in
theorem zC_3_42 : zCl 3 42 = some (0, kX3_orderOfEnds, 0, 0, 0) := rfl
set_option maxRecDepth 100000 in
theorem zC_3_52 : zCl 3 52 = some (0, kX0_step, 0, 0, 0) := rfl
set_option maxRecDepth 100000 in
theorem zC_6_155 : zCl 6 155 = some (0, kX3_letterAt, 1, 0, 0) := rfl
set_option maxRecDepth 100000 in
theorem zC_8_62 : zCl 8 62 = some (0, kX6_scroll, 2, 0, 0) := rfl
set_option maxRecDepth 100000 in
theorem zC_6_133 : zCl 6 133 = some (0, kX4_evenPatches, 0, 0, 0) := rfl
set_option maxRecDepth 100000 in
theorem zC_6_136 : zCl 6 136 = some (0, kX6_evenReadings, 1, 0, 0) := rfl
set_option maxRecDepth 100000 in
theorem zC_6_247 : zCl 6 247 = some (1, kX6_orderTurned, 3, 0, 0) := rfl
set_option maxRecDepth 100000 in
theorem zC_6_139 : zCl 6 139 = some (0, kX6_idleSeams, 1, 0, 0) := rfl
set_option maxRecDepth 100000 in
theorem zC_6_237 : zCl 6 237 = some (0, kX4_copyFrom, 1, 0, 0) := rfl
set_option maxRecDepth 100000 in
theorem zC_6_251 : zCl 6 251 = some (0, kX6_tellTheSame, 2, 0, 0) := rfl
set_option maxRecDepth 100000 in
theorem zC_6_163 : zCl 6 163 = some (0, kX6_readingsOfBoth, 2, 0, 0) := rfl
set_option maxRecDepth 100000 in
theorem zC_6_243 : zCl 6 243 = some (0, kX4_tells, 2, 0, 0) := rfl
set_option maxRecDepth 100000 in
theorem zC_4_70 : zCl 4 70 = some (0, kX4_beginsWith, 3, 0, 0) := rfl
set_option maxRecDepth 100000 in
theorem zC_8_65 : zCl 8 65 = some (0, kX6_shared, 2, 0, 0) := rfl
set_option maxRecDepth 100000 in
theorem zC_8_67 : zCl 8 67 = some (0, kX6_compare, 2, 0, 0) := rfl
set_option maxRecDepth 100000 in
theorem zC_8_70 : zCl 8 70 = some (0, kX6_count, 1, 0, 0) := rfl
set_option maxRecDepth 100000 in
theorem zC_6_167 : zCl 6 167 = some (0, kX5_patchesOfAll, 0, 0, 0) := rfl
set_option maxRecDepth 100000 in
theorem zC_6_170 : zCl 6 170 = some (0, kX5_lettersOfAll, 0, 0, 0) := rfl
set_option maxRecDepth 100000 in
theorem zC_5_36 : zCl 5 36 = some (0, kX4_length, 0, 0, 0) := rfl
set_option maxRecDepth 100000 in
theorem zC_6_173 : zCl 6 173 = some (0, kX6_readingsOfAll, 0, 0, 0) := rfl
set_option maxRecDepth 100000 in
theorem zC_6_259 : zCl 6 259 = some (0, kX6_readingsNotToldBefore, 2, 0, 0) := rfl
set_option maxRecDepth 100000 in
theorem zC_6_262 : zCl 6 262 = some (0, kX5_tellsBefore, 3, 0, 0) := rfl
set_option maxRecDepth 100000 in
theorem zC_5_40 : zCl 5 40 = some (0, kX4_tells, 2, 0, 0) := rfl
set_option maxRecDepth 100000 in
theorem zC_6_176 : zCl 6 176 = some (0, kX6_pairsOfTheSame, 0, 0, 0) := rfl
set_option maxRecDepth 100000 in
theorem zC_8_130 : zCl 8 130 = some (1, kL_cuts, 5, 0, 0) := rfl
set_option maxRecDepth 100000 in
theorem zC_8_78 : zCl 8 78 = some (0, kX6_ifCut, 3, 0, 0) := rfl
set_option maxRecDepth 100000 in
theorem zC_6_182 : zCl 6 182 = some (0, kX6_readingsWithCut, 3, 0, 0) := rfl
set_option maxRecDepth 100000 in
theorem zC_8_81 : zCl 8 81 = some (0, kX6_bestCut, 2, 0, 0) := rfl
set_option maxRecDepth 100000 in
theorem zC_8_134 : zCl 8 134 = some (1, kL_finds, 5, 0, 0) := rfl
set_option maxRecDepth 100000 in
theorem zC_8_92 : zCl 8 92 = some (0, kX6_find, 2, 0, 0) := rfl
set_option maxRecDepth 100000 in
theorem zC_6_156 : zCl 6 156 = some (0, kX2_isWord, 0, 0, 0) := rfl
set_option maxRecDepth 100000 in
theorem zC_6_159 : zCl 6 159 = some (0, kX6_findWord, 2, 0, 0) := rfl
set_option maxRecDepth 100000 in
theorem zC_6_255 : zCl 6 255 = some (0, kX2_placeIn, 2, 0, 0) := rfl
set_option maxRecDepth 100000 in
theorem zC_2_27 : zCl 2 27 = some (0, kX2_standsAt, 2, 0, 0) := rfl
/-- Object.<init>: (own class, pool number), place of the link -/
def zOt : List ((Nat × Nat) × Nat) := [((6, 1), 30), ((5, 3), 38), ((4, 3), 45), ((2, 3), 73), ((1, 3), 87), ((3, 3), 104), ((0, 3), 110)]
def zOk (o i : Nat) : Bool := (zOt.find? (fun x => x.1 == (o, i))).isSome
theorem zO_6_1 : zOk 6 1 = true := rfl
theorem zO_5_3 : zOk 5 3 = true := rfl
theorem zO_4_3 : zOk 4 3 = true := rfl
theorem zO_2_3 : zOk 2 3 = true := rfl
theorem zO_1_3 : zOk 1 3 = true := rfl
theorem zO_3_3 : zOk 3 3 = true := rfl
theorem zO_0_3 : zOk 0 3 = true := rfl
def zOp : Nat × Nat := (31, 32)
/-- System.arraycopy -/
def zAt : List ((Nat × Nat) × Nat) := [((4, 29), 210), ((3, 46), 471)]
def zAk (o i : Nat) : Bool := (zAt.find? (fun x => x.1 == (o, i))).isSome
theorem zA_4_29 : zAk 4 29 = true := rfl
theorem zA_3_46 : zAk 3 46 = true := rfl
theorem zC_4_29 : zCl 4 29 = none := rfl
theorem zC_3_46 : zCl 3 46 = none := rfl
theorem zC_6_1 : zCl 6 1 = none := rfl
theorem zC_5_3 : zCl 5 3 = none := rfl
theorem zC_4_3 : zCl 4 3 = none := rfl
theorem zC_2_3 : zCl 2 3 = none := rfl
theorem zC_1_3 : zCl 1 3 = none := rfl
theorem zC_3_3 : zCl 3 3 = none := rfl
theorem zC_0_3 : zCl 0 3 = none := rfl
theorem zO_8_95 : zOk 8 95 = false := rfl
theorem zO_6_9 : zOk 6 9 = false := rfl
theorem zO_5_17 : zOk 5 17 = false := rfl
theorem zO_6_18 : zOk 6 18 = false := rfl
theorem zO_6_25 : zOk 6 25 = false := rfl
theorem zO_1_17 : zOk 1 17 = false := rfl
theorem zO_6_40 : zOk 6 40 = false := rfl
theorem zO_3_11 : zOk 3 11 = false := rfl
theorem zO_6_47 : zOk 6 47 = false := rfl
def zAp : Nat × Nat × Nat := (212, 211, 24)
/-- class links: (own class, pool number), class, places (link, instantiable, initialized) -/
def zNt : List ((Nat × Nat) × Nat × (Nat × Nat × Nat)) := [((8, 27), 6, (25, 26, 17)), ((6, 7), 5, (33, 34, 18)), ((5, 9), 4, (39, 41, 19)), ((6, 16), 2, (68, 69, 20)), ((6, 23), 1, (82, 83, 21)), ((1, 9), 5, (88, 34, 18)), ((6, 38), 3, (99, 100, 22)), ((3, 9), 0, (105, 106, 23)), ((6, 45), 4, (144, 41, 19))]
def zNc (o i : Nat) : Option Nat := (zNt.find? (fun x => x.1 == (o, i))).map (fun x => x.2.1)
theorem zN_8_27 : zNc 8 27 = some 6 := rfl
theorem zN_6_7 : zNc 6 7 = some 5 := rfl
theorem zN_5_9 : zNc 5 9 = some 4 := rfl
theorem zN_6_16 : zNc 6 16 = some 2 := rfl
theorem zN_6_23 : zNc 6 23 = some 1 := rfl
theorem zN_1_9 : zNc 1 9 = some 5 := rfl
theorem zN_6_38 : zNc 6 38 = some 3 := rfl
theorem zN_3_9 : zNc 3 9 = some 0 := rfl
theorem zN_6_45 : zNc 6 45 = some 4 := rfl
/-- a new object: its fields; how many -/
def zDf (ci : Nat) : List (Int ⊕ (Option Nat ⊕ Int64)) := match ci with
  | 0 => [.inr (.inl none), .inr (.inl none), .inr (.inl none), .inl 0, .inl 0]
  | 1 => [.inr (.inl none), .inl 0]
  | 2 => [.inr (.inl none), .inl 0]
  | 3 => [.inr (.inl none), .inr (.inl none), .inr (.inl none), .inl 0]
  | 4 => [.inr (.inl none), .inr (.inl none), .inl 0]
  | 5 => [.inr (.inl none), .inl 0]
  | 6 => [.inr (.inl none), .inr (.inl none), .inr (.inl none), .inr (.inl none), .inr (.inl none), .inr (.inl none), .inr (.inl none), .inr (.inl none)]
  | _ => []
def zNf (ci : Nat) : Nat := match ci with
  | 0 => 5
  | 1 => 2
  | 2 => 2
  | 3 => 4
  | 4 => 3
  | 5 => 2
  | 6 => 8
  | _ => 0
/-- long constants -/
def zLt : List ((Nat × Nat) × Int64 × Nat) := [((6, 204), 255, 375), ((8, 16), 32, 406), ((8, 100), 124, 587)]
def zLc (o i : Nat) : Option Int64 := (zLt.find? (fun x => x.1 == (o, i))).map (fun x => x.2.1)
theorem zL_6_204 : zLc 6 204 = some (255) := rfl
theorem zL_8_16 : zLc 8 16 = some (32) := rfl
theorem zL_8_100 : zLc 8 100 = some (124) := rfl
/-- int constants -/
def zIt : List ((Nat × Nat) × Int32 × Nat) := [((8, 7), 1067285329, 391), ((8, 8), 717809397, 392), ((8, 9), 2147483647, 396)]
def zIc (o i : Nat) : Option Int := (zIt.find? (fun x => x.1 == (o, i))).map (fun x => x.2.1.toInt)
theorem zT_8_7 : zIc 8 7 = some (1067285329) := rfl
theorem zT_8_8 : zIc 8 8 = some (717809397) := rfl
theorem zT_8_9 : zIc 8 9 = some (2147483647) := rfl
def zArr : Nat × Nat × Nat × Nat × Nat := (59, 128, 40, 89, 588)
