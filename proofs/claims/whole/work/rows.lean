section
-- ===== PART A: goes FIRST, ahead of the names: the tables' words, and 'selects' of the private methods out of them =====
/-- a private method of a class that the tables say can be made, by its rows of tables_1 -/
def lw_okq (q : MethodName × Nat) : Prop := (q.1.cls ≠ "java/lang/invoke/MethodHandle" ∧ q.1.cls ≠ "java/lang/invoke/VarHandle") ∧ Cond.instantiable q.1.cls q.2 ∈ tables_1 ∧ Cond.privateMethod q.1 ∈ tables_1 ∧ Cond.instanceMethod q.1 ∈ tables_1
theorem lw_p0 : lw_okq (⟨"MappingMoves", "inWayOfCell", "(IIZ)I"⟩, 5) := ⟨⟨by decide +kernel, by decide +kernel⟩, List.mem_of_getElem? (i := 15) (by decide +kernel), List.mem_of_getElem? (i := 144) (by decide +kernel), List.mem_of_getElem? (i := 145) (by decide +kernel)⟩
theorem lw_p1 : lw_okq (⟨"MappingMoves", "isPart", "(I)Z"⟩, 5) := ⟨⟨by decide +kernel, by decide +kernel⟩, List.mem_of_getElem? (i := 15) (by decide +kernel), List.mem_of_getElem? (i := 218) (by decide +kernel), List.mem_of_getElem? (i := 219) (by decide +kernel)⟩
theorem lw_p2 : lw_okq (⟨"MappingMoves", "isForPart", "(LMappingMoves$Column;I)Z"⟩, 5) := ⟨⟨by decide +kernel, by decide +kernel⟩, List.mem_of_getElem? (i := 15) (by decide +kernel), List.mem_of_getElem? (i := 222) (by decide +kernel), List.mem_of_getElem? (i := 223) (by decide +kernel)⟩
theorem lw_p3 : lw_okq (⟨"MappingMoves", "partLookedAt", "(II)I"⟩, 5) := ⟨⟨by decide +kernel, by decide +kernel⟩, List.mem_of_getElem? (i := 15) (by decide +kernel), List.mem_of_getElem? (i := 238) (by decide +kernel), List.mem_of_getElem? (i := 239) (by decide +kernel)⟩
theorem lw_p4 : lw_okq (⟨"MappingMoves", "takeParts", "(LMappingMoves$Column;ILMappingMoves$Column;II)I"⟩, 5) := ⟨⟨by decide +kernel, by decide +kernel⟩, List.mem_of_getElem? (i := 15) (by decide +kernel), List.mem_of_getElem? (i := 277) (by decide +kernel), List.mem_of_getElem? (i := 278) (by decide +kernel)⟩
theorem lw_p5 : lw_okq (⟨"MappingMoves", "moveByDigit", "(LMappingMoves$Column;I)V"⟩, 5) := ⟨⟨by decide +kernel, by decide +kernel⟩, List.mem_of_getElem? (i := 15) (by decide +kernel), List.mem_of_getElem? (i := 298) (by decide +kernel), List.mem_of_getElem? (i := 299) (by decide +kernel)⟩
theorem lw_p6 : lw_okq (⟨"MappingMoves", "countColumns", "()I"⟩, 5) := ⟨⟨by decide +kernel, by decide +kernel⟩, List.mem_of_getElem? (i := 15) (by decide +kernel), List.mem_of_getElem? (i := 314) (by decide +kernel), List.mem_of_getElem? (i := 315) (by decide +kernel)⟩
theorem lw_p7 : lw_okq (⟨"MappingMoves", "countCells", "()I"⟩, 5) := ⟨⟨by decide +kernel, by decide +kernel⟩, List.mem_of_getElem? (i := 15) (by decide +kernel), List.mem_of_getElem? (i := 318) (by decide +kernel), List.mem_of_getElem? (i := 319) (by decide +kernel)⟩
theorem lw_p8 : lw_okq (⟨"MappingMoves", "countHeld", "()I"⟩, 5) := ⟨⟨by decide +kernel, by decide +kernel⟩, List.mem_of_getElem? (i := 15) (by decide +kernel), List.mem_of_getElem? (i := 322) (by decide +kernel), List.mem_of_getElem? (i := 323) (by decide +kernel)⟩
theorem lw_p9 : lw_okq (⟨"java/lang/NullPointerException", "getExtendedNPEMessage", "()Ljava/lang/String;"⟩, 8) := ⟨⟨by decide +kernel, by decide +kernel⟩, List.mem_of_getElem? (i := 334) (by decide +kernel), List.mem_of_getElem? (i := 359) (by decide +kernel), List.mem_of_getElem? (i := 360) (by decide +kernel)⟩
theorem lw_p10 : lw_okq (⟨"java/lang/Throwable", "fillInStackTrace", "(I)Ljava/lang/Throwable;"⟩, 6) := ⟨⟨by decide +kernel, by decide +kernel⟩, List.mem_of_getElem? (i := 372) (by decide +kernel), List.mem_of_getElem? (i := 370) (by decide +kernel), List.mem_of_getElem? (i := 371) (by decide +kernel)⟩
theorem lw_p11 : lw_okq (⟨"MappingMovesModel", "isNone", "(I)Z"⟩, 17) := ⟨⟨by decide +kernel, by decide +kernel⟩, List.mem_of_getElem? (i := 462) (by decide +kernel), List.mem_of_getElem? (i := 541) (by decide +kernel), List.mem_of_getElem? (i := 542) (by decide +kernel)⟩
theorem lw_p12 : lw_okq (⟨"MappingMovesModel", "way", "(IZ)I"⟩, 17) := ⟨⟨by decide +kernel, by decide +kernel⟩, List.mem_of_getElem? (i := 462) (by decide +kernel), List.mem_of_getElem? (i := 561) (by decide +kernel), List.mem_of_getElem? (i := 562) (by decide +kernel)⟩
theorem lw_p13 : lw_okq (⟨"MappingMovesModel", "has", "(II)Z"⟩, 17) := ⟨⟨by decide +kernel, by decide +kernel⟩, List.mem_of_getElem? (i := 462) (by decide +kernel), List.mem_of_getElem? (i := 565) (by decide +kernel), List.mem_of_getElem? (i := 566) (by decide +kernel)⟩
theorem lw_p14 : lw_okq (⟨"MappingMovesModel", "telling", "(II)J"⟩, 17) := ⟨⟨by decide +kernel, by decide +kernel⟩, List.mem_of_getElem? (i := 462) (by decide +kernel), List.mem_of_getElem? (i := 579) (by decide +kernel), List.mem_of_getElem? (i := 580) (by decide +kernel)⟩
theorem lw_p15 : lw_okq (⟨"MappingMovesModel", "canBe", "(III)Z"⟩, 17) := ⟨⟨by decide +kernel, by decide +kernel⟩, List.mem_of_getElem? (i := 462) (by decide +kernel), List.mem_of_getElem? (i := 591) (by decide +kernel), List.mem_of_getElem? (i := 592) (by decide +kernel)⟩
def lw_privs_1 : List (MethodName × Nat) := [(⟨"MappingMoves", "inWayOfCell", "(IIZ)I"⟩, 5), (⟨"MappingMoves", "isPart", "(I)Z"⟩, 5), (⟨"MappingMoves", "isForPart", "(LMappingMoves$Column;I)Z"⟩, 5), (⟨"MappingMoves", "partLookedAt", "(II)I"⟩, 5), (⟨"MappingMoves", "takeParts", "(LMappingMoves$Column;ILMappingMoves$Column;II)I"⟩, 5), (⟨"MappingMoves", "moveByDigit", "(LMappingMoves$Column;I)V"⟩, 5), (⟨"MappingMoves", "countColumns", "()I"⟩, 5), (⟨"MappingMoves", "countCells", "()I"⟩, 5), (⟨"MappingMoves", "countHeld", "()I"⟩, 5), (⟨"java/lang/NullPointerException", "getExtendedNPEMessage", "()Ljava/lang/String;"⟩, 8), (⟨"java/lang/Throwable", "fillInStackTrace", "(I)Ljava/lang/Throwable;"⟩, 6), (⟨"MappingMovesModel", "isNone", "(I)Z"⟩, 17), (⟨"MappingMovesModel", "way", "(IZ)I"⟩, 17), (⟨"MappingMovesModel", "has", "(II)Z"⟩, 17), (⟨"MappingMovesModel", "telling", "(II)J"⟩, 17), (⟨"MappingMovesModel", "canBe", "(III)Z"⟩, 17)]
theorem lw_r1 : ∀ q ∈ lw_privs_1, lw_okq q := List.forall_mem_cons.mpr ⟨lw_p0, List.forall_mem_cons.mpr ⟨lw_p1, List.forall_mem_cons.mpr ⟨lw_p2, List.forall_mem_cons.mpr ⟨lw_p3, List.forall_mem_cons.mpr ⟨lw_p4, List.forall_mem_cons.mpr ⟨lw_p5, List.forall_mem_cons.mpr ⟨lw_p6, List.forall_mem_cons.mpr ⟨lw_p7, List.forall_mem_cons.mpr ⟨lw_p8, List.forall_mem_cons.mpr ⟨lw_p9, List.forall_mem_cons.mpr ⟨lw_p10, List.forall_mem_cons.mpr ⟨lw_p11, List.forall_mem_cons.mpr ⟨lw_p12, List.forall_mem_cons.mpr ⟨lw_p13, List.forall_mem_cons.mpr ⟨lw_p14, List.forall_mem_cons.mpr ⟨lw_p15, fun _ h => absurd h List.not_mem_nil⟩⟩⟩⟩⟩⟩⟩⟩⟩⟩⟩⟩⟩⟩⟩⟩
theorem lw_p16 : lw_okq (⟨"MappingMovesModel", "takes", "(IJ)Z"⟩, 17) := ⟨⟨by decide +kernel, by decide +kernel⟩, List.mem_of_getElem? (i := 462) (by decide +kernel), List.mem_of_getElem? (i := 614) (by decide +kernel), List.mem_of_getElem? (i := 615) (by decide +kernel)⟩
theorem lw_p17 : lw_okq (⟨"MappingMovesModel", "wayTo", "(II)I"⟩, 17) := ⟨⟨by decide +kernel, by decide +kernel⟩, List.mem_of_getElem? (i := 462) (by decide +kernel), List.mem_of_getElem? (i := 622) (by decide +kernel), List.mem_of_getElem? (i := 623) (by decide +kernel)⟩
theorem lw_p18 : lw_okq (⟨"MappingMovesModel", "take", "(II)V"⟩, 17) := ⟨⟨by decide +kernel, by decide +kernel⟩, List.mem_of_getElem? (i := 462) (by decide +kernel), List.mem_of_getElem? (i := 654) (by decide +kernel), List.mem_of_getElem? (i := 655) (by decide +kernel)⟩
def lw_privs_2 : List (MethodName × Nat) := [(⟨"MappingMovesModel", "takes", "(IJ)Z"⟩, 17), (⟨"MappingMovesModel", "wayTo", "(II)I"⟩, 17), (⟨"MappingMovesModel", "take", "(II)V"⟩, 17)]
theorem lw_r2 : ∀ q ∈ lw_privs_2, lw_okq q := List.forall_mem_cons.mpr ⟨lw_p16, List.forall_mem_cons.mpr ⟨lw_p17, List.forall_mem_cons.mpr ⟨lw_p18, fun _ h => absurd h List.not_mem_nil⟩⟩⟩
def lw_privs : List (MethodName × Nat) := lw_privs_1 ++ (lw_privs_2)
def lw_tbl : List Cond := k2_sels lw_privs ++ tables_1
theorem lw_privs_ok : ∀ q ∈ lw_privs, lw_okq q := by
  show ∀ q ∈ lw_privs_1 ++ (lw_privs_2), lw_okq q
  exact List.forall_mem_append.mpr ⟨lw_r1, lw_r2⟩
/-- the streams that the claim lets the run draw from -/
abbrev lw_cs : List Choice := [Jvm.Choice.named "NaN.bits"]
theorem lw_bits : nanBits ∈ lw_cs := by first | decide | exact List.mem_cons_self | simp [lw_cs, nanBits]
end
section
/-! ===== BEGIN printed: names, fields, word lists, decode rows ===== -/
def RX0 : String := "MappingMoves$Column"
def TX0 : u_T := fun k => match k with
  | 0 => ("MappingMoves$Column", "kind", "I", false)
  | 1 => ("MappingMoves$Column", "cells", "I", false)
  | 2 => ("MappingMoves$Column", "wholes", "[J", true)
  | _ => ("MappingMoves$Column", "reals", "[D", true)
def tyX0 : Nat → FieldType := fun k => match k with
  | 0 => .int
  | 1 => .int
  | 2 => .array .long
  | _ => .array .double
abbrev wsX00 : List Cond := u_ws RX0 TX0 4
theorem nmX0 : ∀ a, a < 4 → ∀ b, b < 4 → a ≠ b → (TX0 a).2.1 ≠ (TX0 b).2.1 := by decide +kernel
theorem tyX0_ok : ∀ k, k < 4 → parseFieldDescriptor (TX0 k).2.2.1 = some (tyX0 k) := by decide +kernel
abbrev cX0_init : ByteArray := prog_2_method_1_code
def yX0_init : MethodName := ⟨RX0, "<init>", "()V"⟩
abbrev cX0_isNone : ByteArray := prog_2_method_2_code
def yX0_isNone : MethodName := ⟨RX0, "isNone", "()Z"⟩
abbrev cX0_isGone : ByteArray := prog_2_method_3_code
def yX0_isGone : MethodName := ⟨RX0, "isGone", "()Z"⟩
abbrev cX0_isShelf : ByteArray := prog_2_method_4_code
def yX0_isShelf : MethodName := ⟨RX0, "isShelf", "()Z"⟩
abbrev cX0_isOfReals : ByteArray := prog_2_method_5_code
def yX0_isOfReals : MethodName := ⟨RX0, "isOfReals", "()Z"⟩
abbrev cX0_hasCell : ByteArray := prog_2_method_6_code
def yX0_hasCell : MethodName := ⟨RX0, "hasCell", "(I)Z"⟩
abbrev cX0_hasCells : ByteArray := prog_2_method_7_code
def yX0_hasCells : MethodName := ⟨RX0, "hasCells", "(II)Z"⟩
abbrev cX0_isForSort : ByteArray := prog_2_method_8_code
def yX0_isForSort : MethodName := ⟨RX0, "isForSort", "(I)Z"⟩
abbrev cX0_begin : ByteArray := prog_2_method_9_code
def yX0_begin : MethodName := ⟨RX0, "begin", "(II)V"⟩
abbrev cX0_letGo : ByteArray := prog_2_method_10_code
def yX0_letGo : MethodName := ⟨RX0, "letGo", "()V"⟩
abbrev cX0_end : ByteArray := prog_2_method_11_code
def yX0_end : MethodName := ⟨RX0, "end", "()V"⟩
abbrev cX0_heldPart : ByteArray := prog_2_method_12_code
def yX0_heldPart : MethodName := ⟨RX0, "heldPart", "(I)I"⟩
abbrev cX0_holdPart : ByteArray := prog_2_method_13_code
def yX0_holdPart : MethodName := ⟨RX0, "holdPart", "(II)V"⟩
abbrev cX0_setNumber : ByteArray := prog_2_method_14_code
def yX0_setNumber : MethodName := ⟨RX0, "setNumber", "(IJ)V"⟩
abbrev cX0_tells : ByteArray := prog_2_method_15_code
def yX0_tells : MethodName := ⟨RX0, "tells", "(I)J"⟩
abbrev cX0_total : ByteArray := prog_2_method_16_code
def yX0_total : MethodName := ⟨RX0, "total", "()I"⟩
abbrev cX0_firstNotIn : ByteArray := prog_2_method_17_code
def yX0_firstNotIn : MethodName := ⟨RX0, "firstNotIn", "(I)I"⟩
abbrev cX0_becomeKind : ByteArray := prog_2_method_18_code
def yX0_becomeKind : MethodName := ⟨RX0, "becomeKind", "(I)V"⟩
abbrev cX0_takeCells : ByteArray := prog_2_method_19_code
def yX0_takeCells : MethodName := ⟨RX0, "takeCells", "(LMappingMoves$Column;III)V"⟩
abbrev cX0_becomeLike : ByteArray := prog_2_method_20_code
def yX0_becomeLike : MethodName := ⟨RX0, "becomeLike", "(LMappingMoves$Column;)V"⟩
abbrev cX0_isSameAs : ByteArray := prog_2_method_21_code
def yX0_isSameAs : MethodName := ⟨RX0, "isSameAs", "(LMappingMoves$Column;)Z"⟩
abbrev cX0_countHeldHere : ByteArray := prog_2_method_22_code
def yX0_countHeldHere : MethodName := ⟨RX0, "countHeldHere", "()I"⟩
abbrev cX0_areReals : ByteArray := prog_2_method_23_code
def yX0_areReals : MethodName := ⟨RX0, "areReals", "(I)Z"⟩
abbrev cX0_lowestBits : ByteArray := prog_2_method_24_code
def yX0_lowestBits : MethodName := ⟨RX0, "lowestBits", "(JI)J"⟩
abbrev cX0_wholeFits : ByteArray := prog_2_method_25_code
def yX0_wholeFits : MethodName := ⟨RX0, "wholeFits", "(JI)Z"⟩
abbrev cX0_realFits : ByteArray := prog_2_method_26_code
def yX0_realFits : MethodName := ⟨RX0, "realFits", "(DI)Z"⟩
abbrev cX0_isJust : ByteArray := prog_2_method_27_code
def yX0_isJust : MethodName := ⟨RX0, "isJust", "(DJ)Z"⟩
def RX1 : String := "MappingMoves$Part"
def TX1 : u_T := fun k => match k with
  | 0 => ("MappingMoves$Part", "sort", "I", false)
  | 1 => ("MappingMoves$Part", "weight", "I", false)
  | 2 => ("MappingMoves$Part", "laid", "I", false)
  | _ => ("MappingMoves$Part", "code", "I", false)
def tyX1 : Nat → FieldType := fun k => match k with
  | 0 => .int
  | 1 => .int
  | 2 => .int
  | _ => .int
abbrev wsX10 : List Cond := u_ws RX1 TX1 4
theorem nmX1 : ∀ a, a < 4 → ∀ b, b < 4 → a ≠ b → (TX1 a).2.1 ≠ (TX1 b).2.1 := by decide +kernel
theorem tyX1_ok : ∀ k, k < 4 → parseFieldDescriptor (TX1 k).2.2.1 = some (tyX1 k) := by decide +kernel
abbrev cX1_init : ByteArray := prog_3_method_1_code
def yX1_init : MethodName := ⟨RX1, "<init>", "()V"⟩
abbrev cX1_begin : ByteArray := prog_3_method_2_code
def yX1_begin : MethodName := ⟨RX1, "begin", "(II)V"⟩
abbrev cX1_weighed : ByteArray := prog_3_method_3_code
def yX1_weighed : MethodName := ⟨RX1, "weighed", "()I"⟩
def RX2 : String := "MappingMoves"
def TX2 : u_T := fun k => match k with
  | 0 => ("MappingMoves", "columns", "[LMappingMoves$Column;", true)
  | 1 => ("MappingMoves", "aside", "[LMappingMoves$Column;", true)
  | 2 => ("MappingMoves", "parts", "[LMappingMoves$Part;", true)
  | 3 => ("MappingMoves", "partCount", "I", false)
  | _ => ("MappingMoves", "latestCopied", "I", false)
def tyX2 : Nat → FieldType := fun k => match k with
  | 0 => .array (.object "MappingMoves$Column")
  | 1 => .array (.object "MappingMoves$Column")
  | 2 => .array (.object "MappingMoves$Part")
  | 3 => .int
  | _ => .int
abbrev wsX20 : List Cond := u_ws RX2 TX2 5
theorem nmX2 : ∀ a, a < 5 → ∀ b, b < 5 → a ≠ b → (TX2 a).2.1 ≠ (TX2 b).2.1 := by decide +kernel
theorem tyX2_ok : ∀ k, k < 5 → parseFieldDescriptor (TX2 k).2.2.1 = some (tyX2 k) := by decide +kernel
abbrev cX2_init : ByteArray := prog_1_method_1_code
def yX2_init : MethodName := ⟨RX2, "<init>", "()V"⟩
abbrev cX2_make : ByteArray := prog_1_method_2_code
def yX2_make : MethodName := ⟨RX2, "make", "(III)I"⟩
abbrev cX2_let : ByteArray := prog_1_method_3_code
def yX2_let : MethodName := ⟨RX2, "let", "(I)I"⟩
abbrev cX2_drop : ByteArray := prog_1_method_4_code
def yX2_drop : MethodName := ⟨RX2, "drop", "(I)I"⟩
abbrev cX2_kind : ByteArray := prog_1_method_5_code
def yX2_kind : MethodName := ⟨RX2, "kind", "(I)I"⟩
abbrev cX2_length : ByteArray := prog_1_method_6_code
def yX2_length : MethodName := ⟨RX2, "length", "(I)I"⟩
abbrev cX2_put : ByteArray := prog_1_method_7_code
def yX2_put : MethodName := ⟨RX2, "put", "(IIJ)I"⟩
abbrev cX2_get : ByteArray := prog_1_method_8_code
def yX2_get : MethodName := ⟨RX2, "get", "(II)J"⟩
abbrev cX2_sum : ByteArray := prog_1_method_9_code
def yX2_sum : MethodName := ⟨RX2, "sum", "(II)I"⟩
abbrev cX2_turn : ByteArray := prog_1_method_10_code
def yX2_turn : MethodName := ⟨RX2, "turn", "(II)I"⟩
abbrev cX2_part : ByteArray := prog_1_method_11_code
def yX2_part : MethodName := ⟨RX2, "part", "(II)I"⟩
abbrev cX2_lay : ByteArray := prog_1_method_12_code
def yX2_lay : MethodName := ⟨RX2, "lay", "(III)I"⟩
abbrev cX2_weigh : ByteArray := prog_1_method_13_code
def yX2_weigh : MethodName := ⟨RX2, "weigh", "(II)I"⟩
abbrev cX2_rigid : ByteArray := prog_1_method_14_code
def yX2_rigid : MethodName := ⟨RX2, "rigid", "(II)I"⟩
abbrev cX2_fault : ByteArray := prog_1_method_15_code
def yX2_fault : MethodName := ⟨RX2, "fault", "(II)I"⟩
abbrev cX2_raise : ByteArray := prog_1_method_16_code
def yX2_raise : MethodName := ⟨RX2, "raise", "(II)I"⟩
abbrev cX2_copy : ByteArray := prog_1_method_17_code
def yX2_copy : MethodName := ⟨RX2, "copy", "(IIIII)I"⟩
abbrev cX2_copied : ByteArray := prog_1_method_18_code
def yX2_copied : MethodName := ⟨RX2, "copied", "()I"⟩
abbrev cX2_move : ByteArray := prog_1_method_19_code
def yX2_move : MethodName := ⟨RX2, "move", "(III)I"⟩
abbrev cX2_like : ByteArray := prog_1_method_20_code
def yX2_like : MethodName := ⟨RX2, "like", "(II)I"⟩
abbrev cX2_told : ByteArray := prog_1_method_21_code
def yX2_told : MethodName := ⟨RX2, "told", "(I)I"⟩
abbrev cX2_isPlace : ByteArray := prog_1_method_22_code
def yX2_isPlace : MethodName := ⟨RX2, "isPlace", "(I)Z"⟩
abbrev cX2_isMapping : ByteArray := prog_1_method_23_code
def yX2_isMapping : MethodName := ⟨RX2, "isMapping", "(I)Z"⟩
abbrev cX2_isKindOfNumbers : ByteArray := prog_1_method_24_code
def yX2_isKindOfNumbers : MethodName := ⟨RX2, "isKindOfNumbers", "(I)Z"⟩
abbrev cX2_isPart : ByteArray := prog_1_method_25_code
def yX2_isPart : MethodName := ⟨RX2, "isPart", "(I)Z"⟩
abbrev cX2_inWayOfCell : ByteArray := prog_1_method_26_code
def yX2_inWayOfCell : MethodName := ⟨RX2, "inWayOfCell", "(IIZ)I"⟩
abbrev cX2_partLookedAt : ByteArray := prog_1_method_27_code
def yX2_partLookedAt : MethodName := ⟨RX2, "partLookedAt", "(II)I"⟩
abbrev cX2_isForPart : ByteArray := prog_1_method_28_code
def yX2_isForPart : MethodName := ⟨RX2, "isForPart", "(LMappingMoves$Column;I)Z"⟩
abbrev cX2_takeParts : ByteArray := prog_1_method_29_code
def yX2_takeParts : MethodName := ⟨RX2, "takeParts", "(LMappingMoves$Column;ILMappingMoves$Column;II)I"⟩
abbrev cX2_moveByDigit : ByteArray := prog_1_method_30_code
def yX2_moveByDigit : MethodName := ⟨RX2, "moveByDigit", "(LMappingMoves$Column;I)V"⟩
abbrev cX2_countColumns : ByteArray := prog_1_method_31_code
def yX2_countColumns : MethodName := ⟨RX2, "countColumns", "()I"⟩
abbrev cX2_countCells : ByteArray := prog_1_method_32_code
def yX2_countCells : MethodName := ⟨RX2, "countCells", "()I"⟩
abbrev cX2_countHeld : ByteArray := prog_1_method_33_code
def yX2_countHeld : MethodName := ⟨RX2, "countHeld", "()I"⟩
def RX3 : String := "MappingMovesModel"
def TX3 : u_T := fun k => match k with
  | 0 => ("MappingMovesModel", "code", "I", false)
  | 1 => ("MappingMovesModel", "kinds", "[I", true)
  | 2 => ("MappingMovesModel", "counts", "[I", true)
  | 3 => ("MappingMovesModel", "gone", "[Z", true)
  | 4 => ("MappingMovesModel", "cells", "[J", true)
  | 5 => ("MappingMovesModel", "reals", "[D", true)
  | 6 => ("MappingMovesModel", "hadKinds", "[I", true)
  | 7 => ("MappingMovesModel", "hadCounts", "[I", true)
  | 8 => ("MappingMovesModel", "hadGone", "[Z", true)
  | 9 => ("MappingMovesModel", "hadCells", "[J", true)
  | 10 => ("MappingMovesModel", "hadReals", "[D", true)
  | 11 => ("MappingMovesModel", "parts", "I", false)
  | 12 => ("MappingMovesModel", "sorts", "[I", true)
  | 13 => ("MappingMovesModel", "weights", "[I", true)
  | 14 => ("MappingMovesModel", "laid", "[I", true)
  | 15 => ("MappingMovesModel", "faults", "[I", true)
  | _ => ("MappingMovesModel", "copies", "I", false)
def tyX3 : Nat → FieldType := fun k => match k with
  | 0 => .int
  | 1 => .array .int
  | 2 => .array .int
  | 3 => .array .boolean
  | 4 => .array .long
  | 5 => .array .double
  | 6 => .array .int
  | 7 => .array .int
  | 8 => .array .boolean
  | 9 => .array .long
  | 10 => .array .double
  | 11 => .int
  | 12 => .array .int
  | 13 => .array .int
  | 14 => .array .int
  | 15 => .array .int
  | _ => .int
abbrev wsX30 : List Cond := u_ws RX3 TX3 17
theorem nmX3 : ∀ a, a < 17 → ∀ b, b < 17 → a ≠ b → (TX3 a).2.1 ≠ (TX3 b).2.1 := by decide +kernel
theorem tyX3_ok : ∀ k, k < 17 → parseFieldDescriptor (TX3 k).2.2.1 = some (tyX3 k) := by decide +kernel
abbrev cX3_init : ByteArray := prog_5_method_1_code
def yX3_init : MethodName := ⟨RX3, "<init>", "()V"⟩
abbrev cX3_thrown : ByteArray := prog_5_method_2_code
def yX3_thrown : MethodName := ⟨RX3, "thrown", "()I"⟩
abbrev cX3_in : ByteArray := prog_5_method_3_code
def yX3_in : MethodName := ⟨RX3, "in", "(III)Z"⟩
abbrev cX3_isPlace : ByteArray := prog_5_method_4_code
def yX3_isPlace : MethodName := ⟨RX3, "isPlace", "(I)Z"⟩
abbrev cX3_has : ByteArray := prog_5_method_5_code
def yX3_has : MethodName := ⟨RX3, "has", "(II)Z"⟩
abbrev cX3_way : ByteArray := prog_5_method_6_code
def yX3_way : MethodName := ⟨RX3, "way", "(IZ)I"⟩
abbrev cX3_isNone : ByteArray := prog_5_method_7_code
def yX3_isNone : MethodName := ⟨RX3, "isNone", "(I)Z"⟩
abbrev cX3_make : ByteArray := prog_5_method_8_code
def yX3_make : MethodName := ⟨RX3, "make", "(III)I"⟩
abbrev cX3_let : ByteArray := prog_5_method_9_code
def yX3_let : MethodName := ⟨RX3, "let", "(I)I"⟩
abbrev cX3_drop : ByteArray := prog_5_method_10_code
def yX3_drop : MethodName := ⟨RX3, "drop", "(I)I"⟩
abbrev cX3_kind : ByteArray := prog_5_method_11_code
def yX3_kind : MethodName := ⟨RX3, "kind", "(I)I"⟩
abbrev cX3_length : ByteArray := prog_5_method_12_code
def yX3_length : MethodName := ⟨RX3, "length", "(I)I"⟩
abbrev cX3_low : ByteArray := prog_5_method_13_code
def yX3_low : MethodName := ⟨RX3, "low", "(IJ)J"⟩
abbrev cX3_put : ByteArray := prog_5_method_14_code
def yX3_put : MethodName := ⟨RX3, "put", "(IIJ)I"⟩
abbrev cX3_telling : ByteArray := prog_5_method_15_code
def yX3_telling : MethodName := ⟨RX3, "telling", "(II)J"⟩
abbrev cX3_get : ByteArray := prog_5_method_16_code
def yX3_get : MethodName := ⟨RX3, "get", "(II)J"⟩
abbrev cX3_sum : ByteArray := prog_5_method_17_code
def yX3_sum : MethodName := ⟨RX3, "sum", "(II)I"⟩
abbrev cX3_isWhole : ByteArray := prog_5_method_18_code
def yX3_isWhole : MethodName := ⟨RX3, "isWhole", "(I)Z"⟩
abbrev cX3_fits : ByteArray := prog_5_method_19_code
def yX3_fits : MethodName := ⟨RX3, "fits", "(IJ)Z"⟩
abbrev cX3_isInLongs : ByteArray := prog_5_method_20_code
def yX3_isInLongs : MethodName := ⟨RX3, "isInLongs", "(D)Z"⟩
abbrev cX3_canBe : ByteArray := prog_5_method_21_code
def yX3_canBe : MethodName := ⟨RX3, "canBe", "(III)Z"⟩
abbrev cX3_turn : ByteArray := prog_5_method_22_code
def yX3_turn : MethodName := ⟨RX3, "turn", "(II)I"⟩
abbrev cX3_part : ByteArray := prog_5_method_23_code
def yX3_part : MethodName := ⟨RX3, "part", "(II)I"⟩
abbrev cX3_takes : ByteArray := prog_5_method_24_code
def yX3_takes : MethodName := ⟨RX3, "takes", "(IJ)Z"⟩
abbrev cX3_lay : ByteArray := prog_5_method_25_code
def yX3_lay : MethodName := ⟨RX3, "lay", "(III)I"⟩
abbrev cX3_wayTo : ByteArray := prog_5_method_26_code
def yX3_wayTo : MethodName := ⟨RX3, "wayTo", "(II)I"⟩
abbrev cX3_weigh : ByteArray := prog_5_method_27_code
def yX3_weigh : MethodName := ⟨RX3, "weigh", "(II)I"⟩
abbrev cX3_rigid : ByteArray := prog_5_method_28_code
def yX3_rigid : MethodName := ⟨RX3, "rigid", "(II)I"⟩
abbrev cX3_fault : ByteArray := prog_5_method_29_code
def yX3_fault : MethodName := ⟨RX3, "fault", "(II)I"⟩
abbrev cX3_raise : ByteArray := prog_5_method_30_code
def yX3_raise : MethodName := ⟨RX3, "raise", "(II)I"⟩
abbrev cX3_reaches : ByteArray := prog_5_method_31_code
def yX3_reaches : MethodName := ⟨RX3, "reaches", "(III)Z"⟩
abbrev cX3_copy : ByteArray := prog_5_method_32_code
def yX3_copy : MethodName := ⟨RX3, "copy", "(IIIII)I"⟩
abbrev cX3_copied : ByteArray := prog_5_method_33_code
def yX3_copied : MethodName := ⟨RX3, "copied", "()I"⟩
abbrev cX3_move : ByteArray := prog_5_method_34_code
def yX3_move : MethodName := ⟨RX3, "move", "(III)I"⟩
abbrev cX3_take : ByteArray := prog_5_method_35_code
def yX3_take : MethodName := ⟨RX3, "take", "(II)V"⟩
abbrev cX3_like : ByteArray := prog_5_method_36_code
def yX3_like : MethodName := ⟨RX3, "like", "(II)I"⟩
abbrev cX3_told : ByteArray := prog_5_method_37_code
def yX3_told : MethodName := ⟨RX3, "told", "(I)I"⟩
def RJx145de : String := "java/io/Serializable"
def TJx145de : u_T := fun k => match k with
  | _ => ("", "", "", false)
def tyJx145de : Nat → FieldType := fun k => match k with
  | _ => .int
abbrev wsJx145de0 : List Cond := u_ws RJx145de TJx145de 0
theorem nmJx145de : ∀ a, a < 0 → ∀ b, b < 0 → a ≠ b → (TJx145de a).2.1 ≠ (TJx145de b).2.1 := by decide +kernel
theorem tyJx145de_ok : ∀ k, k < 0 → parseFieldDescriptor (TJx145de k).2.2.1 = some (tyJx145de k) := by decide +kernel
def RJx00060 : String := "java/lang/ArrayIndexOutOfBoundsException"
def TJx00060 : u_T := fun k => match k with
  | 0 => ("java/lang/Throwable", "backtrace", "Ljava/lang/Object;", false)
  | 1 => ("java/lang/Throwable", "detailMessage", "Ljava/lang/String;", false)
  | 2 => ("java/lang/Throwable", "cause", "Ljava/lang/Throwable;", false)
  | 3 => ("java/lang/Throwable", "stackTrace", "[Ljava/lang/StackTraceElement;", false)
  | 4 => ("java/lang/Throwable", "depth", "I", false)
  | _ => ("java/lang/Throwable", "suppressedExceptions", "Ljava/util/List;", false)
def tyJx00060 : Nat → FieldType := fun k => match k with
  | 0 => .object "java/lang/Object"
  | 1 => .object "java/lang/String"
  | 2 => .object "java/lang/Throwable"
  | 3 => .array (.object "java/lang/StackTraceElement")
  | 4 => .int
  | _ => .object "java/util/List"
abbrev wsJx000600 : List Cond := u_ws RJx00060 TJx00060 6
theorem nmJx00060 : ∀ a, a < 6 → ∀ b, b < 6 → a ≠ b → (TJx00060 a).2.1 ≠ (TJx00060 b).2.1 := by decide +kernel
theorem tyJx00060_ok : ∀ k, k < 6 → parseFieldDescriptor (TJx00060 k).2.2.1 = some (tyJx00060 k) := by decide +kernel
abbrev cJx00060_init_da8c8 : ByteArray := prog_6_method_1_code
def yJx00060_init_da8c8 : MethodName := ⟨RJx00060, "<init>", "()V"⟩
abbrev cJx00060_init_a7421 : ByteArray := prog_6_method_2_code
def yJx00060_init_a7421 : MethodName := ⟨RJx00060, "<init>", "(Ljava/lang/String;)V"⟩
def RJx5d777 : String := "java/lang/NullPointerException"
def TJx5d777 : u_T := fun k => match k with
  | 0 => ("java/lang/Throwable", "backtrace", "Ljava/lang/Object;", false)
  | 1 => ("java/lang/Throwable", "detailMessage", "Ljava/lang/String;", false)
  | 2 => ("java/lang/Throwable", "cause", "Ljava/lang/Throwable;", false)
  | 3 => ("java/lang/Throwable", "stackTrace", "[Ljava/lang/StackTraceElement;", false)
  | 4 => ("java/lang/Throwable", "depth", "I", false)
  | 5 => ("java/lang/Throwable", "suppressedExceptions", "Ljava/util/List;", false)
  | 6 => ("java/lang/NullPointerException", "extendedMessageState", "I", false)
  | _ => ("java/lang/NullPointerException", "extendedMessage", "Ljava/lang/String;", false)
def tyJx5d777 : Nat → FieldType := fun k => match k with
  | 0 => .object "java/lang/Object"
  | 1 => .object "java/lang/String"
  | 2 => .object "java/lang/Throwable"
  | 3 => .array (.object "java/lang/StackTraceElement")
  | 4 => .int
  | 5 => .object "java/util/List"
  | 6 => .int
  | _ => .object "java/lang/String"
abbrev wsJx5d7770 : List Cond := u_ws RJx5d777 TJx5d777 8
theorem nmJx5d777 : ∀ a, a < 8 → ∀ b, b < 8 → a ≠ b → (TJx5d777 a).2.1 ≠ (TJx5d777 b).2.1 := by decide +kernel
theorem tyJx5d777_ok : ∀ k, k < 8 → parseFieldDescriptor (TJx5d777 k).2.2.1 = some (tyJx5d777 k) := by decide +kernel
abbrev cJx5d777_init_da8c8 : ByteArray := prog_9_method_1_code
def yJx5d777_init_da8c8 : MethodName := ⟨RJx5d777, "<init>", "()V"⟩
abbrev cJx5d777_fillInStackTrace_cddbd : ByteArray := prog_9_method_3_code
def yJx5d777_fillInStackTrace_cddbd : MethodName := ⟨RJx5d777, "fillInStackTrace", "()Ljava/lang/Throwable;"⟩
def RJ0 : String := "java/lang/String"
def TJ0 : u_T := fun k => match k with
  | 0 => ("java/lang/String", "value", "[B", true)
  | _ => ("java/lang/String", "coder", "B", true)
def tyJ0 : Nat → FieldType := fun k => match k with
  | 0 => .array .byte
  | _ => .byte
abbrev wsJ00 : List Cond := u_ws RJ0 TJ0 2
theorem nmJ0 : ∀ a, a < 2 → ∀ b, b < 2 → a ≠ b → (TJ0 a).2.1 ≠ (TJ0 b).2.1 := by decide +kernel
theorem tyJ0_ok : ∀ k, k < 2 → parseFieldDescriptor (TJ0 k).2.2.1 = some (tyJ0 k) := by decide +kernel
def RJ10 : String := "java/lang/System"
def TJ10 : u_T := fun k => match k with
  | _ => ("", "", "", false)
def tyJ10 : Nat → FieldType := fun k => match k with
  | _ => .int
abbrev wsJ100 : List Cond := u_ws RJ10 TJ10 0
theorem nmJ10 : ∀ a, a < 0 → ∀ b, b < 0 → a ≠ b → (TJ10 a).2.1 ≠ (TJ10 b).2.1 := by decide +kernel
theorem tyJ10_ok : ∀ k, k < 0 → parseFieldDescriptor (TJ10 k).2.2.1 = some (tyJ10 k) := by decide +kernel
def RJ7 : String := "java/util/Arrays"
def TJ7 : u_T := fun k => match k with
  | _ => ("", "", "", false)
def tyJ7 : Nat → FieldType := fun k => match k with
  | _ => .int
abbrev wsJ70 : List Cond := u_ws RJ7 TJ7 0
theorem nmJ7 : ∀ a, a < 0 → ∀ b, b < 0 → a ≠ b → (TJ7 a).2.1 ≠ (TJ7 b).2.1 := by decide +kernel
theorem tyJ7_ok : ∀ k, k < 0 → parseFieldDescriptor (TJ7 k).2.2.1 = some (tyJ7 k) := by decide +kernel
abbrev cJ7_fill_d0a16 : ByteArray := prog_14_method_101_code
def yJ7_fill_d0a16 : MethodName := ⟨RJ7, "fill", "([JJ)V"⟩
abbrev cJ7_fill_7f8df : ByteArray := prog_14_method_113_code
def yJ7_fill_7f8df : MethodName := ⟨RJ7, "fill", "([DD)V"⟩
def RL : String := "MappingMovesLaw"
abbrev cL_get : ByteArray := method_3_code
def yL_get : MethodName := ⟨RL, "get", "(LMappingMoves;II[J)I"⟩
abbrev cL_law : ByteArray := code
def yL_law : MethodName := ⟨RL, "law", "([I)Z"⟩
set_option maxRecDepth 20000 in
abbrev vwCl : List vw_C := [(RJ0, TJ0, 2), (RJx00060, TJx00060, 6), (RJx5d777, TJx5d777, 8), (RX0, TX0, 4), (RX1, TX1, 4), (RX2, TX2, 5), (RX3, TX3, 17)]
end
section
theorem dX0_init_0 : decode cX0_init 0 = .ok (.aload_n 0, 1) := by decide +kernel
theorem dX0_init_1 : decode cX0_init 1 = .ok (.invokespecial 3, 3) := by decide +kernel
theorem dX0_init_4 : decode cX0_init 4 = .ok (.aload_n 0, 1) := by decide +kernel
theorem dX0_init_5 : decode cX0_init 5 = .ok (.iconst (-1), 1) := by decide +kernel
theorem dX0_init_6 : decode cX0_init 6 = .ok (.putfield 9, 3) := by decide +kernel
theorem dX0_init_9 : decode cX0_init 9 = .ok (.aload_n 0, 1) := by decide +kernel
theorem dX0_init_10 : decode cX0_init 10 = .ok (.iconst (-1), 1) := by decide +kernel
theorem dX0_init_11 : decode cX0_init 11 = .ok (.putfield 15, 3) := by decide +kernel
theorem dX0_init_14 : decode cX0_init 14 = .ok (.aload_n 0, 1) := by decide +kernel
theorem dX0_init_15 : decode cX0_init 15 = .ok (.bipush 40, 2) := by decide +kernel
theorem dX0_init_17 : decode cX0_init 17 = .ok (.newarray .long, 2) := by decide +kernel
theorem dX0_init_19 : decode cX0_init 19 = .ok (.putfield 18, 3) := by decide +kernel
theorem dX0_init_22 : decode cX0_init 22 = .ok (.aload_n 0, 1) := by decide +kernel
theorem dX0_init_23 : decode cX0_init 23 = .ok (.bipush 40, 2) := by decide +kernel
theorem dX0_init_25 : decode cX0_init 25 = .ok (.newarray .double, 2) := by decide +kernel
theorem dX0_init_27 : decode cX0_init 27 = .ok (.putfield 22, 3) := by decide +kernel
theorem dX0_init_30 : decode cX0_init 30 = .ok (.return_, 1) := by decide +kernel
theorem dX0_isNone_0 : decode cX0_isNone 0 = .ok (.aload_n 0, 1) := by decide +kernel
theorem dX0_isNone_1 : decode cX0_isNone 1 = .ok (.getfield 9, 3) := by decide +kernel
theorem dX0_isNone_4 : decode cX0_isNone 4 = .ok (.iconst (-1), 1) := by decide +kernel
theorem dX0_isNone_5 : decode cX0_isNone 5 = .ok (.if_icmp .ne 7, 3) := by decide +kernel
theorem dX0_isNone_8 : decode cX0_isNone 8 = .ok (.iconst 1, 1) := by decide +kernel
theorem dX0_isNone_9 : decode cX0_isNone 9 = .ok (.goto 4, 3) := by decide +kernel
theorem dX0_isNone_12 : decode cX0_isNone 12 = .ok (.iconst 0, 1) := by decide +kernel
theorem dX0_isNone_13 : decode cX0_isNone 13 = .ok (.ireturn, 1) := by decide +kernel
theorem dX0_isGone_0 : decode cX0_isGone 0 = .ok (.aload_n 0, 1) := by decide +kernel
theorem dX0_isGone_1 : decode cX0_isGone 1 = .ok (.getfield 15, 3) := by decide +kernel
theorem dX0_isGone_4 : decode cX0_isGone 4 = .ok (.iconst (-1), 1) := by decide +kernel
theorem dX0_isGone_5 : decode cX0_isGone 5 = .ok (.if_icmp .ne 7, 3) := by decide +kernel
theorem dX0_isGone_8 : decode cX0_isGone 8 = .ok (.iconst 1, 1) := by decide +kernel
theorem dX0_isGone_9 : decode cX0_isGone 9 = .ok (.goto 4, 3) := by decide +kernel
theorem dX0_isGone_12 : decode cX0_isGone 12 = .ok (.iconst 0, 1) := by decide +kernel
theorem dX0_isGone_13 : decode cX0_isGone 13 = .ok (.ireturn, 1) := by decide +kernel
theorem dX0_isShelf_0 : decode cX0_isShelf 0 = .ok (.aload_n 0, 1) := by decide +kernel
theorem dX0_isShelf_1 : decode cX0_isShelf 1 = .ok (.getfield 9, 3) := by decide +kernel
theorem dX0_isShelf_4 : decode cX0_isShelf 4 = .ok (.bipush 7, 2) := by decide +kernel
theorem dX0_isShelf_6 : decode cX0_isShelf 6 = .ok (.if_icmp .lt 7, 3) := by decide +kernel
theorem dX0_isShelf_9 : decode cX0_isShelf 9 = .ok (.iconst 1, 1) := by decide +kernel
theorem dX0_isShelf_10 : decode cX0_isShelf 10 = .ok (.goto 4, 3) := by decide +kernel
theorem dX0_isShelf_13 : decode cX0_isShelf 13 = .ok (.iconst 0, 1) := by decide +kernel
theorem dX0_isShelf_14 : decode cX0_isShelf 14 = .ok (.ireturn, 1) := by decide +kernel
theorem dX0_isOfReals_0 : decode cX0_isOfReals 0 = .ok (.aload_n 0, 1) := by decide +kernel
theorem dX0_isOfReals_1 : decode cX0_isOfReals 1 = .ok (.getfield 9, 3) := by decide +kernel
theorem dX0_isOfReals_4 : decode cX0_isOfReals 4 = .ok (.invokestatic 26, 3) := by decide +kernel
theorem dX0_isOfReals_7 : decode cX0_isOfReals 7 = .ok (.ireturn, 1) := by decide +kernel
theorem dX0_hasCell_0 : decode cX0_hasCell 0 = .ok (.iload_n 1, 1) := by decide +kernel
theorem dX0_hasCell_1 : decode cX0_hasCell 1 = .ok (.ifCond .lt 15, 3) := by decide +kernel
theorem dX0_hasCell_4 : decode cX0_hasCell 4 = .ok (.iload_n 1, 1) := by decide +kernel
theorem dX0_hasCell_5 : decode cX0_hasCell 5 = .ok (.aload_n 0, 1) := by decide +kernel
theorem dX0_hasCell_6 : decode cX0_hasCell 6 = .ok (.getfield 15, 3) := by decide +kernel
theorem dX0_hasCell_9 : decode cX0_hasCell 9 = .ok (.if_icmp .ge 7, 3) := by decide +kernel
theorem dX0_hasCell_12 : decode cX0_hasCell 12 = .ok (.iconst 1, 1) := by decide +kernel
theorem dX0_hasCell_13 : decode cX0_hasCell 13 = .ok (.goto 4, 3) := by decide +kernel
theorem dX0_hasCell_16 : decode cX0_hasCell 16 = .ok (.iconst 0, 1) := by decide +kernel
theorem dX0_hasCell_17 : decode cX0_hasCell 17 = .ok (.ireturn, 1) := by decide +kernel
theorem dX0_hasCells_0 : decode cX0_hasCells 0 = .ok (.iload_n 1, 1) := by decide +kernel
theorem dX0_hasCells_1 : decode cX0_hasCells 1 = .ok (.ifCond .lt 21, 3) := by decide +kernel
theorem dX0_hasCells_4 : decode cX0_hasCells 4 = .ok (.iload_n 2, 1) := by decide +kernel
theorem dX0_hasCells_5 : decode cX0_hasCells 5 = .ok (.ifCond .lt 17, 3) := by decide +kernel
theorem dX0_hasCells_8 : decode cX0_hasCells 8 = .ok (.iload_n 2, 1) := by decide +kernel
theorem dX0_hasCells_9 : decode cX0_hasCells 9 = .ok (.aload_n 0, 1) := by decide +kernel
theorem dX0_hasCells_10 : decode cX0_hasCells 10 = .ok (.getfield 15, 3) := by decide +kernel
theorem dX0_hasCells_13 : decode cX0_hasCells 13 = .ok (.iload_n 1, 1) := by decide +kernel
theorem dX0_hasCells_14 : decode cX0_hasCells 14 = .ok (.isub, 1) := by decide +kernel
theorem dX0_hasCells_15 : decode cX0_hasCells 15 = .ok (.if_icmp .gt 7, 3) := by decide +kernel
theorem dX0_hasCells_18 : decode cX0_hasCells 18 = .ok (.iconst 1, 1) := by decide +kernel
theorem dX0_hasCells_19 : decode cX0_hasCells 19 = .ok (.goto 4, 3) := by decide +kernel
theorem dX0_hasCells_22 : decode cX0_hasCells 22 = .ok (.iconst 0, 1) := by decide +kernel
theorem dX0_hasCells_23 : decode cX0_hasCells 23 = .ok (.ireturn, 1) := by decide +kernel
theorem dX0_isForSort_0 : decode cX0_isForSort 0 = .ok (.aload_n 0, 1) := by decide +kernel
theorem dX0_isForSort_1 : decode cX0_isForSort 1 = .ok (.getfield 9, 3) := by decide +kernel
theorem dX0_isForSort_4 : decode cX0_isForSort 4 = .ok (.tableswitch 52 7 9 #[28, 30, 41], 28) := by decide +kernel
theorem dX0_isForSort_32 : decode cX0_isForSort 32 = .ok (.iconst 1, 1) := by decide +kernel
theorem dX0_isForSort_33 : decode cX0_isForSort 33 = .ok (.ireturn, 1) := by decide +kernel
theorem dX0_isForSort_34 : decode cX0_isForSort 34 = .ok (.iload_n 1, 1) := by decide +kernel
theorem dX0_isForSort_35 : decode cX0_isForSort 35 = .ok (.iconst 1, 1) := by decide +kernel
theorem dX0_isForSort_36 : decode cX0_isForSort 36 = .ok (.if_icmp .ne 7, 3) := by decide +kernel
theorem dX0_isForSort_39 : decode cX0_isForSort 39 = .ok (.iconst 1, 1) := by decide +kernel
theorem dX0_isForSort_40 : decode cX0_isForSort 40 = .ok (.goto 4, 3) := by decide +kernel
theorem dX0_isForSort_43 : decode cX0_isForSort 43 = .ok (.iconst 0, 1) := by decide +kernel
theorem dX0_isForSort_44 : decode cX0_isForSort 44 = .ok (.ireturn, 1) := by decide +kernel
theorem dX0_isForSort_45 : decode cX0_isForSort 45 = .ok (.iload_n 1, 1) := by decide +kernel
theorem dX0_isForSort_46 : decode cX0_isForSort 46 = .ok (.iconst 2, 1) := by decide +kernel
theorem dX0_isForSort_47 : decode cX0_isForSort 47 = .ok (.if_icmp .ne 7, 3) := by decide +kernel
theorem dX0_isForSort_50 : decode cX0_isForSort 50 = .ok (.iconst 1, 1) := by decide +kernel
theorem dX0_isForSort_51 : decode cX0_isForSort 51 = .ok (.goto 4, 3) := by decide +kernel
theorem dX0_isForSort_54 : decode cX0_isForSort 54 = .ok (.iconst 0, 1) := by decide +kernel
theorem dX0_isForSort_55 : decode cX0_isForSort 55 = .ok (.ireturn, 1) := by decide +kernel
theorem dX0_isForSort_56 : decode cX0_isForSort 56 = .ok (.iconst 0, 1) := by decide +kernel
theorem dX0_isForSort_57 : decode cX0_isForSort 57 = .ok (.ireturn, 1) := by decide +kernel
theorem dX0_begin_0 : decode cX0_begin 0 = .ok (.aload_n 0, 1) := by decide +kernel
theorem dX0_begin_1 : decode cX0_begin 1 = .ok (.iload_n 1, 1) := by decide +kernel
theorem dX0_begin_2 : decode cX0_begin 2 = .ok (.putfield 9, 3) := by decide +kernel
theorem dX0_begin_5 : decode cX0_begin 5 = .ok (.aload_n 0, 1) := by decide +kernel
theorem dX0_begin_6 : decode cX0_begin 6 = .ok (.iload_n 2, 1) := by decide +kernel
theorem dX0_begin_7 : decode cX0_begin 7 = .ok (.putfield 15, 3) := by decide +kernel
theorem dX0_begin_10 : decode cX0_begin 10 = .ok (.aload_n 0, 1) := by decide +kernel
theorem dX0_begin_11 : decode cX0_begin 11 = .ok (.getfield 18, 3) := by decide +kernel
theorem dX0_begin_14 : decode cX0_begin 14 = .ok (.aload_n 0, 1) := by decide +kernel
theorem dX0_begin_15 : decode cX0_begin 15 = .ok (.invokevirtual 30, 3) := by decide +kernel
theorem dX0_begin_18 : decode cX0_begin 18 = .ok (.ifCond .eq 9, 3) := by decide +kernel
theorem dX0_begin_21 : decode cX0_begin 21 = .ok (.ldc2_w 34, 3) := by decide +kernel
theorem dX0_begin_24 : decode cX0_begin 24 = .ok (.goto 4, 3) := by decide +kernel
theorem dX0_begin_27 : decode cX0_begin 27 = .ok (.lconst 0, 1) := by decide +kernel
theorem dX0_begin_28 : decode cX0_begin 28 = .ok (.invokestatic 36, 3) := by decide +kernel
theorem dX0_begin_31 : decode cX0_begin 31 = .ok (.aload_n 0, 1) := by decide +kernel
theorem dX0_begin_32 : decode cX0_begin 32 = .ok (.getfield 22, 3) := by decide +kernel
theorem dX0_begin_35 : decode cX0_begin 35 = .ok (.dconst 0, 1) := by decide +kernel
theorem dX0_begin_36 : decode cX0_begin 36 = .ok (.invokestatic 42, 3) := by decide +kernel
theorem dX0_begin_39 : decode cX0_begin 39 = .ok (.return_, 1) := by decide +kernel
theorem dX0_letGo_0 : decode cX0_letGo 0 = .ok (.aload_n 0, 1) := by decide +kernel
theorem dX0_letGo_1 : decode cX0_letGo 1 = .ok (.iconst (-1), 1) := by decide +kernel
theorem dX0_letGo_2 : decode cX0_letGo 2 = .ok (.putfield 15, 3) := by decide +kernel
theorem dX0_letGo_5 : decode cX0_letGo 5 = .ok (.return_, 1) := by decide +kernel
theorem dX0_end_0 : decode cX0_end 0 = .ok (.aload_n 0, 1) := by decide +kernel
theorem dX0_end_1 : decode cX0_end 1 = .ok (.iconst (-1), 1) := by decide +kernel
theorem dX0_end_2 : decode cX0_end 2 = .ok (.putfield 9, 3) := by decide +kernel
theorem dX0_end_5 : decode cX0_end 5 = .ok (.aload_n 0, 1) := by decide +kernel
theorem dX0_end_6 : decode cX0_end 6 = .ok (.iconst (-1), 1) := by decide +kernel
theorem dX0_end_7 : decode cX0_end 7 = .ok (.putfield 15, 3) := by decide +kernel
theorem dX0_end_10 : decode cX0_end 10 = .ok (.return_, 1) := by decide +kernel
theorem dX0_heldPart_0 : decode cX0_heldPart 0 = .ok (.aload_n 0, 1) := by decide +kernel
theorem dX0_heldPart_1 : decode cX0_heldPart 1 = .ok (.getfield 18, 3) := by decide +kernel
theorem dX0_heldPart_4 : decode cX0_heldPart 4 = .ok (.iload_n 1, 1) := by decide +kernel
theorem dX0_heldPart_5 : decode cX0_heldPart 5 = .ok (.laload, 1) := by decide +kernel
theorem dX0_heldPart_6 : decode cX0_heldPart 6 = .ok (.l2i, 1) := by decide +kernel
theorem dX0_heldPart_7 : decode cX0_heldPart 7 = .ok (.ireturn, 1) := by decide +kernel
theorem dX0_holdPart_0 : decode cX0_holdPart 0 = .ok (.aload_n 0, 1) := by decide +kernel
theorem dX0_holdPart_1 : decode cX0_holdPart 1 = .ok (.getfield 18, 3) := by decide +kernel
theorem dX0_holdPart_4 : decode cX0_holdPart 4 = .ok (.iload_n 1, 1) := by decide +kernel
theorem dX0_holdPart_5 : decode cX0_holdPart 5 = .ok (.iload_n 2, 1) := by decide +kernel
theorem dX0_holdPart_6 : decode cX0_holdPart 6 = .ok (.i2l, 1) := by decide +kernel
theorem dX0_holdPart_7 : decode cX0_holdPart 7 = .ok (.lastore, 1) := by decide +kernel
theorem dX0_holdPart_8 : decode cX0_holdPart 8 = .ok (.return_, 1) := by decide +kernel
theorem dX0_setNumber_0 : decode cX0_setNumber 0 = .ok (.aload_n 0, 1) := by decide +kernel
theorem dX0_setNumber_1 : decode cX0_setNumber 1 = .ok (.getfield 9, 3) := by decide +kernel
theorem dX0_setNumber_4 : decode cX0_setNumber 4 = .ok (.iconst 5, 1) := by decide +kernel
theorem dX0_setNumber_5 : decode cX0_setNumber 5 = .ok (.if_icmp .ne 18, 3) := by decide +kernel
theorem dX0_setNumber_8 : decode cX0_setNumber 8 = .ok (.aload_n 0, 1) := by decide +kernel
theorem dX0_setNumber_9 : decode cX0_setNumber 9 = .ok (.getfield 22, 3) := by decide +kernel
theorem dX0_setNumber_12 : decode cX0_setNumber 12 = .ok (.iload_n 1, 1) := by decide +kernel
theorem dX0_setNumber_13 : decode cX0_setNumber 13 = .ok (.lload_n 2, 1) := by decide +kernel
theorem dX0_setNumber_14 : decode cX0_setNumber 14 = .ok (.l2f, 1) := by decide +kernel
theorem dX0_setNumber_15 : decode cX0_setNumber 15 = .ok (.ldc 45, 2) := by decide +kernel
theorem dX0_setNumber_17 : decode cX0_setNumber 17 = .ok (.fdiv, 1) := by decide +kernel
theorem dX0_setNumber_18 : decode cX0_setNumber 18 = .ok (.f2d, 1) := by decide +kernel
theorem dX0_setNumber_19 : decode cX0_setNumber 19 = .ok (.dastore, 1) := by decide +kernel
theorem dX0_setNumber_20 : decode cX0_setNumber 20 = .ok (.goto 41, 3) := by decide +kernel
theorem dX0_setNumber_23 : decode cX0_setNumber 23 = .ok (.aload_n 0, 1) := by decide +kernel
theorem dX0_setNumber_24 : decode cX0_setNumber 24 = .ok (.getfield 9, 3) := by decide +kernel
theorem dX0_setNumber_27 : decode cX0_setNumber 27 = .ok (.bipush 6, 2) := by decide +kernel
theorem dX0_setNumber_29 : decode cX0_setNumber 29 = .ok (.if_icmp .ne 18, 3) := by decide +kernel
theorem dX0_setNumber_32 : decode cX0_setNumber 32 = .ok (.aload_n 0, 1) := by decide +kernel
theorem dX0_setNumber_33 : decode cX0_setNumber 33 = .ok (.getfield 22, 3) := by decide +kernel
theorem dX0_setNumber_36 : decode cX0_setNumber 36 = .ok (.iload_n 1, 1) := by decide +kernel
theorem dX0_setNumber_37 : decode cX0_setNumber 37 = .ok (.lload_n 2, 1) := by decide +kernel
theorem dX0_setNumber_38 : decode cX0_setNumber 38 = .ok (.l2d, 1) := by decide +kernel
theorem dX0_setNumber_39 : decode cX0_setNumber 39 = .ok (.ldc2_w 46, 3) := by decide +kernel
theorem dX0_setNumber_42 : decode cX0_setNumber 42 = .ok (.ddiv, 1) := by decide +kernel
theorem dX0_setNumber_43 : decode cX0_setNumber 43 = .ok (.dastore, 1) := by decide +kernel
theorem dX0_setNumber_44 : decode cX0_setNumber 44 = .ok (.goto 17, 3) := by decide +kernel
theorem dX0_setNumber_47 : decode cX0_setNumber 47 = .ok (.aload_n 0, 1) := by decide +kernel
theorem dX0_setNumber_48 : decode cX0_setNumber 48 = .ok (.getfield 18, 3) := by decide +kernel
theorem dX0_setNumber_51 : decode cX0_setNumber 51 = .ok (.iload_n 1, 1) := by decide +kernel
theorem dX0_setNumber_52 : decode cX0_setNumber 52 = .ok (.lload_n 2, 1) := by decide +kernel
theorem dX0_setNumber_53 : decode cX0_setNumber 53 = .ok (.aload_n 0, 1) := by decide +kernel
theorem dX0_setNumber_54 : decode cX0_setNumber 54 = .ok (.getfield 9, 3) := by decide +kernel
theorem dX0_setNumber_57 : decode cX0_setNumber 57 = .ok (.invokestatic 48, 3) := by decide +kernel
theorem dX0_setNumber_60 : decode cX0_setNumber 60 = .ok (.lastore, 1) := by decide +kernel
theorem dX0_setNumber_61 : decode cX0_setNumber 61 = .ok (.return_, 1) := by decide +kernel
theorem dX0_tells_0 : decode cX0_tells 0 = .ok (.aload_n 0, 1) := by decide +kernel
theorem dX0_tells_1 : decode cX0_tells 1 = .ok (.invokevirtual 52, 3) := by decide +kernel
theorem dX0_tells_4 : decode cX0_tells 4 = .ok (.ifCond .eq 17, 3) := by decide +kernel
theorem dX0_tells_7 : decode cX0_tells 7 = .ok (.aload_n 0, 1) := by decide +kernel
theorem dX0_tells_8 : decode cX0_tells 8 = .ok (.getfield 22, 3) := by decide +kernel
theorem dX0_tells_11 : decode cX0_tells 11 = .ok (.iload_n 1, 1) := by decide +kernel
theorem dX0_tells_12 : decode cX0_tells 12 = .ok (.daload, 1) := by decide +kernel
theorem dX0_tells_13 : decode cX0_tells 13 = .ok (.ldc2_w 46, 3) := by decide +kernel
theorem dX0_tells_16 : decode cX0_tells 16 = .ok (.dmul, 1) := by decide +kernel
theorem dX0_tells_17 : decode cX0_tells 17 = .ok (.d2l, 1) := by decide +kernel
theorem dX0_tells_18 : decode cX0_tells 18 = .ok (.goto 9, 3) := by decide +kernel
theorem dX0_tells_21 : decode cX0_tells 21 = .ok (.aload_n 0, 1) := by decide +kernel
theorem dX0_tells_22 : decode cX0_tells 22 = .ok (.getfield 18, 3) := by decide +kernel
theorem dX0_tells_25 : decode cX0_tells 25 = .ok (.iload_n 1, 1) := by decide +kernel
theorem dX0_tells_26 : decode cX0_tells 26 = .ok (.laload, 1) := by decide +kernel
theorem dX0_tells_27 : decode cX0_tells 27 = .ok (.lreturn, 1) := by decide +kernel
theorem dX0_total_0 : decode cX0_total 0 = .ok (.iconst 0, 1) := by decide +kernel
theorem dX0_total_1 : decode cX0_total 1 = .ok (.istore_n 1, 1) := by decide +kernel
theorem dX0_total_2 : decode cX0_total 2 = .ok (.iconst 0, 1) := by decide +kernel
theorem dX0_total_3 : decode cX0_total 3 = .ok (.istore_n 2, 1) := by decide +kernel
theorem dX0_total_4 : decode cX0_total 4 = .ok (.iload_n 2, 1) := by decide +kernel
theorem dX0_total_5 : decode cX0_total 5 = .ok (.aload_n 0, 1) := by decide +kernel
theorem dX0_total_6 : decode cX0_total 6 = .ok (.getfield 15, 3) := by decide +kernel
theorem dX0_total_9 : decode cX0_total 9 = .ok (.if_icmp .ge 18, 3) := by decide +kernel
theorem dX0_total_12 : decode cX0_total 12 = .ok (.iload_n 1, 1) := by decide +kernel
theorem dX0_total_13 : decode cX0_total 13 = .ok (.aload_n 0, 1) := by decide +kernel
theorem dX0_total_14 : decode cX0_total 14 = .ok (.iload_n 2, 1) := by decide +kernel
theorem dX0_total_15 : decode cX0_total 15 = .ok (.invokevirtual 55, 3) := by decide +kernel
theorem dX0_total_18 : decode cX0_total 18 = .ok (.l2i, 1) := by decide +kernel
theorem dX0_total_19 : decode cX0_total 19 = .ok (.iadd, 1) := by decide +kernel
theorem dX0_total_20 : decode cX0_total 20 = .ok (.istore_n 1, 1) := by decide +kernel
theorem dX0_total_21 : decode cX0_total 21 = .ok (.iinc 2 1, 3) := by decide +kernel
theorem dX0_total_24 : decode cX0_total 24 = .ok (.goto (-20), 3) := by decide +kernel
theorem dX0_total_27 : decode cX0_total 27 = .ok (.iload_n 1, 1) := by decide +kernel
theorem dX0_total_28 : decode cX0_total 28 = .ok (.ireturn, 1) := by decide +kernel
theorem dX0_firstNotIn_0 : decode cX0_firstNotIn 0 = .ok (.iconst 0, 1) := by decide +kernel
theorem dX0_firstNotIn_1 : decode cX0_firstNotIn 1 = .ok (.istore_n 2, 1) := by decide +kernel
theorem dX0_firstNotIn_2 : decode cX0_firstNotIn 2 = .ok (.iload_n 2, 1) := by decide +kernel
theorem dX0_firstNotIn_3 : decode cX0_firstNotIn 3 = .ok (.aload_n 0, 1) := by decide +kernel
theorem dX0_firstNotIn_4 : decode cX0_firstNotIn 4 = .ok (.getfield 15, 3) := by decide +kernel
theorem dX0_firstNotIn_7 : decode cX0_firstNotIn 7 = .ok (.if_icmp .ge 45, 3) := by decide +kernel
theorem dX0_firstNotIn_10 : decode cX0_firstNotIn 10 = .ok (.aload_n 0, 1) := by decide +kernel
theorem dX0_firstNotIn_11 : decode cX0_firstNotIn 11 = .ok (.invokevirtual 52, 3) := by decide +kernel
theorem dX0_firstNotIn_14 : decode cX0_firstNotIn 14 = .ok (.ifCond .eq 19, 3) := by decide +kernel
theorem dX0_firstNotIn_17 : decode cX0_firstNotIn 17 = .ok (.aload_n 0, 1) := by decide +kernel
theorem dX0_firstNotIn_18 : decode cX0_firstNotIn 18 = .ok (.getfield 22, 3) := by decide +kernel
theorem dX0_firstNotIn_21 : decode cX0_firstNotIn 21 = .ok (.iload_n 2, 1) := by decide +kernel
theorem dX0_firstNotIn_22 : decode cX0_firstNotIn 22 = .ok (.daload, 1) := by decide +kernel
theorem dX0_firstNotIn_23 : decode cX0_firstNotIn 23 = .ok (.iload_n 1, 1) := by decide +kernel
theorem dX0_firstNotIn_24 : decode cX0_firstNotIn 24 = .ok (.invokestatic 59, 3) := by decide +kernel
theorem dX0_firstNotIn_27 : decode cX0_firstNotIn 27 = .ok (.ifCond .eq 25, 3) := by decide +kernel
theorem dX0_firstNotIn_30 : decode cX0_firstNotIn 30 = .ok (.goto 16, 3) := by decide +kernel
theorem dX0_firstNotIn_33 : decode cX0_firstNotIn 33 = .ok (.aload_n 0, 1) := by decide +kernel
theorem dX0_firstNotIn_34 : decode cX0_firstNotIn 34 = .ok (.getfield 18, 3) := by decide +kernel
theorem dX0_firstNotIn_37 : decode cX0_firstNotIn 37 = .ok (.iload_n 2, 1) := by decide +kernel
theorem dX0_firstNotIn_38 : decode cX0_firstNotIn 38 = .ok (.laload, 1) := by decide +kernel
theorem dX0_firstNotIn_39 : decode cX0_firstNotIn 39 = .ok (.iload_n 1, 1) := by decide +kernel
theorem dX0_firstNotIn_40 : decode cX0_firstNotIn 40 = .ok (.invokestatic 63, 3) := by decide +kernel
theorem dX0_firstNotIn_43 : decode cX0_firstNotIn 43 = .ok (.ifCond .eq 9, 3) := by decide +kernel
theorem dX0_firstNotIn_46 : decode cX0_firstNotIn 46 = .ok (.iinc 2 1, 3) := by decide +kernel
theorem dX0_firstNotIn_49 : decode cX0_firstNotIn 49 = .ok (.goto (-47), 3) := by decide +kernel
theorem dX0_firstNotIn_52 : decode cX0_firstNotIn 52 = .ok (.iload_n 2, 1) := by decide +kernel
theorem dX0_firstNotIn_53 : decode cX0_firstNotIn 53 = .ok (.ireturn, 1) := by decide +kernel
theorem dX0_becomeKind_0 : decode cX0_becomeKind 0 = .ok (.iload_n 1, 1) := by decide +kernel
theorem dX0_becomeKind_1 : decode cX0_becomeKind 1 = .ok (.invokestatic 26, 3) := by decide +kernel
theorem dX0_becomeKind_4 : decode cX0_becomeKind 4 = .ok (.istore_n 2, 1) := by decide +kernel
theorem dX0_becomeKind_5 : decode cX0_becomeKind 5 = .ok (.iconst 0, 1) := by decide +kernel
theorem dX0_becomeKind_6 : decode cX0_becomeKind 6 = .ok (.istore_n 3, 1) := by decide +kernel
theorem dX0_becomeKind_7 : decode cX0_becomeKind 7 = .ok (.iload_n 3, 1) := by decide +kernel
theorem dX0_becomeKind_8 : decode cX0_becomeKind 8 = .ok (.aload_n 0, 1) := by decide +kernel
theorem dX0_becomeKind_9 : decode cX0_becomeKind 9 = .ok (.getfield 15, 3) := by decide +kernel
theorem dX0_becomeKind_12 : decode cX0_becomeKind 12 = .ok (.if_icmp .ge 60, 3) := by decide +kernel
theorem dX0_becomeKind_15 : decode cX0_becomeKind 15 = .ok (.aload_n 0, 1) := by decide +kernel
theorem dX0_becomeKind_16 : decode cX0_becomeKind 16 = .ok (.invokevirtual 52, 3) := by decide +kernel
theorem dX0_becomeKind_19 : decode cX0_becomeKind 19 = .ok (.ifCond .eq 23, 3) := by decide +kernel
theorem dX0_becomeKind_22 : decode cX0_becomeKind 22 = .ok (.iload_n 2, 1) := by decide +kernel
theorem dX0_becomeKind_23 : decode cX0_becomeKind 23 = .ok (.ifCond .ne 19, 3) := by decide +kernel
theorem dX0_becomeKind_26 : decode cX0_becomeKind 26 = .ok (.aload_n 0, 1) := by decide +kernel
theorem dX0_becomeKind_27 : decode cX0_becomeKind 27 = .ok (.getfield 18, 3) := by decide +kernel
theorem dX0_becomeKind_30 : decode cX0_becomeKind 30 = .ok (.iload_n 3, 1) := by decide +kernel
theorem dX0_becomeKind_31 : decode cX0_becomeKind 31 = .ok (.aload_n 0, 1) := by decide +kernel
theorem dX0_becomeKind_32 : decode cX0_becomeKind 32 = .ok (.getfield 22, 3) := by decide +kernel
theorem dX0_becomeKind_35 : decode cX0_becomeKind 35 = .ok (.iload_n 3, 1) := by decide +kernel
theorem dX0_becomeKind_36 : decode cX0_becomeKind 36 = .ok (.daload, 1) := by decide +kernel
theorem dX0_becomeKind_37 : decode cX0_becomeKind 37 = .ok (.d2l, 1) := by decide +kernel
theorem dX0_becomeKind_38 : decode cX0_becomeKind 38 = .ok (.lastore, 1) := by decide +kernel
theorem dX0_becomeKind_39 : decode cX0_becomeKind 39 = .ok (.goto 27, 3) := by decide +kernel
theorem dX0_becomeKind_42 : decode cX0_becomeKind 42 = .ok (.aload_n 0, 1) := by decide +kernel
theorem dX0_becomeKind_43 : decode cX0_becomeKind 43 = .ok (.invokevirtual 52, 3) := by decide +kernel
theorem dX0_becomeKind_46 : decode cX0_becomeKind 46 = .ok (.ifCond .ne 20, 3) := by decide +kernel
theorem dX0_becomeKind_49 : decode cX0_becomeKind 49 = .ok (.iload_n 2, 1) := by decide +kernel
theorem dX0_becomeKind_50 : decode cX0_becomeKind 50 = .ok (.ifCond .eq 16, 3) := by decide +kernel
theorem dX0_becomeKind_53 : decode cX0_becomeKind 53 = .ok (.aload_n 0, 1) := by decide +kernel
theorem dX0_becomeKind_54 : decode cX0_becomeKind 54 = .ok (.getfield 22, 3) := by decide +kernel
theorem dX0_becomeKind_57 : decode cX0_becomeKind 57 = .ok (.iload_n 3, 1) := by decide +kernel
theorem dX0_becomeKind_58 : decode cX0_becomeKind 58 = .ok (.aload_n 0, 1) := by decide +kernel
theorem dX0_becomeKind_59 : decode cX0_becomeKind 59 = .ok (.getfield 18, 3) := by decide +kernel
theorem dX0_becomeKind_62 : decode cX0_becomeKind 62 = .ok (.iload_n 3, 1) := by decide +kernel
theorem dX0_becomeKind_63 : decode cX0_becomeKind 63 = .ok (.laload, 1) := by decide +kernel
theorem dX0_becomeKind_64 : decode cX0_becomeKind 64 = .ok (.l2d, 1) := by decide +kernel
theorem dX0_becomeKind_65 : decode cX0_becomeKind 65 = .ok (.dastore, 1) := by decide +kernel
theorem dX0_becomeKind_66 : decode cX0_becomeKind 66 = .ok (.iinc 3 1, 3) := by decide +kernel
theorem dX0_becomeKind_69 : decode cX0_becomeKind 69 = .ok (.goto (-62), 3) := by decide +kernel
theorem dX0_becomeKind_72 : decode cX0_becomeKind 72 = .ok (.aload_n 0, 1) := by decide +kernel
theorem dX0_becomeKind_73 : decode cX0_becomeKind 73 = .ok (.iload_n 1, 1) := by decide +kernel
theorem dX0_becomeKind_74 : decode cX0_becomeKind 74 = .ok (.putfield 9, 3) := by decide +kernel
theorem dX0_becomeKind_77 : decode cX0_becomeKind 77 = .ok (.return_, 1) := by decide +kernel
theorem dX0_takeCells_0 : decode cX0_takeCells 0 = .ok (.aload_n 1, 1) := by decide +kernel
theorem dX0_takeCells_1 : decode cX0_takeCells 1 = .ok (.getfield 18, 3) := by decide +kernel
theorem dX0_takeCells_4 : decode cX0_takeCells 4 = .ok (.iload_n 2, 1) := by decide +kernel
theorem dX0_takeCells_5 : decode cX0_takeCells 5 = .ok (.aload_n 0, 1) := by decide +kernel
theorem dX0_takeCells_6 : decode cX0_takeCells 6 = .ok (.getfield 18, 3) := by decide +kernel
theorem dX0_takeCells_9 : decode cX0_takeCells 9 = .ok (.iload_n 3, 1) := by decide +kernel
theorem dX0_takeCells_10 : decode cX0_takeCells 10 = .ok (.iload 4, 2) := by decide +kernel
theorem dX0_takeCells_12 : decode cX0_takeCells 12 = .ok (.invokestatic 67, 3) := by decide +kernel
theorem dX0_takeCells_15 : decode cX0_takeCells 15 = .ok (.aload_n 1, 1) := by decide +kernel
theorem dX0_takeCells_16 : decode cX0_takeCells 16 = .ok (.getfield 22, 3) := by decide +kernel
theorem dX0_takeCells_19 : decode cX0_takeCells 19 = .ok (.iload_n 2, 1) := by decide +kernel
theorem dX0_takeCells_20 : decode cX0_takeCells 20 = .ok (.aload_n 0, 1) := by decide +kernel
theorem dX0_takeCells_21 : decode cX0_takeCells 21 = .ok (.getfield 22, 3) := by decide +kernel
theorem dX0_takeCells_24 : decode cX0_takeCells 24 = .ok (.iload_n 3, 1) := by decide +kernel
theorem dX0_takeCells_25 : decode cX0_takeCells 25 = .ok (.iload 4, 2) := by decide +kernel
theorem dX0_takeCells_27 : decode cX0_takeCells 27 = .ok (.invokestatic 67, 3) := by decide +kernel
theorem dX0_takeCells_30 : decode cX0_takeCells 30 = .ok (.return_, 1) := by decide +kernel
theorem dX0_becomeLike_0 : decode cX0_becomeLike 0 = .ok (.aload_n 0, 1) := by decide +kernel
theorem dX0_becomeLike_1 : decode cX0_becomeLike 1 = .ok (.aload_n 1, 1) := by decide +kernel
theorem dX0_becomeLike_2 : decode cX0_becomeLike 2 = .ok (.getfield 9, 3) := by decide +kernel
theorem dX0_becomeLike_5 : decode cX0_becomeLike 5 = .ok (.putfield 9, 3) := by decide +kernel
theorem dX0_becomeLike_8 : decode cX0_becomeLike 8 = .ok (.aload_n 0, 1) := by decide +kernel
theorem dX0_becomeLike_9 : decode cX0_becomeLike 9 = .ok (.aload_n 1, 1) := by decide +kernel
theorem dX0_becomeLike_10 : decode cX0_becomeLike 10 = .ok (.getfield 15, 3) := by decide +kernel
theorem dX0_becomeLike_13 : decode cX0_becomeLike 13 = .ok (.putfield 15, 3) := by decide +kernel
theorem dX0_becomeLike_16 : decode cX0_becomeLike 16 = .ok (.aload_n 0, 1) := by decide +kernel
theorem dX0_becomeLike_17 : decode cX0_becomeLike 17 = .ok (.aload_n 1, 1) := by decide +kernel
theorem dX0_becomeLike_18 : decode cX0_becomeLike 18 = .ok (.iconst 0, 1) := by decide +kernel
theorem dX0_becomeLike_19 : decode cX0_becomeLike 19 = .ok (.iconst 0, 1) := by decide +kernel
theorem dX0_becomeLike_20 : decode cX0_becomeLike 20 = .ok (.bipush 40, 2) := by decide +kernel
theorem dX0_becomeLike_22 : decode cX0_becomeLike 22 = .ok (.invokevirtual 73, 3) := by decide +kernel
theorem dX0_becomeLike_25 : decode cX0_becomeLike 25 = .ok (.return_, 1) := by decide +kernel
theorem dX0_isSameAs_0 : decode cX0_isSameAs 0 = .ok (.aload_n 0, 1) := by decide +kernel
theorem dX0_isSameAs_1 : decode cX0_isSameAs 1 = .ok (.getfield 9, 3) := by decide +kernel
theorem dX0_isSameAs_4 : decode cX0_isSameAs 4 = .ok (.aload_n 1, 1) := by decide +kernel
theorem dX0_isSameAs_5 : decode cX0_isSameAs 5 = .ok (.getfield 9, 3) := by decide +kernel
theorem dX0_isSameAs_8 : decode cX0_isSameAs 8 = .ok (.if_icmp .ne 14, 3) := by decide +kernel
theorem dX0_isSameAs_11 : decode cX0_isSameAs 11 = .ok (.aload_n 0, 1) := by decide +kernel
theorem dX0_isSameAs_12 : decode cX0_isSameAs 12 = .ok (.getfield 15, 3) := by decide +kernel
theorem dX0_isSameAs_15 : decode cX0_isSameAs 15 = .ok (.aload_n 1, 1) := by decide +kernel
theorem dX0_isSameAs_16 : decode cX0_isSameAs 16 = .ok (.getfield 15, 3) := by decide +kernel
theorem dX0_isSameAs_19 : decode cX0_isSameAs 19 = .ok (.if_icmp .eq 5, 3) := by decide +kernel
theorem dX0_isSameAs_22 : decode cX0_isSameAs 22 = .ok (.iconst 0, 1) := by decide +kernel
theorem dX0_isSameAs_23 : decode cX0_isSameAs 23 = .ok (.ireturn, 1) := by decide +kernel
theorem dX0_isSameAs_24 : decode cX0_isSameAs 24 = .ok (.iconst 0, 1) := by decide +kernel
theorem dX0_isSameAs_25 : decode cX0_isSameAs 25 = .ok (.istore_n 2, 1) := by decide +kernel
theorem dX0_isSameAs_26 : decode cX0_isSameAs 26 = .ok (.iload_n 2, 1) := by decide +kernel
theorem dX0_isSameAs_27 : decode cX0_isSameAs 27 = .ok (.aload_n 0, 1) := by decide +kernel
theorem dX0_isSameAs_28 : decode cX0_isSameAs 28 = .ok (.getfield 15, 3) := by decide +kernel
theorem dX0_isSameAs_31 : decode cX0_isSameAs 31 = .ok (.if_icmp .ge 53, 3) := by decide +kernel
theorem dX0_isSameAs_34 : decode cX0_isSameAs 34 = .ok (.aload_n 0, 1) := by decide +kernel
theorem dX0_isSameAs_35 : decode cX0_isSameAs 35 = .ok (.invokevirtual 52, 3) := by decide +kernel
theorem dX0_isSameAs_38 : decode cX0_isSameAs 38 = .ok (.ifCond .eq 22, 3) := by decide +kernel
theorem dX0_isSameAs_41 : decode cX0_isSameAs 41 = .ok (.aload_n 0, 1) := by decide +kernel
theorem dX0_isSameAs_42 : decode cX0_isSameAs 42 = .ok (.getfield 22, 3) := by decide +kernel
theorem dX0_isSameAs_45 : decode cX0_isSameAs 45 = .ok (.iload_n 2, 1) := by decide +kernel
theorem dX0_isSameAs_46 : decode cX0_isSameAs 46 = .ok (.daload, 1) := by decide +kernel
theorem dX0_isSameAs_47 : decode cX0_isSameAs 47 = .ok (.aload_n 1, 1) := by decide +kernel
theorem dX0_isSameAs_48 : decode cX0_isSameAs 48 = .ok (.getfield 22, 3) := by decide +kernel
theorem dX0_isSameAs_51 : decode cX0_isSameAs 51 = .ok (.iload_n 2, 1) := by decide +kernel
theorem dX0_isSameAs_52 : decode cX0_isSameAs 52 = .ok (.daload, 1) := by decide +kernel
theorem dX0_isSameAs_53 : decode cX0_isSameAs 53 = .ok (.dcmp .l, 1) := by decide +kernel
theorem dX0_isSameAs_54 : decode cX0_isSameAs 54 = .ok (.ifCond .eq 24, 3) := by decide +kernel
theorem dX0_isSameAs_57 : decode cX0_isSameAs 57 = .ok (.goto 19, 3) := by decide +kernel
theorem dX0_isSameAs_60 : decode cX0_isSameAs 60 = .ok (.aload_n 0, 1) := by decide +kernel
theorem dX0_isSameAs_61 : decode cX0_isSameAs 61 = .ok (.getfield 18, 3) := by decide +kernel
theorem dX0_isSameAs_64 : decode cX0_isSameAs 64 = .ok (.iload_n 2, 1) := by decide +kernel
theorem dX0_isSameAs_65 : decode cX0_isSameAs 65 = .ok (.laload, 1) := by decide +kernel
theorem dX0_isSameAs_66 : decode cX0_isSameAs 66 = .ok (.aload_n 1, 1) := by decide +kernel
theorem dX0_isSameAs_67 : decode cX0_isSameAs 67 = .ok (.getfield 18, 3) := by decide +kernel
theorem dX0_isSameAs_70 : decode cX0_isSameAs 70 = .ok (.iload_n 2, 1) := by decide +kernel
theorem dX0_isSameAs_71 : decode cX0_isSameAs 71 = .ok (.laload, 1) := by decide +kernel
theorem dX0_isSameAs_72 : decode cX0_isSameAs 72 = .ok (.lcmp, 1) := by decide +kernel
theorem dX0_isSameAs_73 : decode cX0_isSameAs 73 = .ok (.ifCond .eq 5, 3) := by decide +kernel
theorem dX0_isSameAs_76 : decode cX0_isSameAs 76 = .ok (.iconst 0, 1) := by decide +kernel
theorem dX0_isSameAs_77 : decode cX0_isSameAs 77 = .ok (.ireturn, 1) := by decide +kernel
theorem dX0_isSameAs_78 : decode cX0_isSameAs 78 = .ok (.iinc 2 1, 3) := by decide +kernel
theorem dX0_isSameAs_81 : decode cX0_isSameAs 81 = .ok (.goto (-55), 3) := by decide +kernel
theorem dX0_isSameAs_84 : decode cX0_isSameAs 84 = .ok (.iconst 1, 1) := by decide +kernel
theorem dX0_isSameAs_85 : decode cX0_isSameAs 85 = .ok (.ireturn, 1) := by decide +kernel
theorem dX0_countHeldHere_0 : decode cX0_countHeldHere 0 = .ok (.iconst 0, 1) := by decide +kernel
theorem dX0_countHeldHere_1 : decode cX0_countHeldHere 1 = .ok (.istore_n 1, 1) := by decide +kernel
theorem dX0_countHeldHere_2 : decode cX0_countHeldHere 2 = .ok (.aload_n 0, 1) := by decide +kernel
theorem dX0_countHeldHere_3 : decode cX0_countHeldHere 3 = .ok (.invokevirtual 30, 3) := by decide +kernel
theorem dX0_countHeldHere_6 : decode cX0_countHeldHere 6 = .ok (.ifCond .eq 36, 3) := by decide +kernel
theorem dX0_countHeldHere_9 : decode cX0_countHeldHere 9 = .ok (.iconst 0, 1) := by decide +kernel
theorem dX0_countHeldHere_10 : decode cX0_countHeldHere 10 = .ok (.istore_n 2, 1) := by decide +kernel
theorem dX0_countHeldHere_11 : decode cX0_countHeldHere 11 = .ok (.iload_n 2, 1) := by decide +kernel
theorem dX0_countHeldHere_12 : decode cX0_countHeldHere 12 = .ok (.aload_n 0, 1) := by decide +kernel
theorem dX0_countHeldHere_13 : decode cX0_countHeldHere 13 = .ok (.getfield 15, 3) := by decide +kernel
theorem dX0_countHeldHere_16 : decode cX0_countHeldHere 16 = .ok (.if_icmp .ge 26, 3) := by decide +kernel
theorem dX0_countHeldHere_19 : decode cX0_countHeldHere 19 = .ok (.iload_n 1, 1) := by decide +kernel
theorem dX0_countHeldHere_20 : decode cX0_countHeldHere 20 = .ok (.aload_n 0, 1) := by decide +kernel
theorem dX0_countHeldHere_21 : decode cX0_countHeldHere 21 = .ok (.iload_n 2, 1) := by decide +kernel
theorem dX0_countHeldHere_22 : decode cX0_countHeldHere 22 = .ok (.invokevirtual 77, 3) := by decide +kernel
theorem dX0_countHeldHere_25 : decode cX0_countHeldHere 25 = .ok (.iconst (-1), 1) := by decide +kernel
theorem dX0_countHeldHere_26 : decode cX0_countHeldHere 26 = .ok (.if_icmp .ne 7, 3) := by decide +kernel
theorem dX0_countHeldHere_29 : decode cX0_countHeldHere 29 = .ok (.iconst 0, 1) := by decide +kernel
theorem dX0_countHeldHere_30 : decode cX0_countHeldHere 30 = .ok (.goto 4, 3) := by decide +kernel
theorem dX0_countHeldHere_33 : decode cX0_countHeldHere 33 = .ok (.iconst 1, 1) := by decide +kernel
theorem dX0_countHeldHere_34 : decode cX0_countHeldHere 34 = .ok (.iadd, 1) := by decide +kernel
theorem dX0_countHeldHere_35 : decode cX0_countHeldHere 35 = .ok (.istore_n 1, 1) := by decide +kernel
theorem dX0_countHeldHere_36 : decode cX0_countHeldHere 36 = .ok (.iinc 2 1, 3) := by decide +kernel
theorem dX0_countHeldHere_39 : decode cX0_countHeldHere 39 = .ok (.goto (-28), 3) := by decide +kernel
theorem dX0_countHeldHere_42 : decode cX0_countHeldHere 42 = .ok (.iload_n 1, 1) := by decide +kernel
theorem dX0_countHeldHere_43 : decode cX0_countHeldHere 43 = .ok (.ireturn, 1) := by decide +kernel
theorem dX0_areReals_0 : decode cX0_areReals 0 = .ok (.iload_n 0, 1) := by decide +kernel
theorem dX0_areReals_1 : decode cX0_areReals 1 = .ok (.iconst 5, 1) := by decide +kernel
theorem dX0_areReals_2 : decode cX0_areReals 2 = .ok (.if_icmp .eq 9, 3) := by decide +kernel
theorem dX0_areReals_5 : decode cX0_areReals 5 = .ok (.iload_n 0, 1) := by decide +kernel
theorem dX0_areReals_6 : decode cX0_areReals 6 = .ok (.bipush 6, 2) := by decide +kernel
theorem dX0_areReals_8 : decode cX0_areReals 8 = .ok (.if_icmp .ne 7, 3) := by decide +kernel
theorem dX0_areReals_11 : decode cX0_areReals 11 = .ok (.iconst 1, 1) := by decide +kernel
theorem dX0_areReals_12 : decode cX0_areReals 12 = .ok (.goto 4, 3) := by decide +kernel
theorem dX0_areReals_15 : decode cX0_areReals 15 = .ok (.iconst 0, 1) := by decide +kernel
theorem dX0_areReals_16 : decode cX0_areReals 16 = .ok (.ireturn, 1) := by decide +kernel
theorem dX0_lowestBits_0 : decode cX0_lowestBits 0 = .ok (.iload_n 2, 1) := by decide +kernel
theorem dX0_lowestBits_1 : decode cX0_lowestBits 1 = .ok (.tableswitch 50 0 3 #[31, 36, 41, 46], 31) := by decide +kernel
theorem dX0_lowestBits_32 : decode cX0_lowestBits 32 = .ok (.lload_n 0, 1) := by decide +kernel
theorem dX0_lowestBits_33 : decode cX0_lowestBits 33 = .ok (.l2i, 1) := by decide +kernel
theorem dX0_lowestBits_34 : decode cX0_lowestBits 34 = .ok (.i2b, 1) := by decide +kernel
theorem dX0_lowestBits_35 : decode cX0_lowestBits 35 = .ok (.i2l, 1) := by decide +kernel
theorem dX0_lowestBits_36 : decode cX0_lowestBits 36 = .ok (.lreturn, 1) := by decide +kernel
theorem dX0_lowestBits_37 : decode cX0_lowestBits 37 = .ok (.lload_n 0, 1) := by decide +kernel
theorem dX0_lowestBits_38 : decode cX0_lowestBits 38 = .ok (.l2i, 1) := by decide +kernel
theorem dX0_lowestBits_39 : decode cX0_lowestBits 39 = .ok (.i2s, 1) := by decide +kernel
theorem dX0_lowestBits_40 : decode cX0_lowestBits 40 = .ok (.i2l, 1) := by decide +kernel
theorem dX0_lowestBits_41 : decode cX0_lowestBits 41 = .ok (.lreturn, 1) := by decide +kernel
theorem dX0_lowestBits_42 : decode cX0_lowestBits 42 = .ok (.lload_n 0, 1) := by decide +kernel
theorem dX0_lowestBits_43 : decode cX0_lowestBits 43 = .ok (.l2i, 1) := by decide +kernel
theorem dX0_lowestBits_44 : decode cX0_lowestBits 44 = .ok (.i2c, 1) := by decide +kernel
theorem dX0_lowestBits_45 : decode cX0_lowestBits 45 = .ok (.i2l, 1) := by decide +kernel
theorem dX0_lowestBits_46 : decode cX0_lowestBits 46 = .ok (.lreturn, 1) := by decide +kernel
theorem dX0_lowestBits_47 : decode cX0_lowestBits 47 = .ok (.lload_n 0, 1) := by decide +kernel
theorem dX0_lowestBits_48 : decode cX0_lowestBits 48 = .ok (.l2i, 1) := by decide +kernel
theorem dX0_lowestBits_49 : decode cX0_lowestBits 49 = .ok (.i2l, 1) := by decide +kernel
theorem dX0_lowestBits_50 : decode cX0_lowestBits 50 = .ok (.lreturn, 1) := by decide +kernel
theorem dX0_lowestBits_51 : decode cX0_lowestBits 51 = .ok (.lload_n 0, 1) := by decide +kernel
theorem dX0_lowestBits_52 : decode cX0_lowestBits 52 = .ok (.lreturn, 1) := by decide +kernel
theorem dX0_wholeFits_0 : decode cX0_wholeFits 0 = .ok (.iload_n 2, 1) := by decide +kernel
theorem dX0_wholeFits_1 : decode cX0_wholeFits 1 = .ok (.lookupswitch 42 #[(5, 27), (6, 35)], 27) := by decide +kernel
theorem dX0_wholeFits_28 : decode cX0_wholeFits 28 = .ok (.lload_n 0, 1) := by decide +kernel
theorem dX0_wholeFits_29 : decode cX0_wholeFits 29 = .ok (.l2f, 1) := by decide +kernel
theorem dX0_wholeFits_30 : decode cX0_wholeFits 30 = .ok (.f2d, 1) := by decide +kernel
theorem dX0_wholeFits_31 : decode cX0_wholeFits 31 = .ok (.lload_n 0, 1) := by decide +kernel
theorem dX0_wholeFits_32 : decode cX0_wholeFits 32 = .ok (.invokestatic 81, 3) := by decide +kernel
theorem dX0_wholeFits_35 : decode cX0_wholeFits 35 = .ok (.ireturn, 1) := by decide +kernel
theorem dX0_wholeFits_36 : decode cX0_wholeFits 36 = .ok (.lload_n 0, 1) := by decide +kernel
theorem dX0_wholeFits_37 : decode cX0_wholeFits 37 = .ok (.l2d, 1) := by decide +kernel
theorem dX0_wholeFits_38 : decode cX0_wholeFits 38 = .ok (.lload_n 0, 1) := by decide +kernel
theorem dX0_wholeFits_39 : decode cX0_wholeFits 39 = .ok (.invokestatic 81, 3) := by decide +kernel
theorem dX0_wholeFits_42 : decode cX0_wholeFits 42 = .ok (.ireturn, 1) := by decide +kernel
theorem dX0_wholeFits_43 : decode cX0_wholeFits 43 = .ok (.lload_n 0, 1) := by decide +kernel
theorem dX0_wholeFits_44 : decode cX0_wholeFits 44 = .ok (.iload_n 2, 1) := by decide +kernel
theorem dX0_wholeFits_45 : decode cX0_wholeFits 45 = .ok (.invokestatic 48, 3) := by decide +kernel
theorem dX0_wholeFits_48 : decode cX0_wholeFits 48 = .ok (.lload_n 0, 1) := by decide +kernel
theorem dX0_wholeFits_49 : decode cX0_wholeFits 49 = .ok (.lcmp, 1) := by decide +kernel
theorem dX0_wholeFits_50 : decode cX0_wholeFits 50 = .ok (.ifCond .ne 7, 3) := by decide +kernel
theorem dX0_wholeFits_53 : decode cX0_wholeFits 53 = .ok (.iconst 1, 1) := by decide +kernel
theorem dX0_wholeFits_54 : decode cX0_wholeFits 54 = .ok (.goto 4, 3) := by decide +kernel
theorem dX0_wholeFits_57 : decode cX0_wholeFits 57 = .ok (.iconst 0, 1) := by decide +kernel
theorem dX0_wholeFits_58 : decode cX0_wholeFits 58 = .ok (.ireturn, 1) := by decide +kernel
theorem dX0_realFits_0 : decode cX0_realFits 0 = .ok (.iload_n 2, 1) := by decide +kernel
theorem dX0_realFits_1 : decode cX0_realFits 1 = .ok (.lookupswitch 43 #[(5, 27), (6, 41)], 27) := by decide +kernel
theorem dX0_realFits_28 : decode cX0_realFits 28 = .ok (.dload_n 0, 1) := by decide +kernel
theorem dX0_realFits_29 : decode cX0_realFits 29 = .ok (.d2f, 1) := by decide +kernel
theorem dX0_realFits_30 : decode cX0_realFits 30 = .ok (.f2d, 1) := by decide +kernel
theorem dX0_realFits_31 : decode cX0_realFits 31 = .ok (.dload_n 0, 1) := by decide +kernel
theorem dX0_realFits_32 : decode cX0_realFits 32 = .ok (.dcmp .l, 1) := by decide +kernel
theorem dX0_realFits_33 : decode cX0_realFits 33 = .ok (.ifCond .ne 7, 3) := by decide +kernel
theorem dX0_realFits_36 : decode cX0_realFits 36 = .ok (.iconst 1, 1) := by decide +kernel
theorem dX0_realFits_37 : decode cX0_realFits 37 = .ok (.goto 4, 3) := by decide +kernel
theorem dX0_realFits_40 : decode cX0_realFits 40 = .ok (.iconst 0, 1) := by decide +kernel
theorem dX0_realFits_41 : decode cX0_realFits 41 = .ok (.ireturn, 1) := by decide +kernel
theorem dX0_realFits_42 : decode cX0_realFits 42 = .ok (.iconst 1, 1) := by decide +kernel
theorem dX0_realFits_43 : decode cX0_realFits 43 = .ok (.ireturn, 1) := by decide +kernel
theorem dX0_realFits_44 : decode cX0_realFits 44 = .ok (.dload_n 0, 1) := by decide +kernel
theorem dX0_realFits_45 : decode cX0_realFits 45 = .ok (.dload_n 0, 1) := by decide +kernel
theorem dX0_realFits_46 : decode cX0_realFits 46 = .ok (.d2l, 1) := by decide +kernel
theorem dX0_realFits_47 : decode cX0_realFits 47 = .ok (.invokestatic 81, 3) := by decide +kernel
theorem dX0_realFits_50 : decode cX0_realFits 50 = .ok (.ifCond .eq 16, 3) := by decide +kernel
theorem dX0_realFits_53 : decode cX0_realFits 53 = .ok (.dload_n 0, 1) := by decide +kernel
theorem dX0_realFits_54 : decode cX0_realFits 54 = .ok (.d2l, 1) := by decide +kernel
theorem dX0_realFits_55 : decode cX0_realFits 55 = .ok (.iload_n 2, 1) := by decide +kernel
theorem dX0_realFits_56 : decode cX0_realFits 56 = .ok (.invokestatic 63, 3) := by decide +kernel
theorem dX0_realFits_59 : decode cX0_realFits 59 = .ok (.ifCond .eq 7, 3) := by decide +kernel
theorem dX0_realFits_62 : decode cX0_realFits 62 = .ok (.iconst 1, 1) := by decide +kernel
theorem dX0_realFits_63 : decode cX0_realFits 63 = .ok (.goto 4, 3) := by decide +kernel
theorem dX0_realFits_66 : decode cX0_realFits 66 = .ok (.iconst 0, 1) := by decide +kernel
theorem dX0_realFits_67 : decode cX0_realFits 67 = .ok (.ireturn, 1) := by decide +kernel
theorem dX0_isJust_0 : decode cX0_isJust 0 = .ok (.dload_n 0, 1) := by decide +kernel
theorem dX0_isJust_1 : decode cX0_isJust 1 = .ok (.ldc2_w 85, 3) := by decide +kernel
theorem dX0_isJust_4 : decode cX0_isJust 4 = .ok (.dcmp .g, 1) := by decide +kernel
theorem dX0_isJust_5 : decode cX0_isJust 5 = .ok (.ifCond .ge 21, 3) := by decide +kernel
theorem dX0_isJust_8 : decode cX0_isJust 8 = .ok (.lload_n 2, 1) := by decide +kernel
theorem dX0_isJust_9 : decode cX0_isJust 9 = .ok (.l2d, 1) := by decide +kernel
theorem dX0_isJust_10 : decode cX0_isJust 10 = .ok (.dload_n 0, 1) := by decide +kernel
theorem dX0_isJust_11 : decode cX0_isJust 11 = .ok (.dcmp .l, 1) := by decide +kernel
theorem dX0_isJust_12 : decode cX0_isJust 12 = .ok (.ifCond .ne 14, 3) := by decide +kernel
theorem dX0_isJust_15 : decode cX0_isJust 15 = .ok (.dload_n 0, 1) := by decide +kernel
theorem dX0_isJust_16 : decode cX0_isJust 16 = .ok (.d2l, 1) := by decide +kernel
theorem dX0_isJust_17 : decode cX0_isJust 17 = .ok (.lload_n 2, 1) := by decide +kernel
theorem dX0_isJust_18 : decode cX0_isJust 18 = .ok (.lcmp, 1) := by decide +kernel
theorem dX0_isJust_19 : decode cX0_isJust 19 = .ok (.ifCond .ne 7, 3) := by decide +kernel
theorem dX0_isJust_22 : decode cX0_isJust 22 = .ok (.iconst 1, 1) := by decide +kernel
theorem dX0_isJust_23 : decode cX0_isJust 23 = .ok (.goto 4, 3) := by decide +kernel
theorem dX0_isJust_26 : decode cX0_isJust 26 = .ok (.iconst 0, 1) := by decide +kernel
theorem dX0_isJust_27 : decode cX0_isJust 27 = .ok (.ireturn, 1) := by decide +kernel
theorem dX1_init_0 : decode cX1_init 0 = .ok (.aload_n 0, 1) := by decide +kernel
theorem dX1_init_1 : decode cX1_init 1 = .ok (.invokespecial 3, 3) := by decide +kernel
theorem dX1_init_4 : decode cX1_init 4 = .ok (.aload_n 0, 1) := by decide +kernel
theorem dX1_init_5 : decode cX1_init 5 = .ok (.iconst 0, 1) := by decide +kernel
theorem dX1_init_6 : decode cX1_init 6 = .ok (.putfield 9, 3) := by decide +kernel
theorem dX1_init_9 : decode cX1_init 9 = .ok (.aload_n 0, 1) := by decide +kernel
theorem dX1_init_10 : decode cX1_init 10 = .ok (.iconst 0, 1) := by decide +kernel
theorem dX1_init_11 : decode cX1_init 11 = .ok (.putfield 15, 3) := by decide +kernel
theorem dX1_init_14 : decode cX1_init 14 = .ok (.aload_n 0, 1) := by decide +kernel
theorem dX1_init_15 : decode cX1_init 15 = .ok (.iconst 0, 1) := by decide +kernel
theorem dX1_init_16 : decode cX1_init 16 = .ok (.putfield 18, 3) := by decide +kernel
theorem dX1_init_19 : decode cX1_init 19 = .ok (.aload_n 0, 1) := by decide +kernel
theorem dX1_init_20 : decode cX1_init 20 = .ok (.iconst (-1), 1) := by decide +kernel
theorem dX1_init_21 : decode cX1_init 21 = .ok (.putfield 21, 3) := by decide +kernel
theorem dX1_init_24 : decode cX1_init 24 = .ok (.return_, 1) := by decide +kernel
theorem dX1_begin_0 : decode cX1_begin 0 = .ok (.aload_n 0, 1) := by decide +kernel
theorem dX1_begin_1 : decode cX1_begin 1 = .ok (.iload_n 1, 1) := by decide +kernel
theorem dX1_begin_2 : decode cX1_begin 2 = .ok (.putfield 9, 3) := by decide +kernel
theorem dX1_begin_5 : decode cX1_begin 5 = .ok (.aload_n 0, 1) := by decide +kernel
theorem dX1_begin_6 : decode cX1_begin 6 = .ok (.iload_n 2, 1) := by decide +kernel
theorem dX1_begin_7 : decode cX1_begin 7 = .ok (.putfield 15, 3) := by decide +kernel
theorem dX1_begin_10 : decode cX1_begin 10 = .ok (.return_, 1) := by decide +kernel
theorem dX1_weighed_0 : decode cX1_weighed 0 = .ok (.aload_n 0, 1) := by decide +kernel
theorem dX1_weighed_1 : decode cX1_weighed 1 = .ok (.getfield 9, 3) := by decide +kernel
theorem dX1_weighed_4 : decode cX1_weighed 4 = .ok (.lookupswitch 56 #[(1, 28), (2, 40)], 28) := by decide +kernel
theorem dX1_weighed_32 : decode cX1_weighed 32 = .ok (.aload_n 0, 1) := by decide +kernel
theorem dX1_weighed_33 : decode cX1_weighed 33 = .ok (.getfield 15, 3) := by decide +kernel
theorem dX1_weighed_36 : decode cX1_weighed 36 = .ok (.iconst 3, 1) := by decide +kernel
theorem dX1_weighed_37 : decode cX1_weighed 37 = .ok (.aload_n 0, 1) := by decide +kernel
theorem dX1_weighed_38 : decode cX1_weighed 38 = .ok (.getfield 18, 3) := by decide +kernel
theorem dX1_weighed_41 : decode cX1_weighed 41 = .ok (.imul, 1) := by decide +kernel
theorem dX1_weighed_42 : decode cX1_weighed 42 = .ok (.iadd, 1) := by decide +kernel
theorem dX1_weighed_43 : decode cX1_weighed 43 = .ok (.ireturn, 1) := by decide +kernel
theorem dX1_weighed_44 : decode cX1_weighed 44 = .ok (.aload_n 0, 1) := by decide +kernel
theorem dX1_weighed_45 : decode cX1_weighed 45 = .ok (.getfield 15, 3) := by decide +kernel
theorem dX1_weighed_48 : decode cX1_weighed 48 = .ok (.iconst 2, 1) := by decide +kernel
theorem dX1_weighed_49 : decode cX1_weighed 49 = .ok (.idiv, 1) := by decide +kernel
theorem dX1_weighed_50 : decode cX1_weighed 50 = .ok (.aload_n 0, 1) := by decide +kernel
theorem dX1_weighed_51 : decode cX1_weighed 51 = .ok (.getfield 18, 3) := by decide +kernel
theorem dX1_weighed_54 : decode cX1_weighed 54 = .ok (.iconst 1, 1) := by decide +kernel
theorem dX1_weighed_55 : decode cX1_weighed 55 = .ok (.iadd, 1) := by decide +kernel
theorem dX1_weighed_56 : decode cX1_weighed 56 = .ok (.iconst 2, 1) := by decide +kernel
theorem dX1_weighed_57 : decode cX1_weighed 57 = .ok (.idiv, 1) := by decide +kernel
theorem dX1_weighed_58 : decode cX1_weighed 58 = .ok (.iadd, 1) := by decide +kernel
theorem dX1_weighed_59 : decode cX1_weighed 59 = .ok (.ireturn, 1) := by decide +kernel
theorem dX1_weighed_60 : decode cX1_weighed 60 = .ok (.aload_n 0, 1) := by decide +kernel
theorem dX1_weighed_61 : decode cX1_weighed 61 = .ok (.getfield 15, 3) := by decide +kernel
theorem dX1_weighed_64 : decode cX1_weighed 64 = .ok (.ireturn, 1) := by decide +kernel
theorem dX2_init_0 : decode cX2_init 0 = .ok (.aload_n 0, 1) := by decide +kernel
theorem dX2_init_1 : decode cX2_init 1 = .ok (.invokespecial 3, 3) := by decide +kernel
theorem dX2_init_4 : decode cX2_init 4 = .ok (.aload_n 0, 1) := by decide +kernel
theorem dX2_init_5 : decode cX2_init 5 = .ok (.bipush 24, 2) := by decide +kernel
theorem dX2_init_7 : decode cX2_init 7 = .ok (.anewarray 9, 3) := by decide +kernel
theorem dX2_init_10 : decode cX2_init 10 = .ok (.putfield 11, 3) := by decide +kernel
theorem dX2_init_13 : decode cX2_init 13 = .ok (.aload_n 0, 1) := by decide +kernel
theorem dX2_init_14 : decode cX2_init 14 = .ok (.bipush 6, 2) := by decide +kernel
theorem dX2_init_16 : decode cX2_init 16 = .ok (.anewarray 9, 3) := by decide +kernel
theorem dX2_init_19 : decode cX2_init 19 = .ok (.putfield 15, 3) := by decide +kernel
theorem dX2_init_22 : decode cX2_init 22 = .ok (.aload_n 0, 1) := by decide +kernel
theorem dX2_init_23 : decode cX2_init 23 = .ok (.bipush 40, 2) := by decide +kernel
theorem dX2_init_25 : decode cX2_init 25 = .ok (.anewarray 18, 3) := by decide +kernel
theorem dX2_init_28 : decode cX2_init 28 = .ok (.putfield 20, 3) := by decide +kernel
theorem dX2_init_31 : decode cX2_init 31 = .ok (.aload_n 0, 1) := by decide +kernel
theorem dX2_init_32 : decode cX2_init 32 = .ok (.iconst 0, 1) := by decide +kernel
theorem dX2_init_33 : decode cX2_init 33 = .ok (.putfield 24, 3) := by decide +kernel
theorem dX2_init_36 : decode cX2_init 36 = .ok (.aload_n 0, 1) := by decide +kernel
theorem dX2_init_37 : decode cX2_init 37 = .ok (.iconst 0, 1) := by decide +kernel
theorem dX2_init_38 : decode cX2_init 38 = .ok (.putfield 28, 3) := by decide +kernel
theorem dX2_init_41 : decode cX2_init 41 = .ok (.iconst 0, 1) := by decide +kernel
theorem dX2_init_42 : decode cX2_init 42 = .ok (.istore_n 1, 1) := by decide +kernel
theorem dX2_init_43 : decode cX2_init 43 = .ok (.iload_n 1, 1) := by decide +kernel
theorem dX2_init_44 : decode cX2_init 44 = .ok (.bipush 24, 2) := by decide +kernel
theorem dX2_init_46 : decode cX2_init 46 = .ok (.if_icmp .ge 22, 3) := by decide +kernel
theorem dX2_init_49 : decode cX2_init 49 = .ok (.aload_n 0, 1) := by decide +kernel
theorem dX2_init_50 : decode cX2_init 50 = .ok (.getfield 11, 3) := by decide +kernel
theorem dX2_init_53 : decode cX2_init 53 = .ok (.iload_n 1, 1) := by decide +kernel
theorem dX2_init_54 : decode cX2_init 54 = .ok (.new 9, 3) := by decide +kernel
theorem dX2_init_57 : decode cX2_init 57 = .ok (.dup, 1) := by decide +kernel
theorem dX2_init_58 : decode cX2_init 58 = .ok (.invokespecial 31, 3) := by decide +kernel
theorem dX2_init_61 : decode cX2_init 61 = .ok (.aastore, 1) := by decide +kernel
theorem dX2_init_62 : decode cX2_init 62 = .ok (.iinc 1 1, 3) := by decide +kernel
theorem dX2_init_65 : decode cX2_init 65 = .ok (.goto (-22), 3) := by decide +kernel
theorem dX2_init_68 : decode cX2_init 68 = .ok (.iconst 0, 1) := by decide +kernel
theorem dX2_init_69 : decode cX2_init 69 = .ok (.istore_n 1, 1) := by decide +kernel
theorem dX2_init_70 : decode cX2_init 70 = .ok (.iload_n 1, 1) := by decide +kernel
theorem dX2_init_71 : decode cX2_init 71 = .ok (.bipush 6, 2) := by decide +kernel
theorem dX2_init_73 : decode cX2_init 73 = .ok (.if_icmp .ge 22, 3) := by decide +kernel
theorem dX2_init_76 : decode cX2_init 76 = .ok (.aload_n 0, 1) := by decide +kernel
theorem dX2_init_77 : decode cX2_init 77 = .ok (.getfield 15, 3) := by decide +kernel
theorem dX2_init_80 : decode cX2_init 80 = .ok (.iload_n 1, 1) := by decide +kernel
theorem dX2_init_81 : decode cX2_init 81 = .ok (.new 9, 3) := by decide +kernel
theorem dX2_init_84 : decode cX2_init 84 = .ok (.dup, 1) := by decide +kernel
theorem dX2_init_85 : decode cX2_init 85 = .ok (.invokespecial 31, 3) := by decide +kernel
theorem dX2_init_88 : decode cX2_init 88 = .ok (.aastore, 1) := by decide +kernel
theorem dX2_init_89 : decode cX2_init 89 = .ok (.iinc 1 1, 3) := by decide +kernel
theorem dX2_init_92 : decode cX2_init 92 = .ok (.goto (-22), 3) := by decide +kernel
theorem dX2_init_95 : decode cX2_init 95 = .ok (.iconst 0, 1) := by decide +kernel
theorem dX2_init_96 : decode cX2_init 96 = .ok (.istore_n 1, 1) := by decide +kernel
theorem dX2_init_97 : decode cX2_init 97 = .ok (.iload_n 1, 1) := by decide +kernel
theorem dX2_init_98 : decode cX2_init 98 = .ok (.bipush 40, 2) := by decide +kernel
theorem dX2_init_100 : decode cX2_init 100 = .ok (.if_icmp .ge 22, 3) := by decide +kernel
theorem dX2_init_103 : decode cX2_init 103 = .ok (.aload_n 0, 1) := by decide +kernel
theorem dX2_init_104 : decode cX2_init 104 = .ok (.getfield 20, 3) := by decide +kernel
theorem dX2_init_107 : decode cX2_init 107 = .ok (.iload_n 1, 1) := by decide +kernel
theorem dX2_init_108 : decode cX2_init 108 = .ok (.new 18, 3) := by decide +kernel
theorem dX2_init_111 : decode cX2_init 111 = .ok (.dup, 1) := by decide +kernel
theorem dX2_init_112 : decode cX2_init 112 = .ok (.invokespecial 32, 3) := by decide +kernel
theorem dX2_init_115 : decode cX2_init 115 = .ok (.aastore, 1) := by decide +kernel
theorem dX2_init_116 : decode cX2_init 116 = .ok (.iinc 1 1, 3) := by decide +kernel
theorem dX2_init_119 : decode cX2_init 119 = .ok (.goto (-22), 3) := by decide +kernel
theorem dX2_init_122 : decode cX2_init 122 = .ok (.return_, 1) := by decide +kernel
theorem dX2_make_0 : decode cX2_make 0 = .ok (.iload_n 1, 1) := by decide +kernel
theorem dX2_make_1 : decode cX2_make 1 = .ok (.invokestatic 33, 3) := by decide +kernel
theorem dX2_make_4 : decode cX2_make 4 = .ok (.ifCond .eq 19, 3) := by decide +kernel
theorem dX2_make_7 : decode cX2_make 7 = .ok (.iload_n 2, 1) := by decide +kernel
theorem dX2_make_8 : decode cX2_make 8 = .ok (.ifCond .lt 15, 3) := by decide +kernel
theorem dX2_make_11 : decode cX2_make 11 = .ok (.iload_n 2, 1) := by decide +kernel
theorem dX2_make_12 : decode cX2_make 12 = .ok (.bipush 9, 2) := by decide +kernel
theorem dX2_make_14 : decode cX2_make 14 = .ok (.if_icmp .gt 9, 3) := by decide +kernel
theorem dX2_make_17 : decode cX2_make 17 = .ok (.iload_n 3, 1) := by decide +kernel
theorem dX2_make_18 : decode cX2_make 18 = .ok (.bipush 40, 2) := by decide +kernel
theorem dX2_make_20 : decode cX2_make 20 = .ok (.if_icmp .le 5, 3) := by decide +kernel
theorem dX2_make_23 : decode cX2_make 23 = .ok (.iconst (-1), 1) := by decide +kernel
theorem dX2_make_24 : decode cX2_make 24 = .ok (.ireturn, 1) := by decide +kernel
theorem dX2_make_25 : decode cX2_make 25 = .ok (.iload_n 3, 1) := by decide +kernel
theorem dX2_make_26 : decode cX2_make 26 = .ok (.ifCond .ge 6, 3) := by decide +kernel
theorem dX2_make_29 : decode cX2_make 29 = .ok (.bipush (-16), 2) := by decide +kernel
theorem dX2_make_31 : decode cX2_make 31 = .ok (.ireturn, 1) := by decide +kernel
theorem dX2_make_32 : decode cX2_make 32 = .ok (.aload_n 0, 1) := by decide +kernel
theorem dX2_make_33 : decode cX2_make 33 = .ok (.getfield 11, 3) := by decide +kernel
theorem dX2_make_36 : decode cX2_make 36 = .ok (.iload_n 1, 1) := by decide +kernel
theorem dX2_make_37 : decode cX2_make 37 = .ok (.aaload, 1) := by decide +kernel
theorem dX2_make_38 : decode cX2_make 38 = .ok (.iload_n 2, 1) := by decide +kernel
theorem dX2_make_39 : decode cX2_make 39 = .ok (.iload_n 3, 1) := by decide +kernel
theorem dX2_make_40 : decode cX2_make 40 = .ok (.invokevirtual 37, 3) := by decide +kernel
theorem dX2_make_43 : decode cX2_make 43 = .ok (.iload_n 3, 1) := by decide +kernel
theorem dX2_make_44 : decode cX2_make 44 = .ok (.ireturn, 1) := by decide +kernel
theorem dX2_let_0 : decode cX2_let 0 = .ok (.iload_n 1, 1) := by decide +kernel
theorem dX2_let_1 : decode cX2_let 1 = .ok (.invokestatic 33, 3) := by decide +kernel
theorem dX2_let_4 : decode cX2_let 4 = .ok (.ifCond .ne 5, 3) := by decide +kernel
theorem dX2_let_7 : decode cX2_let 7 = .ok (.iconst (-1), 1) := by decide +kernel
theorem dX2_let_8 : decode cX2_let 8 = .ok (.ireturn, 1) := by decide +kernel
theorem dX2_let_9 : decode cX2_let 9 = .ok (.aload_n 0, 1) := by decide +kernel
theorem dX2_let_10 : decode cX2_let 10 = .ok (.getfield 11, 3) := by decide +kernel
theorem dX2_let_13 : decode cX2_let 13 = .ok (.iload_n 1, 1) := by decide +kernel
theorem dX2_let_14 : decode cX2_let 14 = .ok (.aaload, 1) := by decide +kernel
theorem dX2_let_15 : decode cX2_let 15 = .ok (.astore_n 2, 1) := by decide +kernel
theorem dX2_let_16 : decode cX2_let 16 = .ok (.aload_n 2, 1) := by decide +kernel
theorem dX2_let_17 : decode cX2_let 17 = .ok (.invokevirtual 41, 3) := by decide +kernel
theorem dX2_let_20 : decode cX2_let 20 = .ok (.ifCond .eq 6, 3) := by decide +kernel
theorem dX2_let_23 : decode cX2_let 23 = .ok (.bipush (-11), 2) := by decide +kernel
theorem dX2_let_25 : decode cX2_let 25 = .ok (.ireturn, 1) := by decide +kernel
theorem dX2_let_26 : decode cX2_let 26 = .ok (.aload_n 2, 1) := by decide +kernel
theorem dX2_let_27 : decode cX2_let 27 = .ok (.getfield 45, 3) := by decide +kernel
theorem dX2_let_30 : decode cX2_let 30 = .ok (.istore_n 3, 1) := by decide +kernel
theorem dX2_let_31 : decode cX2_let 31 = .ok (.aload_n 2, 1) := by decide +kernel
theorem dX2_let_32 : decode cX2_let 32 = .ok (.invokevirtual 48, 3) := by decide +kernel
theorem dX2_let_35 : decode cX2_let 35 = .ok (.iload_n 3, 1) := by decide +kernel
theorem dX2_let_36 : decode cX2_let 36 = .ok (.ireturn, 1) := by decide +kernel
theorem dX2_drop_0 : decode cX2_drop 0 = .ok (.iload_n 1, 1) := by decide +kernel
theorem dX2_drop_1 : decode cX2_drop 1 = .ok (.invokestatic 33, 3) := by decide +kernel
theorem dX2_drop_4 : decode cX2_drop 4 = .ok (.ifCond .ne 5, 3) := by decide +kernel
theorem dX2_drop_7 : decode cX2_drop 7 = .ok (.iconst (-1), 1) := by decide +kernel
theorem dX2_drop_8 : decode cX2_drop 8 = .ok (.ireturn, 1) := by decide +kernel
theorem dX2_drop_9 : decode cX2_drop 9 = .ok (.aload_n 0, 1) := by decide +kernel
theorem dX2_drop_10 : decode cX2_drop 10 = .ok (.getfield 11, 3) := by decide +kernel
theorem dX2_drop_13 : decode cX2_drop 13 = .ok (.iload_n 1, 1) := by decide +kernel
theorem dX2_drop_14 : decode cX2_drop 14 = .ok (.aaload, 1) := by decide +kernel
theorem dX2_drop_15 : decode cX2_drop 15 = .ok (.astore_n 2, 1) := by decide +kernel
theorem dX2_drop_16 : decode cX2_drop 16 = .ok (.aload_n 2, 1) := by decide +kernel
theorem dX2_drop_17 : decode cX2_drop 17 = .ok (.invokevirtual 51, 3) := by decide +kernel
theorem dX2_drop_20 : decode cX2_drop 20 = .ok (.ifCond .eq 5, 3) := by decide +kernel
theorem dX2_drop_23 : decode cX2_drop 23 = .ok (.iconst 0, 1) := by decide +kernel
theorem dX2_drop_24 : decode cX2_drop 24 = .ok (.ireturn, 1) := by decide +kernel
theorem dX2_drop_25 : decode cX2_drop 25 = .ok (.aload_n 2, 1) := by decide +kernel
theorem dX2_drop_26 : decode cX2_drop 26 = .ok (.invokevirtual 54, 3) := by decide +kernel
theorem dX2_drop_29 : decode cX2_drop 29 = .ok (.iconst 1, 1) := by decide +kernel
theorem dX2_drop_30 : decode cX2_drop 30 = .ok (.ireturn, 1) := by decide +kernel
theorem dX2_kind_0 : decode cX2_kind 0 = .ok (.iload_n 1, 1) := by decide +kernel
theorem dX2_kind_1 : decode cX2_kind 1 = .ok (.invokestatic 33, 3) := by decide +kernel
theorem dX2_kind_4 : decode cX2_kind 4 = .ok (.ifCond .ne 5, 3) := by decide +kernel
theorem dX2_kind_7 : decode cX2_kind 7 = .ok (.iconst (-1), 1) := by decide +kernel
theorem dX2_kind_8 : decode cX2_kind 8 = .ok (.ireturn, 1) := by decide +kernel
theorem dX2_kind_9 : decode cX2_kind 9 = .ok (.aload_n 0, 1) := by decide +kernel
theorem dX2_kind_10 : decode cX2_kind 10 = .ok (.getfield 11, 3) := by decide +kernel
theorem dX2_kind_13 : decode cX2_kind 13 = .ok (.iload_n 1, 1) := by decide +kernel
theorem dX2_kind_14 : decode cX2_kind 14 = .ok (.aaload, 1) := by decide +kernel
theorem dX2_kind_15 : decode cX2_kind 15 = .ok (.astore_n 2, 1) := by decide +kernel
theorem dX2_kind_16 : decode cX2_kind 16 = .ok (.aload_n 2, 1) := by decide +kernel
theorem dX2_kind_17 : decode cX2_kind 17 = .ok (.invokevirtual 51, 3) := by decide +kernel
theorem dX2_kind_20 : decode cX2_kind 20 = .ok (.ifCond .eq 8, 3) := by decide +kernel
theorem dX2_kind_23 : decode cX2_kind 23 = .ok (.bipush (-11), 2) := by decide +kernel
theorem dX2_kind_25 : decode cX2_kind 25 = .ok (.goto 7, 3) := by decide +kernel
theorem dX2_kind_28 : decode cX2_kind 28 = .ok (.aload_n 2, 1) := by decide +kernel
theorem dX2_kind_29 : decode cX2_kind 29 = .ok (.getfield 57, 3) := by decide +kernel
theorem dX2_kind_32 : decode cX2_kind 32 = .ok (.ireturn, 1) := by decide +kernel
theorem dX2_length_0 : decode cX2_length 0 = .ok (.iload_n 1, 1) := by decide +kernel
theorem dX2_length_1 : decode cX2_length 1 = .ok (.invokestatic 33, 3) := by decide +kernel
theorem dX2_length_4 : decode cX2_length 4 = .ok (.ifCond .ne 5, 3) := by decide +kernel
theorem dX2_length_7 : decode cX2_length 7 = .ok (.iconst (-1), 1) := by decide +kernel
theorem dX2_length_8 : decode cX2_length 8 = .ok (.ireturn, 1) := by decide +kernel
theorem dX2_length_9 : decode cX2_length 9 = .ok (.aload_n 0, 1) := by decide +kernel
theorem dX2_length_10 : decode cX2_length 10 = .ok (.getfield 11, 3) := by decide +kernel
theorem dX2_length_13 : decode cX2_length 13 = .ok (.iload_n 1, 1) := by decide +kernel
theorem dX2_length_14 : decode cX2_length 14 = .ok (.aaload, 1) := by decide +kernel
theorem dX2_length_15 : decode cX2_length 15 = .ok (.astore_n 2, 1) := by decide +kernel
theorem dX2_length_16 : decode cX2_length 16 = .ok (.aload_n 2, 1) := by decide +kernel
theorem dX2_length_17 : decode cX2_length 17 = .ok (.invokevirtual 41, 3) := by decide +kernel
theorem dX2_length_20 : decode cX2_length 20 = .ok (.ifCond .eq 8, 3) := by decide +kernel
theorem dX2_length_23 : decode cX2_length 23 = .ok (.bipush (-11), 2) := by decide +kernel
theorem dX2_length_25 : decode cX2_length 25 = .ok (.goto 7, 3) := by decide +kernel
theorem dX2_length_28 : decode cX2_length 28 = .ok (.aload_n 2, 1) := by decide +kernel
theorem dX2_length_29 : decode cX2_length 29 = .ok (.getfield 45, 3) := by decide +kernel
theorem dX2_length_32 : decode cX2_length 32 = .ok (.ireturn, 1) := by decide +kernel
theorem dX2_put_0 : decode cX2_put 0 = .ok (.aload_n 0, 1) := by decide +kernel
theorem dX2_put_1 : decode cX2_put 1 = .ok (.iload_n 1, 1) := by decide +kernel
theorem dX2_put_2 : decode cX2_put 2 = .ok (.iload_n 2, 1) := by decide +kernel
theorem dX2_put_3 : decode cX2_put 3 = .ok (.iconst 0, 1) := by decide +kernel
theorem dX2_put_4 : decode cX2_put 4 = .ok (.invokevirtual 60, 3) := by decide +kernel
theorem dX2_put_7 : decode cX2_put 7 = .ok (.istore 5, 2) := by decide +kernel
theorem dX2_put_9 : decode cX2_put 9 = .ok (.iload 5, 2) := by decide +kernel
theorem dX2_put_11 : decode cX2_put 11 = .ok (.ifCond .eq 6, 3) := by decide +kernel
theorem dX2_put_14 : decode cX2_put 14 = .ok (.iload 5, 2) := by decide +kernel
theorem dX2_put_16 : decode cX2_put 16 = .ok (.ireturn, 1) := by decide +kernel
theorem dX2_put_17 : decode cX2_put 17 = .ok (.aload_n 0, 1) := by decide +kernel
theorem dX2_put_18 : decode cX2_put 18 = .ok (.getfield 11, 3) := by decide +kernel
theorem dX2_put_21 : decode cX2_put 21 = .ok (.iload_n 1, 1) := by decide +kernel
theorem dX2_put_22 : decode cX2_put 22 = .ok (.aaload, 1) := by decide +kernel
theorem dX2_put_23 : decode cX2_put 23 = .ok (.iload_n 2, 1) := by decide +kernel
theorem dX2_put_24 : decode cX2_put 24 = .ok (.lload_n 3, 1) := by decide +kernel
theorem dX2_put_25 : decode cX2_put 25 = .ok (.invokevirtual 64, 3) := by decide +kernel
theorem dX2_put_28 : decode cX2_put 28 = .ok (.iconst 1, 1) := by decide +kernel
theorem dX2_put_29 : decode cX2_put 29 = .ok (.ireturn, 1) := by decide +kernel
theorem dX2_get_0 : decode cX2_get 0 = .ok (.iload_n 1, 1) := by decide +kernel
theorem dX2_get_1 : decode cX2_get 1 = .ok (.invokestatic 33, 3) := by decide +kernel
theorem dX2_get_4 : decode cX2_get 4 = .ok (.ifCond .ne 11, 3) := by decide +kernel
theorem dX2_get_7 : decode cX2_get 7 = .ok (.new 68, 3) := by decide +kernel
theorem dX2_get_10 : decode cX2_get 10 = .ok (.dup, 1) := by decide +kernel
theorem dX2_get_11 : decode cX2_get 11 = .ok (.invokespecial 70, 3) := by decide +kernel
theorem dX2_get_14 : decode cX2_get 14 = .ok (.athrow, 1) := by decide +kernel
theorem dX2_get_15 : decode cX2_get 15 = .ok (.aload_n 0, 1) := by decide +kernel
theorem dX2_get_16 : decode cX2_get 16 = .ok (.getfield 11, 3) := by decide +kernel
theorem dX2_get_19 : decode cX2_get 19 = .ok (.iload_n 1, 1) := by decide +kernel
theorem dX2_get_20 : decode cX2_get 20 = .ok (.aaload, 1) := by decide +kernel
theorem dX2_get_21 : decode cX2_get 21 = .ok (.astore_n 3, 1) := by decide +kernel
theorem dX2_get_22 : decode cX2_get 22 = .ok (.aload_n 3, 1) := by decide +kernel
theorem dX2_get_23 : decode cX2_get 23 = .ok (.invokevirtual 41, 3) := by decide +kernel
theorem dX2_get_26 : decode cX2_get 26 = .ok (.ifCond .eq 11, 3) := by decide +kernel
theorem dX2_get_29 : decode cX2_get 29 = .ok (.new 71, 3) := by decide +kernel
theorem dX2_get_32 : decode cX2_get 32 = .ok (.dup, 1) := by decide +kernel
theorem dX2_get_33 : decode cX2_get 33 = .ok (.invokespecial 73, 3) := by decide +kernel
theorem dX2_get_36 : decode cX2_get 36 = .ok (.athrow, 1) := by decide +kernel
theorem dX2_get_37 : decode cX2_get 37 = .ok (.aload_n 3, 1) := by decide +kernel
theorem dX2_get_38 : decode cX2_get 38 = .ok (.iload_n 2, 1) := by decide +kernel
theorem dX2_get_39 : decode cX2_get 39 = .ok (.invokevirtual 74, 3) := by decide +kernel
theorem dX2_get_42 : decode cX2_get 42 = .ok (.ifCond .ne 11, 3) := by decide +kernel
theorem dX2_get_45 : decode cX2_get 45 = .ok (.new 68, 3) := by decide +kernel
theorem dX2_get_48 : decode cX2_get 48 = .ok (.dup, 1) := by decide +kernel
theorem dX2_get_49 : decode cX2_get 49 = .ok (.invokespecial 70, 3) := by decide +kernel
theorem dX2_get_52 : decode cX2_get 52 = .ok (.athrow, 1) := by decide +kernel
theorem dX2_get_53 : decode cX2_get 53 = .ok (.aload_n 3, 1) := by decide +kernel
theorem dX2_get_54 : decode cX2_get 54 = .ok (.invokevirtual 77, 3) := by decide +kernel
theorem dX2_get_57 : decode cX2_get 57 = .ok (.ifCond .eq 20, 3) := by decide +kernel
theorem dX2_get_60 : decode cX2_get 60 = .ok (.aload_n 3, 1) := by decide +kernel
theorem dX2_get_61 : decode cX2_get 61 = .ok (.iload_n 2, 1) := by decide +kernel
theorem dX2_get_62 : decode cX2_get 62 = .ok (.invokevirtual 80, 3) := by decide +kernel
theorem dX2_get_65 : decode cX2_get 65 = .ok (.iconst (-1), 1) := by decide +kernel
theorem dX2_get_66 : decode cX2_get 66 = .ok (.if_icmp .ne 11, 3) := by decide +kernel
theorem dX2_get_69 : decode cX2_get 69 = .ok (.new 71, 3) := by decide +kernel
theorem dX2_get_72 : decode cX2_get 72 = .ok (.dup, 1) := by decide +kernel
theorem dX2_get_73 : decode cX2_get 73 = .ok (.invokespecial 73, 3) := by decide +kernel
theorem dX2_get_76 : decode cX2_get 76 = .ok (.athrow, 1) := by decide +kernel
theorem dX2_get_77 : decode cX2_get 77 = .ok (.aload_n 3, 1) := by decide +kernel
theorem dX2_get_78 : decode cX2_get 78 = .ok (.iload_n 2, 1) := by decide +kernel
theorem dX2_get_79 : decode cX2_get 79 = .ok (.invokevirtual 84, 3) := by decide +kernel
theorem dX2_get_82 : decode cX2_get 82 = .ok (.lreturn, 1) := by decide +kernel
theorem dX2_sum_0 : decode cX2_sum 0 = .ok (.iload_n 1, 1) := by decide +kernel
theorem dX2_sum_1 : decode cX2_sum 1 = .ok (.invokestatic 33, 3) := by decide +kernel
theorem dX2_sum_4 : decode cX2_sum 4 = .ok (.ifCond .eq 10, 3) := by decide +kernel
theorem dX2_sum_7 : decode cX2_sum 7 = .ok (.iload_n 2, 1) := by decide +kernel
theorem dX2_sum_8 : decode cX2_sum 8 = .ok (.invokestatic 88, 3) := by decide +kernel
theorem dX2_sum_11 : decode cX2_sum 11 = .ok (.ifCond .ne 5, 3) := by decide +kernel
theorem dX2_sum_14 : decode cX2_sum 14 = .ok (.iconst (-1), 1) := by decide +kernel
theorem dX2_sum_15 : decode cX2_sum 15 = .ok (.ireturn, 1) := by decide +kernel
theorem dX2_sum_16 : decode cX2_sum 16 = .ok (.aload_n 0, 1) := by decide +kernel
theorem dX2_sum_17 : decode cX2_sum 17 = .ok (.getfield 11, 3) := by decide +kernel
theorem dX2_sum_20 : decode cX2_sum 20 = .ok (.iload_n 1, 1) := by decide +kernel
theorem dX2_sum_21 : decode cX2_sum 21 = .ok (.aaload, 1) := by decide +kernel
theorem dX2_sum_22 : decode cX2_sum 22 = .ok (.astore_n 3, 1) := by decide +kernel
theorem dX2_sum_23 : decode cX2_sum 23 = .ok (.aload_n 3, 1) := by decide +kernel
theorem dX2_sum_24 : decode cX2_sum 24 = .ok (.invokevirtual 51, 3) := by decide +kernel
theorem dX2_sum_27 : decode cX2_sum 27 = .ok (.ifCond .eq 6, 3) := by decide +kernel
theorem dX2_sum_30 : decode cX2_sum 30 = .ok (.bipush (-11), 2) := by decide +kernel
theorem dX2_sum_32 : decode cX2_sum 32 = .ok (.ireturn, 1) := by decide +kernel
theorem dX2_sum_33 : decode cX2_sum 33 = .ok (.aload_n 3, 1) := by decide +kernel
theorem dX2_sum_34 : decode cX2_sum 34 = .ok (.getfield 57, 3) := by decide +kernel
theorem dX2_sum_37 : decode cX2_sum 37 = .ok (.iload_n 2, 1) := by decide +kernel
theorem dX2_sum_38 : decode cX2_sum 38 = .ok (.if_icmp .eq 6, 3) := by decide +kernel
theorem dX2_sum_41 : decode cX2_sum 41 = .ok (.bipush (-15), 2) := by decide +kernel
theorem dX2_sum_43 : decode cX2_sum 43 = .ok (.ireturn, 1) := by decide +kernel
theorem dX2_sum_44 : decode cX2_sum 44 = .ok (.aload_n 3, 1) := by decide +kernel
theorem dX2_sum_45 : decode cX2_sum 45 = .ok (.invokevirtual 41, 3) := by decide +kernel
theorem dX2_sum_48 : decode cX2_sum 48 = .ok (.ifCond .eq 8, 3) := by decide +kernel
theorem dX2_sum_51 : decode cX2_sum 51 = .ok (.bipush (-11), 2) := by decide +kernel
theorem dX2_sum_53 : decode cX2_sum 53 = .ok (.goto 7, 3) := by decide +kernel
theorem dX2_sum_56 : decode cX2_sum 56 = .ok (.aload_n 3, 1) := by decide +kernel
theorem dX2_sum_57 : decode cX2_sum 57 = .ok (.invokevirtual 91, 3) := by decide +kernel
theorem dX2_sum_60 : decode cX2_sum 60 = .ok (.ireturn, 1) := by decide +kernel
theorem dX2_turn_0 : decode cX2_turn 0 = .ok (.iload_n 1, 1) := by decide +kernel
theorem dX2_turn_1 : decode cX2_turn 1 = .ok (.invokestatic 33, 3) := by decide +kernel
theorem dX2_turn_4 : decode cX2_turn 4 = .ok (.ifCond .eq 10, 3) := by decide +kernel
theorem dX2_turn_7 : decode cX2_turn 7 = .ok (.iload_n 2, 1) := by decide +kernel
theorem dX2_turn_8 : decode cX2_turn 8 = .ok (.invokestatic 88, 3) := by decide +kernel
theorem dX2_turn_11 : decode cX2_turn 11 = .ok (.ifCond .ne 5, 3) := by decide +kernel
theorem dX2_turn_14 : decode cX2_turn 14 = .ok (.iconst (-1), 1) := by decide +kernel
theorem dX2_turn_15 : decode cX2_turn 15 = .ok (.ireturn, 1) := by decide +kernel
theorem dX2_turn_16 : decode cX2_turn 16 = .ok (.aload_n 0, 1) := by decide +kernel
theorem dX2_turn_17 : decode cX2_turn 17 = .ok (.getfield 11, 3) := by decide +kernel
theorem dX2_turn_20 : decode cX2_turn 20 = .ok (.iload_n 1, 1) := by decide +kernel
theorem dX2_turn_21 : decode cX2_turn 21 = .ok (.aaload, 1) := by decide +kernel
theorem dX2_turn_22 : decode cX2_turn 22 = .ok (.astore_n 3, 1) := by decide +kernel
theorem dX2_turn_23 : decode cX2_turn 23 = .ok (.aload_n 3, 1) := by decide +kernel
theorem dX2_turn_24 : decode cX2_turn 24 = .ok (.invokevirtual 51, 3) := by decide +kernel
theorem dX2_turn_27 : decode cX2_turn 27 = .ok (.ifCond .eq 6, 3) := by decide +kernel
theorem dX2_turn_30 : decode cX2_turn 30 = .ok (.bipush (-11), 2) := by decide +kernel
theorem dX2_turn_32 : decode cX2_turn 32 = .ok (.ireturn, 1) := by decide +kernel
theorem dX2_turn_33 : decode cX2_turn 33 = .ok (.aload_n 3, 1) := by decide +kernel
theorem dX2_turn_34 : decode cX2_turn 34 = .ok (.invokevirtual 77, 3) := by decide +kernel
theorem dX2_turn_37 : decode cX2_turn 37 = .ok (.ifCond .eq 6, 3) := by decide +kernel
theorem dX2_turn_40 : decode cX2_turn 40 = .ok (.bipush (-13), 2) := by decide +kernel
theorem dX2_turn_42 : decode cX2_turn 42 = .ok (.ireturn, 1) := by decide +kernel
theorem dX2_turn_43 : decode cX2_turn 43 = .ok (.aload_n 3, 1) := by decide +kernel
theorem dX2_turn_44 : decode cX2_turn 44 = .ok (.invokevirtual 41, 3) := by decide +kernel
theorem dX2_turn_47 : decode cX2_turn 47 = .ok (.ifCond .eq 6, 3) := by decide +kernel
theorem dX2_turn_50 : decode cX2_turn 50 = .ok (.bipush (-11), 2) := by decide +kernel
theorem dX2_turn_52 : decode cX2_turn 52 = .ok (.ireturn, 1) := by decide +kernel
theorem dX2_turn_53 : decode cX2_turn 53 = .ok (.aload_n 3, 1) := by decide +kernel
theorem dX2_turn_54 : decode cX2_turn 54 = .ok (.iload_n 2, 1) := by decide +kernel
theorem dX2_turn_55 : decode cX2_turn 55 = .ok (.invokevirtual 95, 3) := by decide +kernel
theorem dX2_turn_58 : decode cX2_turn 58 = .ok (.istore 4, 2) := by decide +kernel
theorem dX2_turn_60 : decode cX2_turn 60 = .ok (.iload 4, 2) := by decide +kernel
theorem dX2_turn_62 : decode cX2_turn 62 = .ok (.aload_n 3, 1) := by decide +kernel
theorem dX2_turn_63 : decode cX2_turn 63 = .ok (.getfield 45, 3) := by decide +kernel
theorem dX2_turn_66 : decode cX2_turn 66 = .ok (.if_icmp .ge 9, 3) := by decide +kernel
theorem dX2_turn_69 : decode cX2_turn 69 = .ok (.bipush (-20), 2) := by decide +kernel
theorem dX2_turn_71 : decode cX2_turn 71 = .ok (.iload 4, 2) := by decide +kernel
theorem dX2_turn_73 : decode cX2_turn 73 = .ok (.isub, 1) := by decide +kernel
theorem dX2_turn_74 : decode cX2_turn 74 = .ok (.ireturn, 1) := by decide +kernel
theorem dX2_turn_75 : decode cX2_turn 75 = .ok (.aload_n 3, 1) := by decide +kernel
theorem dX2_turn_76 : decode cX2_turn 76 = .ok (.iload_n 2, 1) := by decide +kernel
theorem dX2_turn_77 : decode cX2_turn 77 = .ok (.invokevirtual 98, 3) := by decide +kernel
theorem dX2_turn_80 : decode cX2_turn 80 = .ok (.iconst 1, 1) := by decide +kernel
theorem dX2_turn_81 : decode cX2_turn 81 = .ok (.ireturn, 1) := by decide +kernel
theorem dX2_part_0 : decode cX2_part 0 = .ok (.iload_n 1, 1) := by decide +kernel
theorem dX2_part_1 : decode cX2_part 1 = .ok (.ifCond .lt 19, 3) := by decide +kernel
theorem dX2_part_4 : decode cX2_part 4 = .ok (.iload_n 1, 1) := by decide +kernel
theorem dX2_part_5 : decode cX2_part 5 = .ok (.iconst 2, 1) := by decide +kernel
theorem dX2_part_6 : decode cX2_part 6 = .ok (.if_icmp .gt 14, 3) := by decide +kernel
theorem dX2_part_9 : decode cX2_part 9 = .ok (.iload_n 2, 1) := by decide +kernel
theorem dX2_part_10 : decode cX2_part 10 = .ok (.ifCond .lt 10, 3) := by decide +kernel
theorem dX2_part_13 : decode cX2_part 13 = .ok (.iload_n 2, 1) := by decide +kernel
theorem dX2_part_14 : decode cX2_part 14 = .ok (.sipush 1000, 3) := by decide +kernel
theorem dX2_part_17 : decode cX2_part 17 = .ok (.if_icmp .le 5, 3) := by decide +kernel
theorem dX2_part_20 : decode cX2_part 20 = .ok (.iconst (-1), 1) := by decide +kernel
theorem dX2_part_21 : decode cX2_part 21 = .ok (.ireturn, 1) := by decide +kernel
theorem dX2_part_22 : decode cX2_part 22 = .ok (.aload_n 0, 1) := by decide +kernel
theorem dX2_part_23 : decode cX2_part 23 = .ok (.getfield 24, 3) := by decide +kernel
theorem dX2_part_26 : decode cX2_part 26 = .ok (.bipush 40, 2) := by decide +kernel
theorem dX2_part_28 : decode cX2_part 28 = .ok (.if_icmp .lt 6, 3) := by decide +kernel
theorem dX2_part_31 : decode cX2_part 31 = .ok (.bipush (-2), 2) := by decide +kernel
theorem dX2_part_33 : decode cX2_part 33 = .ok (.ireturn, 1) := by decide +kernel
theorem dX2_part_34 : decode cX2_part 34 = .ok (.aload_n 0, 1) := by decide +kernel
theorem dX2_part_35 : decode cX2_part 35 = .ok (.getfield 24, 3) := by decide +kernel
theorem dX2_part_38 : decode cX2_part 38 = .ok (.istore_n 3, 1) := by decide +kernel
theorem dX2_part_39 : decode cX2_part 39 = .ok (.aload_n 0, 1) := by decide +kernel
theorem dX2_part_40 : decode cX2_part 40 = .ok (.getfield 20, 3) := by decide +kernel
theorem dX2_part_43 : decode cX2_part 43 = .ok (.iload_n 3, 1) := by decide +kernel
theorem dX2_part_44 : decode cX2_part 44 = .ok (.aaload, 1) := by decide +kernel
theorem dX2_part_45 : decode cX2_part 45 = .ok (.iload_n 1, 1) := by decide +kernel
theorem dX2_part_46 : decode cX2_part 46 = .ok (.iload_n 2, 1) := by decide +kernel
theorem dX2_part_47 : decode cX2_part 47 = .ok (.invokevirtual 102, 3) := by decide +kernel
theorem dX2_part_50 : decode cX2_part 50 = .ok (.aload_n 0, 1) := by decide +kernel
theorem dX2_part_51 : decode cX2_part 51 = .ok (.iload_n 3, 1) := by decide +kernel
theorem dX2_part_52 : decode cX2_part 52 = .ok (.iconst 1, 1) := by decide +kernel
theorem dX2_part_53 : decode cX2_part 53 = .ok (.iadd, 1) := by decide +kernel
theorem dX2_part_54 : decode cX2_part 54 = .ok (.putfield 24, 3) := by decide +kernel
theorem dX2_part_57 : decode cX2_part 57 = .ok (.iload_n 3, 1) := by decide +kernel
theorem dX2_part_58 : decode cX2_part 58 = .ok (.ireturn, 1) := by decide +kernel
theorem dX2_lay_0 : decode cX2_lay 0 = .ok (.iload_n 1, 1) := by decide +kernel
theorem dX2_lay_1 : decode cX2_lay 1 = .ok (.invokestatic 33, 3) := by decide +kernel
theorem dX2_lay_4 : decode cX2_lay 4 = .ok (.ifCond .eq 16, 3) := by decide +kernel
theorem dX2_lay_7 : decode cX2_lay 7 = .ok (.iload_n 3, 1) := by decide +kernel
theorem dX2_lay_8 : decode cX2_lay 8 = .ok (.iconst (-1), 1) := by decide +kernel
theorem dX2_lay_9 : decode cX2_lay 9 = .ok (.if_icmp .eq 13, 3) := by decide +kernel
theorem dX2_lay_12 : decode cX2_lay 12 = .ok (.aload_n 0, 1) := by decide +kernel
theorem dX2_lay_13 : decode cX2_lay 13 = .ok (.iload_n 3, 1) := by decide +kernel
theorem dX2_lay_14 : decode cX2_lay 14 = .ok (.invokevirtual 103, 3) := by decide +kernel
theorem dX2_lay_17 : decode cX2_lay 17 = .ok (.ifCond .ne 5, 3) := by decide +kernel
theorem dX2_lay_20 : decode cX2_lay 20 = .ok (.iconst (-1), 1) := by decide +kernel
theorem dX2_lay_21 : decode cX2_lay 21 = .ok (.ireturn, 1) := by decide +kernel
theorem dX2_lay_22 : decode cX2_lay 22 = .ok (.aload_n 0, 1) := by decide +kernel
theorem dX2_lay_23 : decode cX2_lay 23 = .ok (.iload_n 1, 1) := by decide +kernel
theorem dX2_lay_24 : decode cX2_lay 24 = .ok (.iload_n 2, 1) := by decide +kernel
theorem dX2_lay_25 : decode cX2_lay 25 = .ok (.iconst 1, 1) := by decide +kernel
theorem dX2_lay_26 : decode cX2_lay 26 = .ok (.invokevirtual 60, 3) := by decide +kernel
theorem dX2_lay_29 : decode cX2_lay 29 = .ok (.istore 4, 2) := by decide +kernel
theorem dX2_lay_31 : decode cX2_lay 31 = .ok (.iload 4, 2) := by decide +kernel
theorem dX2_lay_33 : decode cX2_lay 33 = .ok (.ifCond .eq 6, 3) := by decide +kernel
theorem dX2_lay_36 : decode cX2_lay 36 = .ok (.iload 4, 2) := by decide +kernel
theorem dX2_lay_38 : decode cX2_lay 38 = .ok (.ireturn, 1) := by decide +kernel
theorem dX2_lay_39 : decode cX2_lay 39 = .ok (.aload_n 0, 1) := by decide +kernel
theorem dX2_lay_40 : decode cX2_lay 40 = .ok (.getfield 11, 3) := by decide +kernel
theorem dX2_lay_43 : decode cX2_lay 43 = .ok (.iload_n 1, 1) := by decide +kernel
theorem dX2_lay_44 : decode cX2_lay 44 = .ok (.aaload, 1) := by decide +kernel
theorem dX2_lay_45 : decode cX2_lay 45 = .ok (.astore 5, 2) := by decide +kernel
theorem dX2_lay_47 : decode cX2_lay 47 = .ok (.aload_n 0, 1) := by decide +kernel
theorem dX2_lay_48 : decode cX2_lay 48 = .ok (.aload 5, 2) := by decide +kernel
theorem dX2_lay_50 : decode cX2_lay 50 = .ok (.iload_n 3, 1) := by decide +kernel
theorem dX2_lay_51 : decode cX2_lay 51 = .ok (.invokevirtual 106, 3) := by decide +kernel
theorem dX2_lay_54 : decode cX2_lay 54 = .ok (.ifCond .ne 6, 3) := by decide +kernel
theorem dX2_lay_57 : decode cX2_lay 57 = .ok (.bipush (-14), 2) := by decide +kernel
theorem dX2_lay_59 : decode cX2_lay 59 = .ok (.ireturn, 1) := by decide +kernel
theorem dX2_lay_60 : decode cX2_lay 60 = .ok (.aload 5, 2) := by decide +kernel
theorem dX2_lay_62 : decode cX2_lay 62 = .ok (.iload_n 2, 1) := by decide +kernel
theorem dX2_lay_63 : decode cX2_lay 63 = .ok (.iload_n 3, 1) := by decide +kernel
theorem dX2_lay_64 : decode cX2_lay 64 = .ok (.invokevirtual 110, 3) := by decide +kernel
theorem dX2_lay_67 : decode cX2_lay 67 = .ok (.aload_n 0, 1) := by decide +kernel
theorem dX2_lay_68 : decode cX2_lay 68 = .ok (.iload_n 3, 1) := by decide +kernel
theorem dX2_lay_69 : decode cX2_lay 69 = .ok (.invokevirtual 103, 3) := by decide +kernel
theorem dX2_lay_72 : decode cX2_lay 72 = .ok (.ifCond .eq 18, 3) := by decide +kernel
theorem dX2_lay_75 : decode cX2_lay 75 = .ok (.aload_n 0, 1) := by decide +kernel
theorem dX2_lay_76 : decode cX2_lay 76 = .ok (.getfield 20, 3) := by decide +kernel
theorem dX2_lay_79 : decode cX2_lay 79 = .ok (.iload_n 3, 1) := by decide +kernel
theorem dX2_lay_80 : decode cX2_lay 80 = .ok (.aaload, 1) := by decide +kernel
theorem dX2_lay_81 : decode cX2_lay 81 = .ok (.dup, 1) := by decide +kernel
theorem dX2_lay_82 : decode cX2_lay 82 = .ok (.getfield 113, 3) := by decide +kernel
theorem dX2_lay_85 : decode cX2_lay 85 = .ok (.iconst 1, 1) := by decide +kernel
theorem dX2_lay_86 : decode cX2_lay 86 = .ok (.iadd, 1) := by decide +kernel
theorem dX2_lay_87 : decode cX2_lay 87 = .ok (.putfield 113, 3) := by decide +kernel
theorem dX2_lay_90 : decode cX2_lay 90 = .ok (.iconst 1, 1) := by decide +kernel
theorem dX2_lay_91 : decode cX2_lay 91 = .ok (.ireturn, 1) := by decide +kernel
theorem dX2_weigh_0 : decode cX2_weigh 0 = .ok (.aload_n 0, 1) := by decide +kernel
theorem dX2_weigh_1 : decode cX2_weigh 1 = .ok (.iload_n 1, 1) := by decide +kernel
theorem dX2_weigh_2 : decode cX2_weigh 2 = .ok (.iload_n 2, 1) := by decide +kernel
theorem dX2_weigh_3 : decode cX2_weigh 3 = .ok (.invokevirtual 116, 3) := by decide +kernel
theorem dX2_weigh_6 : decode cX2_weigh 6 = .ok (.istore_n 3, 1) := by decide +kernel
theorem dX2_weigh_7 : decode cX2_weigh 7 = .ok (.aload_n 0, 1) := by decide +kernel
theorem dX2_weigh_8 : decode cX2_weigh 8 = .ok (.iload_n 3, 1) := by decide +kernel
theorem dX2_weigh_9 : decode cX2_weigh 9 = .ok (.invokevirtual 103, 3) := by decide +kernel
theorem dX2_weigh_12 : decode cX2_weigh 12 = .ok (.ifCond .eq 15, 3) := by decide +kernel
theorem dX2_weigh_15 : decode cX2_weigh 15 = .ok (.aload_n 0, 1) := by decide +kernel
theorem dX2_weigh_16 : decode cX2_weigh 16 = .ok (.getfield 20, 3) := by decide +kernel
theorem dX2_weigh_19 : decode cX2_weigh 19 = .ok (.iload_n 3, 1) := by decide +kernel
theorem dX2_weigh_20 : decode cX2_weigh 20 = .ok (.aaload, 1) := by decide +kernel
theorem dX2_weigh_21 : decode cX2_weigh 21 = .ok (.invokevirtual 120, 3) := by decide +kernel
theorem dX2_weigh_24 : decode cX2_weigh 24 = .ok (.goto 4, 3) := by decide +kernel
theorem dX2_weigh_27 : decode cX2_weigh 27 = .ok (.iload_n 3, 1) := by decide +kernel
theorem dX2_weigh_28 : decode cX2_weigh 28 = .ok (.ireturn, 1) := by decide +kernel
theorem dX2_rigid_0 : decode cX2_rigid 0 = .ok (.aload_n 0, 1) := by decide +kernel
theorem dX2_rigid_1 : decode cX2_rigid 1 = .ok (.iload_n 1, 1) := by decide +kernel
theorem dX2_rigid_2 : decode cX2_rigid 2 = .ok (.iload_n 2, 1) := by decide +kernel
theorem dX2_rigid_3 : decode cX2_rigid 3 = .ok (.invokevirtual 116, 3) := by decide +kernel
theorem dX2_rigid_6 : decode cX2_rigid 6 = .ok (.istore_n 3, 1) := by decide +kernel
theorem dX2_rigid_7 : decode cX2_rigid 7 = .ok (.aload_n 0, 1) := by decide +kernel
theorem dX2_rigid_8 : decode cX2_rigid 8 = .ok (.iload_n 3, 1) := by decide +kernel
theorem dX2_rigid_9 : decode cX2_rigid 9 = .ok (.invokevirtual 103, 3) := by decide +kernel
theorem dX2_rigid_12 : decode cX2_rigid 12 = .ok (.ifCond .ne 5, 3) := by decide +kernel
theorem dX2_rigid_15 : decode cX2_rigid 15 = .ok (.iload_n 3, 1) := by decide +kernel
theorem dX2_rigid_16 : decode cX2_rigid 16 = .ok (.ireturn, 1) := by decide +kernel
theorem dX2_rigid_17 : decode cX2_rigid 17 = .ok (.aload_n 0, 1) := by decide +kernel
theorem dX2_rigid_18 : decode cX2_rigid 18 = .ok (.getfield 20, 3) := by decide +kernel
theorem dX2_rigid_21 : decode cX2_rigid 21 = .ok (.iload_n 3, 1) := by decide +kernel
theorem dX2_rigid_22 : decode cX2_rigid 22 = .ok (.aaload, 1) := by decide +kernel
theorem dX2_rigid_23 : decode cX2_rigid 23 = .ok (.astore 4, 2) := by decide +kernel
theorem dX2_rigid_25 : decode cX2_rigid 25 = .ok (.aload 4, 2) := by decide +kernel
theorem dX2_rigid_27 : decode cX2_rigid 27 = .ok (.getfield 123, 3) := by decide +kernel
theorem dX2_rigid_30 : decode cX2_rigid 30 = .ok (.iconst 1, 1) := by decide +kernel
theorem dX2_rigid_31 : decode cX2_rigid 31 = .ok (.if_icmp .ne 11, 3) := by decide +kernel
theorem dX2_rigid_34 : decode cX2_rigid 34 = .ok (.aload 4, 2) := by decide +kernel
theorem dX2_rigid_36 : decode cX2_rigid 36 = .ok (.getfield 113, 3) := by decide +kernel
theorem dX2_rigid_39 : decode cX2_rigid 39 = .ok (.goto 5, 3) := by decide +kernel
theorem dX2_rigid_42 : decode cX2_rigid 42 = .ok (.bipush (-15), 2) := by decide +kernel
theorem dX2_rigid_44 : decode cX2_rigid 44 = .ok (.ireturn, 1) := by decide +kernel
theorem dX2_fault_0 : decode cX2_fault 0 = .ok (.aload_n 0, 1) := by decide +kernel
theorem dX2_fault_1 : decode cX2_fault 1 = .ok (.iload_n 1, 1) := by decide +kernel
theorem dX2_fault_2 : decode cX2_fault 2 = .ok (.invokevirtual 103, 3) := by decide +kernel
theorem dX2_fault_5 : decode cX2_fault 5 = .ok (.ifCond .eq 14, 3) := by decide +kernel
theorem dX2_fault_8 : decode cX2_fault 8 = .ok (.iload_n 2, 1) := by decide +kernel
theorem dX2_fault_9 : decode cX2_fault 9 = .ok (.iconst (-1), 1) := by decide +kernel
theorem dX2_fault_10 : decode cX2_fault 10 = .ok (.if_icmp .lt 9, 3) := by decide +kernel
theorem dX2_fault_13 : decode cX2_fault 13 = .ok (.iload_n 2, 1) := by decide +kernel
theorem dX2_fault_14 : decode cX2_fault 14 = .ok (.bipush 9, 2) := by decide +kernel
theorem dX2_fault_16 : decode cX2_fault 16 = .ok (.if_icmp .le 5, 3) := by decide +kernel
theorem dX2_fault_19 : decode cX2_fault 19 = .ok (.iconst (-1), 1) := by decide +kernel
theorem dX2_fault_20 : decode cX2_fault 20 = .ok (.ireturn, 1) := by decide +kernel
theorem dX2_fault_21 : decode cX2_fault 21 = .ok (.aload_n 0, 1) := by decide +kernel
theorem dX2_fault_22 : decode cX2_fault 22 = .ok (.getfield 20, 3) := by decide +kernel
theorem dX2_fault_25 : decode cX2_fault 25 = .ok (.iload_n 1, 1) := by decide +kernel
theorem dX2_fault_26 : decode cX2_fault 26 = .ok (.aaload, 1) := by decide +kernel
theorem dX2_fault_27 : decode cX2_fault 27 = .ok (.iload_n 2, 1) := by decide +kernel
theorem dX2_fault_28 : decode cX2_fault 28 = .ok (.putfield 126, 3) := by decide +kernel
theorem dX2_fault_31 : decode cX2_fault 31 = .ok (.iconst 1, 1) := by decide +kernel
theorem dX2_fault_32 : decode cX2_fault 32 = .ok (.ireturn, 1) := by decide +kernel
theorem dX2_raise_0 : decode cX2_raise 0 = .ok (.aload_n 0, 1) := by decide +kernel
theorem dX2_raise_1 : decode cX2_raise 1 = .ok (.iload_n 1, 1) := by decide +kernel
theorem dX2_raise_2 : decode cX2_raise 2 = .ok (.iload_n 2, 1) := by decide +kernel
theorem dX2_raise_3 : decode cX2_raise 3 = .ok (.invokevirtual 116, 3) := by decide +kernel
theorem dX2_raise_6 : decode cX2_raise 6 = .ok (.istore_n 3, 1) := by decide +kernel
theorem dX2_raise_7 : decode cX2_raise 7 = .ok (.aload_n 0, 1) := by decide +kernel
theorem dX2_raise_8 : decode cX2_raise 8 = .ok (.iload_n 3, 1) := by decide +kernel
theorem dX2_raise_9 : decode cX2_raise 9 = .ok (.invokevirtual 103, 3) := by decide +kernel
theorem dX2_raise_12 : decode cX2_raise 12 = .ok (.ifCond .ne 5, 3) := by decide +kernel
theorem dX2_raise_15 : decode cX2_raise 15 = .ok (.iload_n 3, 1) := by decide +kernel
theorem dX2_raise_16 : decode cX2_raise 16 = .ok (.ireturn, 1) := by decide +kernel
theorem dX2_raise_17 : decode cX2_raise 17 = .ok (.aload_n 0, 1) := by decide +kernel
end
section
theorem dX2_raise_18 : decode cX2_raise 18 = .ok (.getfield 20, 3) := by decide +kernel
theorem dX2_raise_21 : decode cX2_raise 21 = .ok (.iload_n 3, 1) := by decide +kernel
theorem dX2_raise_22 : decode cX2_raise 22 = .ok (.aaload, 1) := by decide +kernel
theorem dX2_raise_23 : decode cX2_raise 23 = .ok (.getfield 126, 3) := by decide +kernel
theorem dX2_raise_26 : decode cX2_raise 26 = .ok (.istore 4, 2) := by decide +kernel
theorem dX2_raise_28 : decode cX2_raise 28 = .ok (.iload 4, 2) := by decide +kernel
theorem dX2_raise_30 : decode cX2_raise 30 = .ok (.iconst (-1), 1) := by decide +kernel
theorem dX2_raise_31 : decode cX2_raise 31 = .ok (.if_icmp .ne 8, 3) := by decide +kernel
theorem dX2_raise_34 : decode cX2_raise 34 = .ok (.bipush (-11), 2) := by decide +kernel
theorem dX2_raise_36 : decode cX2_raise 36 = .ok (.goto 8, 3) := by decide +kernel
theorem dX2_raise_39 : decode cX2_raise 39 = .ok (.bipush (-30), 2) := by decide +kernel
theorem dX2_raise_41 : decode cX2_raise 41 = .ok (.iload 4, 2) := by decide +kernel
theorem dX2_raise_43 : decode cX2_raise 43 = .ok (.isub, 1) := by decide +kernel
theorem dX2_raise_44 : decode cX2_raise 44 = .ok (.ireturn, 1) := by decide +kernel
theorem dX2_copy_0 : decode cX2_copy 0 = .ok (.iload_n 1, 1) := by decide +kernel
theorem dX2_copy_1 : decode cX2_copy 1 = .ok (.invokestatic 33, 3) := by decide +kernel
theorem dX2_copy_4 : decode cX2_copy 4 = .ok (.ifCond .eq 10, 3) := by decide +kernel
theorem dX2_copy_7 : decode cX2_copy 7 = .ok (.iload_n 3, 1) := by decide +kernel
theorem dX2_copy_8 : decode cX2_copy 8 = .ok (.invokestatic 33, 3) := by decide +kernel
theorem dX2_copy_11 : decode cX2_copy 11 = .ok (.ifCond .ne 5, 3) := by decide +kernel
theorem dX2_copy_14 : decode cX2_copy 14 = .ok (.iconst (-1), 1) := by decide +kernel
theorem dX2_copy_15 : decode cX2_copy 15 = .ok (.ireturn, 1) := by decide +kernel
theorem dX2_copy_16 : decode cX2_copy 16 = .ok (.aload_n 0, 1) := by decide +kernel
theorem dX2_copy_17 : decode cX2_copy 17 = .ok (.iconst 0, 1) := by decide +kernel
theorem dX2_copy_18 : decode cX2_copy 18 = .ok (.putfield 28, 3) := by decide +kernel
theorem dX2_copy_21 : decode cX2_copy 21 = .ok (.aload_n 0, 1) := by decide +kernel
theorem dX2_copy_22 : decode cX2_copy 22 = .ok (.getfield 11, 3) := by decide +kernel
theorem dX2_copy_25 : decode cX2_copy 25 = .ok (.iload_n 1, 1) := by decide +kernel
theorem dX2_copy_26 : decode cX2_copy 26 = .ok (.aaload, 1) := by decide +kernel
theorem dX2_copy_27 : decode cX2_copy 27 = .ok (.astore 6, 2) := by decide +kernel
theorem dX2_copy_29 : decode cX2_copy 29 = .ok (.aload_n 0, 1) := by decide +kernel
theorem dX2_copy_30 : decode cX2_copy 30 = .ok (.getfield 11, 3) := by decide +kernel
theorem dX2_copy_33 : decode cX2_copy 33 = .ok (.iload_n 3, 1) := by decide +kernel
theorem dX2_copy_34 : decode cX2_copy 34 = .ok (.aaload, 1) := by decide +kernel
theorem dX2_copy_35 : decode cX2_copy 35 = .ok (.astore 7, 2) := by decide +kernel
theorem dX2_copy_37 : decode cX2_copy 37 = .ok (.aload 6, 2) := by decide +kernel
theorem dX2_copy_39 : decode cX2_copy 39 = .ok (.invokevirtual 41, 3) := by decide +kernel
theorem dX2_copy_42 : decode cX2_copy 42 = .ok (.ifCond .ne 11, 3) := by decide +kernel
theorem dX2_copy_45 : decode cX2_copy 45 = .ok (.aload 7, 2) := by decide +kernel
theorem dX2_copy_47 : decode cX2_copy 47 = .ok (.invokevirtual 41, 3) := by decide +kernel
theorem dX2_copy_50 : decode cX2_copy 50 = .ok (.ifCond .eq 6, 3) := by decide +kernel
theorem dX2_copy_53 : decode cX2_copy 53 = .ok (.bipush (-11), 2) := by decide +kernel
theorem dX2_copy_55 : decode cX2_copy 55 = .ok (.ireturn, 1) := by decide +kernel
theorem dX2_copy_56 : decode cX2_copy 56 = .ok (.aload 6, 2) := by decide +kernel
theorem dX2_copy_58 : decode cX2_copy 58 = .ok (.getfield 57, 3) := by decide +kernel
theorem dX2_copy_61 : decode cX2_copy 61 = .ok (.aload 7, 2) := by decide +kernel
theorem dX2_copy_63 : decode cX2_copy 63 = .ok (.getfield 57, 3) := by decide +kernel
theorem dX2_copy_66 : decode cX2_copy 66 = .ok (.if_icmp .eq 22, 3) := by decide +kernel
theorem dX2_copy_69 : decode cX2_copy 69 = .ok (.aload 6, 2) := by decide +kernel
theorem dX2_copy_71 : decode cX2_copy 71 = .ok (.invokevirtual 77, 3) := by decide +kernel
theorem dX2_copy_74 : decode cX2_copy 74 = .ok (.ifCond .eq 11, 3) := by decide +kernel
theorem dX2_copy_77 : decode cX2_copy 77 = .ok (.aload 7, 2) := by decide +kernel
theorem dX2_copy_79 : decode cX2_copy 79 = .ok (.invokevirtual 77, 3) := by decide +kernel
theorem dX2_copy_82 : decode cX2_copy 82 = .ok (.ifCond .ne 6, 3) := by decide +kernel
theorem dX2_copy_85 : decode cX2_copy 85 = .ok (.bipush (-13), 2) := by decide +kernel
theorem dX2_copy_87 : decode cX2_copy 87 = .ok (.ireturn, 1) := by decide +kernel
theorem dX2_copy_88 : decode cX2_copy 88 = .ok (.aload 6, 2) := by decide +kernel
theorem dX2_copy_90 : decode cX2_copy 90 = .ok (.iload_n 2, 1) := by decide +kernel
theorem dX2_copy_91 : decode cX2_copy 91 = .ok (.iload 5, 2) := by decide +kernel
theorem dX2_copy_93 : decode cX2_copy 93 = .ok (.invokevirtual 129, 3) := by decide +kernel
theorem dX2_copy_96 : decode cX2_copy 96 = .ok (.ifCond .eq 15, 3) := by decide +kernel
theorem dX2_copy_99 : decode cX2_copy 99 = .ok (.aload 7, 2) := by decide +kernel
theorem dX2_copy_101 : decode cX2_copy 101 = .ok (.iload 4, 2) := by decide +kernel
theorem dX2_copy_103 : decode cX2_copy 103 = .ok (.iload 5, 2) := by decide +kernel
theorem dX2_copy_105 : decode cX2_copy 105 = .ok (.invokevirtual 129, 3) := by decide +kernel
theorem dX2_copy_108 : decode cX2_copy 108 = .ok (.ifCond .ne 6, 3) := by decide +kernel
theorem dX2_copy_111 : decode cX2_copy 111 = .ok (.bipush (-12), 2) := by decide +kernel
theorem dX2_copy_113 : decode cX2_copy 113 = .ok (.ireturn, 1) := by decide +kernel
theorem dX2_copy_114 : decode cX2_copy 114 = .ok (.aload 6, 2) := by decide +kernel
theorem dX2_copy_116 : decode cX2_copy 116 = .ok (.getfield 57, 3) := by decide +kernel
theorem dX2_copy_119 : decode cX2_copy 119 = .ok (.aload 7, 2) := by decide +kernel
theorem dX2_copy_121 : decode cX2_copy 121 = .ok (.getfield 57, 3) := by decide +kernel
theorem dX2_copy_124 : decode cX2_copy 124 = .ok (.if_icmp .ne 24, 3) := by decide +kernel
theorem dX2_copy_127 : decode cX2_copy 127 = .ok (.aload 7, 2) := by decide +kernel
theorem dX2_copy_129 : decode cX2_copy 129 = .ok (.aload 6, 2) := by decide +kernel
theorem dX2_copy_131 : decode cX2_copy 131 = .ok (.iload_n 2, 1) := by decide +kernel
theorem dX2_copy_132 : decode cX2_copy 132 = .ok (.iload 4, 2) := by decide +kernel
theorem dX2_copy_134 : decode cX2_copy 134 = .ok (.iload 5, 2) := by decide +kernel
theorem dX2_copy_136 : decode cX2_copy 136 = .ok (.invokevirtual 133, 3) := by decide +kernel
theorem dX2_copy_139 : decode cX2_copy 139 = .ok (.aload_n 0, 1) := by decide +kernel
theorem dX2_copy_140 : decode cX2_copy 140 = .ok (.iload 5, 2) := by decide +kernel
theorem dX2_copy_142 : decode cX2_copy 142 = .ok (.putfield 28, 3) := by decide +kernel
theorem dX2_copy_145 : decode cX2_copy 145 = .ok (.goto 20, 3) := by decide +kernel
theorem dX2_copy_148 : decode cX2_copy 148 = .ok (.aload_n 0, 1) := by decide +kernel
theorem dX2_copy_149 : decode cX2_copy 149 = .ok (.aload_n 0, 1) := by decide +kernel
theorem dX2_copy_150 : decode cX2_copy 150 = .ok (.aload 6, 2) := by decide +kernel
theorem dX2_copy_152 : decode cX2_copy 152 = .ok (.iload_n 2, 1) := by decide +kernel
theorem dX2_copy_153 : decode cX2_copy 153 = .ok (.aload 7, 2) := by decide +kernel
theorem dX2_copy_155 : decode cX2_copy 155 = .ok (.iload 4, 2) := by decide +kernel
theorem dX2_copy_157 : decode cX2_copy 157 = .ok (.iload 5, 2) := by decide +kernel
theorem dX2_copy_159 : decode cX2_copy 159 = .ok (.invokevirtual 137, 3) := by decide +kernel
theorem dX2_copy_162 : decode cX2_copy 162 = .ok (.putfield 28, 3) := by decide +kernel
theorem dX2_copy_165 : decode cX2_copy 165 = .ok (.aload_n 0, 1) := by decide +kernel
theorem dX2_copy_166 : decode cX2_copy 166 = .ok (.getfield 28, 3) := by decide +kernel
theorem dX2_copy_169 : decode cX2_copy 169 = .ok (.iload 5, 2) := by decide +kernel
theorem dX2_copy_171 : decode cX2_copy 171 = .ok (.if_icmp .ge 8, 3) := by decide +kernel
theorem dX2_copy_174 : decode cX2_copy 174 = .ok (.bipush (-14), 2) := by decide +kernel
theorem dX2_copy_176 : decode cX2_copy 176 = .ok (.goto 5, 3) := by decide +kernel
theorem dX2_copy_179 : decode cX2_copy 179 = .ok (.iload 5, 2) := by decide +kernel
theorem dX2_copy_181 : decode cX2_copy 181 = .ok (.ireturn, 1) := by decide +kernel
theorem dX2_copied_0 : decode cX2_copied 0 = .ok (.aload_n 0, 1) := by decide +kernel
theorem dX2_copied_1 : decode cX2_copied 1 = .ok (.getfield 28, 3) := by decide +kernel
theorem dX2_copied_4 : decode cX2_copied 4 = .ok (.ireturn, 1) := by decide +kernel
theorem dX2_move_0 : decode cX2_move 0 = .ok (.iload_n 1, 1) := by decide +kernel
theorem dX2_move_1 : decode cX2_move 1 = .ok (.invokestatic 141, 3) := by decide +kernel
theorem dX2_move_4 : decode cX2_move 4 = .ok (.ifCond .eq 20, 3) := by decide +kernel
theorem dX2_move_7 : decode cX2_move 7 = .ok (.iload_n 2, 1) := by decide +kernel
theorem dX2_move_8 : decode cX2_move 8 = .ok (.invokestatic 141, 3) := by decide +kernel
theorem dX2_move_11 : decode cX2_move 11 = .ok (.ifCond .eq 13, 3) := by decide +kernel
theorem dX2_move_14 : decode cX2_move 14 = .ok (.iload_n 3, 1) := by decide +kernel
theorem dX2_move_15 : decode cX2_move 15 = .ok (.ifCond .lt 9, 3) := by decide +kernel
theorem dX2_move_18 : decode cX2_move 18 = .ok (.iload_n 3, 1) := by decide +kernel
theorem dX2_move_19 : decode cX2_move 19 = .ok (.ldc 144, 2) := by decide +kernel
theorem dX2_move_21 : decode cX2_move 21 = .ok (.if_icmp .le 5, 3) := by decide +kernel
theorem dX2_move_24 : decode cX2_move 24 = .ok (.iconst (-1), 1) := by decide +kernel
theorem dX2_move_25 : decode cX2_move 25 = .ok (.ireturn, 1) := by decide +kernel
theorem dX2_move_26 : decode cX2_move 26 = .ok (.iconst 0, 1) := by decide +kernel
theorem dX2_move_27 : decode cX2_move 27 = .ok (.istore 4, 2) := by decide +kernel
theorem dX2_move_29 : decode cX2_move 29 = .ok (.iload 4, 2) := by decide +kernel
theorem dX2_move_31 : decode cX2_move 31 = .ok (.bipush 6, 2) := by decide +kernel
theorem dX2_move_33 : decode cX2_move 33 = .ok (.if_icmp .ge 31, 3) := by decide +kernel
theorem dX2_move_36 : decode cX2_move 36 = .ok (.aload_n 0, 1) := by decide +kernel
theorem dX2_move_37 : decode cX2_move 37 = .ok (.getfield 15, 3) := by decide +kernel
theorem dX2_move_40 : decode cX2_move 40 = .ok (.iload 4, 2) := by decide +kernel
theorem dX2_move_42 : decode cX2_move 42 = .ok (.aaload, 1) := by decide +kernel
theorem dX2_move_43 : decode cX2_move 43 = .ok (.aload_n 0, 1) := by decide +kernel
theorem dX2_move_44 : decode cX2_move 44 = .ok (.getfield 11, 3) := by decide +kernel
theorem dX2_move_47 : decode cX2_move 47 = .ok (.bipush 6, 2) := by decide +kernel
theorem dX2_move_49 : decode cX2_move 49 = .ok (.iload_n 1, 1) := by decide +kernel
theorem dX2_move_50 : decode cX2_move 50 = .ok (.imul, 1) := by decide +kernel
theorem dX2_move_51 : decode cX2_move 51 = .ok (.iload 4, 2) := by decide +kernel
theorem dX2_move_53 : decode cX2_move 53 = .ok (.iadd, 1) := by decide +kernel
theorem dX2_move_54 : decode cX2_move 54 = .ok (.aaload, 1) := by decide +kernel
theorem dX2_move_55 : decode cX2_move 55 = .ok (.invokevirtual 145, 3) := by decide +kernel
theorem dX2_move_58 : decode cX2_move 58 = .ok (.iinc 4 1, 3) := by decide +kernel
theorem dX2_move_61 : decode cX2_move 61 = .ok (.goto (-32), 3) := by decide +kernel
theorem dX2_move_64 : decode cX2_move 64 = .ok (.iconst 0, 1) := by decide +kernel
theorem dX2_move_65 : decode cX2_move 65 = .ok (.istore 4, 2) := by decide +kernel
theorem dX2_move_67 : decode cX2_move 67 = .ok (.iconst 0, 1) := by decide +kernel
theorem dX2_move_68 : decode cX2_move 68 = .ok (.istore 5, 2) := by decide +kernel
theorem dX2_move_70 : decode cX2_move 70 = .ok (.iload 5, 2) := by decide +kernel
theorem dX2_move_72 : decode cX2_move 72 = .ok (.bipush 6, 2) := by decide +kernel
theorem dX2_move_74 : decode cX2_move 74 = .ok (.if_icmp .ge 56, 3) := by decide +kernel
theorem dX2_move_77 : decode cX2_move 77 = .ok (.aload_n 0, 1) := by decide +kernel
theorem dX2_move_78 : decode cX2_move 78 = .ok (.getfield 11, 3) := by decide +kernel
theorem dX2_move_81 : decode cX2_move 81 = .ok (.bipush 6, 2) := by decide +kernel
theorem dX2_move_83 : decode cX2_move 83 = .ok (.iload_n 2, 1) := by decide +kernel
theorem dX2_move_84 : decode cX2_move 84 = .ok (.imul, 1) := by decide +kernel
theorem dX2_move_85 : decode cX2_move 85 = .ok (.iload 5, 2) := by decide +kernel
theorem dX2_move_87 : decode cX2_move 87 = .ok (.iadd, 1) := by decide +kernel
theorem dX2_move_88 : decode cX2_move 88 = .ok (.aaload, 1) := by decide +kernel
theorem dX2_move_89 : decode cX2_move 89 = .ok (.astore 6, 2) := by decide +kernel
theorem dX2_move_91 : decode cX2_move 91 = .ok (.aload_n 0, 1) := by decide +kernel
theorem dX2_move_92 : decode cX2_move 92 = .ok (.aload 6, 2) := by decide +kernel
theorem dX2_move_94 : decode cX2_move 94 = .ok (.iload_n 3, 1) := by decide +kernel
theorem dX2_move_95 : decode cX2_move 95 = .ok (.iconst 3, 1) := by decide +kernel
theorem dX2_move_96 : decode cX2_move 96 = .ok (.iload 5, 2) := by decide +kernel
theorem dX2_move_98 : decode cX2_move 98 = .ok (.imul, 1) := by decide +kernel
theorem dX2_move_99 : decode cX2_move 99 = .ok (.ishr, 1) := by decide +kernel
theorem dX2_move_100 : decode cX2_move 100 = .ok (.bipush 7, 2) := by decide +kernel
theorem dX2_move_102 : decode cX2_move 102 = .ok (.iand, 1) := by decide +kernel
theorem dX2_move_103 : decode cX2_move 103 = .ok (.invokevirtual 149, 3) := by decide +kernel
theorem dX2_move_106 : decode cX2_move 106 = .ok (.iload 4, 2) := by decide +kernel
theorem dX2_move_108 : decode cX2_move 108 = .ok (.aload 6, 2) := by decide +kernel
theorem dX2_move_110 : decode cX2_move 110 = .ok (.invokevirtual 51, 3) := by decide +kernel
theorem dX2_move_113 : decode cX2_move 113 = .ok (.ifCond .eq 7, 3) := by decide +kernel
theorem dX2_move_116 : decode cX2_move 116 = .ok (.iconst 0, 1) := by decide +kernel
theorem dX2_move_117 : decode cX2_move 117 = .ok (.goto 4, 3) := by decide +kernel
theorem dX2_move_120 : decode cX2_move 120 = .ok (.iconst 1, 1) := by decide +kernel
theorem dX2_move_121 : decode cX2_move 121 = .ok (.iadd, 1) := by decide +kernel
theorem dX2_move_122 : decode cX2_move 122 = .ok (.istore 4, 2) := by decide +kernel
theorem dX2_move_124 : decode cX2_move 124 = .ok (.iinc 5 1, 3) := by decide +kernel
theorem dX2_move_127 : decode cX2_move 127 = .ok (.goto (-57), 3) := by decide +kernel
theorem dX2_move_130 : decode cX2_move 130 = .ok (.iload 4, 2) := by decide +kernel
theorem dX2_move_132 : decode cX2_move 132 = .ok (.ireturn, 1) := by decide +kernel
theorem dX2_like_0 : decode cX2_like 0 = .ok (.iload_n 1, 1) := by decide +kernel
theorem dX2_like_1 : decode cX2_like 1 = .ok (.invokestatic 33, 3) := by decide +kernel
theorem dX2_like_4 : decode cX2_like 4 = .ok (.ifCond .eq 10, 3) := by decide +kernel
theorem dX2_like_7 : decode cX2_like 7 = .ok (.iload_n 2, 1) := by decide +kernel
theorem dX2_like_8 : decode cX2_like 8 = .ok (.invokestatic 33, 3) := by decide +kernel
theorem dX2_like_11 : decode cX2_like 11 = .ok (.ifCond .ne 5, 3) := by decide +kernel
theorem dX2_like_14 : decode cX2_like 14 = .ok (.iconst (-1), 1) := by decide +kernel
theorem dX2_like_15 : decode cX2_like 15 = .ok (.ireturn, 1) := by decide +kernel
theorem dX2_like_16 : decode cX2_like 16 = .ok (.aload_n 0, 1) := by decide +kernel
theorem dX2_like_17 : decode cX2_like 17 = .ok (.getfield 11, 3) := by decide +kernel
theorem dX2_like_20 : decode cX2_like 20 = .ok (.iload_n 1, 1) := by decide +kernel
theorem dX2_like_21 : decode cX2_like 21 = .ok (.aaload, 1) := by decide +kernel
theorem dX2_like_22 : decode cX2_like 22 = .ok (.astore_n 3, 1) := by decide +kernel
theorem dX2_like_23 : decode cX2_like 23 = .ok (.aload_n 0, 1) := by decide +kernel
theorem dX2_like_24 : decode cX2_like 24 = .ok (.getfield 11, 3) := by decide +kernel
theorem dX2_like_27 : decode cX2_like 27 = .ok (.iload_n 2, 1) := by decide +kernel
theorem dX2_like_28 : decode cX2_like 28 = .ok (.aaload, 1) := by decide +kernel
theorem dX2_like_29 : decode cX2_like 29 = .ok (.astore 4, 2) := by decide +kernel
theorem dX2_like_31 : decode cX2_like 31 = .ok (.aload_n 3, 1) := by decide +kernel
theorem dX2_like_32 : decode cX2_like 32 = .ok (.invokevirtual 41, 3) := by decide +kernel
theorem dX2_like_35 : decode cX2_like 35 = .ok (.ifCond .ne 11, 3) := by decide +kernel
theorem dX2_like_38 : decode cX2_like 38 = .ok (.aload 4, 2) := by decide +kernel
theorem dX2_like_40 : decode cX2_like 40 = .ok (.invokevirtual 41, 3) := by decide +kernel
theorem dX2_like_43 : decode cX2_like 43 = .ok (.ifCond .eq 6, 3) := by decide +kernel
theorem dX2_like_46 : decode cX2_like 46 = .ok (.bipush (-11), 2) := by decide +kernel
theorem dX2_like_48 : decode cX2_like 48 = .ok (.ireturn, 1) := by decide +kernel
theorem dX2_like_49 : decode cX2_like 49 = .ok (.aload_n 3, 1) := by decide +kernel
theorem dX2_like_50 : decode cX2_like 50 = .ok (.aload 4, 2) := by decide +kernel
theorem dX2_like_52 : decode cX2_like 52 = .ok (.invokevirtual 153, 3) := by decide +kernel
theorem dX2_like_55 : decode cX2_like 55 = .ok (.ifCond .eq 7, 3) := by decide +kernel
theorem dX2_like_58 : decode cX2_like 58 = .ok (.iconst 1, 1) := by decide +kernel
theorem dX2_like_59 : decode cX2_like 59 = .ok (.goto 4, 3) := by decide +kernel
theorem dX2_like_62 : decode cX2_like 62 = .ok (.iconst 0, 1) := by decide +kernel
theorem dX2_like_63 : decode cX2_like 63 = .ok (.ireturn, 1) := by decide +kernel
theorem dX2_told_0 : decode cX2_told 0 = .ok (.iload_n 1, 1) := by decide +kernel
theorem dX2_told_1 : decode cX2_told 1 = .ok (.tableswitch 51 0 3 #[31, 36, 41, 46], 31) := by decide +kernel
theorem dX2_told_32 : decode cX2_told 32 = .ok (.aload_n 0, 1) := by decide +kernel
theorem dX2_told_33 : decode cX2_told 33 = .ok (.invokevirtual 157, 3) := by decide +kernel
theorem dX2_told_36 : decode cX2_told 36 = .ok (.ireturn, 1) := by decide +kernel
theorem dX2_told_37 : decode cX2_told 37 = .ok (.aload_n 0, 1) := by decide +kernel
theorem dX2_told_38 : decode cX2_told 38 = .ok (.invokevirtual 160, 3) := by decide +kernel
theorem dX2_told_41 : decode cX2_told 41 = .ok (.ireturn, 1) := by decide +kernel
theorem dX2_told_42 : decode cX2_told 42 = .ok (.aload_n 0, 1) := by decide +kernel
theorem dX2_told_43 : decode cX2_told 43 = .ok (.getfield 24, 3) := by decide +kernel
theorem dX2_told_46 : decode cX2_told 46 = .ok (.ireturn, 1) := by decide +kernel
theorem dX2_told_47 : decode cX2_told 47 = .ok (.aload_n 0, 1) := by decide +kernel
theorem dX2_told_48 : decode cX2_told 48 = .ok (.invokevirtual 163, 3) := by decide +kernel
theorem dX2_told_51 : decode cX2_told 51 = .ok (.ireturn, 1) := by decide +kernel
theorem dX2_told_52 : decode cX2_told 52 = .ok (.iconst (-1), 1) := by decide +kernel
theorem dX2_told_53 : decode cX2_told 53 = .ok (.ireturn, 1) := by decide +kernel
theorem dX2_isPlace_0 : decode cX2_isPlace 0 = .ok (.iload_n 0, 1) := by decide +kernel
theorem dX2_isPlace_1 : decode cX2_isPlace 1 = .ok (.ifCond .lt 13, 3) := by decide +kernel
theorem dX2_isPlace_4 : decode cX2_isPlace 4 = .ok (.iload_n 0, 1) := by decide +kernel
theorem dX2_isPlace_5 : decode cX2_isPlace 5 = .ok (.bipush 24, 2) := by decide +kernel
theorem dX2_isPlace_7 : decode cX2_isPlace 7 = .ok (.if_icmp .ge 7, 3) := by decide +kernel
theorem dX2_isPlace_10 : decode cX2_isPlace 10 = .ok (.iconst 1, 1) := by decide +kernel
theorem dX2_isPlace_11 : decode cX2_isPlace 11 = .ok (.goto 4, 3) := by decide +kernel
theorem dX2_isPlace_14 : decode cX2_isPlace 14 = .ok (.iconst 0, 1) := by decide +kernel
theorem dX2_isPlace_15 : decode cX2_isPlace 15 = .ok (.ireturn, 1) := by decide +kernel
theorem dX2_isMapping_0 : decode cX2_isMapping 0 = .ok (.iload_n 0, 1) := by decide +kernel
theorem dX2_isMapping_1 : decode cX2_isMapping 1 = .ok (.ifCond .lt 12, 3) := by decide +kernel
theorem dX2_isMapping_4 : decode cX2_isMapping 4 = .ok (.iload_n 0, 1) := by decide +kernel
theorem dX2_isMapping_5 : decode cX2_isMapping 5 = .ok (.iconst 4, 1) := by decide +kernel
theorem dX2_isMapping_6 : decode cX2_isMapping 6 = .ok (.if_icmp .ge 7, 3) := by decide +kernel
theorem dX2_isMapping_9 : decode cX2_isMapping 9 = .ok (.iconst 1, 1) := by decide +kernel
theorem dX2_isMapping_10 : decode cX2_isMapping 10 = .ok (.goto 4, 3) := by decide +kernel
theorem dX2_isMapping_13 : decode cX2_isMapping 13 = .ok (.iconst 0, 1) := by decide +kernel
theorem dX2_isMapping_14 : decode cX2_isMapping 14 = .ok (.ireturn, 1) := by decide +kernel
theorem dX2_isKindOfNumbers_0 : decode cX2_isKindOfNumbers 0 = .ok (.iload_n 0, 1) := by decide +kernel
theorem dX2_isKindOfNumbers_1 : decode cX2_isKindOfNumbers 1 = .ok (.ifCond .lt 13, 3) := by decide +kernel
theorem dX2_isKindOfNumbers_4 : decode cX2_isKindOfNumbers 4 = .ok (.iload_n 0, 1) := by decide +kernel
theorem dX2_isKindOfNumbers_5 : decode cX2_isKindOfNumbers 5 = .ok (.bipush 6, 2) := by decide +kernel
theorem dX2_isKindOfNumbers_7 : decode cX2_isKindOfNumbers 7 = .ok (.if_icmp .gt 7, 3) := by decide +kernel
theorem dX2_isKindOfNumbers_10 : decode cX2_isKindOfNumbers 10 = .ok (.iconst 1, 1) := by decide +kernel
theorem dX2_isKindOfNumbers_11 : decode cX2_isKindOfNumbers 11 = .ok (.goto 4, 3) := by decide +kernel
theorem dX2_isKindOfNumbers_14 : decode cX2_isKindOfNumbers 14 = .ok (.iconst 0, 1) := by decide +kernel
theorem dX2_isKindOfNumbers_15 : decode cX2_isKindOfNumbers 15 = .ok (.ireturn, 1) := by decide +kernel
theorem dX2_isPart_0 : decode cX2_isPart 0 = .ok (.iload_n 1, 1) := by decide +kernel
theorem dX2_isPart_1 : decode cX2_isPart 1 = .ok (.ifCond .lt 15, 3) := by decide +kernel
theorem dX2_isPart_4 : decode cX2_isPart 4 = .ok (.iload_n 1, 1) := by decide +kernel
theorem dX2_isPart_5 : decode cX2_isPart 5 = .ok (.aload_n 0, 1) := by decide +kernel
theorem dX2_isPart_6 : decode cX2_isPart 6 = .ok (.getfield 24, 3) := by decide +kernel
theorem dX2_isPart_9 : decode cX2_isPart 9 = .ok (.if_icmp .ge 7, 3) := by decide +kernel
theorem dX2_isPart_12 : decode cX2_isPart 12 = .ok (.iconst 1, 1) := by decide +kernel
theorem dX2_isPart_13 : decode cX2_isPart 13 = .ok (.goto 4, 3) := by decide +kernel
theorem dX2_isPart_16 : decode cX2_isPart 16 = .ok (.iconst 0, 1) := by decide +kernel
theorem dX2_isPart_17 : decode cX2_isPart 17 = .ok (.ireturn, 1) := by decide +kernel
theorem dX2_inWayOfCell_0 : decode cX2_inWayOfCell 0 = .ok (.iload_n 1, 1) := by decide +kernel
theorem dX2_inWayOfCell_1 : decode cX2_inWayOfCell 1 = .ok (.invokestatic 33, 3) := by decide +kernel
theorem dX2_inWayOfCell_4 : decode cX2_inWayOfCell 4 = .ok (.ifCond .ne 5, 3) := by decide +kernel
theorem dX2_inWayOfCell_7 : decode cX2_inWayOfCell 7 = .ok (.iconst (-1), 1) := by decide +kernel
theorem dX2_inWayOfCell_8 : decode cX2_inWayOfCell 8 = .ok (.ireturn, 1) := by decide +kernel
theorem dX2_inWayOfCell_9 : decode cX2_inWayOfCell 9 = .ok (.aload_n 0, 1) := by decide +kernel
theorem dX2_inWayOfCell_10 : decode cX2_inWayOfCell 10 = .ok (.getfield 11, 3) := by decide +kernel
theorem dX2_inWayOfCell_13 : decode cX2_inWayOfCell 13 = .ok (.iload_n 1, 1) := by decide +kernel
theorem dX2_inWayOfCell_14 : decode cX2_inWayOfCell 14 = .ok (.aaload, 1) := by decide +kernel
theorem dX2_inWayOfCell_15 : decode cX2_inWayOfCell 15 = .ok (.astore 4, 2) := by decide +kernel
theorem dX2_inWayOfCell_17 : decode cX2_inWayOfCell 17 = .ok (.aload 4, 2) := by decide +kernel
theorem dX2_inWayOfCell_19 : decode cX2_inWayOfCell 19 = .ok (.invokevirtual 51, 3) := by decide +kernel
theorem dX2_inWayOfCell_22 : decode cX2_inWayOfCell 22 = .ok (.ifCond .eq 6, 3) := by decide +kernel
theorem dX2_inWayOfCell_25 : decode cX2_inWayOfCell 25 = .ok (.bipush (-11), 2) := by decide +kernel
theorem dX2_inWayOfCell_27 : decode cX2_inWayOfCell 27 = .ok (.ireturn, 1) := by decide +kernel
theorem dX2_inWayOfCell_28 : decode cX2_inWayOfCell 28 = .ok (.aload 4, 2) := by decide +kernel
theorem dX2_inWayOfCell_30 : decode cX2_inWayOfCell 30 = .ok (.invokevirtual 77, 3) := by decide +kernel
theorem dX2_inWayOfCell_33 : decode cX2_inWayOfCell 33 = .ok (.iload_n 3, 1) := by decide +kernel
theorem dX2_inWayOfCell_34 : decode cX2_inWayOfCell 34 = .ok (.if_icmp .eq 6, 3) := by decide +kernel
theorem dX2_inWayOfCell_37 : decode cX2_inWayOfCell 37 = .ok (.bipush (-13), 2) := by decide +kernel
theorem dX2_inWayOfCell_39 : decode cX2_inWayOfCell 39 = .ok (.ireturn, 1) := by decide +kernel
theorem dX2_inWayOfCell_40 : decode cX2_inWayOfCell 40 = .ok (.aload 4, 2) := by decide +kernel
theorem dX2_inWayOfCell_42 : decode cX2_inWayOfCell 42 = .ok (.invokevirtual 41, 3) := by decide +kernel
theorem dX2_inWayOfCell_45 : decode cX2_inWayOfCell 45 = .ok (.ifCond .eq 6, 3) := by decide +kernel
theorem dX2_inWayOfCell_48 : decode cX2_inWayOfCell 48 = .ok (.bipush (-11), 2) := by decide +kernel
theorem dX2_inWayOfCell_50 : decode cX2_inWayOfCell 50 = .ok (.ireturn, 1) := by decide +kernel
theorem dX2_inWayOfCell_51 : decode cX2_inWayOfCell 51 = .ok (.aload 4, 2) := by decide +kernel
theorem dX2_inWayOfCell_53 : decode cX2_inWayOfCell 53 = .ok (.iload_n 2, 1) := by decide +kernel
theorem dX2_inWayOfCell_54 : decode cX2_inWayOfCell 54 = .ok (.invokevirtual 74, 3) := by decide +kernel
theorem dX2_inWayOfCell_57 : decode cX2_inWayOfCell 57 = .ok (.ifCond .eq 7, 3) := by decide +kernel
theorem dX2_inWayOfCell_60 : decode cX2_inWayOfCell 60 = .ok (.iconst 0, 1) := by decide +kernel
theorem dX2_inWayOfCell_61 : decode cX2_inWayOfCell 61 = .ok (.goto 5, 3) := by decide +kernel
theorem dX2_inWayOfCell_64 : decode cX2_inWayOfCell 64 = .ok (.bipush (-12), 2) := by decide +kernel
theorem dX2_inWayOfCell_66 : decode cX2_inWayOfCell 66 = .ok (.ireturn, 1) := by decide +kernel
theorem dX2_partLookedAt_0 : decode cX2_partLookedAt 0 = .ok (.aload_n 0, 1) := by decide +kernel
theorem dX2_partLookedAt_1 : decode cX2_partLookedAt 1 = .ok (.iload_n 1, 1) := by decide +kernel
theorem dX2_partLookedAt_2 : decode cX2_partLookedAt 2 = .ok (.iload_n 2, 1) := by decide +kernel
theorem dX2_partLookedAt_3 : decode cX2_partLookedAt 3 = .ok (.iconst 1, 1) := by decide +kernel
theorem dX2_partLookedAt_4 : decode cX2_partLookedAt 4 = .ok (.invokevirtual 60, 3) := by decide +kernel
theorem dX2_partLookedAt_7 : decode cX2_partLookedAt 7 = .ok (.istore_n 3, 1) := by decide +kernel
theorem dX2_partLookedAt_8 : decode cX2_partLookedAt 8 = .ok (.iload_n 3, 1) := by decide +kernel
theorem dX2_partLookedAt_9 : decode cX2_partLookedAt 9 = .ok (.ifCond .eq 5, 3) := by decide +kernel
theorem dX2_partLookedAt_12 : decode cX2_partLookedAt 12 = .ok (.iload_n 3, 1) := by decide +kernel
theorem dX2_partLookedAt_13 : decode cX2_partLookedAt 13 = .ok (.ireturn, 1) := by decide +kernel
theorem dX2_partLookedAt_14 : decode cX2_partLookedAt 14 = .ok (.aload_n 0, 1) := by decide +kernel
theorem dX2_partLookedAt_15 : decode cX2_partLookedAt 15 = .ok (.getfield 11, 3) := by decide +kernel
theorem dX2_partLookedAt_18 : decode cX2_partLookedAt 18 = .ok (.iload_n 1, 1) := by decide +kernel
theorem dX2_partLookedAt_19 : decode cX2_partLookedAt 19 = .ok (.aaload, 1) := by decide +kernel
theorem dX2_partLookedAt_20 : decode cX2_partLookedAt 20 = .ok (.iload_n 2, 1) := by decide +kernel
theorem dX2_partLookedAt_21 : decode cX2_partLookedAt 21 = .ok (.invokevirtual 80, 3) := by decide +kernel
theorem dX2_partLookedAt_24 : decode cX2_partLookedAt 24 = .ok (.istore 4, 2) := by decide +kernel
theorem dX2_partLookedAt_26 : decode cX2_partLookedAt 26 = .ok (.aload_n 0, 1) := by decide +kernel
theorem dX2_partLookedAt_27 : decode cX2_partLookedAt 27 = .ok (.iload 4, 2) := by decide +kernel
theorem dX2_partLookedAt_29 : decode cX2_partLookedAt 29 = .ok (.invokevirtual 103, 3) := by decide +kernel
theorem dX2_partLookedAt_32 : decode cX2_partLookedAt 32 = .ok (.ifCond .eq 8, 3) := by decide +kernel
theorem dX2_partLookedAt_35 : decode cX2_partLookedAt 35 = .ok (.iload 4, 2) := by decide +kernel
theorem dX2_partLookedAt_37 : decode cX2_partLookedAt 37 = .ok (.goto 5, 3) := by decide +kernel
theorem dX2_partLookedAt_40 : decode cX2_partLookedAt 40 = .ok (.bipush (-11), 2) := by decide +kernel
theorem dX2_partLookedAt_42 : decode cX2_partLookedAt 42 = .ok (.ireturn, 1) := by decide +kernel
theorem dX2_isForPart_0 : decode cX2_isForPart 0 = .ok (.aload_n 0, 1) := by decide +kernel
theorem dX2_isForPart_1 : decode cX2_isForPart 1 = .ok (.iload_n 2, 1) := by decide +kernel
theorem dX2_isForPart_2 : decode cX2_isForPart 2 = .ok (.invokevirtual 103, 3) := by decide +kernel
theorem dX2_isForPart_5 : decode cX2_isForPart 5 = .ok (.ifCond .eq 19, 3) := by decide +kernel
theorem dX2_isForPart_8 : decode cX2_isForPart 8 = .ok (.aload_n 1, 1) := by decide +kernel
theorem dX2_isForPart_9 : decode cX2_isForPart 9 = .ok (.aload_n 0, 1) := by decide +kernel
theorem dX2_isForPart_10 : decode cX2_isForPart 10 = .ok (.getfield 20, 3) := by decide +kernel
theorem dX2_isForPart_13 : decode cX2_isForPart 13 = .ok (.iload_n 2, 1) := by decide +kernel
theorem dX2_isForPart_14 : decode cX2_isForPart 14 = .ok (.aaload, 1) := by decide +kernel
theorem dX2_isForPart_15 : decode cX2_isForPart 15 = .ok (.getfield 123, 3) := by decide +kernel
theorem dX2_isForPart_18 : decode cX2_isForPart 18 = .ok (.invokevirtual 166, 3) := by decide +kernel
theorem dX2_isForPart_21 : decode cX2_isForPart 21 = .ok (.ifCond .eq 7, 3) := by decide +kernel
theorem dX2_isForPart_24 : decode cX2_isForPart 24 = .ok (.iconst 1, 1) := by decide +kernel
theorem dX2_isForPart_25 : decode cX2_isForPart 25 = .ok (.goto 4, 3) := by decide +kernel
theorem dX2_isForPart_28 : decode cX2_isForPart 28 = .ok (.iconst 0, 1) := by decide +kernel
theorem dX2_isForPart_29 : decode cX2_isForPart 29 = .ok (.ireturn, 1) := by decide +kernel
theorem dX2_takeParts_0 : decode cX2_takeParts 0 = .ok (.iconst 0, 1) := by decide +kernel
theorem dX2_takeParts_1 : decode cX2_takeParts 1 = .ok (.istore 6, 2) := by decide +kernel
theorem dX2_takeParts_3 : decode cX2_takeParts 3 = .ok (.iload 6, 2) := by decide +kernel
theorem dX2_takeParts_5 : decode cX2_takeParts 5 = .ok (.iload 5, 2) := by decide +kernel
theorem dX2_takeParts_7 : decode cX2_takeParts 7 = .ok (.if_icmp .ge 43, 3) := by decide +kernel
theorem dX2_takeParts_10 : decode cX2_takeParts 10 = .ok (.aload_n 1, 1) := by decide +kernel
theorem dX2_takeParts_11 : decode cX2_takeParts 11 = .ok (.iload_n 2, 1) := by decide +kernel
theorem dX2_takeParts_12 : decode cX2_takeParts 12 = .ok (.iload 6, 2) := by decide +kernel
theorem dX2_takeParts_14 : decode cX2_takeParts 14 = .ok (.iadd, 1) := by decide +kernel
theorem dX2_takeParts_15 : decode cX2_takeParts 15 = .ok (.invokevirtual 80, 3) := by decide +kernel
theorem dX2_takeParts_18 : decode cX2_takeParts 18 = .ok (.istore 7, 2) := by decide +kernel
theorem dX2_takeParts_20 : decode cX2_takeParts 20 = .ok (.aload_n 0, 1) := by decide +kernel
theorem dX2_takeParts_21 : decode cX2_takeParts 21 = .ok (.aload_n 3, 1) := by decide +kernel
theorem dX2_takeParts_22 : decode cX2_takeParts 22 = .ok (.iload 7, 2) := by decide +kernel
theorem dX2_takeParts_24 : decode cX2_takeParts 24 = .ok (.invokevirtual 106, 3) := by decide +kernel
theorem dX2_takeParts_27 : decode cX2_takeParts 27 = .ok (.ifCond .ne 6, 3) := by decide +kernel
theorem dX2_takeParts_30 : decode cX2_takeParts 30 = .ok (.iload 6, 2) := by decide +kernel
theorem dX2_takeParts_32 : decode cX2_takeParts 32 = .ok (.ireturn, 1) := by decide +kernel
theorem dX2_takeParts_33 : decode cX2_takeParts 33 = .ok (.aload_n 3, 1) := by decide +kernel
theorem dX2_takeParts_34 : decode cX2_takeParts 34 = .ok (.iload 4, 2) := by decide +kernel
theorem dX2_takeParts_36 : decode cX2_takeParts 36 = .ok (.iload 6, 2) := by decide +kernel
theorem dX2_takeParts_38 : decode cX2_takeParts 38 = .ok (.iadd, 1) := by decide +kernel
theorem dX2_takeParts_39 : decode cX2_takeParts 39 = .ok (.iload 7, 2) := by decide +kernel
theorem dX2_takeParts_41 : decode cX2_takeParts 41 = .ok (.invokevirtual 110, 3) := by decide +kernel
theorem dX2_takeParts_44 : decode cX2_takeParts 44 = .ok (.iinc 6 1, 3) := by decide +kernel
theorem dX2_takeParts_47 : decode cX2_takeParts 47 = .ok (.goto (-44), 3) := by decide +kernel
theorem dX2_takeParts_50 : decode cX2_takeParts 50 = .ok (.iload 5, 2) := by decide +kernel
theorem dX2_takeParts_52 : decode cX2_takeParts 52 = .ok (.ireturn, 1) := by decide +kernel
theorem dX2_moveByDigit_0 : decode cX2_moveByDigit 0 = .ok (.iload_n 2, 1) := by decide +kernel
theorem dX2_moveByDigit_1 : decode cX2_moveByDigit 1 = .ok (.ifCond .lt 22, 3) := by decide +kernel
theorem dX2_moveByDigit_4 : decode cX2_moveByDigit 4 = .ok (.iload_n 2, 1) := by decide +kernel
theorem dX2_moveByDigit_5 : decode cX2_moveByDigit 5 = .ok (.bipush 6, 2) := by decide +kernel
theorem dX2_moveByDigit_7 : decode cX2_moveByDigit 7 = .ok (.if_icmp .ge 16, 3) := by decide +kernel
theorem dX2_moveByDigit_10 : decode cX2_moveByDigit 10 = .ok (.aload_n 1, 1) := by decide +kernel
theorem dX2_moveByDigit_11 : decode cX2_moveByDigit 11 = .ok (.aload_n 0, 1) := by decide +kernel
theorem dX2_moveByDigit_12 : decode cX2_moveByDigit 12 = .ok (.getfield 15, 3) := by decide +kernel
theorem dX2_moveByDigit_15 : decode cX2_moveByDigit 15 = .ok (.iload_n 2, 1) := by decide +kernel
theorem dX2_moveByDigit_16 : decode cX2_moveByDigit 16 = .ok (.aaload, 1) := by decide +kernel
theorem dX2_moveByDigit_17 : decode cX2_moveByDigit 17 = .ok (.invokevirtual 145, 3) := by decide +kernel
theorem dX2_moveByDigit_20 : decode cX2_moveByDigit 20 = .ok (.goto 13, 3) := by decide +kernel
theorem dX2_moveByDigit_23 : decode cX2_moveByDigit 23 = .ok (.iload_n 2, 1) := by decide +kernel
theorem dX2_moveByDigit_24 : decode cX2_moveByDigit 24 = .ok (.bipush 6, 2) := by decide +kernel
theorem dX2_moveByDigit_26 : decode cX2_moveByDigit 26 = .ok (.if_icmp .ne 7, 3) := by decide +kernel
theorem dX2_moveByDigit_29 : decode cX2_moveByDigit 29 = .ok (.aload_n 1, 1) := by decide +kernel
theorem dX2_moveByDigit_30 : decode cX2_moveByDigit 30 = .ok (.invokevirtual 54, 3) := by decide +kernel
theorem dX2_moveByDigit_33 : decode cX2_moveByDigit 33 = .ok (.return_, 1) := by decide +kernel
theorem dX2_countColumns_0 : decode cX2_countColumns 0 = .ok (.iconst 0, 1) := by decide +kernel
theorem dX2_countColumns_1 : decode cX2_countColumns 1 = .ok (.istore_n 1, 1) := by decide +kernel
theorem dX2_countColumns_2 : decode cX2_countColumns 2 = .ok (.iconst 0, 1) := by decide +kernel
theorem dX2_countColumns_3 : decode cX2_countColumns 3 = .ok (.istore_n 2, 1) := by decide +kernel
theorem dX2_countColumns_4 : decode cX2_countColumns 4 = .ok (.iload_n 2, 1) := by decide +kernel
theorem dX2_countColumns_5 : decode cX2_countColumns 5 = .ok (.bipush 24, 2) := by decide +kernel
theorem dX2_countColumns_7 : decode cX2_countColumns 7 = .ok (.if_icmp .ge 29, 3) := by decide +kernel
theorem dX2_countColumns_10 : decode cX2_countColumns 10 = .ok (.iload_n 1, 1) := by decide +kernel
theorem dX2_countColumns_11 : decode cX2_countColumns 11 = .ok (.aload_n 0, 1) := by decide +kernel
theorem dX2_countColumns_12 : decode cX2_countColumns 12 = .ok (.getfield 11, 3) := by decide +kernel
theorem dX2_countColumns_15 : decode cX2_countColumns 15 = .ok (.iload_n 2, 1) := by decide +kernel
theorem dX2_countColumns_16 : decode cX2_countColumns 16 = .ok (.aaload, 1) := by decide +kernel
theorem dX2_countColumns_17 : decode cX2_countColumns 17 = .ok (.invokevirtual 51, 3) := by decide +kernel
theorem dX2_countColumns_20 : decode cX2_countColumns 20 = .ok (.ifCond .eq 7, 3) := by decide +kernel
theorem dX2_countColumns_23 : decode cX2_countColumns 23 = .ok (.iconst 0, 1) := by decide +kernel
theorem dX2_countColumns_24 : decode cX2_countColumns 24 = .ok (.goto 4, 3) := by decide +kernel
theorem dX2_countColumns_27 : decode cX2_countColumns 27 = .ok (.iconst 1, 1) := by decide +kernel
theorem dX2_countColumns_28 : decode cX2_countColumns 28 = .ok (.iadd, 1) := by decide +kernel
theorem dX2_countColumns_29 : decode cX2_countColumns 29 = .ok (.istore_n 1, 1) := by decide +kernel
theorem dX2_countColumns_30 : decode cX2_countColumns 30 = .ok (.iinc 2 1, 3) := by decide +kernel
theorem dX2_countColumns_33 : decode cX2_countColumns 33 = .ok (.goto (-29), 3) := by decide +kernel
theorem dX2_countColumns_36 : decode cX2_countColumns 36 = .ok (.iload_n 1, 1) := by decide +kernel
theorem dX2_countColumns_37 : decode cX2_countColumns 37 = .ok (.ireturn, 1) := by decide +kernel
theorem dX2_countCells_0 : decode cX2_countCells 0 = .ok (.iconst 0, 1) := by decide +kernel
theorem dX2_countCells_1 : decode cX2_countCells 1 = .ok (.istore_n 1, 1) := by decide +kernel
theorem dX2_countCells_2 : decode cX2_countCells 2 = .ok (.iconst 0, 1) := by decide +kernel
theorem dX2_countCells_3 : decode cX2_countCells 3 = .ok (.istore_n 2, 1) := by decide +kernel
theorem dX2_countCells_4 : decode cX2_countCells 4 = .ok (.iload_n 2, 1) := by decide +kernel
theorem dX2_countCells_5 : decode cX2_countCells 5 = .ok (.bipush 24, 2) := by decide +kernel
theorem dX2_countCells_7 : decode cX2_countCells 7 = .ok (.if_icmp .ge 37, 3) := by decide +kernel
theorem dX2_countCells_10 : decode cX2_countCells 10 = .ok (.iload_n 1, 1) := by decide +kernel
theorem dX2_countCells_11 : decode cX2_countCells 11 = .ok (.aload_n 0, 1) := by decide +kernel
theorem dX2_countCells_12 : decode cX2_countCells 12 = .ok (.getfield 11, 3) := by decide +kernel
theorem dX2_countCells_15 : decode cX2_countCells 15 = .ok (.iload_n 2, 1) := by decide +kernel
theorem dX2_countCells_16 : decode cX2_countCells 16 = .ok (.aaload, 1) := by decide +kernel
theorem dX2_countCells_17 : decode cX2_countCells 17 = .ok (.invokevirtual 41, 3) := by decide +kernel
theorem dX2_countCells_20 : decode cX2_countCells 20 = .ok (.ifCond .eq 7, 3) := by decide +kernel
theorem dX2_countCells_23 : decode cX2_countCells 23 = .ok (.iconst 0, 1) := by decide +kernel
theorem dX2_countCells_24 : decode cX2_countCells 24 = .ok (.goto 12, 3) := by decide +kernel
theorem dX2_countCells_27 : decode cX2_countCells 27 = .ok (.aload_n 0, 1) := by decide +kernel
theorem dX2_countCells_28 : decode cX2_countCells 28 = .ok (.getfield 11, 3) := by decide +kernel
theorem dX2_countCells_31 : decode cX2_countCells 31 = .ok (.iload_n 2, 1) := by decide +kernel
theorem dX2_countCells_32 : decode cX2_countCells 32 = .ok (.aaload, 1) := by decide +kernel
theorem dX2_countCells_33 : decode cX2_countCells 33 = .ok (.getfield 45, 3) := by decide +kernel
theorem dX2_countCells_36 : decode cX2_countCells 36 = .ok (.iadd, 1) := by decide +kernel
theorem dX2_countCells_37 : decode cX2_countCells 37 = .ok (.istore_n 1, 1) := by decide +kernel
theorem dX2_countCells_38 : decode cX2_countCells 38 = .ok (.iinc 2 1, 3) := by decide +kernel
theorem dX2_countCells_41 : decode cX2_countCells 41 = .ok (.goto (-37), 3) := by decide +kernel
theorem dX2_countCells_44 : decode cX2_countCells 44 = .ok (.iload_n 1, 1) := by decide +kernel
theorem dX2_countCells_45 : decode cX2_countCells 45 = .ok (.ireturn, 1) := by decide +kernel
theorem dX2_countHeld_0 : decode cX2_countHeld 0 = .ok (.iconst 0, 1) := by decide +kernel
theorem dX2_countHeld_1 : decode cX2_countHeld 1 = .ok (.istore_n 1, 1) := by decide +kernel
theorem dX2_countHeld_2 : decode cX2_countHeld 2 = .ok (.iconst 0, 1) := by decide +kernel
theorem dX2_countHeld_3 : decode cX2_countHeld 3 = .ok (.istore_n 2, 1) := by decide +kernel
theorem dX2_countHeld_4 : decode cX2_countHeld 4 = .ok (.iload_n 2, 1) := by decide +kernel
theorem dX2_countHeld_5 : decode cX2_countHeld 5 = .ok (.bipush 24, 2) := by decide +kernel
theorem dX2_countHeld_7 : decode cX2_countHeld 7 = .ok (.if_icmp .ge 21, 3) := by decide +kernel
theorem dX2_countHeld_10 : decode cX2_countHeld 10 = .ok (.iload_n 1, 1) := by decide +kernel
theorem dX2_countHeld_11 : decode cX2_countHeld 11 = .ok (.aload_n 0, 1) := by decide +kernel
theorem dX2_countHeld_12 : decode cX2_countHeld 12 = .ok (.getfield 11, 3) := by decide +kernel
theorem dX2_countHeld_15 : decode cX2_countHeld 15 = .ok (.iload_n 2, 1) := by decide +kernel
theorem dX2_countHeld_16 : decode cX2_countHeld 16 = .ok (.aaload, 1) := by decide +kernel
theorem dX2_countHeld_17 : decode cX2_countHeld 17 = .ok (.invokevirtual 169, 3) := by decide +kernel
theorem dX2_countHeld_20 : decode cX2_countHeld 20 = .ok (.iadd, 1) := by decide +kernel
theorem dX2_countHeld_21 : decode cX2_countHeld 21 = .ok (.istore_n 1, 1) := by decide +kernel
theorem dX2_countHeld_22 : decode cX2_countHeld 22 = .ok (.iinc 2 1, 3) := by decide +kernel
theorem dX2_countHeld_25 : decode cX2_countHeld 25 = .ok (.goto (-21), 3) := by decide +kernel
theorem dX2_countHeld_28 : decode cX2_countHeld 28 = .ok (.iload_n 1, 1) := by decide +kernel
theorem dX2_countHeld_29 : decode cX2_countHeld 29 = .ok (.ireturn, 1) := by decide +kernel
theorem dX3_init_0 : decode cX3_init 0 = .ok (.aload_n 0, 1) := by decide +kernel
theorem dX3_init_1 : decode cX3_init 1 = .ok (.invokespecial 1, 3) := by decide +kernel
theorem dX3_init_4 : decode cX3_init 4 = .ok (.aload_n 0, 1) := by decide +kernel
theorem dX3_init_5 : decode cX3_init 5 = .ok (.bipush 24, 2) := by decide +kernel
theorem dX3_init_7 : decode cX3_init 7 = .ok (.newarray .int, 2) := by decide +kernel
theorem dX3_init_9 : decode cX3_init 9 = .ok (.putfield 7, 3) := by decide +kernel
theorem dX3_init_12 : decode cX3_init 12 = .ok (.aload_n 0, 1) := by decide +kernel
theorem dX3_init_13 : decode cX3_init 13 = .ok (.bipush 24, 2) := by decide +kernel
theorem dX3_init_15 : decode cX3_init 15 = .ok (.newarray .int, 2) := by decide +kernel
theorem dX3_init_17 : decode cX3_init 17 = .ok (.putfield 13, 3) := by decide +kernel
theorem dX3_init_20 : decode cX3_init 20 = .ok (.aload_n 0, 1) := by decide +kernel
theorem dX3_init_21 : decode cX3_init 21 = .ok (.bipush 24, 2) := by decide +kernel
theorem dX3_init_23 : decode cX3_init 23 = .ok (.newarray .boolean, 2) := by decide +kernel
theorem dX3_init_25 : decode cX3_init 25 = .ok (.putfield 16, 3) := by decide +kernel
theorem dX3_init_28 : decode cX3_init 28 = .ok (.aload_n 0, 1) := by decide +kernel
theorem dX3_init_29 : decode cX3_init 29 = .ok (.sipush 960, 3) := by decide +kernel
theorem dX3_init_32 : decode cX3_init 32 = .ok (.newarray .long, 2) := by decide +kernel
theorem dX3_init_34 : decode cX3_init 34 = .ok (.putfield 20, 3) := by decide +kernel
theorem dX3_init_37 : decode cX3_init 37 = .ok (.aload_n 0, 1) := by decide +kernel
theorem dX3_init_38 : decode cX3_init 38 = .ok (.sipush 960, 3) := by decide +kernel
theorem dX3_init_41 : decode cX3_init 41 = .ok (.newarray .double, 2) := by decide +kernel
theorem dX3_init_43 : decode cX3_init 43 = .ok (.putfield 24, 3) := by decide +kernel
theorem dX3_init_46 : decode cX3_init 46 = .ok (.aload_n 0, 1) := by decide +kernel
theorem dX3_init_47 : decode cX3_init 47 = .ok (.bipush 6, 2) := by decide +kernel
theorem dX3_init_49 : decode cX3_init 49 = .ok (.newarray .int, 2) := by decide +kernel
theorem dX3_init_51 : decode cX3_init 51 = .ok (.putfield 28, 3) := by decide +kernel
theorem dX3_init_54 : decode cX3_init 54 = .ok (.aload_n 0, 1) := by decide +kernel
theorem dX3_init_55 : decode cX3_init 55 = .ok (.bipush 6, 2) := by decide +kernel
theorem dX3_init_57 : decode cX3_init 57 = .ok (.newarray .int, 2) := by decide +kernel
theorem dX3_init_59 : decode cX3_init 59 = .ok (.putfield 31, 3) := by decide +kernel
theorem dX3_init_62 : decode cX3_init 62 = .ok (.aload_n 0, 1) := by decide +kernel
theorem dX3_init_63 : decode cX3_init 63 = .ok (.bipush 6, 2) := by decide +kernel
theorem dX3_init_65 : decode cX3_init 65 = .ok (.newarray .boolean, 2) := by decide +kernel
theorem dX3_init_67 : decode cX3_init 67 = .ok (.putfield 34, 3) := by decide +kernel
theorem dX3_init_70 : decode cX3_init 70 = .ok (.aload_n 0, 1) := by decide +kernel
theorem dX3_init_71 : decode cX3_init 71 = .ok (.sipush 240, 3) := by decide +kernel
theorem dX3_init_74 : decode cX3_init 74 = .ok (.newarray .long, 2) := by decide +kernel
theorem dX3_init_76 : decode cX3_init 76 = .ok (.putfield 37, 3) := by decide +kernel
theorem dX3_init_79 : decode cX3_init 79 = .ok (.aload_n 0, 1) := by decide +kernel
theorem dX3_init_80 : decode cX3_init 80 = .ok (.sipush 240, 3) := by decide +kernel
theorem dX3_init_83 : decode cX3_init 83 = .ok (.newarray .double, 2) := by decide +kernel
theorem dX3_init_85 : decode cX3_init 85 = .ok (.putfield 40, 3) := by decide +kernel
theorem dX3_init_88 : decode cX3_init 88 = .ok (.aload_n 0, 1) := by decide +kernel
theorem dX3_init_89 : decode cX3_init 89 = .ok (.bipush 40, 2) := by decide +kernel
theorem dX3_init_91 : decode cX3_init 91 = .ok (.newarray .int, 2) := by decide +kernel
theorem dX3_init_93 : decode cX3_init 93 = .ok (.putfield 43, 3) := by decide +kernel
theorem dX3_init_96 : decode cX3_init 96 = .ok (.aload_n 0, 1) := by decide +kernel
theorem dX3_init_97 : decode cX3_init 97 = .ok (.bipush 40, 2) := by decide +kernel
theorem dX3_init_99 : decode cX3_init 99 = .ok (.newarray .int, 2) := by decide +kernel
theorem dX3_init_101 : decode cX3_init 101 = .ok (.putfield 46, 3) := by decide +kernel
theorem dX3_init_104 : decode cX3_init 104 = .ok (.aload_n 0, 1) := by decide +kernel
theorem dX3_init_105 : decode cX3_init 105 = .ok (.bipush 40, 2) := by decide +kernel
theorem dX3_init_107 : decode cX3_init 107 = .ok (.newarray .int, 2) := by decide +kernel
theorem dX3_init_109 : decode cX3_init 109 = .ok (.putfield 49, 3) := by decide +kernel
theorem dX3_init_112 : decode cX3_init 112 = .ok (.aload_n 0, 1) := by decide +kernel
theorem dX3_init_113 : decode cX3_init 113 = .ok (.bipush 40, 2) := by decide +kernel
theorem dX3_init_115 : decode cX3_init 115 = .ok (.newarray .int, 2) := by decide +kernel
theorem dX3_init_117 : decode cX3_init 117 = .ok (.putfield 52, 3) := by decide +kernel
theorem dX3_init_120 : decode cX3_init 120 = .ok (.iconst 0, 1) := by decide +kernel
theorem dX3_init_121 : decode cX3_init 121 = .ok (.istore_n 1, 1) := by decide +kernel
theorem dX3_init_122 : decode cX3_init 122 = .ok (.iload_n 1, 1) := by decide +kernel
theorem dX3_init_123 : decode cX3_init 123 = .ok (.bipush 24, 2) := by decide +kernel
theorem dX3_init_125 : decode cX3_init 125 = .ok (.if_icmp .ge 16, 3) := by decide +kernel
theorem dX3_init_128 : decode cX3_init 128 = .ok (.aload_n 0, 1) := by decide +kernel
theorem dX3_init_129 : decode cX3_init 129 = .ok (.getfield 7, 3) := by decide +kernel
theorem dX3_init_132 : decode cX3_init 132 = .ok (.iload_n 1, 1) := by decide +kernel
theorem dX3_init_133 : decode cX3_init 133 = .ok (.iconst (-1), 1) := by decide +kernel
theorem dX3_init_134 : decode cX3_init 134 = .ok (.iastore, 1) := by decide +kernel
theorem dX3_init_135 : decode cX3_init 135 = .ok (.iinc 1 1, 3) := by decide +kernel
theorem dX3_init_138 : decode cX3_init 138 = .ok (.goto (-16), 3) := by decide +kernel
theorem dX3_init_141 : decode cX3_init 141 = .ok (.return_, 1) := by decide +kernel
theorem dX3_thrown_0 : decode cX3_thrown 0 = .ok (.aload_n 0, 1) := by decide +kernel
theorem dX3_thrown_1 : decode cX3_thrown 1 = .ok (.getfield 55, 3) := by decide +kernel
theorem dX3_thrown_4 : decode cX3_thrown 4 = .ok (.ireturn, 1) := by decide +kernel
theorem dX3_in_0 : decode cX3_in 0 = .ok (.iload_n 0, 1) := by decide +kernel
theorem dX3_in_1 : decode cX3_in 1 = .ok (.iload_n 1, 1) := by decide +kernel
theorem dX3_in_2 : decode cX3_in 2 = .ok (.if_icmp .lt 12, 3) := by decide +kernel
theorem dX3_in_5 : decode cX3_in 5 = .ok (.iload_n 0, 1) := by decide +kernel
theorem dX3_in_6 : decode cX3_in 6 = .ok (.iload_n 2, 1) := by decide +kernel
theorem dX3_in_7 : decode cX3_in 7 = .ok (.if_icmp .gt 7, 3) := by decide +kernel
theorem dX3_in_10 : decode cX3_in 10 = .ok (.iconst 1, 1) := by decide +kernel
theorem dX3_in_11 : decode cX3_in 11 = .ok (.goto 4, 3) := by decide +kernel
theorem dX3_in_14 : decode cX3_in 14 = .ok (.iconst 0, 1) := by decide +kernel
theorem dX3_in_15 : decode cX3_in 15 = .ok (.ireturn, 1) := by decide +kernel
theorem dX3_isPlace_0 : decode cX3_isPlace 0 = .ok (.iload_n 0, 1) := by decide +kernel
theorem dX3_isPlace_1 : decode cX3_isPlace 1 = .ok (.iconst 0, 1) := by decide +kernel
theorem dX3_isPlace_2 : decode cX3_isPlace 2 = .ok (.bipush 23, 2) := by decide +kernel
theorem dX3_isPlace_4 : decode cX3_isPlace 4 = .ok (.invokestatic 59, 3) := by decide +kernel
theorem dX3_isPlace_7 : decode cX3_isPlace 7 = .ok (.ireturn, 1) := by decide +kernel
theorem dX3_has_0 : decode cX3_has 0 = .ok (.iload_n 2, 1) := by decide +kernel
theorem dX3_has_1 : decode cX3_has 1 = .ok (.ifCond .lt 17, 3) := by decide +kernel
theorem dX3_has_4 : decode cX3_has 4 = .ok (.iload_n 2, 1) := by decide +kernel
theorem dX3_has_5 : decode cX3_has 5 = .ok (.aload_n 0, 1) := by decide +kernel
theorem dX3_has_6 : decode cX3_has 6 = .ok (.getfield 13, 3) := by decide +kernel
theorem dX3_has_9 : decode cX3_has 9 = .ok (.iload_n 1, 1) := by decide +kernel
theorem dX3_has_10 : decode cX3_has 10 = .ok (.iaload, 1) := by decide +kernel
theorem dX3_has_11 : decode cX3_has 11 = .ok (.if_icmp .ge 7, 3) := by decide +kernel
theorem dX3_has_14 : decode cX3_has 14 = .ok (.iconst 1, 1) := by decide +kernel
theorem dX3_has_15 : decode cX3_has 15 = .ok (.goto 4, 3) := by decide +kernel
theorem dX3_has_18 : decode cX3_has 18 = .ok (.iconst 0, 1) := by decide +kernel
theorem dX3_has_19 : decode cX3_has 19 = .ok (.ireturn, 1) := by decide +kernel
theorem dX3_way_0 : decode cX3_way 0 = .ok (.aload_n 0, 1) := by decide +kernel
theorem dX3_way_1 : decode cX3_way 1 = .ok (.getfield 7, 3) := by decide +kernel
theorem dX3_way_4 : decode cX3_way 4 = .ok (.iload_n 1, 1) := by decide +kernel
theorem dX3_way_5 : decode cX3_way 5 = .ok (.iaload, 1) := by decide +kernel
theorem dX3_way_6 : decode cX3_way 6 = .ok (.iconst (-1), 1) := by decide +kernel
theorem dX3_way_7 : decode cX3_way 7 = .ok (.if_icmp .ne 6, 3) := by decide +kernel
theorem dX3_way_10 : decode cX3_way 10 = .ok (.bipush (-11), 2) := by decide +kernel
theorem dX3_way_12 : decode cX3_way 12 = .ok (.ireturn, 1) := by decide +kernel
theorem dX3_way_13 : decode cX3_way 13 = .ok (.aload_n 0, 1) := by decide +kernel
theorem dX3_way_14 : decode cX3_way 14 = .ok (.getfield 7, 3) := by decide +kernel
theorem dX3_way_17 : decode cX3_way 17 = .ok (.iload_n 1, 1) := by decide +kernel
theorem dX3_way_18 : decode cX3_way 18 = .ok (.iaload, 1) := by decide +kernel
theorem dX3_way_19 : decode cX3_way 19 = .ok (.bipush 7, 2) := by decide +kernel
theorem dX3_way_21 : decode cX3_way 21 = .ok (.if_icmp .lt 7, 3) := by decide +kernel
theorem dX3_way_24 : decode cX3_way 24 = .ok (.iconst 1, 1) := by decide +kernel
theorem dX3_way_25 : decode cX3_way 25 = .ok (.goto 4, 3) := by decide +kernel
theorem dX3_way_28 : decode cX3_way 28 = .ok (.iconst 0, 1) := by decide +kernel
theorem dX3_way_29 : decode cX3_way 29 = .ok (.iload_n 2, 1) := by decide +kernel
theorem dX3_way_30 : decode cX3_way 30 = .ok (.if_icmp .eq 6, 3) := by decide +kernel
theorem dX3_way_33 : decode cX3_way 33 = .ok (.bipush (-13), 2) := by decide +kernel
theorem dX3_way_35 : decode cX3_way 35 = .ok (.ireturn, 1) := by decide +kernel
theorem dX3_way_36 : decode cX3_way 36 = .ok (.aload_n 0, 1) := by decide +kernel
theorem dX3_way_37 : decode cX3_way 37 = .ok (.getfield 16, 3) := by decide +kernel
theorem dX3_way_40 : decode cX3_way 40 = .ok (.iload_n 1, 1) := by decide +kernel
theorem dX3_way_41 : decode cX3_way 41 = .ok (.baload, 1) := by decide +kernel
theorem dX3_way_42 : decode cX3_way 42 = .ok (.ifCond .eq 8, 3) := by decide +kernel
theorem dX3_way_45 : decode cX3_way 45 = .ok (.bipush (-11), 2) := by decide +kernel
theorem dX3_way_47 : decode cX3_way 47 = .ok (.goto 4, 3) := by decide +kernel
theorem dX3_way_50 : decode cX3_way 50 = .ok (.iconst 0, 1) := by decide +kernel
theorem dX3_way_51 : decode cX3_way 51 = .ok (.ireturn, 1) := by decide +kernel
theorem dX3_isNone_0 : decode cX3_isNone 0 = .ok (.aload_n 0, 1) := by decide +kernel
theorem dX3_isNone_1 : decode cX3_isNone 1 = .ok (.getfield 7, 3) := by decide +kernel
theorem dX3_isNone_4 : decode cX3_isNone 4 = .ok (.iload_n 1, 1) := by decide +kernel
theorem dX3_isNone_5 : decode cX3_isNone 5 = .ok (.iaload, 1) := by decide +kernel
theorem dX3_isNone_6 : decode cX3_isNone 6 = .ok (.iconst (-1), 1) := by decide +kernel
theorem dX3_isNone_7 : decode cX3_isNone 7 = .ok (.if_icmp .eq 12, 3) := by decide +kernel
theorem dX3_isNone_10 : decode cX3_isNone 10 = .ok (.aload_n 0, 1) := by decide +kernel
theorem dX3_isNone_11 : decode cX3_isNone 11 = .ok (.getfield 16, 3) := by decide +kernel
theorem dX3_isNone_14 : decode cX3_isNone 14 = .ok (.iload_n 1, 1) := by decide +kernel
theorem dX3_isNone_15 : decode cX3_isNone 15 = .ok (.baload, 1) := by decide +kernel
theorem dX3_isNone_16 : decode cX3_isNone 16 = .ok (.ifCond .eq 7, 3) := by decide +kernel
theorem dX3_isNone_19 : decode cX3_isNone 19 = .ok (.iconst 1, 1) := by decide +kernel
theorem dX3_isNone_20 : decode cX3_isNone 20 = .ok (.goto 4, 3) := by decide +kernel
theorem dX3_isNone_23 : decode cX3_isNone 23 = .ok (.iconst 0, 1) := by decide +kernel
theorem dX3_isNone_24 : decode cX3_isNone 24 = .ok (.ireturn, 1) := by decide +kernel
theorem dX3_make_0 : decode cX3_make 0 = .ok (.aload_n 0, 1) := by decide +kernel
theorem dX3_make_1 : decode cX3_make 1 = .ok (.iconst 0, 1) := by decide +kernel
theorem dX3_make_2 : decode cX3_make 2 = .ok (.putfield 55, 3) := by decide +kernel
theorem dX3_make_5 : decode cX3_make 5 = .ok (.iload_n 1, 1) := by decide +kernel
theorem dX3_make_6 : decode cX3_make 6 = .ok (.invokestatic 63, 3) := by decide +kernel
theorem dX3_make_9 : decode cX3_make 9 = .ok (.ifCond .eq 19, 3) := by decide +kernel
theorem dX3_make_12 : decode cX3_make 12 = .ok (.iload_n 2, 1) := by decide +kernel
theorem dX3_make_13 : decode cX3_make 13 = .ok (.iconst 0, 1) := by decide +kernel
theorem dX3_make_14 : decode cX3_make 14 = .ok (.bipush 9, 2) := by decide +kernel
theorem dX3_make_16 : decode cX3_make 16 = .ok (.invokestatic 59, 3) := by decide +kernel
theorem dX3_make_19 : decode cX3_make 19 = .ok (.ifCond .eq 9, 3) := by decide +kernel
theorem dX3_make_22 : decode cX3_make 22 = .ok (.iload_n 3, 1) := by decide +kernel
theorem dX3_make_23 : decode cX3_make 23 = .ok (.bipush 40, 2) := by decide +kernel
theorem dX3_make_25 : decode cX3_make 25 = .ok (.if_icmp .le 5, 3) := by decide +kernel
theorem dX3_make_28 : decode cX3_make 28 = .ok (.iconst (-1), 1) := by decide +kernel
theorem dX3_make_29 : decode cX3_make 29 = .ok (.ireturn, 1) := by decide +kernel
theorem dX3_make_30 : decode cX3_make 30 = .ok (.iload_n 3, 1) := by decide +kernel
theorem dX3_make_31 : decode cX3_make 31 = .ok (.ifCond .ge 6, 3) := by decide +kernel
theorem dX3_make_34 : decode cX3_make 34 = .ok (.bipush (-16), 2) := by decide +kernel
theorem dX3_make_36 : decode cX3_make 36 = .ok (.ireturn, 1) := by decide +kernel
theorem dX3_make_37 : decode cX3_make 37 = .ok (.aload_n 0, 1) := by decide +kernel
theorem dX3_make_38 : decode cX3_make 38 = .ok (.getfield 7, 3) := by decide +kernel
theorem dX3_make_41 : decode cX3_make 41 = .ok (.iload_n 1, 1) := by decide +kernel
theorem dX3_make_42 : decode cX3_make 42 = .ok (.iload_n 2, 1) := by decide +kernel
theorem dX3_make_43 : decode cX3_make 43 = .ok (.iastore, 1) := by decide +kernel
theorem dX3_make_44 : decode cX3_make 44 = .ok (.aload_n 0, 1) := by decide +kernel
theorem dX3_make_45 : decode cX3_make 45 = .ok (.getfield 13, 3) := by decide +kernel
theorem dX3_make_48 : decode cX3_make 48 = .ok (.iload_n 1, 1) := by decide +kernel
theorem dX3_make_49 : decode cX3_make 49 = .ok (.iload_n 3, 1) := by decide +kernel
theorem dX3_make_50 : decode cX3_make 50 = .ok (.iastore, 1) := by decide +kernel
theorem dX3_make_51 : decode cX3_make 51 = .ok (.aload_n 0, 1) := by decide +kernel
theorem dX3_make_52 : decode cX3_make 52 = .ok (.getfield 16, 3) := by decide +kernel
theorem dX3_make_55 : decode cX3_make 55 = .ok (.iload_n 1, 1) := by decide +kernel
theorem dX3_make_56 : decode cX3_make 56 = .ok (.iconst 0, 1) := by decide +kernel
theorem dX3_make_57 : decode cX3_make 57 = .ok (.bastore, 1) := by decide +kernel
theorem dX3_make_58 : decode cX3_make 58 = .ok (.iconst 0, 1) := by decide +kernel
theorem dX3_make_59 : decode cX3_make 59 = .ok (.istore 4, 2) := by decide +kernel
theorem dX3_make_61 : decode cX3_make 61 = .ok (.iload 4, 2) := by decide +kernel
theorem dX3_make_63 : decode cX3_make 63 = .ok (.iload_n 3, 1) := by decide +kernel
theorem dX3_make_64 : decode cX3_make 64 = .ok (.if_icmp .ge 47, 3) := by decide +kernel
theorem dX3_make_67 : decode cX3_make 67 = .ok (.aload_n 0, 1) := by decide +kernel
theorem dX3_make_68 : decode cX3_make 68 = .ok (.getfield 20, 3) := by decide +kernel
theorem dX3_make_71 : decode cX3_make 71 = .ok (.bipush 40, 2) := by decide +kernel
theorem dX3_make_73 : decode cX3_make 73 = .ok (.iload_n 1, 1) := by decide +kernel
theorem dX3_make_74 : decode cX3_make 74 = .ok (.imul, 1) := by decide +kernel
theorem dX3_make_75 : decode cX3_make 75 = .ok (.iload 4, 2) := by decide +kernel
theorem dX3_make_77 : decode cX3_make 77 = .ok (.iadd, 1) := by decide +kernel
theorem dX3_make_78 : decode cX3_make 78 = .ok (.iload_n 2, 1) := by decide +kernel
theorem dX3_make_79 : decode cX3_make 79 = .ok (.bipush 7, 2) := by decide +kernel
theorem dX3_make_81 : decode cX3_make 81 = .ok (.if_icmp .lt 9, 3) := by decide +kernel
theorem dX3_make_84 : decode cX3_make 84 = .ok (.ldc2_w 67, 3) := by decide +kernel
theorem dX3_make_87 : decode cX3_make 87 = .ok (.goto 4, 3) := by decide +kernel
theorem dX3_make_90 : decode cX3_make 90 = .ok (.lconst 0, 1) := by decide +kernel
theorem dX3_make_91 : decode cX3_make 91 = .ok (.lastore, 1) := by decide +kernel
theorem dX3_make_92 : decode cX3_make 92 = .ok (.aload_n 0, 1) := by decide +kernel
theorem dX3_make_93 : decode cX3_make 93 = .ok (.getfield 24, 3) := by decide +kernel
theorem dX3_make_96 : decode cX3_make 96 = .ok (.bipush 40, 2) := by decide +kernel
theorem dX3_make_98 : decode cX3_make 98 = .ok (.iload_n 1, 1) := by decide +kernel
theorem dX3_make_99 : decode cX3_make 99 = .ok (.imul, 1) := by decide +kernel
theorem dX3_make_100 : decode cX3_make 100 = .ok (.iload 4, 2) := by decide +kernel
theorem dX3_make_102 : decode cX3_make 102 = .ok (.iadd, 1) := by decide +kernel
theorem dX3_make_103 : decode cX3_make 103 = .ok (.dconst 0, 1) := by decide +kernel
theorem dX3_make_104 : decode cX3_make 104 = .ok (.dastore, 1) := by decide +kernel
theorem dX3_make_105 : decode cX3_make 105 = .ok (.iinc 4 1, 3) := by decide +kernel
theorem dX3_make_108 : decode cX3_make 108 = .ok (.goto (-47), 3) := by decide +kernel
theorem dX3_make_111 : decode cX3_make 111 = .ok (.iload_n 3, 1) := by decide +kernel
theorem dX3_make_112 : decode cX3_make 112 = .ok (.ireturn, 1) := by decide +kernel
theorem dX3_let_0 : decode cX3_let 0 = .ok (.aload_n 0, 1) := by decide +kernel
theorem dX3_let_1 : decode cX3_let 1 = .ok (.iconst 0, 1) := by decide +kernel
theorem dX3_let_2 : decode cX3_let 2 = .ok (.putfield 55, 3) := by decide +kernel
theorem dX3_let_5 : decode cX3_let 5 = .ok (.iload_n 1, 1) := by decide +kernel
theorem dX3_let_6 : decode cX3_let 6 = .ok (.invokestatic 63, 3) := by decide +kernel
theorem dX3_let_9 : decode cX3_let 9 = .ok (.ifCond .ne 5, 3) := by decide +kernel
theorem dX3_let_12 : decode cX3_let 12 = .ok (.iconst (-1), 1) := by decide +kernel
theorem dX3_let_13 : decode cX3_let 13 = .ok (.ireturn, 1) := by decide +kernel
theorem dX3_let_14 : decode cX3_let 14 = .ok (.aload_n 0, 1) := by decide +kernel
theorem dX3_let_15 : decode cX3_let 15 = .ok (.iload_n 1, 1) := by decide +kernel
theorem dX3_let_16 : decode cX3_let 16 = .ok (.invokevirtual 69, 3) := by decide +kernel
theorem dX3_let_19 : decode cX3_let 19 = .ok (.ifCond .eq 6, 3) := by decide +kernel
theorem dX3_let_22 : decode cX3_let 22 = .ok (.bipush (-11), 2) := by decide +kernel
theorem dX3_let_24 : decode cX3_let 24 = .ok (.ireturn, 1) := by decide +kernel
theorem dX3_let_25 : decode cX3_let 25 = .ok (.aload_n 0, 1) := by decide +kernel
theorem dX3_let_26 : decode cX3_let 26 = .ok (.getfield 13, 3) := by decide +kernel
theorem dX3_let_29 : decode cX3_let 29 = .ok (.iload_n 1, 1) := by decide +kernel
theorem dX3_let_30 : decode cX3_let 30 = .ok (.iaload, 1) := by decide +kernel
theorem dX3_let_31 : decode cX3_let 31 = .ok (.istore_n 2, 1) := by decide +kernel
theorem dX3_let_32 : decode cX3_let 32 = .ok (.aload_n 0, 1) := by decide +kernel
theorem dX3_let_33 : decode cX3_let 33 = .ok (.getfield 13, 3) := by decide +kernel
theorem dX3_let_36 : decode cX3_let 36 = .ok (.iload_n 1, 1) := by decide +kernel
theorem dX3_let_37 : decode cX3_let 37 = .ok (.iconst 0, 1) := by decide +kernel
theorem dX3_let_38 : decode cX3_let 38 = .ok (.iastore, 1) := by decide +kernel
theorem dX3_let_39 : decode cX3_let 39 = .ok (.aload_n 0, 1) := by decide +kernel
theorem dX3_let_40 : decode cX3_let 40 = .ok (.getfield 16, 3) := by decide +kernel
theorem dX3_let_43 : decode cX3_let 43 = .ok (.iload_n 1, 1) := by decide +kernel
theorem dX3_let_44 : decode cX3_let 44 = .ok (.iconst 1, 1) := by decide +kernel
theorem dX3_let_45 : decode cX3_let 45 = .ok (.bastore, 1) := by decide +kernel
theorem dX3_let_46 : decode cX3_let 46 = .ok (.iload_n 2, 1) := by decide +kernel
theorem dX3_let_47 : decode cX3_let 47 = .ok (.ireturn, 1) := by decide +kernel
theorem dX3_drop_0 : decode cX3_drop 0 = .ok (.aload_n 0, 1) := by decide +kernel
theorem dX3_drop_1 : decode cX3_drop 1 = .ok (.iconst 0, 1) := by decide +kernel
theorem dX3_drop_2 : decode cX3_drop 2 = .ok (.putfield 55, 3) := by decide +kernel
theorem dX3_drop_5 : decode cX3_drop 5 = .ok (.iload_n 1, 1) := by decide +kernel
theorem dX3_drop_6 : decode cX3_drop 6 = .ok (.invokestatic 63, 3) := by decide +kernel
theorem dX3_drop_9 : decode cX3_drop 9 = .ok (.ifCond .ne 5, 3) := by decide +kernel
theorem dX3_drop_12 : decode cX3_drop 12 = .ok (.iconst (-1), 1) := by decide +kernel
theorem dX3_drop_13 : decode cX3_drop 13 = .ok (.ireturn, 1) := by decide +kernel
theorem dX3_drop_14 : decode cX3_drop 14 = .ok (.aload_n 0, 1) := by decide +kernel
theorem dX3_drop_15 : decode cX3_drop 15 = .ok (.getfield 7, 3) := by decide +kernel
theorem dX3_drop_18 : decode cX3_drop 18 = .ok (.iload_n 1, 1) := by decide +kernel
theorem dX3_drop_19 : decode cX3_drop 19 = .ok (.iaload, 1) := by decide +kernel
theorem dX3_drop_20 : decode cX3_drop 20 = .ok (.iconst (-1), 1) := by decide +kernel
theorem dX3_drop_21 : decode cX3_drop 21 = .ok (.if_icmp .ne 7, 3) := by decide +kernel
theorem dX3_drop_24 : decode cX3_drop 24 = .ok (.iconst 0, 1) := by decide +kernel
theorem dX3_drop_25 : decode cX3_drop 25 = .ok (.goto 4, 3) := by decide +kernel
theorem dX3_drop_28 : decode cX3_drop 28 = .ok (.iconst 1, 1) := by decide +kernel
theorem dX3_drop_29 : decode cX3_drop 29 = .ok (.istore_n 2, 1) := by decide +kernel
theorem dX3_drop_30 : decode cX3_drop 30 = .ok (.aload_n 0, 1) := by decide +kernel
theorem dX3_drop_31 : decode cX3_drop 31 = .ok (.getfield 7, 3) := by decide +kernel
theorem dX3_drop_34 : decode cX3_drop 34 = .ok (.iload_n 1, 1) := by decide +kernel
theorem dX3_drop_35 : decode cX3_drop 35 = .ok (.iconst (-1), 1) := by decide +kernel
theorem dX3_drop_36 : decode cX3_drop 36 = .ok (.iastore, 1) := by decide +kernel
theorem dX3_drop_37 : decode cX3_drop 37 = .ok (.aload_n 0, 1) := by decide +kernel
theorem dX3_drop_38 : decode cX3_drop 38 = .ok (.getfield 13, 3) := by decide +kernel
theorem dX3_drop_41 : decode cX3_drop 41 = .ok (.iload_n 1, 1) := by decide +kernel
theorem dX3_drop_42 : decode cX3_drop 42 = .ok (.iconst 0, 1) := by decide +kernel
theorem dX3_drop_43 : decode cX3_drop 43 = .ok (.iastore, 1) := by decide +kernel
theorem dX3_drop_44 : decode cX3_drop 44 = .ok (.aload_n 0, 1) := by decide +kernel
theorem dX3_drop_45 : decode cX3_drop 45 = .ok (.getfield 16, 3) := by decide +kernel
theorem dX3_drop_48 : decode cX3_drop 48 = .ok (.iload_n 1, 1) := by decide +kernel
theorem dX3_drop_49 : decode cX3_drop 49 = .ok (.iconst 0, 1) := by decide +kernel
theorem dX3_drop_50 : decode cX3_drop 50 = .ok (.bastore, 1) := by decide +kernel
theorem dX3_drop_51 : decode cX3_drop 51 = .ok (.iload_n 2, 1) := by decide +kernel
theorem dX3_drop_52 : decode cX3_drop 52 = .ok (.ireturn, 1) := by decide +kernel
theorem dX3_kind_0 : decode cX3_kind 0 = .ok (.aload_n 0, 1) := by decide +kernel
theorem dX3_kind_1 : decode cX3_kind 1 = .ok (.iconst 0, 1) := by decide +kernel
theorem dX3_kind_2 : decode cX3_kind 2 = .ok (.putfield 55, 3) := by decide +kernel
theorem dX3_kind_5 : decode cX3_kind 5 = .ok (.iload_n 1, 1) := by decide +kernel
theorem dX3_kind_6 : decode cX3_kind 6 = .ok (.invokestatic 63, 3) := by decide +kernel
theorem dX3_kind_9 : decode cX3_kind 9 = .ok (.ifCond .ne 7, 3) := by decide +kernel
theorem dX3_kind_12 : decode cX3_kind 12 = .ok (.iconst (-1), 1) := by decide +kernel
theorem dX3_kind_13 : decode cX3_kind 13 = .ok (.goto 24, 3) := by decide +kernel
theorem dX3_kind_16 : decode cX3_kind 16 = .ok (.aload_n 0, 1) := by decide +kernel
theorem dX3_kind_17 : decode cX3_kind 17 = .ok (.getfield 7, 3) := by decide +kernel
theorem dX3_kind_20 : decode cX3_kind 20 = .ok (.iload_n 1, 1) := by decide +kernel
theorem dX3_kind_21 : decode cX3_kind 21 = .ok (.iaload, 1) := by decide +kernel
theorem dX3_kind_22 : decode cX3_kind 22 = .ok (.iconst (-1), 1) := by decide +kernel
theorem dX3_kind_23 : decode cX3_kind 23 = .ok (.if_icmp .ne 8, 3) := by decide +kernel
theorem dX3_kind_26 : decode cX3_kind 26 = .ok (.bipush (-11), 2) := by decide +kernel
theorem dX3_kind_28 : decode cX3_kind 28 = .ok (.goto 9, 3) := by decide +kernel
theorem dX3_kind_31 : decode cX3_kind 31 = .ok (.aload_n 0, 1) := by decide +kernel
theorem dX3_kind_32 : decode cX3_kind 32 = .ok (.getfield 7, 3) := by decide +kernel
theorem dX3_kind_35 : decode cX3_kind 35 = .ok (.iload_n 1, 1) := by decide +kernel
theorem dX3_kind_36 : decode cX3_kind 36 = .ok (.iaload, 1) := by decide +kernel
theorem dX3_kind_37 : decode cX3_kind 37 = .ok (.ireturn, 1) := by decide +kernel
theorem dX3_length_0 : decode cX3_length 0 = .ok (.aload_n 0, 1) := by decide +kernel
theorem dX3_length_1 : decode cX3_length 1 = .ok (.iconst 0, 1) := by decide +kernel
theorem dX3_length_2 : decode cX3_length 2 = .ok (.putfield 55, 3) := by decide +kernel
theorem dX3_length_5 : decode cX3_length 5 = .ok (.iload_n 1, 1) := by decide +kernel
theorem dX3_length_6 : decode cX3_length 6 = .ok (.invokestatic 63, 3) := by decide +kernel
theorem dX3_length_9 : decode cX3_length 9 = .ok (.ifCond .ne 7, 3) := by decide +kernel
theorem dX3_length_12 : decode cX3_length 12 = .ok (.iconst (-1), 1) := by decide +kernel
theorem dX3_length_13 : decode cX3_length 13 = .ok (.goto 22, 3) := by decide +kernel
theorem dX3_length_16 : decode cX3_length 16 = .ok (.aload_n 0, 1) := by decide +kernel
theorem dX3_length_17 : decode cX3_length 17 = .ok (.iload_n 1, 1) := by decide +kernel
theorem dX3_length_18 : decode cX3_length 18 = .ok (.invokevirtual 69, 3) := by decide +kernel
theorem dX3_length_21 : decode cX3_length 21 = .ok (.ifCond .eq 8, 3) := by decide +kernel
theorem dX3_length_24 : decode cX3_length 24 = .ok (.bipush (-11), 2) := by decide +kernel
theorem dX3_length_26 : decode cX3_length 26 = .ok (.goto 9, 3) := by decide +kernel
theorem dX3_length_29 : decode cX3_length 29 = .ok (.aload_n 0, 1) := by decide +kernel
theorem dX3_length_30 : decode cX3_length 30 = .ok (.getfield 13, 3) := by decide +kernel
theorem dX3_length_33 : decode cX3_length 33 = .ok (.iload_n 1, 1) := by decide +kernel
theorem dX3_length_34 : decode cX3_length 34 = .ok (.iaload, 1) := by decide +kernel
theorem dX3_length_35 : decode cX3_length 35 = .ok (.ireturn, 1) := by decide +kernel
theorem dX3_low_0 : decode cX3_low 0 = .ok (.iload_n 0, 1) := by decide +kernel
theorem dX3_low_1 : decode cX3_low 1 = .ok (.tableswitch 51 0 3 #[31, 36, 41, 47], 31) := by decide +kernel
theorem dX3_low_32 : decode cX3_low 32 = .ok (.lload_n 1, 1) := by decide +kernel
theorem dX3_low_33 : decode cX3_low 33 = .ok (.l2i, 1) := by decide +kernel
theorem dX3_low_34 : decode cX3_low 34 = .ok (.i2b, 1) := by decide +kernel
theorem dX3_low_35 : decode cX3_low 35 = .ok (.i2l, 1) := by decide +kernel
theorem dX3_low_36 : decode cX3_low 36 = .ok (.lreturn, 1) := by decide +kernel
theorem dX3_low_37 : decode cX3_low 37 = .ok (.lload_n 1, 1) := by decide +kernel
theorem dX3_low_38 : decode cX3_low 38 = .ok (.l2i, 1) := by decide +kernel
theorem dX3_low_39 : decode cX3_low 39 = .ok (.i2s, 1) := by decide +kernel
theorem dX3_low_40 : decode cX3_low 40 = .ok (.i2l, 1) := by decide +kernel
theorem dX3_low_41 : decode cX3_low 41 = .ok (.lreturn, 1) := by decide +kernel
theorem dX3_low_42 : decode cX3_low 42 = .ok (.lload_n 1, 1) := by decide +kernel
theorem dX3_low_43 : decode cX3_low 43 = .ok (.ldc2_w 72, 3) := by decide +kernel
theorem dX3_low_46 : decode cX3_low 46 = .ok (.land, 1) := by decide +kernel
theorem dX3_low_47 : decode cX3_low 47 = .ok (.lreturn, 1) := by decide +kernel
theorem dX3_low_48 : decode cX3_low 48 = .ok (.lload_n 1, 1) := by decide +kernel
theorem dX3_low_49 : decode cX3_low 49 = .ok (.l2i, 1) := by decide +kernel
theorem dX3_low_50 : decode cX3_low 50 = .ok (.i2l, 1) := by decide +kernel
theorem dX3_low_51 : decode cX3_low 51 = .ok (.lreturn, 1) := by decide +kernel
theorem dX3_low_52 : decode cX3_low 52 = .ok (.lload_n 1, 1) := by decide +kernel
theorem dX3_low_53 : decode cX3_low 53 = .ok (.lreturn, 1) := by decide +kernel
theorem dX3_put_0 : decode cX3_put 0 = .ok (.aload_n 0, 1) := by decide +kernel
theorem dX3_put_1 : decode cX3_put 1 = .ok (.iconst 0, 1) := by decide +kernel
theorem dX3_put_2 : decode cX3_put 2 = .ok (.putfield 55, 3) := by decide +kernel
theorem dX3_put_5 : decode cX3_put 5 = .ok (.iload_n 1, 1) := by decide +kernel
theorem dX3_put_6 : decode cX3_put 6 = .ok (.invokestatic 63, 3) := by decide +kernel
theorem dX3_put_9 : decode cX3_put 9 = .ok (.ifCond .ne 5, 3) := by decide +kernel
theorem dX3_put_12 : decode cX3_put 12 = .ok (.iconst (-1), 1) := by decide +kernel
theorem dX3_put_13 : decode cX3_put 13 = .ok (.ireturn, 1) := by decide +kernel
theorem dX3_put_14 : decode cX3_put 14 = .ok (.aload_n 0, 1) := by decide +kernel
theorem dX3_put_15 : decode cX3_put 15 = .ok (.iload_n 1, 1) := by decide +kernel
theorem dX3_put_16 : decode cX3_put 16 = .ok (.iconst 0, 1) := by decide +kernel
theorem dX3_put_17 : decode cX3_put 17 = .ok (.invokevirtual 74, 3) := by decide +kernel
theorem dX3_put_20 : decode cX3_put 20 = .ok (.istore 5, 2) := by decide +kernel
theorem dX3_put_22 : decode cX3_put 22 = .ok (.iload 5, 2) := by decide +kernel
theorem dX3_put_24 : decode cX3_put 24 = .ok (.ifCond .ne 12, 3) := by decide +kernel
theorem dX3_put_27 : decode cX3_put 27 = .ok (.aload_n 0, 1) := by decide +kernel
theorem dX3_put_28 : decode cX3_put 28 = .ok (.iload_n 1, 1) := by decide +kernel
theorem dX3_put_29 : decode cX3_put 29 = .ok (.iload_n 2, 1) := by decide +kernel
theorem dX3_put_30 : decode cX3_put 30 = .ok (.invokevirtual 78, 3) := by decide +kernel
theorem dX3_put_33 : decode cX3_put 33 = .ok (.ifCond .ne 16, 3) := by decide +kernel
theorem dX3_put_36 : decode cX3_put 36 = .ok (.iload 5, 2) := by decide +kernel
theorem dX3_put_38 : decode cX3_put 38 = .ok (.ifCond .eq 8, 3) := by decide +kernel
theorem dX3_put_41 : decode cX3_put 41 = .ok (.iload 5, 2) := by decide +kernel
theorem dX3_put_43 : decode cX3_put 43 = .ok (.goto 5, 3) := by decide +kernel
theorem dX3_put_46 : decode cX3_put 46 = .ok (.bipush (-12), 2) := by decide +kernel
theorem dX3_put_48 : decode cX3_put 48 = .ok (.ireturn, 1) := by decide +kernel
theorem dX3_put_49 : decode cX3_put 49 = .ok (.bipush 40, 2) := by decide +kernel
theorem dX3_put_51 : decode cX3_put 51 = .ok (.iload_n 1, 1) := by decide +kernel
theorem dX3_put_52 : decode cX3_put 52 = .ok (.imul, 1) := by decide +kernel
theorem dX3_put_53 : decode cX3_put 53 = .ok (.iload_n 2, 1) := by decide +kernel
theorem dX3_put_54 : decode cX3_put 54 = .ok (.iadd, 1) := by decide +kernel
theorem dX3_put_55 : decode cX3_put 55 = .ok (.istore 6, 2) := by decide +kernel
theorem dX3_put_57 : decode cX3_put 57 = .ok (.aload_n 0, 1) := by decide +kernel
theorem dX3_put_58 : decode cX3_put 58 = .ok (.getfield 7, 3) := by decide +kernel
theorem dX3_put_61 : decode cX3_put 61 = .ok (.iload_n 1, 1) := by decide +kernel
theorem dX3_put_62 : decode cX3_put 62 = .ok (.iaload, 1) := by decide +kernel
theorem dX3_put_63 : decode cX3_put 63 = .ok (.iconst 5, 1) := by decide +kernel
theorem dX3_put_64 : decode cX3_put 64 = .ok (.if_icmp .ne 19, 3) := by decide +kernel
theorem dX3_put_67 : decode cX3_put 67 = .ok (.aload_n 0, 1) := by decide +kernel
theorem dX3_put_68 : decode cX3_put 68 = .ok (.getfield 24, 3) := by decide +kernel
theorem dX3_put_71 : decode cX3_put 71 = .ok (.iload 6, 2) := by decide +kernel
theorem dX3_put_73 : decode cX3_put 73 = .ok (.lload_n 3, 1) := by decide +kernel
theorem dX3_put_74 : decode cX3_put 74 = .ok (.l2f, 1) := by decide +kernel
theorem dX3_put_75 : decode cX3_put 75 = .ok (.ldc 82, 2) := by decide +kernel
theorem dX3_put_77 : decode cX3_put 77 = .ok (.fdiv, 1) := by decide +kernel
theorem dX3_put_78 : decode cX3_put 78 = .ok (.f2d, 1) := by decide +kernel
theorem dX3_put_79 : decode cX3_put 79 = .ok (.dastore, 1) := by decide +kernel
theorem dX3_put_80 : decode cX3_put 80 = .ok (.goto 47, 3) := by decide +kernel
theorem dX3_put_83 : decode cX3_put 83 = .ok (.aload_n 0, 1) := by decide +kernel
theorem dX3_put_84 : decode cX3_put 84 = .ok (.getfield 7, 3) := by decide +kernel
theorem dX3_put_87 : decode cX3_put 87 = .ok (.iload_n 1, 1) := by decide +kernel
theorem dX3_put_88 : decode cX3_put 88 = .ok (.iaload, 1) := by decide +kernel
theorem dX3_put_89 : decode cX3_put 89 = .ok (.bipush 6, 2) := by decide +kernel
theorem dX3_put_91 : decode cX3_put 91 = .ok (.if_icmp .ne 19, 3) := by decide +kernel
theorem dX3_put_94 : decode cX3_put 94 = .ok (.aload_n 0, 1) := by decide +kernel
theorem dX3_put_95 : decode cX3_put 95 = .ok (.getfield 24, 3) := by decide +kernel
theorem dX3_put_98 : decode cX3_put 98 = .ok (.iload 6, 2) := by decide +kernel
theorem dX3_put_100 : decode cX3_put 100 = .ok (.lload_n 3, 1) := by decide +kernel
theorem dX3_put_101 : decode cX3_put 101 = .ok (.l2d, 1) := by decide +kernel
theorem dX3_put_102 : decode cX3_put 102 = .ok (.ldc2_w 83, 3) := by decide +kernel
theorem dX3_put_105 : decode cX3_put 105 = .ok (.ddiv, 1) := by decide +kernel
theorem dX3_put_106 : decode cX3_put 106 = .ok (.dastore, 1) := by decide +kernel
theorem dX3_put_107 : decode cX3_put 107 = .ok (.goto 20, 3) := by decide +kernel
theorem dX3_put_110 : decode cX3_put 110 = .ok (.aload_n 0, 1) := by decide +kernel
theorem dX3_put_111 : decode cX3_put 111 = .ok (.getfield 20, 3) := by decide +kernel
theorem dX3_put_114 : decode cX3_put 114 = .ok (.iload 6, 2) := by decide +kernel
theorem dX3_put_116 : decode cX3_put 116 = .ok (.aload_n 0, 1) := by decide +kernel
theorem dX3_put_117 : decode cX3_put 117 = .ok (.getfield 7, 3) := by decide +kernel
theorem dX3_put_120 : decode cX3_put 120 = .ok (.iload_n 1, 1) := by decide +kernel
theorem dX3_put_121 : decode cX3_put 121 = .ok (.iaload, 1) := by decide +kernel
theorem dX3_put_122 : decode cX3_put 122 = .ok (.lload_n 3, 1) := by decide +kernel
theorem dX3_put_123 : decode cX3_put 123 = .ok (.invokestatic 85, 3) := by decide +kernel
theorem dX3_put_126 : decode cX3_put 126 = .ok (.lastore, 1) := by decide +kernel
theorem dX3_put_127 : decode cX3_put 127 = .ok (.iconst 1, 1) := by decide +kernel
theorem dX3_put_128 : decode cX3_put 128 = .ok (.ireturn, 1) := by decide +kernel
theorem dX3_telling_0 : decode cX3_telling 0 = .ok (.bipush 40, 2) := by decide +kernel
theorem dX3_telling_2 : decode cX3_telling 2 = .ok (.iload_n 1, 1) := by decide +kernel
theorem dX3_telling_3 : decode cX3_telling 3 = .ok (.imul, 1) := by decide +kernel
theorem dX3_telling_4 : decode cX3_telling 4 = .ok (.iload_n 2, 1) := by decide +kernel
theorem dX3_telling_5 : decode cX3_telling 5 = .ok (.iadd, 1) := by decide +kernel
theorem dX3_telling_6 : decode cX3_telling 6 = .ok (.istore_n 3, 1) := by decide +kernel
theorem dX3_telling_7 : decode cX3_telling 7 = .ok (.aload_n 0, 1) := by decide +kernel
theorem dX3_telling_8 : decode cX3_telling 8 = .ok (.getfield 7, 3) := by decide +kernel
theorem dX3_telling_11 : decode cX3_telling 11 = .ok (.iload_n 1, 1) := by decide +kernel
theorem dX3_telling_12 : decode cX3_telling 12 = .ok (.iaload, 1) := by decide +kernel
theorem dX3_telling_13 : decode cX3_telling 13 = .ok (.iconst 5, 1) := by decide +kernel
theorem dX3_telling_14 : decode cX3_telling 14 = .ok (.if_icmp .ne 15, 3) := by decide +kernel
theorem dX3_telling_17 : decode cX3_telling 17 = .ok (.aload_n 0, 1) := by decide +kernel
theorem dX3_telling_18 : decode cX3_telling 18 = .ok (.getfield 24, 3) := by decide +kernel
theorem dX3_telling_21 : decode cX3_telling 21 = .ok (.iload_n 3, 1) := by decide +kernel
theorem dX3_telling_22 : decode cX3_telling 22 = .ok (.daload, 1) := by decide +kernel
theorem dX3_telling_23 : decode cX3_telling 23 = .ok (.d2f, 1) := by decide +kernel
theorem dX3_telling_24 : decode cX3_telling 24 = .ok (.ldc 82, 2) := by decide +kernel
theorem dX3_telling_26 : decode cX3_telling 26 = .ok (.fmul, 1) := by decide +kernel
theorem dX3_telling_27 : decode cX3_telling 27 = .ok (.f2l, 1) := by decide +kernel
theorem dX3_telling_28 : decode cX3_telling 28 = .ok (.lreturn, 1) := by decide +kernel
theorem dX3_telling_29 : decode cX3_telling 29 = .ok (.aload_n 0, 1) := by decide +kernel
theorem dX3_telling_30 : decode cX3_telling 30 = .ok (.getfield 7, 3) := by decide +kernel
theorem dX3_telling_33 : decode cX3_telling 33 = .ok (.iload_n 1, 1) := by decide +kernel
theorem dX3_telling_34 : decode cX3_telling 34 = .ok (.iaload, 1) := by decide +kernel
theorem dX3_telling_35 : decode cX3_telling 35 = .ok (.bipush 6, 2) := by decide +kernel
theorem dX3_telling_37 : decode cX3_telling 37 = .ok (.if_icmp .ne 17, 3) := by decide +kernel
theorem dX3_telling_40 : decode cX3_telling 40 = .ok (.aload_n 0, 1) := by decide +kernel
theorem dX3_telling_41 : decode cX3_telling 41 = .ok (.getfield 24, 3) := by decide +kernel
theorem dX3_telling_44 : decode cX3_telling 44 = .ok (.iload_n 3, 1) := by decide +kernel
theorem dX3_telling_45 : decode cX3_telling 45 = .ok (.daload, 1) := by decide +kernel
theorem dX3_telling_46 : decode cX3_telling 46 = .ok (.ldc2_w 83, 3) := by decide +kernel
theorem dX3_telling_49 : decode cX3_telling 49 = .ok (.dmul, 1) := by decide +kernel
theorem dX3_telling_50 : decode cX3_telling 50 = .ok (.d2l, 1) := by decide +kernel
theorem dX3_telling_51 : decode cX3_telling 51 = .ok (.goto 9, 3) := by decide +kernel
theorem dX3_telling_54 : decode cX3_telling 54 = .ok (.aload_n 0, 1) := by decide +kernel
theorem dX3_telling_55 : decode cX3_telling 55 = .ok (.getfield 20, 3) := by decide +kernel
theorem dX3_telling_58 : decode cX3_telling 58 = .ok (.iload_n 3, 1) := by decide +kernel
theorem dX3_telling_59 : decode cX3_telling 59 = .ok (.laload, 1) := by decide +kernel
theorem dX3_telling_60 : decode cX3_telling 60 = .ok (.lreturn, 1) := by decide +kernel
theorem dX3_get_0 : decode cX3_get 0 = .ok (.aload_n 0, 1) := by decide +kernel
theorem dX3_get_1 : decode cX3_get 1 = .ok (.iconst 0, 1) := by decide +kernel
theorem dX3_get_2 : decode cX3_get 2 = .ok (.putfield 55, 3) := by decide +kernel
theorem dX3_get_5 : decode cX3_get 5 = .ok (.iload_n 1, 1) := by decide +kernel
theorem dX3_get_6 : decode cX3_get 6 = .ok (.invokestatic 63, 3) := by decide +kernel
theorem dX3_get_9 : decode cX3_get 9 = .ok (.ifCond .ne 11, 3) := by decide +kernel
theorem dX3_get_12 : decode cX3_get 12 = .ok (.aload_n 0, 1) := by decide +kernel
theorem dX3_get_13 : decode cX3_get 13 = .ok (.iconst 2, 1) := by decide +kernel
theorem dX3_get_14 : decode cX3_get 14 = .ok (.putfield 55, 3) := by decide +kernel
theorem dX3_get_17 : decode cX3_get 17 = .ok (.goto 68, 3) := by decide +kernel
theorem dX3_get_20 : decode cX3_get 20 = .ok (.aload_n 0, 1) := by decide +kernel
theorem dX3_get_21 : decode cX3_get 21 = .ok (.iload_n 1, 1) := by decide +kernel
theorem dX3_get_22 : decode cX3_get 22 = .ok (.invokevirtual 69, 3) := by decide +kernel
theorem dX3_get_25 : decode cX3_get 25 = .ok (.ifCond .eq 11, 3) := by decide +kernel
theorem dX3_get_28 : decode cX3_get 28 = .ok (.aload_n 0, 1) := by decide +kernel
theorem dX3_get_29 : decode cX3_get 29 = .ok (.iconst 1, 1) := by decide +kernel
theorem dX3_get_30 : decode cX3_get 30 = .ok (.putfield 55, 3) := by decide +kernel
theorem dX3_get_33 : decode cX3_get 33 = .ok (.goto 52, 3) := by decide +kernel
theorem dX3_get_36 : decode cX3_get 36 = .ok (.aload_n 0, 1) := by decide +kernel
theorem dX3_get_37 : decode cX3_get 37 = .ok (.iload_n 1, 1) := by decide +kernel
theorem dX3_get_38 : decode cX3_get 38 = .ok (.iload_n 2, 1) := by decide +kernel
theorem dX3_get_39 : decode cX3_get 39 = .ok (.invokevirtual 78, 3) := by decide +kernel
theorem dX3_get_42 : decode cX3_get 42 = .ok (.ifCond .ne 11, 3) := by decide +kernel
theorem dX3_get_45 : decode cX3_get 45 = .ok (.aload_n 0, 1) := by decide +kernel
theorem dX3_get_46 : decode cX3_get 46 = .ok (.iconst 2, 1) := by decide +kernel
theorem dX3_get_47 : decode cX3_get 47 = .ok (.putfield 55, 3) := by decide +kernel
theorem dX3_get_50 : decode cX3_get 50 = .ok (.goto 35, 3) := by decide +kernel
theorem dX3_get_53 : decode cX3_get 53 = .ok (.aload_n 0, 1) := by decide +kernel
theorem dX3_get_54 : decode cX3_get 54 = .ok (.getfield 7, 3) := by decide +kernel
theorem dX3_get_57 : decode cX3_get 57 = .ok (.iload_n 1, 1) := by decide +kernel
theorem dX3_get_58 : decode cX3_get 58 = .ok (.iaload, 1) := by decide +kernel
theorem dX3_get_59 : decode cX3_get 59 = .ok (.bipush 7, 2) := by decide +kernel
theorem dX3_get_61 : decode cX3_get 61 = .ok (.if_icmp .lt 24, 3) := by decide +kernel
theorem dX3_get_64 : decode cX3_get 64 = .ok (.aload_n 0, 1) := by decide +kernel
theorem dX3_get_65 : decode cX3_get 65 = .ok (.getfield 20, 3) := by decide +kernel
theorem dX3_get_68 : decode cX3_get 68 = .ok (.bipush 40, 2) := by decide +kernel
theorem dX3_get_70 : decode cX3_get 70 = .ok (.iload_n 1, 1) := by decide +kernel
theorem dX3_get_71 : decode cX3_get 71 = .ok (.imul, 1) := by decide +kernel
theorem dX3_get_72 : decode cX3_get 72 = .ok (.iload_n 2, 1) := by decide +kernel
theorem dX3_get_73 : decode cX3_get 73 = .ok (.iadd, 1) := by decide +kernel
theorem dX3_get_74 : decode cX3_get 74 = .ok (.laload, 1) := by decide +kernel
theorem dX3_get_75 : decode cX3_get 75 = .ok (.lconst 0, 1) := by decide +kernel
theorem dX3_get_76 : decode cX3_get 76 = .ok (.lcmp, 1) := by decide +kernel
theorem dX3_get_77 : decode cX3_get 77 = .ok (.ifCond .ge 8, 3) := by decide +kernel
theorem dX3_get_80 : decode cX3_get 80 = .ok (.aload_n 0, 1) := by decide +kernel
theorem dX3_get_81 : decode cX3_get 81 = .ok (.iconst 1, 1) := by decide +kernel
theorem dX3_get_82 : decode cX3_get 82 = .ok (.putfield 55, 3) := by decide +kernel
theorem dX3_get_85 : decode cX3_get 85 = .ok (.aload_n 0, 1) := by decide +kernel
theorem dX3_get_86 : decode cX3_get 86 = .ok (.getfield 55, 3) := by decide +kernel
theorem dX3_get_89 : decode cX3_get 89 = .ok (.ifCond .eq 7, 3) := by decide +kernel
theorem dX3_get_92 : decode cX3_get 92 = .ok (.lconst 0, 1) := by decide +kernel
theorem dX3_get_93 : decode cX3_get 93 = .ok (.goto 9, 3) := by decide +kernel
theorem dX3_get_96 : decode cX3_get 96 = .ok (.aload_n 0, 1) := by decide +kernel
theorem dX3_get_97 : decode cX3_get 97 = .ok (.iload_n 1, 1) := by decide +kernel
theorem dX3_get_98 : decode cX3_get 98 = .ok (.iload_n 2, 1) := by decide +kernel
theorem dX3_get_99 : decode cX3_get 99 = .ok (.invokevirtual 89, 3) := by decide +kernel
theorem dX3_get_102 : decode cX3_get 102 = .ok (.lreturn, 1) := by decide +kernel
theorem dX3_sum_0 : decode cX3_sum 0 = .ok (.aload_n 0, 1) := by decide +kernel
theorem dX3_sum_1 : decode cX3_sum 1 = .ok (.iconst 0, 1) := by decide +kernel
theorem dX3_sum_2 : decode cX3_sum 2 = .ok (.putfield 55, 3) := by decide +kernel
theorem dX3_sum_5 : decode cX3_sum 5 = .ok (.iload_n 1, 1) := by decide +kernel
theorem dX3_sum_6 : decode cX3_sum 6 = .ok (.invokestatic 63, 3) := by decide +kernel
theorem dX3_sum_9 : decode cX3_sum 9 = .ok (.ifCond .eq 13, 3) := by decide +kernel
theorem dX3_sum_12 : decode cX3_sum 12 = .ok (.iload_n 2, 1) := by decide +kernel
theorem dX3_sum_13 : decode cX3_sum 13 = .ok (.iconst 0, 1) := by decide +kernel
theorem dX3_sum_14 : decode cX3_sum 14 = .ok (.bipush 6, 2) := by decide +kernel
theorem dX3_sum_16 : decode cX3_sum 16 = .ok (.invokestatic 59, 3) := by decide +kernel
theorem dX3_sum_19 : decode cX3_sum 19 = .ok (.ifCond .ne 5, 3) := by decide +kernel
theorem dX3_sum_22 : decode cX3_sum 22 = .ok (.iconst (-1), 1) := by decide +kernel
theorem dX3_sum_23 : decode cX3_sum 23 = .ok (.ireturn, 1) := by decide +kernel
theorem dX3_sum_24 : decode cX3_sum 24 = .ok (.aload_n 0, 1) := by decide +kernel
theorem dX3_sum_25 : decode cX3_sum 25 = .ok (.getfield 7, 3) := by decide +kernel
theorem dX3_sum_28 : decode cX3_sum 28 = .ok (.iload_n 1, 1) := by decide +kernel
theorem dX3_sum_29 : decode cX3_sum 29 = .ok (.iaload, 1) := by decide +kernel
theorem dX3_sum_30 : decode cX3_sum 30 = .ok (.iconst (-1), 1) := by decide +kernel
theorem dX3_sum_31 : decode cX3_sum 31 = .ok (.if_icmp .ne 6, 3) := by decide +kernel
theorem dX3_sum_34 : decode cX3_sum 34 = .ok (.bipush (-11), 2) := by decide +kernel
theorem dX3_sum_36 : decode cX3_sum 36 = .ok (.ireturn, 1) := by decide +kernel
theorem dX3_sum_37 : decode cX3_sum 37 = .ok (.aload_n 0, 1) := by decide +kernel
theorem dX3_sum_38 : decode cX3_sum 38 = .ok (.getfield 7, 3) := by decide +kernel
theorem dX3_sum_41 : decode cX3_sum 41 = .ok (.iload_n 1, 1) := by decide +kernel
theorem dX3_sum_42 : decode cX3_sum 42 = .ok (.iaload, 1) := by decide +kernel
theorem dX3_sum_43 : decode cX3_sum 43 = .ok (.iload_n 2, 1) := by decide +kernel
theorem dX3_sum_44 : decode cX3_sum 44 = .ok (.if_icmp .eq 6, 3) := by decide +kernel
theorem dX3_sum_47 : decode cX3_sum 47 = .ok (.bipush (-15), 2) := by decide +kernel
theorem dX3_sum_49 : decode cX3_sum 49 = .ok (.ireturn, 1) := by decide +kernel
theorem dX3_sum_50 : decode cX3_sum 50 = .ok (.aload_n 0, 1) := by decide +kernel
theorem dX3_sum_51 : decode cX3_sum 51 = .ok (.getfield 16, 3) := by decide +kernel
theorem dX3_sum_54 : decode cX3_sum 54 = .ok (.iload_n 1, 1) := by decide +kernel
theorem dX3_sum_55 : decode cX3_sum 55 = .ok (.baload, 1) := by decide +kernel
theorem dX3_sum_56 : decode cX3_sum 56 = .ok (.ifCond .eq 6, 3) := by decide +kernel
theorem dX3_sum_59 : decode cX3_sum 59 = .ok (.bipush (-11), 2) := by decide +kernel
end
section
theorem dX3_sum_61 : decode cX3_sum 61 = .ok (.ireturn, 1) := by decide +kernel
theorem dX3_sum_62 : decode cX3_sum 62 = .ok (.iconst 0, 1) := by decide +kernel
theorem dX3_sum_63 : decode cX3_sum 63 = .ok (.istore_n 3, 1) := by decide +kernel
theorem dX3_sum_64 : decode cX3_sum 64 = .ok (.iconst 0, 1) := by decide +kernel
theorem dX3_sum_65 : decode cX3_sum 65 = .ok (.istore 4, 2) := by decide +kernel
theorem dX3_sum_67 : decode cX3_sum 67 = .ok (.iload 4, 2) := by decide +kernel
theorem dX3_sum_69 : decode cX3_sum 69 = .ok (.aload_n 0, 1) := by decide +kernel
theorem dX3_sum_70 : decode cX3_sum 70 = .ok (.getfield 13, 3) := by decide +kernel
theorem dX3_sum_73 : decode cX3_sum 73 = .ok (.iload_n 1, 1) := by decide +kernel
theorem dX3_sum_74 : decode cX3_sum 74 = .ok (.iaload, 1) := by decide +kernel
theorem dX3_sum_75 : decode cX3_sum 75 = .ok (.if_icmp .ge 20, 3) := by decide +kernel
theorem dX3_sum_78 : decode cX3_sum 78 = .ok (.iload_n 3, 1) := by decide +kernel
theorem dX3_sum_79 : decode cX3_sum 79 = .ok (.aload_n 0, 1) := by decide +kernel
theorem dX3_sum_80 : decode cX3_sum 80 = .ok (.iload_n 1, 1) := by decide +kernel
theorem dX3_sum_81 : decode cX3_sum 81 = .ok (.iload 4, 2) := by decide +kernel
theorem dX3_sum_83 : decode cX3_sum 83 = .ok (.invokevirtual 89, 3) := by decide +kernel
theorem dX3_sum_86 : decode cX3_sum 86 = .ok (.l2i, 1) := by decide +kernel
theorem dX3_sum_87 : decode cX3_sum 87 = .ok (.iadd, 1) := by decide +kernel
theorem dX3_sum_88 : decode cX3_sum 88 = .ok (.istore_n 3, 1) := by decide +kernel
theorem dX3_sum_89 : decode cX3_sum 89 = .ok (.iinc 4 1, 3) := by decide +kernel
theorem dX3_sum_92 : decode cX3_sum 92 = .ok (.goto (-25), 3) := by decide +kernel
theorem dX3_sum_95 : decode cX3_sum 95 = .ok (.iload_n 3, 1) := by decide +kernel
theorem dX3_sum_96 : decode cX3_sum 96 = .ok (.ireturn, 1) := by decide +kernel
theorem dX3_isWhole_0 : decode cX3_isWhole 0 = .ok (.iload_n 0, 1) := by decide +kernel
theorem dX3_isWhole_1 : decode cX3_isWhole 1 = .ok (.iconst 5, 1) := by decide +kernel
theorem dX3_isWhole_2 : decode cX3_isWhole 2 = .ok (.if_icmp .ge 7, 3) := by decide +kernel
theorem dX3_isWhole_5 : decode cX3_isWhole 5 = .ok (.iconst 1, 1) := by decide +kernel
theorem dX3_isWhole_6 : decode cX3_isWhole 6 = .ok (.goto 4, 3) := by decide +kernel
theorem dX3_isWhole_9 : decode cX3_isWhole 9 = .ok (.iconst 0, 1) := by decide +kernel
theorem dX3_isWhole_10 : decode cX3_isWhole 10 = .ok (.ireturn, 1) := by decide +kernel
theorem dX3_fits_0 : decode cX3_fits 0 = .ok (.iload_n 0, 1) := by decide +kernel
theorem dX3_fits_1 : decode cX3_fits 1 = .ok (.lload_n 1, 1) := by decide +kernel
theorem dX3_fits_2 : decode cX3_fits 2 = .ok (.invokestatic 85, 3) := by decide +kernel
theorem dX3_fits_5 : decode cX3_fits 5 = .ok (.lload_n 1, 1) := by decide +kernel
theorem dX3_fits_6 : decode cX3_fits 6 = .ok (.lcmp, 1) := by decide +kernel
theorem dX3_fits_7 : decode cX3_fits 7 = .ok (.ifCond .ne 7, 3) := by decide +kernel
theorem dX3_fits_10 : decode cX3_fits 10 = .ok (.iconst 1, 1) := by decide +kernel
theorem dX3_fits_11 : decode cX3_fits 11 = .ok (.goto 4, 3) := by decide +kernel
theorem dX3_fits_14 : decode cX3_fits 14 = .ok (.iconst 0, 1) := by decide +kernel
theorem dX3_fits_15 : decode cX3_fits 15 = .ok (.ireturn, 1) := by decide +kernel
theorem dX3_isInLongs_0 : decode cX3_isInLongs 0 = .ok (.dload_n 0, 1) := by decide +kernel
theorem dX3_isInLongs_1 : decode cX3_isInLongs 1 = .ok (.ldc2_w 93, 3) := by decide +kernel
theorem dX3_isInLongs_4 : decode cX3_isInLongs 4 = .ok (.dcmp .l, 1) := by decide +kernel
theorem dX3_isInLongs_5 : decode cX3_isInLongs 5 = .ok (.ifCond .lt 15, 3) := by decide +kernel
theorem dX3_isInLongs_8 : decode cX3_isInLongs 8 = .ok (.dload_n 0, 1) := by decide +kernel
theorem dX3_isInLongs_9 : decode cX3_isInLongs 9 = .ok (.ldc2_w 95, 3) := by decide +kernel
theorem dX3_isInLongs_12 : decode cX3_isInLongs 12 = .ok (.dcmp .g, 1) := by decide +kernel
theorem dX3_isInLongs_13 : decode cX3_isInLongs 13 = .ok (.ifCond .ge 7, 3) := by decide +kernel
theorem dX3_isInLongs_16 : decode cX3_isInLongs 16 = .ok (.iconst 1, 1) := by decide +kernel
theorem dX3_isInLongs_17 : decode cX3_isInLongs 17 = .ok (.goto 4, 3) := by decide +kernel
theorem dX3_isInLongs_20 : decode cX3_isInLongs 20 = .ok (.iconst 0, 1) := by decide +kernel
theorem dX3_isInLongs_21 : decode cX3_isInLongs 21 = .ok (.ireturn, 1) := by decide +kernel
theorem dX3_canBe_0 : decode cX3_canBe 0 = .ok (.iload_n 2, 1) := by decide +kernel
theorem dX3_canBe_1 : decode cX3_canBe 1 = .ok (.invokestatic 97, 3) := by decide +kernel
theorem dX3_canBe_4 : decode cX3_canBe 4 = .ok (.ifCond .eq 65, 3) := by decide +kernel
theorem dX3_canBe_7 : decode cX3_canBe 7 = .ok (.aload_n 0, 1) := by decide +kernel
theorem dX3_canBe_8 : decode cX3_canBe 8 = .ok (.getfield 20, 3) := by decide +kernel
theorem dX3_canBe_11 : decode cX3_canBe 11 = .ok (.iload_n 1, 1) := by decide +kernel
theorem dX3_canBe_12 : decode cX3_canBe 12 = .ok (.laload, 1) := by decide +kernel
theorem dX3_canBe_13 : decode cX3_canBe 13 = .ok (.lstore 4, 2) := by decide +kernel
theorem dX3_canBe_15 : decode cX3_canBe 15 = .ok (.iload_n 3, 1) := by decide +kernel
theorem dX3_canBe_16 : decode cX3_canBe 16 = .ok (.invokestatic 97, 3) := by decide +kernel
theorem dX3_canBe_19 : decode cX3_canBe 19 = .ok (.ifCond .eq 10, 3) := by decide +kernel
theorem dX3_canBe_22 : decode cX3_canBe 22 = .ok (.iload_n 3, 1) := by decide +kernel
theorem dX3_canBe_23 : decode cX3_canBe 23 = .ok (.lload 4, 2) := by decide +kernel
theorem dX3_canBe_25 : decode cX3_canBe 25 = .ok (.invokestatic 100, 3) := by decide +kernel
theorem dX3_canBe_28 : decode cX3_canBe 28 = .ok (.ireturn, 1) := by decide +kernel
theorem dX3_canBe_29 : decode cX3_canBe 29 = .ok (.iload_n 3, 1) := by decide +kernel
theorem dX3_canBe_30 : decode cX3_canBe 30 = .ok (.iconst 5, 1) := by decide +kernel
theorem dX3_canBe_31 : decode cX3_canBe 31 = .ok (.if_icmp .ne 10, 3) := by decide +kernel
theorem dX3_canBe_34 : decode cX3_canBe 34 = .ok (.lload 4, 2) := by decide +kernel
theorem dX3_canBe_36 : decode cX3_canBe 36 = .ok (.l2f, 1) := by decide +kernel
theorem dX3_canBe_37 : decode cX3_canBe 37 = .ok (.f2d, 1) := by decide +kernel
theorem dX3_canBe_38 : decode cX3_canBe 38 = .ok (.goto 6, 3) := by decide +kernel
theorem dX3_canBe_41 : decode cX3_canBe 41 = .ok (.lload 4, 2) := by decide +kernel
theorem dX3_canBe_43 : decode cX3_canBe 43 = .ok (.l2d, 1) := by decide +kernel
theorem dX3_canBe_44 : decode cX3_canBe 44 = .ok (.dstore 6, 2) := by decide +kernel
theorem dX3_canBe_46 : decode cX3_canBe 46 = .ok (.dload 6, 2) := by decide +kernel
theorem dX3_canBe_48 : decode cX3_canBe 48 = .ok (.invokestatic 104, 3) := by decide +kernel
theorem dX3_canBe_51 : decode cX3_canBe 51 = .ok (.ifCond .eq 16, 3) := by decide +kernel
theorem dX3_canBe_54 : decode cX3_canBe 54 = .ok (.dload 6, 2) := by decide +kernel
theorem dX3_canBe_56 : decode cX3_canBe 56 = .ok (.d2l, 1) := by decide +kernel
theorem dX3_canBe_57 : decode cX3_canBe 57 = .ok (.lload 4, 2) := by decide +kernel
theorem dX3_canBe_59 : decode cX3_canBe 59 = .ok (.lcmp, 1) := by decide +kernel
theorem dX3_canBe_60 : decode cX3_canBe 60 = .ok (.ifCond .ne 7, 3) := by decide +kernel
theorem dX3_canBe_63 : decode cX3_canBe 63 = .ok (.iconst 1, 1) := by decide +kernel
theorem dX3_canBe_64 : decode cX3_canBe 64 = .ok (.goto 4, 3) := by decide +kernel
theorem dX3_canBe_67 : decode cX3_canBe 67 = .ok (.iconst 0, 1) := by decide +kernel
theorem dX3_canBe_68 : decode cX3_canBe 68 = .ok (.ireturn, 1) := by decide +kernel
theorem dX3_canBe_69 : decode cX3_canBe 69 = .ok (.aload_n 0, 1) := by decide +kernel
theorem dX3_canBe_70 : decode cX3_canBe 70 = .ok (.getfield 24, 3) := by decide +kernel
theorem dX3_canBe_73 : decode cX3_canBe 73 = .ok (.iload_n 1, 1) := by decide +kernel
theorem dX3_canBe_74 : decode cX3_canBe 74 = .ok (.daload, 1) := by decide +kernel
theorem dX3_canBe_75 : decode cX3_canBe 75 = .ok (.dstore 4, 2) := by decide +kernel
theorem dX3_canBe_77 : decode cX3_canBe 77 = .ok (.iload_n 3, 1) := by decide +kernel
theorem dX3_canBe_78 : decode cX3_canBe 78 = .ok (.invokestatic 97, 3) := by decide +kernel
theorem dX3_canBe_81 : decode cX3_canBe 81 = .ok (.ifCond .eq 37, 3) := by decide +kernel
theorem dX3_canBe_84 : decode cX3_canBe 84 = .ok (.dload 4, 2) := by decide +kernel
theorem dX3_canBe_86 : decode cX3_canBe 86 = .ok (.invokestatic 104, 3) := by decide +kernel
theorem dX3_canBe_89 : decode cX3_canBe 89 = .ok (.ifCond .eq 27, 3) := by decide +kernel
theorem dX3_canBe_92 : decode cX3_canBe 92 = .ok (.dload 4, 2) := by decide +kernel
theorem dX3_canBe_94 : decode cX3_canBe 94 = .ok (.d2l, 1) := by decide +kernel
theorem dX3_canBe_95 : decode cX3_canBe 95 = .ok (.l2d, 1) := by decide +kernel
theorem dX3_canBe_96 : decode cX3_canBe 96 = .ok (.dload 4, 2) := by decide +kernel
theorem dX3_canBe_98 : decode cX3_canBe 98 = .ok (.dcmp .l, 1) := by decide +kernel
theorem dX3_canBe_99 : decode cX3_canBe 99 = .ok (.ifCond .ne 17, 3) := by decide +kernel
theorem dX3_canBe_102 : decode cX3_canBe 102 = .ok (.iload_n 3, 1) := by decide +kernel
theorem dX3_canBe_103 : decode cX3_canBe 103 = .ok (.dload 4, 2) := by decide +kernel
theorem dX3_canBe_105 : decode cX3_canBe 105 = .ok (.d2l, 1) := by decide +kernel
theorem dX3_canBe_106 : decode cX3_canBe 106 = .ok (.invokestatic 100, 3) := by decide +kernel
theorem dX3_canBe_109 : decode cX3_canBe 109 = .ok (.ifCond .eq 7, 3) := by decide +kernel
theorem dX3_canBe_112 : decode cX3_canBe 112 = .ok (.iconst 1, 1) := by decide +kernel
theorem dX3_canBe_113 : decode cX3_canBe 113 = .ok (.goto 4, 3) := by decide +kernel
theorem dX3_canBe_116 : decode cX3_canBe 116 = .ok (.iconst 0, 1) := by decide +kernel
theorem dX3_canBe_117 : decode cX3_canBe 117 = .ok (.ireturn, 1) := by decide +kernel
theorem dX3_canBe_118 : decode cX3_canBe 118 = .ok (.iload_n 3, 1) := by decide +kernel
theorem dX3_canBe_119 : decode cX3_canBe 119 = .ok (.bipush 6, 2) := by decide +kernel
theorem dX3_canBe_121 : decode cX3_canBe 121 = .ok (.if_icmp .eq 13, 3) := by decide +kernel
theorem dX3_canBe_124 : decode cX3_canBe 124 = .ok (.dload 4, 2) := by decide +kernel
theorem dX3_canBe_126 : decode cX3_canBe 126 = .ok (.d2f, 1) := by decide +kernel
theorem dX3_canBe_127 : decode cX3_canBe 127 = .ok (.f2d, 1) := by decide +kernel
theorem dX3_canBe_128 : decode cX3_canBe 128 = .ok (.dload 4, 2) := by decide +kernel
theorem dX3_canBe_130 : decode cX3_canBe 130 = .ok (.dcmp .l, 1) := by decide +kernel
theorem dX3_canBe_131 : decode cX3_canBe 131 = .ok (.ifCond .ne 7, 3) := by decide +kernel
theorem dX3_canBe_134 : decode cX3_canBe 134 = .ok (.iconst 1, 1) := by decide +kernel
theorem dX3_canBe_135 : decode cX3_canBe 135 = .ok (.goto 4, 3) := by decide +kernel
theorem dX3_canBe_138 : decode cX3_canBe 138 = .ok (.iconst 0, 1) := by decide +kernel
theorem dX3_canBe_139 : decode cX3_canBe 139 = .ok (.ireturn, 1) := by decide +kernel
theorem dX3_turn_0 : decode cX3_turn 0 = .ok (.aload_n 0, 1) := by decide +kernel
theorem dX3_turn_1 : decode cX3_turn 1 = .ok (.iconst 0, 1) := by decide +kernel
theorem dX3_turn_2 : decode cX3_turn 2 = .ok (.putfield 55, 3) := by decide +kernel
theorem dX3_turn_5 : decode cX3_turn 5 = .ok (.iload_n 1, 1) := by decide +kernel
theorem dX3_turn_6 : decode cX3_turn 6 = .ok (.invokestatic 63, 3) := by decide +kernel
theorem dX3_turn_9 : decode cX3_turn 9 = .ok (.ifCond .eq 13, 3) := by decide +kernel
theorem dX3_turn_12 : decode cX3_turn 12 = .ok (.iload_n 2, 1) := by decide +kernel
theorem dX3_turn_13 : decode cX3_turn 13 = .ok (.iconst 0, 1) := by decide +kernel
theorem dX3_turn_14 : decode cX3_turn 14 = .ok (.bipush 6, 2) := by decide +kernel
theorem dX3_turn_16 : decode cX3_turn 16 = .ok (.invokestatic 59, 3) := by decide +kernel
theorem dX3_turn_19 : decode cX3_turn 19 = .ok (.ifCond .ne 5, 3) := by decide +kernel
theorem dX3_turn_22 : decode cX3_turn 22 = .ok (.iconst (-1), 1) := by decide +kernel
theorem dX3_turn_23 : decode cX3_turn 23 = .ok (.ireturn, 1) := by decide +kernel
theorem dX3_turn_24 : decode cX3_turn 24 = .ok (.aload_n 0, 1) := by decide +kernel
theorem dX3_turn_25 : decode cX3_turn 25 = .ok (.iload_n 1, 1) := by decide +kernel
theorem dX3_turn_26 : decode cX3_turn 26 = .ok (.iconst 0, 1) := by decide +kernel
theorem dX3_turn_27 : decode cX3_turn 27 = .ok (.invokevirtual 74, 3) := by decide +kernel
theorem dX3_turn_30 : decode cX3_turn 30 = .ok (.istore_n 3, 1) := by decide +kernel
theorem dX3_turn_31 : decode cX3_turn 31 = .ok (.iload_n 3, 1) := by decide +kernel
theorem dX3_turn_32 : decode cX3_turn 32 = .ok (.ifCond .eq 5, 3) := by decide +kernel
theorem dX3_turn_35 : decode cX3_turn 35 = .ok (.iload_n 3, 1) := by decide +kernel
theorem dX3_turn_36 : decode cX3_turn 36 = .ok (.ireturn, 1) := by decide +kernel
theorem dX3_turn_37 : decode cX3_turn 37 = .ok (.aload_n 0, 1) := by decide +kernel
theorem dX3_turn_38 : decode cX3_turn 38 = .ok (.getfield 7, 3) := by decide +kernel
theorem dX3_turn_41 : decode cX3_turn 41 = .ok (.iload_n 1, 1) := by decide +kernel
theorem dX3_turn_42 : decode cX3_turn 42 = .ok (.iaload, 1) := by decide +kernel
theorem dX3_turn_43 : decode cX3_turn 43 = .ok (.istore 4, 2) := by decide +kernel
theorem dX3_turn_45 : decode cX3_turn 45 = .ok (.iconst 0, 1) := by decide +kernel
theorem dX3_turn_46 : decode cX3_turn 46 = .ok (.istore 5, 2) := by decide +kernel
theorem dX3_turn_48 : decode cX3_turn 48 = .ok (.iload 5, 2) := by decide +kernel
theorem dX3_turn_50 : decode cX3_turn 50 = .ok (.aload_n 0, 1) := by decide +kernel
theorem dX3_turn_51 : decode cX3_turn 51 = .ok (.getfield 13, 3) := by decide +kernel
theorem dX3_turn_54 : decode cX3_turn 54 = .ok (.iload_n 1, 1) := by decide +kernel
theorem dX3_turn_55 : decode cX3_turn 55 = .ok (.iaload, 1) := by decide +kernel
theorem dX3_turn_56 : decode cX3_turn 56 = .ok (.if_icmp .ge 32, 3) := by decide +kernel
theorem dX3_turn_59 : decode cX3_turn 59 = .ok (.aload_n 0, 1) := by decide +kernel
theorem dX3_turn_60 : decode cX3_turn 60 = .ok (.bipush 40, 2) := by decide +kernel
theorem dX3_turn_62 : decode cX3_turn 62 = .ok (.iload_n 1, 1) := by decide +kernel
theorem dX3_turn_63 : decode cX3_turn 63 = .ok (.imul, 1) := by decide +kernel
theorem dX3_turn_64 : decode cX3_turn 64 = .ok (.iload 5, 2) := by decide +kernel
theorem dX3_turn_66 : decode cX3_turn 66 = .ok (.iadd, 1) := by decide +kernel
theorem dX3_turn_67 : decode cX3_turn 67 = .ok (.iload 4, 2) := by decide +kernel
theorem dX3_turn_69 : decode cX3_turn 69 = .ok (.iload_n 2, 1) := by decide +kernel
theorem dX3_turn_70 : decode cX3_turn 70 = .ok (.invokevirtual 108, 3) := by decide +kernel
theorem dX3_turn_73 : decode cX3_turn 73 = .ok (.ifCond .ne 9, 3) := by decide +kernel
theorem dX3_turn_76 : decode cX3_turn 76 = .ok (.bipush (-20), 2) := by decide +kernel
theorem dX3_turn_78 : decode cX3_turn 78 = .ok (.iload 5, 2) := by decide +kernel
theorem dX3_turn_80 : decode cX3_turn 80 = .ok (.isub, 1) := by decide +kernel
theorem dX3_turn_81 : decode cX3_turn 81 = .ok (.ireturn, 1) := by decide +kernel
theorem dX3_turn_82 : decode cX3_turn 82 = .ok (.iinc 5 1, 3) := by decide +kernel
theorem dX3_turn_85 : decode cX3_turn 85 = .ok (.goto (-37), 3) := by decide +kernel
theorem dX3_turn_88 : decode cX3_turn 88 = .ok (.iconst 0, 1) := by decide +kernel
theorem dX3_turn_89 : decode cX3_turn 89 = .ok (.istore 5, 2) := by decide +kernel
theorem dX3_turn_91 : decode cX3_turn 91 = .ok (.iload 5, 2) := by decide +kernel
theorem dX3_turn_93 : decode cX3_turn 93 = .ok (.aload_n 0, 1) := by decide +kernel
theorem dX3_turn_94 : decode cX3_turn 94 = .ok (.getfield 13, 3) := by decide +kernel
theorem dX3_turn_97 : decode cX3_turn 97 = .ok (.iload_n 1, 1) := by decide +kernel
theorem dX3_turn_98 : decode cX3_turn 98 = .ok (.iaload, 1) := by decide +kernel
theorem dX3_turn_99 : decode cX3_turn 99 = .ok (.if_icmp .ge 81, 3) := by decide +kernel
theorem dX3_turn_102 : decode cX3_turn 102 = .ok (.bipush 40, 2) := by decide +kernel
theorem dX3_turn_104 : decode cX3_turn 104 = .ok (.iload_n 1, 1) := by decide +kernel
theorem dX3_turn_105 : decode cX3_turn 105 = .ok (.imul, 1) := by decide +kernel
theorem dX3_turn_106 : decode cX3_turn 106 = .ok (.iload 5, 2) := by decide +kernel
theorem dX3_turn_108 : decode cX3_turn 108 = .ok (.iadd, 1) := by decide +kernel
theorem dX3_turn_109 : decode cX3_turn 109 = .ok (.istore 6, 2) := by decide +kernel
theorem dX3_turn_111 : decode cX3_turn 111 = .ok (.iload 4, 2) := by decide +kernel
theorem dX3_turn_113 : decode cX3_turn 113 = .ok (.invokestatic 97, 3) := by decide +kernel
theorem dX3_turn_116 : decode cX3_turn 116 = .ok (.ifCond .eq 28, 3) := by decide +kernel
theorem dX3_turn_119 : decode cX3_turn 119 = .ok (.iload_n 2, 1) := by decide +kernel
theorem dX3_turn_120 : decode cX3_turn 120 = .ok (.invokestatic 97, 3) := by decide +kernel
theorem dX3_turn_123 : decode cX3_turn 123 = .ok (.ifCond .ne 21, 3) := by decide +kernel
theorem dX3_turn_126 : decode cX3_turn 126 = .ok (.aload_n 0, 1) := by decide +kernel
theorem dX3_turn_127 : decode cX3_turn 127 = .ok (.getfield 24, 3) := by decide +kernel
theorem dX3_turn_130 : decode cX3_turn 130 = .ok (.iload 6, 2) := by decide +kernel
theorem dX3_turn_132 : decode cX3_turn 132 = .ok (.aload_n 0, 1) := by decide +kernel
theorem dX3_turn_133 : decode cX3_turn 133 = .ok (.getfield 20, 3) := by decide +kernel
theorem dX3_turn_136 : decode cX3_turn 136 = .ok (.iload 6, 2) := by decide +kernel
theorem dX3_turn_138 : decode cX3_turn 138 = .ok (.laload, 1) := by decide +kernel
theorem dX3_turn_139 : decode cX3_turn 139 = .ok (.l2d, 1) := by decide +kernel
theorem dX3_turn_140 : decode cX3_turn 140 = .ok (.dastore, 1) := by decide +kernel
theorem dX3_turn_141 : decode cX3_turn 141 = .ok (.goto 33, 3) := by decide +kernel
theorem dX3_turn_144 : decode cX3_turn 144 = .ok (.iload 4, 2) := by decide +kernel
theorem dX3_turn_146 : decode cX3_turn 146 = .ok (.invokestatic 97, 3) := by decide +kernel
theorem dX3_turn_149 : decode cX3_turn 149 = .ok (.ifCond .ne 25, 3) := by decide +kernel
theorem dX3_turn_152 : decode cX3_turn 152 = .ok (.iload_n 2, 1) := by decide +kernel
theorem dX3_turn_153 : decode cX3_turn 153 = .ok (.invokestatic 97, 3) := by decide +kernel
theorem dX3_turn_156 : decode cX3_turn 156 = .ok (.ifCond .eq 18, 3) := by decide +kernel
theorem dX3_turn_159 : decode cX3_turn 159 = .ok (.aload_n 0, 1) := by decide +kernel
theorem dX3_turn_160 : decode cX3_turn 160 = .ok (.getfield 20, 3) := by decide +kernel
theorem dX3_turn_163 : decode cX3_turn 163 = .ok (.iload 6, 2) := by decide +kernel
theorem dX3_turn_165 : decode cX3_turn 165 = .ok (.aload_n 0, 1) := by decide +kernel
theorem dX3_turn_166 : decode cX3_turn 166 = .ok (.getfield 24, 3) := by decide +kernel
theorem dX3_turn_169 : decode cX3_turn 169 = .ok (.iload 6, 2) := by decide +kernel
theorem dX3_turn_171 : decode cX3_turn 171 = .ok (.daload, 1) := by decide +kernel
theorem dX3_turn_172 : decode cX3_turn 172 = .ok (.d2l, 1) := by decide +kernel
theorem dX3_turn_173 : decode cX3_turn 173 = .ok (.lastore, 1) := by decide +kernel
theorem dX3_turn_174 : decode cX3_turn 174 = .ok (.iinc 5 1, 3) := by decide +kernel
theorem dX3_turn_177 : decode cX3_turn 177 = .ok (.goto (-86), 3) := by decide +kernel
theorem dX3_turn_180 : decode cX3_turn 180 = .ok (.aload_n 0, 1) := by decide +kernel
theorem dX3_turn_181 : decode cX3_turn 181 = .ok (.getfield 7, 3) := by decide +kernel
theorem dX3_turn_184 : decode cX3_turn 184 = .ok (.iload_n 1, 1) := by decide +kernel
theorem dX3_turn_185 : decode cX3_turn 185 = .ok (.iload_n 2, 1) := by decide +kernel
theorem dX3_turn_186 : decode cX3_turn 186 = .ok (.iastore, 1) := by decide +kernel
theorem dX3_turn_187 : decode cX3_turn 187 = .ok (.iconst 1, 1) := by decide +kernel
theorem dX3_turn_188 : decode cX3_turn 188 = .ok (.ireturn, 1) := by decide +kernel
theorem dX3_part_0 : decode cX3_part 0 = .ok (.aload_n 0, 1) := by decide +kernel
theorem dX3_part_1 : decode cX3_part 1 = .ok (.iconst 0, 1) := by decide +kernel
theorem dX3_part_2 : decode cX3_part 2 = .ok (.putfield 55, 3) := by decide +kernel
theorem dX3_part_5 : decode cX3_part 5 = .ok (.iload_n 1, 1) := by decide +kernel
theorem dX3_part_6 : decode cX3_part 6 = .ok (.iconst 0, 1) := by decide +kernel
theorem dX3_part_7 : decode cX3_part 7 = .ok (.iconst 2, 1) := by decide +kernel
theorem dX3_part_8 : decode cX3_part 8 = .ok (.invokestatic 59, 3) := by decide +kernel
theorem dX3_part_11 : decode cX3_part 11 = .ok (.ifCond .eq 14, 3) := by decide +kernel
theorem dX3_part_14 : decode cX3_part 14 = .ok (.iload_n 2, 1) := by decide +kernel
theorem dX3_part_15 : decode cX3_part 15 = .ok (.iconst 0, 1) := by decide +kernel
theorem dX3_part_16 : decode cX3_part 16 = .ok (.sipush 1000, 3) := by decide +kernel
theorem dX3_part_19 : decode cX3_part 19 = .ok (.invokestatic 59, 3) := by decide +kernel
theorem dX3_part_22 : decode cX3_part 22 = .ok (.ifCond .ne 5, 3) := by decide +kernel
theorem dX3_part_25 : decode cX3_part 25 = .ok (.iconst (-1), 1) := by decide +kernel
theorem dX3_part_26 : decode cX3_part 26 = .ok (.ireturn, 1) := by decide +kernel
theorem dX3_part_27 : decode cX3_part 27 = .ok (.aload_n 0, 1) := by decide +kernel
theorem dX3_part_28 : decode cX3_part 28 = .ok (.getfield 111, 3) := by decide +kernel
theorem dX3_part_31 : decode cX3_part 31 = .ok (.bipush 40, 2) := by decide +kernel
theorem dX3_part_33 : decode cX3_part 33 = .ok (.if_icmp .ne 6, 3) := by decide +kernel
theorem dX3_part_36 : decode cX3_part 36 = .ok (.bipush (-2), 2) := by decide +kernel
theorem dX3_part_38 : decode cX3_part 38 = .ok (.ireturn, 1) := by decide +kernel
theorem dX3_part_39 : decode cX3_part 39 = .ok (.aload_n 0, 1) := by decide +kernel
theorem dX3_part_40 : decode cX3_part 40 = .ok (.getfield 43, 3) := by decide +kernel
theorem dX3_part_43 : decode cX3_part 43 = .ok (.aload_n 0, 1) := by decide +kernel
theorem dX3_part_44 : decode cX3_part 44 = .ok (.getfield 111, 3) := by decide +kernel
theorem dX3_part_47 : decode cX3_part 47 = .ok (.iload_n 1, 1) := by decide +kernel
theorem dX3_part_48 : decode cX3_part 48 = .ok (.iastore, 1) := by decide +kernel
theorem dX3_part_49 : decode cX3_part 49 = .ok (.aload_n 0, 1) := by decide +kernel
theorem dX3_part_50 : decode cX3_part 50 = .ok (.getfield 46, 3) := by decide +kernel
theorem dX3_part_53 : decode cX3_part 53 = .ok (.aload_n 0, 1) := by decide +kernel
theorem dX3_part_54 : decode cX3_part 54 = .ok (.getfield 111, 3) := by decide +kernel
theorem dX3_part_57 : decode cX3_part 57 = .ok (.iload_n 2, 1) := by decide +kernel
theorem dX3_part_58 : decode cX3_part 58 = .ok (.iastore, 1) := by decide +kernel
theorem dX3_part_59 : decode cX3_part 59 = .ok (.aload_n 0, 1) := by decide +kernel
theorem dX3_part_60 : decode cX3_part 60 = .ok (.getfield 52, 3) := by decide +kernel
theorem dX3_part_63 : decode cX3_part 63 = .ok (.aload_n 0, 1) := by decide +kernel
theorem dX3_part_64 : decode cX3_part 64 = .ok (.getfield 111, 3) := by decide +kernel
theorem dX3_part_67 : decode cX3_part 67 = .ok (.iconst (-1), 1) := by decide +kernel
theorem dX3_part_68 : decode cX3_part 68 = .ok (.iastore, 1) := by decide +kernel
theorem dX3_part_69 : decode cX3_part 69 = .ok (.aload_n 0, 1) := by decide +kernel
theorem dX3_part_70 : decode cX3_part 70 = .ok (.dup, 1) := by decide +kernel
theorem dX3_part_71 : decode cX3_part 71 = .ok (.getfield 111, 3) := by decide +kernel
theorem dX3_part_74 : decode cX3_part 74 = .ok (.iconst 1, 1) := by decide +kernel
theorem dX3_part_75 : decode cX3_part 75 = .ok (.iadd, 1) := by decide +kernel
theorem dX3_part_76 : decode cX3_part 76 = .ok (.putfield 111, 3) := by decide +kernel
theorem dX3_part_79 : decode cX3_part 79 = .ok (.aload_n 0, 1) := by decide +kernel
theorem dX3_part_80 : decode cX3_part 80 = .ok (.getfield 111, 3) := by decide +kernel
theorem dX3_part_83 : decode cX3_part 83 = .ok (.iconst 1, 1) := by decide +kernel
theorem dX3_part_84 : decode cX3_part 84 = .ok (.isub, 1) := by decide +kernel
theorem dX3_part_85 : decode cX3_part 85 = .ok (.ireturn, 1) := by decide +kernel
theorem dX3_takes_0 : decode cX3_takes 0 = .ok (.lload_n 2, 1) := by decide +kernel
theorem dX3_takes_1 : decode cX3_takes 1 = .ok (.lconst 0, 1) := by decide +kernel
theorem dX3_takes_2 : decode cX3_takes 2 = .ok (.lcmp, 1) := by decide +kernel
theorem dX3_takes_3 : decode cX3_takes 3 = .ok (.ifCond .lt 23, 3) := by decide +kernel
theorem dX3_takes_6 : decode cX3_takes 6 = .ok (.iload_n 1, 1) := by decide +kernel
theorem dX3_takes_7 : decode cX3_takes 7 = .ok (.bipush 7, 2) := by decide +kernel
theorem dX3_takes_9 : decode cX3_takes 9 = .ok (.if_icmp .eq 17, 3) := by decide +kernel
theorem dX3_takes_12 : decode cX3_takes 12 = .ok (.aload_n 0, 1) := by decide +kernel
theorem dX3_takes_13 : decode cX3_takes 13 = .ok (.getfield 43, 3) := by decide +kernel
theorem dX3_takes_16 : decode cX3_takes 16 = .ok (.lload_n 2, 1) := by decide +kernel
theorem dX3_takes_17 : decode cX3_takes 17 = .ok (.l2i, 1) := by decide +kernel
theorem dX3_takes_18 : decode cX3_takes 18 = .ok (.iaload, 1) := by decide +kernel
theorem dX3_takes_19 : decode cX3_takes 19 = .ok (.iload_n 1, 1) := by decide +kernel
theorem dX3_takes_20 : decode cX3_takes 20 = .ok (.bipush 7, 2) := by decide +kernel
theorem dX3_takes_22 : decode cX3_takes 22 = .ok (.isub, 1) := by decide +kernel
theorem dX3_takes_23 : decode cX3_takes 23 = .ok (.if_icmp .ne 7, 3) := by decide +kernel
theorem dX3_takes_26 : decode cX3_takes 26 = .ok (.iconst 1, 1) := by decide +kernel
theorem dX3_takes_27 : decode cX3_takes 27 = .ok (.goto 4, 3) := by decide +kernel
theorem dX3_takes_30 : decode cX3_takes 30 = .ok (.iconst 0, 1) := by decide +kernel
theorem dX3_takes_31 : decode cX3_takes 31 = .ok (.ireturn, 1) := by decide +kernel
theorem dX3_lay_0 : decode cX3_lay 0 = .ok (.aload_n 0, 1) := by decide +kernel
theorem dX3_lay_1 : decode cX3_lay 1 = .ok (.iconst 0, 1) := by decide +kernel
theorem dX3_lay_2 : decode cX3_lay 2 = .ok (.putfield 55, 3) := by decide +kernel
theorem dX3_lay_5 : decode cX3_lay 5 = .ok (.iload_n 1, 1) := by decide +kernel
theorem dX3_lay_6 : decode cX3_lay 6 = .ok (.invokestatic 63, 3) := by decide +kernel
theorem dX3_lay_9 : decode cX3_lay 9 = .ok (.ifCond .eq 17, 3) := by decide +kernel
theorem dX3_lay_12 : decode cX3_lay 12 = .ok (.iload_n 3, 1) := by decide +kernel
theorem dX3_lay_13 : decode cX3_lay 13 = .ok (.iconst (-1), 1) := by decide +kernel
theorem dX3_lay_14 : decode cX3_lay 14 = .ok (.aload_n 0, 1) := by decide +kernel
theorem dX3_lay_15 : decode cX3_lay 15 = .ok (.getfield 111, 3) := by decide +kernel
theorem dX3_lay_18 : decode cX3_lay 18 = .ok (.iconst 1, 1) := by decide +kernel
theorem dX3_lay_19 : decode cX3_lay 19 = .ok (.isub, 1) := by decide +kernel
theorem dX3_lay_20 : decode cX3_lay 20 = .ok (.invokestatic 59, 3) := by decide +kernel
theorem dX3_lay_23 : decode cX3_lay 23 = .ok (.ifCond .ne 5, 3) := by decide +kernel
theorem dX3_lay_26 : decode cX3_lay 26 = .ok (.iconst (-1), 1) := by decide +kernel
theorem dX3_lay_27 : decode cX3_lay 27 = .ok (.ireturn, 1) := by decide +kernel
theorem dX3_lay_28 : decode cX3_lay 28 = .ok (.aload_n 0, 1) := by decide +kernel
theorem dX3_lay_29 : decode cX3_lay 29 = .ok (.iload_n 1, 1) := by decide +kernel
theorem dX3_lay_30 : decode cX3_lay 30 = .ok (.iconst 1, 1) := by decide +kernel
theorem dX3_lay_31 : decode cX3_lay 31 = .ok (.invokevirtual 74, 3) := by decide +kernel
theorem dX3_lay_34 : decode cX3_lay 34 = .ok (.istore 4, 2) := by decide +kernel
theorem dX3_lay_36 : decode cX3_lay 36 = .ok (.iload 4, 2) := by decide +kernel
theorem dX3_lay_38 : decode cX3_lay 38 = .ok (.ifCond .eq 6, 3) := by decide +kernel
theorem dX3_lay_41 : decode cX3_lay 41 = .ok (.iload 4, 2) := by decide +kernel
theorem dX3_lay_43 : decode cX3_lay 43 = .ok (.ireturn, 1) := by decide +kernel
theorem dX3_lay_44 : decode cX3_lay 44 = .ok (.aload_n 0, 1) := by decide +kernel
theorem dX3_lay_45 : decode cX3_lay 45 = .ok (.iload_n 1, 1) := by decide +kernel
theorem dX3_lay_46 : decode cX3_lay 46 = .ok (.iload_n 2, 1) := by decide +kernel
theorem dX3_lay_47 : decode cX3_lay 47 = .ok (.invokevirtual 78, 3) := by decide +kernel
theorem dX3_lay_50 : decode cX3_lay 50 = .ok (.ifCond .ne 6, 3) := by decide +kernel
theorem dX3_lay_53 : decode cX3_lay 53 = .ok (.bipush (-12), 2) := by decide +kernel
theorem dX3_lay_55 : decode cX3_lay 55 = .ok (.ireturn, 1) := by decide +kernel
theorem dX3_lay_56 : decode cX3_lay 56 = .ok (.aload_n 0, 1) := by decide +kernel
theorem dX3_lay_57 : decode cX3_lay 57 = .ok (.aload_n 0, 1) := by decide +kernel
theorem dX3_lay_58 : decode cX3_lay 58 = .ok (.getfield 7, 3) := by decide +kernel
theorem dX3_lay_61 : decode cX3_lay 61 = .ok (.iload_n 1, 1) := by decide +kernel
theorem dX3_lay_62 : decode cX3_lay 62 = .ok (.iaload, 1) := by decide +kernel
theorem dX3_lay_63 : decode cX3_lay 63 = .ok (.iload_n 3, 1) := by decide +kernel
theorem dX3_lay_64 : decode cX3_lay 64 = .ok (.i2l, 1) := by decide +kernel
theorem dX3_lay_65 : decode cX3_lay 65 = .ok (.invokevirtual 114, 3) := by decide +kernel
theorem dX3_lay_68 : decode cX3_lay 68 = .ok (.ifCond .ne 6, 3) := by decide +kernel
theorem dX3_lay_71 : decode cX3_lay 71 = .ok (.bipush (-14), 2) := by decide +kernel
theorem dX3_lay_73 : decode cX3_lay 73 = .ok (.ireturn, 1) := by decide +kernel
theorem dX3_lay_74 : decode cX3_lay 74 = .ok (.aload_n 0, 1) := by decide +kernel
theorem dX3_lay_75 : decode cX3_lay 75 = .ok (.getfield 20, 3) := by decide +kernel
theorem dX3_lay_78 : decode cX3_lay 78 = .ok (.bipush 40, 2) := by decide +kernel
theorem dX3_lay_80 : decode cX3_lay 80 = .ok (.iload_n 1, 1) := by decide +kernel
theorem dX3_lay_81 : decode cX3_lay 81 = .ok (.imul, 1) := by decide +kernel
theorem dX3_lay_82 : decode cX3_lay 82 = .ok (.iload_n 2, 1) := by decide +kernel
theorem dX3_lay_83 : decode cX3_lay 83 = .ok (.iadd, 1) := by decide +kernel
theorem dX3_lay_84 : decode cX3_lay 84 = .ok (.iload_n 3, 1) := by decide +kernel
theorem dX3_lay_85 : decode cX3_lay 85 = .ok (.i2l, 1) := by decide +kernel
theorem dX3_lay_86 : decode cX3_lay 86 = .ok (.lastore, 1) := by decide +kernel
theorem dX3_lay_87 : decode cX3_lay 87 = .ok (.iload_n 3, 1) := by decide +kernel
theorem dX3_lay_88 : decode cX3_lay 88 = .ok (.ifCond .lt 13, 3) := by decide +kernel
theorem dX3_lay_91 : decode cX3_lay 91 = .ok (.aload_n 0, 1) := by decide +kernel
theorem dX3_lay_92 : decode cX3_lay 92 = .ok (.getfield 49, 3) := by decide +kernel
theorem dX3_lay_95 : decode cX3_lay 95 = .ok (.iload_n 3, 1) := by decide +kernel
theorem dX3_lay_96 : decode cX3_lay 96 = .ok (.dup2, 1) := by decide +kernel
theorem dX3_lay_97 : decode cX3_lay 97 = .ok (.iaload, 1) := by decide +kernel
theorem dX3_lay_98 : decode cX3_lay 98 = .ok (.iconst 1, 1) := by decide +kernel
theorem dX3_lay_99 : decode cX3_lay 99 = .ok (.iadd, 1) := by decide +kernel
theorem dX3_lay_100 : decode cX3_lay 100 = .ok (.iastore, 1) := by decide +kernel
theorem dX3_lay_101 : decode cX3_lay 101 = .ok (.iconst 1, 1) := by decide +kernel
theorem dX3_lay_102 : decode cX3_lay 102 = .ok (.ireturn, 1) := by decide +kernel
theorem dX3_wayTo_0 : decode cX3_wayTo 0 = .ok (.iload_n 1, 1) := by decide +kernel
theorem dX3_wayTo_1 : decode cX3_wayTo 1 = .ok (.invokestatic 63, 3) := by decide +kernel
theorem dX3_wayTo_4 : decode cX3_wayTo 4 = .ok (.ifCond .ne 5, 3) := by decide +kernel
theorem dX3_wayTo_7 : decode cX3_wayTo 7 = .ok (.iconst (-1), 1) := by decide +kernel
theorem dX3_wayTo_8 : decode cX3_wayTo 8 = .ok (.ireturn, 1) := by decide +kernel
theorem dX3_wayTo_9 : decode cX3_wayTo 9 = .ok (.aload_n 0, 1) := by decide +kernel
theorem dX3_wayTo_10 : decode cX3_wayTo 10 = .ok (.iload_n 1, 1) := by decide +kernel
theorem dX3_wayTo_11 : decode cX3_wayTo 11 = .ok (.iconst 1, 1) := by decide +kernel
theorem dX3_wayTo_12 : decode cX3_wayTo 12 = .ok (.invokevirtual 74, 3) := by decide +kernel
theorem dX3_wayTo_15 : decode cX3_wayTo 15 = .ok (.istore_n 3, 1) := by decide +kernel
theorem dX3_wayTo_16 : decode cX3_wayTo 16 = .ok (.iload_n 3, 1) := by decide +kernel
theorem dX3_wayTo_17 : decode cX3_wayTo 17 = .ok (.ifCond .eq 5, 3) := by decide +kernel
theorem dX3_wayTo_20 : decode cX3_wayTo 20 = .ok (.iload_n 3, 1) := by decide +kernel
theorem dX3_wayTo_21 : decode cX3_wayTo 21 = .ok (.ireturn, 1) := by decide +kernel
theorem dX3_wayTo_22 : decode cX3_wayTo 22 = .ok (.aload_n 0, 1) := by decide +kernel
theorem dX3_wayTo_23 : decode cX3_wayTo 23 = .ok (.iload_n 1, 1) := by decide +kernel
theorem dX3_wayTo_24 : decode cX3_wayTo 24 = .ok (.iload_n 2, 1) := by decide +kernel
theorem dX3_wayTo_25 : decode cX3_wayTo 25 = .ok (.invokevirtual 78, 3) := by decide +kernel
theorem dX3_wayTo_28 : decode cX3_wayTo 28 = .ok (.ifCond .ne 8, 3) := by decide +kernel
theorem dX3_wayTo_31 : decode cX3_wayTo 31 = .ok (.bipush (-12), 2) := by decide +kernel
theorem dX3_wayTo_33 : decode cX3_wayTo 33 = .ok (.goto 25, 3) := by decide +kernel
theorem dX3_wayTo_36 : decode cX3_wayTo 36 = .ok (.aload_n 0, 1) := by decide +kernel
theorem dX3_wayTo_37 : decode cX3_wayTo 37 = .ok (.getfield 20, 3) := by decide +kernel
theorem dX3_wayTo_40 : decode cX3_wayTo 40 = .ok (.bipush 40, 2) := by decide +kernel
theorem dX3_wayTo_42 : decode cX3_wayTo 42 = .ok (.iload_n 1, 1) := by decide +kernel
theorem dX3_wayTo_43 : decode cX3_wayTo 43 = .ok (.imul, 1) := by decide +kernel
theorem dX3_wayTo_44 : decode cX3_wayTo 44 = .ok (.iload_n 2, 1) := by decide +kernel
theorem dX3_wayTo_45 : decode cX3_wayTo 45 = .ok (.iadd, 1) := by decide +kernel
theorem dX3_wayTo_46 : decode cX3_wayTo 46 = .ok (.laload, 1) := by decide +kernel
theorem dX3_wayTo_47 : decode cX3_wayTo 47 = .ok (.lconst 0, 1) := by decide +kernel
theorem dX3_wayTo_48 : decode cX3_wayTo 48 = .ok (.lcmp, 1) := by decide +kernel
theorem dX3_wayTo_49 : decode cX3_wayTo 49 = .ok (.ifCond .ge 8, 3) := by decide +kernel
theorem dX3_wayTo_52 : decode cX3_wayTo 52 = .ok (.bipush (-11), 2) := by decide +kernel
theorem dX3_wayTo_54 : decode cX3_wayTo 54 = .ok (.goto 4, 3) := by decide +kernel
theorem dX3_wayTo_57 : decode cX3_wayTo 57 = .ok (.iconst 0, 1) := by decide +kernel
theorem dX3_wayTo_58 : decode cX3_wayTo 58 = .ok (.ireturn, 1) := by decide +kernel
theorem dX3_weigh_0 : decode cX3_weigh 0 = .ok (.aload_n 0, 1) := by decide +kernel
theorem dX3_weigh_1 : decode cX3_weigh 1 = .ok (.iconst 0, 1) := by decide +kernel
theorem dX3_weigh_2 : decode cX3_weigh 2 = .ok (.putfield 55, 3) := by decide +kernel
theorem dX3_weigh_5 : decode cX3_weigh 5 = .ok (.aload_n 0, 1) := by decide +kernel
theorem dX3_weigh_6 : decode cX3_weigh 6 = .ok (.iload_n 1, 1) := by decide +kernel
theorem dX3_weigh_7 : decode cX3_weigh 7 = .ok (.iload_n 2, 1) := by decide +kernel
theorem dX3_weigh_8 : decode cX3_weigh 8 = .ok (.invokevirtual 117, 3) := by decide +kernel
theorem dX3_weigh_11 : decode cX3_weigh 11 = .ok (.istore_n 3, 1) := by decide +kernel
theorem dX3_weigh_12 : decode cX3_weigh 12 = .ok (.iload_n 3, 1) := by decide +kernel
theorem dX3_weigh_13 : decode cX3_weigh 13 = .ok (.ifCond .eq 5, 3) := by decide +kernel
theorem dX3_weigh_16 : decode cX3_weigh 16 = .ok (.iload_n 3, 1) := by decide +kernel
theorem dX3_weigh_17 : decode cX3_weigh 17 = .ok (.ireturn, 1) := by decide +kernel
theorem dX3_weigh_18 : decode cX3_weigh 18 = .ok (.aload_n 0, 1) := by decide +kernel
theorem dX3_weigh_19 : decode cX3_weigh 19 = .ok (.getfield 20, 3) := by decide +kernel
theorem dX3_weigh_22 : decode cX3_weigh 22 = .ok (.bipush 40, 2) := by decide +kernel
theorem dX3_weigh_24 : decode cX3_weigh 24 = .ok (.iload_n 1, 1) := by decide +kernel
theorem dX3_weigh_25 : decode cX3_weigh 25 = .ok (.imul, 1) := by decide +kernel
theorem dX3_weigh_26 : decode cX3_weigh 26 = .ok (.iload_n 2, 1) := by decide +kernel
theorem dX3_weigh_27 : decode cX3_weigh 27 = .ok (.iadd, 1) := by decide +kernel
theorem dX3_weigh_28 : decode cX3_weigh 28 = .ok (.laload, 1) := by decide +kernel
theorem dX3_weigh_29 : decode cX3_weigh 29 = .ok (.l2i, 1) := by decide +kernel
theorem dX3_weigh_30 : decode cX3_weigh 30 = .ok (.istore 4, 2) := by decide +kernel
theorem dX3_weigh_32 : decode cX3_weigh 32 = .ok (.aload_n 0, 1) := by decide +kernel
theorem dX3_weigh_33 : decode cX3_weigh 33 = .ok (.getfield 43, 3) := by decide +kernel
theorem dX3_weigh_36 : decode cX3_weigh 36 = .ok (.iload 4, 2) := by decide +kernel
theorem dX3_weigh_38 : decode cX3_weigh 38 = .ok (.iaload, 1) := by decide +kernel
theorem dX3_weigh_39 : decode cX3_weigh 39 = .ok (.lookupswitch 51 #[(0, 25), (1, 33)], 25) := by decide +kernel
theorem dX3_weigh_64 : decode cX3_weigh 64 = .ok (.aload_n 0, 1) := by decide +kernel
theorem dX3_weigh_65 : decode cX3_weigh 65 = .ok (.getfield 46, 3) := by decide +kernel
theorem dX3_weigh_68 : decode cX3_weigh 68 = .ok (.iload 4, 2) := by decide +kernel
theorem dX3_weigh_70 : decode cX3_weigh 70 = .ok (.iaload, 1) := by decide +kernel
theorem dX3_weigh_71 : decode cX3_weigh 71 = .ok (.ireturn, 1) := by decide +kernel
theorem dX3_weigh_72 : decode cX3_weigh 72 = .ok (.aload_n 0, 1) := by decide +kernel
theorem dX3_weigh_73 : decode cX3_weigh 73 = .ok (.getfield 46, 3) := by decide +kernel
theorem dX3_weigh_76 : decode cX3_weigh 76 = .ok (.iload 4, 2) := by decide +kernel
theorem dX3_weigh_78 : decode cX3_weigh 78 = .ok (.iaload, 1) := by decide +kernel
theorem dX3_weigh_79 : decode cX3_weigh 79 = .ok (.iconst 3, 1) := by decide +kernel
theorem dX3_weigh_80 : decode cX3_weigh 80 = .ok (.aload_n 0, 1) := by decide +kernel
theorem dX3_weigh_81 : decode cX3_weigh 81 = .ok (.getfield 49, 3) := by decide +kernel
theorem dX3_weigh_84 : decode cX3_weigh 84 = .ok (.iload 4, 2) := by decide +kernel
theorem dX3_weigh_86 : decode cX3_weigh 86 = .ok (.iaload, 1) := by decide +kernel
theorem dX3_weigh_87 : decode cX3_weigh 87 = .ok (.imul, 1) := by decide +kernel
theorem dX3_weigh_88 : decode cX3_weigh 88 = .ok (.iadd, 1) := by decide +kernel
theorem dX3_weigh_89 : decode cX3_weigh 89 = .ok (.ireturn, 1) := by decide +kernel
theorem dX3_weigh_90 : decode cX3_weigh 90 = .ok (.aload_n 0, 1) := by decide +kernel
theorem dX3_weigh_91 : decode cX3_weigh 91 = .ok (.getfield 46, 3) := by decide +kernel
theorem dX3_weigh_94 : decode cX3_weigh 94 = .ok (.iload 4, 2) := by decide +kernel
theorem dX3_weigh_96 : decode cX3_weigh 96 = .ok (.iaload, 1) := by decide +kernel
theorem dX3_weigh_97 : decode cX3_weigh 97 = .ok (.iconst 2, 1) := by decide +kernel
theorem dX3_weigh_98 : decode cX3_weigh 98 = .ok (.idiv, 1) := by decide +kernel
theorem dX3_weigh_99 : decode cX3_weigh 99 = .ok (.aload_n 0, 1) := by decide +kernel
theorem dX3_weigh_100 : decode cX3_weigh 100 = .ok (.getfield 49, 3) := by decide +kernel
theorem dX3_weigh_103 : decode cX3_weigh 103 = .ok (.iload 4, 2) := by decide +kernel
theorem dX3_weigh_105 : decode cX3_weigh 105 = .ok (.iaload, 1) := by decide +kernel
theorem dX3_weigh_106 : decode cX3_weigh 106 = .ok (.iconst 1, 1) := by decide +kernel
theorem dX3_weigh_107 : decode cX3_weigh 107 = .ok (.iadd, 1) := by decide +kernel
theorem dX3_weigh_108 : decode cX3_weigh 108 = .ok (.iconst 2, 1) := by decide +kernel
theorem dX3_weigh_109 : decode cX3_weigh 109 = .ok (.idiv, 1) := by decide +kernel
theorem dX3_weigh_110 : decode cX3_weigh 110 = .ok (.iadd, 1) := by decide +kernel
theorem dX3_weigh_111 : decode cX3_weigh 111 = .ok (.ireturn, 1) := by decide +kernel
theorem dX3_rigid_0 : decode cX3_rigid 0 = .ok (.aload_n 0, 1) := by decide +kernel
theorem dX3_rigid_1 : decode cX3_rigid 1 = .ok (.iconst 0, 1) := by decide +kernel
theorem dX3_rigid_2 : decode cX3_rigid 2 = .ok (.putfield 55, 3) := by decide +kernel
theorem dX3_rigid_5 : decode cX3_rigid 5 = .ok (.aload_n 0, 1) := by decide +kernel
theorem dX3_rigid_6 : decode cX3_rigid 6 = .ok (.iload_n 1, 1) := by decide +kernel
theorem dX3_rigid_7 : decode cX3_rigid 7 = .ok (.iload_n 2, 1) := by decide +kernel
theorem dX3_rigid_8 : decode cX3_rigid 8 = .ok (.invokevirtual 117, 3) := by decide +kernel
theorem dX3_rigid_11 : decode cX3_rigid 11 = .ok (.istore_n 3, 1) := by decide +kernel
theorem dX3_rigid_12 : decode cX3_rigid 12 = .ok (.iload_n 3, 1) := by decide +kernel
theorem dX3_rigid_13 : decode cX3_rigid 13 = .ok (.ifCond .eq 5, 3) := by decide +kernel
theorem dX3_rigid_16 : decode cX3_rigid 16 = .ok (.iload_n 3, 1) := by decide +kernel
theorem dX3_rigid_17 : decode cX3_rigid 17 = .ok (.ireturn, 1) := by decide +kernel
theorem dX3_rigid_18 : decode cX3_rigid 18 = .ok (.aload_n 0, 1) := by decide +kernel
theorem dX3_rigid_19 : decode cX3_rigid 19 = .ok (.getfield 20, 3) := by decide +kernel
theorem dX3_rigid_22 : decode cX3_rigid 22 = .ok (.bipush 40, 2) := by decide +kernel
theorem dX3_rigid_24 : decode cX3_rigid 24 = .ok (.iload_n 1, 1) := by decide +kernel
theorem dX3_rigid_25 : decode cX3_rigid 25 = .ok (.imul, 1) := by decide +kernel
theorem dX3_rigid_26 : decode cX3_rigid 26 = .ok (.iload_n 2, 1) := by decide +kernel
theorem dX3_rigid_27 : decode cX3_rigid 27 = .ok (.iadd, 1) := by decide +kernel
theorem dX3_rigid_28 : decode cX3_rigid 28 = .ok (.laload, 1) := by decide +kernel
theorem dX3_rigid_29 : decode cX3_rigid 29 = .ok (.l2i, 1) := by decide +kernel
theorem dX3_rigid_30 : decode cX3_rigid 30 = .ok (.istore 4, 2) := by decide +kernel
theorem dX3_rigid_32 : decode cX3_rigid 32 = .ok (.aload_n 0, 1) := by decide +kernel
theorem dX3_rigid_33 : decode cX3_rigid 33 = .ok (.getfield 43, 3) := by decide +kernel
theorem dX3_rigid_36 : decode cX3_rigid 36 = .ok (.iload 4, 2) := by decide +kernel
theorem dX3_rigid_38 : decode cX3_rigid 38 = .ok (.iaload, 1) := by decide +kernel
theorem dX3_rigid_39 : decode cX3_rigid 39 = .ok (.iconst 1, 1) := by decide +kernel
theorem dX3_rigid_40 : decode cX3_rigid 40 = .ok (.if_icmp .eq 8, 3) := by decide +kernel
theorem dX3_rigid_43 : decode cX3_rigid 43 = .ok (.bipush (-15), 2) := by decide +kernel
theorem dX3_rigid_45 : decode cX3_rigid 45 = .ok (.goto 10, 3) := by decide +kernel
theorem dX3_rigid_48 : decode cX3_rigid 48 = .ok (.aload_n 0, 1) := by decide +kernel
theorem dX3_rigid_49 : decode cX3_rigid 49 = .ok (.getfield 49, 3) := by decide +kernel
theorem dX3_rigid_52 : decode cX3_rigid 52 = .ok (.iload 4, 2) := by decide +kernel
theorem dX3_rigid_54 : decode cX3_rigid 54 = .ok (.iaload, 1) := by decide +kernel
theorem dX3_rigid_55 : decode cX3_rigid 55 = .ok (.ireturn, 1) := by decide +kernel
theorem dX3_fault_0 : decode cX3_fault 0 = .ok (.aload_n 0, 1) := by decide +kernel
theorem dX3_fault_1 : decode cX3_fault 1 = .ok (.iconst 0, 1) := by decide +kernel
theorem dX3_fault_2 : decode cX3_fault 2 = .ok (.putfield 55, 3) := by decide +kernel
theorem dX3_fault_5 : decode cX3_fault 5 = .ok (.iload_n 1, 1) := by decide +kernel
theorem dX3_fault_6 : decode cX3_fault 6 = .ok (.iconst 0, 1) := by decide +kernel
theorem dX3_fault_7 : decode cX3_fault 7 = .ok (.aload_n 0, 1) := by decide +kernel
theorem dX3_fault_8 : decode cX3_fault 8 = .ok (.getfield 111, 3) := by decide +kernel
theorem dX3_fault_11 : decode cX3_fault 11 = .ok (.iconst 1, 1) := by decide +kernel
theorem dX3_fault_12 : decode cX3_fault 12 = .ok (.isub, 1) := by decide +kernel
theorem dX3_fault_13 : decode cX3_fault 13 = .ok (.invokestatic 59, 3) := by decide +kernel
theorem dX3_fault_16 : decode cX3_fault 16 = .ok (.ifCond .eq 13, 3) := by decide +kernel
theorem dX3_fault_19 : decode cX3_fault 19 = .ok (.iload_n 2, 1) := by decide +kernel
theorem dX3_fault_20 : decode cX3_fault 20 = .ok (.iconst (-1), 1) := by decide +kernel
theorem dX3_fault_21 : decode cX3_fault 21 = .ok (.bipush 9, 2) := by decide +kernel
theorem dX3_fault_23 : decode cX3_fault 23 = .ok (.invokestatic 59, 3) := by decide +kernel
theorem dX3_fault_26 : decode cX3_fault 26 = .ok (.ifCond .ne 5, 3) := by decide +kernel
theorem dX3_fault_29 : decode cX3_fault 29 = .ok (.iconst (-1), 1) := by decide +kernel
theorem dX3_fault_30 : decode cX3_fault 30 = .ok (.ireturn, 1) := by decide +kernel
theorem dX3_fault_31 : decode cX3_fault 31 = .ok (.aload_n 0, 1) := by decide +kernel
theorem dX3_fault_32 : decode cX3_fault 32 = .ok (.getfield 52, 3) := by decide +kernel
theorem dX3_fault_35 : decode cX3_fault 35 = .ok (.iload_n 1, 1) := by decide +kernel
theorem dX3_fault_36 : decode cX3_fault 36 = .ok (.iload_n 2, 1) := by decide +kernel
theorem dX3_fault_37 : decode cX3_fault 37 = .ok (.iastore, 1) := by decide +kernel
theorem dX3_fault_38 : decode cX3_fault 38 = .ok (.iconst 1, 1) := by decide +kernel
theorem dX3_fault_39 : decode cX3_fault 39 = .ok (.ireturn, 1) := by decide +kernel
theorem dX3_raise_0 : decode cX3_raise 0 = .ok (.aload_n 0, 1) := by decide +kernel
theorem dX3_raise_1 : decode cX3_raise 1 = .ok (.iconst 0, 1) := by decide +kernel
theorem dX3_raise_2 : decode cX3_raise 2 = .ok (.putfield 55, 3) := by decide +kernel
theorem dX3_raise_5 : decode cX3_raise 5 = .ok (.aload_n 0, 1) := by decide +kernel
theorem dX3_raise_6 : decode cX3_raise 6 = .ok (.iload_n 1, 1) := by decide +kernel
theorem dX3_raise_7 : decode cX3_raise 7 = .ok (.iload_n 2, 1) := by decide +kernel
theorem dX3_raise_8 : decode cX3_raise 8 = .ok (.invokevirtual 117, 3) := by decide +kernel
theorem dX3_raise_11 : decode cX3_raise 11 = .ok (.istore_n 3, 1) := by decide +kernel
theorem dX3_raise_12 : decode cX3_raise 12 = .ok (.iload_n 3, 1) := by decide +kernel
theorem dX3_raise_13 : decode cX3_raise 13 = .ok (.ifCond .eq 5, 3) := by decide +kernel
theorem dX3_raise_16 : decode cX3_raise 16 = .ok (.iload_n 3, 1) := by decide +kernel
theorem dX3_raise_17 : decode cX3_raise 17 = .ok (.ireturn, 1) := by decide +kernel
theorem dX3_raise_18 : decode cX3_raise 18 = .ok (.aload_n 0, 1) := by decide +kernel
theorem dX3_raise_19 : decode cX3_raise 19 = .ok (.getfield 52, 3) := by decide +kernel
theorem dX3_raise_22 : decode cX3_raise 22 = .ok (.aload_n 0, 1) := by decide +kernel
theorem dX3_raise_23 : decode cX3_raise 23 = .ok (.getfield 20, 3) := by decide +kernel
theorem dX3_raise_26 : decode cX3_raise 26 = .ok (.bipush 40, 2) := by decide +kernel
theorem dX3_raise_28 : decode cX3_raise 28 = .ok (.iload_n 1, 1) := by decide +kernel
theorem dX3_raise_29 : decode cX3_raise 29 = .ok (.imul, 1) := by decide +kernel
theorem dX3_raise_30 : decode cX3_raise 30 = .ok (.iload_n 2, 1) := by decide +kernel
theorem dX3_raise_31 : decode cX3_raise 31 = .ok (.iadd, 1) := by decide +kernel
theorem dX3_raise_32 : decode cX3_raise 32 = .ok (.laload, 1) := by decide +kernel
theorem dX3_raise_33 : decode cX3_raise 33 = .ok (.l2i, 1) := by decide +kernel
theorem dX3_raise_34 : decode cX3_raise 34 = .ok (.iaload, 1) := by decide +kernel
theorem dX3_raise_35 : decode cX3_raise 35 = .ok (.istore 4, 2) := by decide +kernel
theorem dX3_raise_37 : decode cX3_raise 37 = .ok (.iload 4, 2) := by decide +kernel
theorem dX3_raise_39 : decode cX3_raise 39 = .ok (.ifCond .ge 8, 3) := by decide +kernel
theorem dX3_raise_42 : decode cX3_raise 42 = .ok (.bipush (-11), 2) := by decide +kernel
theorem dX3_raise_44 : decode cX3_raise 44 = .ok (.goto 8, 3) := by decide +kernel
theorem dX3_raise_47 : decode cX3_raise 47 = .ok (.bipush (-30), 2) := by decide +kernel
theorem dX3_raise_49 : decode cX3_raise 49 = .ok (.iload 4, 2) := by decide +kernel
theorem dX3_raise_51 : decode cX3_raise 51 = .ok (.isub, 1) := by decide +kernel
theorem dX3_raise_52 : decode cX3_raise 52 = .ok (.ireturn, 1) := by decide +kernel
theorem dX3_reaches_0 : decode cX3_reaches 0 = .ok (.iload_n 0, 1) := by decide +kernel
theorem dX3_reaches_1 : decode cX3_reaches 1 = .ok (.ifCond .lt 19, 3) := by decide +kernel
theorem dX3_reaches_4 : decode cX3_reaches 4 = .ok (.iload_n 0, 1) := by decide +kernel
theorem dX3_reaches_5 : decode cX3_reaches 5 = .ok (.iload_n 2, 1) := by decide +kernel
theorem dX3_reaches_6 : decode cX3_reaches 6 = .ok (.if_icmp .gt 14, 3) := by decide +kernel
theorem dX3_reaches_9 : decode cX3_reaches 9 = .ok (.iload_n 1, 1) := by decide +kernel
theorem dX3_reaches_10 : decode cX3_reaches 10 = .ok (.iload_n 2, 1) := by decide +kernel
theorem dX3_reaches_11 : decode cX3_reaches 11 = .ok (.iload_n 0, 1) := by decide +kernel
theorem dX3_reaches_12 : decode cX3_reaches 12 = .ok (.isub, 1) := by decide +kernel
theorem dX3_reaches_13 : decode cX3_reaches 13 = .ok (.if_icmp .gt 7, 3) := by decide +kernel
theorem dX3_reaches_16 : decode cX3_reaches 16 = .ok (.iconst 1, 1) := by decide +kernel
theorem dX3_reaches_17 : decode cX3_reaches 17 = .ok (.goto 4, 3) := by decide +kernel
theorem dX3_reaches_20 : decode cX3_reaches 20 = .ok (.iconst 0, 1) := by decide +kernel
theorem dX3_reaches_21 : decode cX3_reaches 21 = .ok (.ireturn, 1) := by decide +kernel
theorem dX3_copy_0 : decode cX3_copy 0 = .ok (.aload_n 0, 1) := by decide +kernel
theorem dX3_copy_1 : decode cX3_copy 1 = .ok (.iconst 0, 1) := by decide +kernel
theorem dX3_copy_2 : decode cX3_copy 2 = .ok (.putfield 55, 3) := by decide +kernel
theorem dX3_copy_5 : decode cX3_copy 5 = .ok (.iload_n 1, 1) := by decide +kernel
theorem dX3_copy_6 : decode cX3_copy 6 = .ok (.invokestatic 63, 3) := by decide +kernel
theorem dX3_copy_9 : decode cX3_copy 9 = .ok (.ifCond .eq 10, 3) := by decide +kernel
theorem dX3_copy_12 : decode cX3_copy 12 = .ok (.iload_n 3, 1) := by decide +kernel
theorem dX3_copy_13 : decode cX3_copy 13 = .ok (.invokestatic 63, 3) := by decide +kernel
theorem dX3_copy_16 : decode cX3_copy 16 = .ok (.ifCond .ne 5, 3) := by decide +kernel
theorem dX3_copy_19 : decode cX3_copy 19 = .ok (.iconst (-1), 1) := by decide +kernel
theorem dX3_copy_20 : decode cX3_copy 20 = .ok (.ireturn, 1) := by decide +kernel
theorem dX3_copy_21 : decode cX3_copy 21 = .ok (.aload_n 0, 1) := by decide +kernel
theorem dX3_copy_22 : decode cX3_copy 22 = .ok (.iconst 0, 1) := by decide +kernel
theorem dX3_copy_23 : decode cX3_copy 23 = .ok (.putfield 121, 3) := by decide +kernel
theorem dX3_copy_26 : decode cX3_copy 26 = .ok (.aload_n 0, 1) := by decide +kernel
theorem dX3_copy_27 : decode cX3_copy 27 = .ok (.iload_n 1, 1) := by decide +kernel
theorem dX3_copy_28 : decode cX3_copy 28 = .ok (.invokevirtual 69, 3) := by decide +kernel
theorem dX3_copy_31 : decode cX3_copy 31 = .ok (.ifCond .ne 11, 3) := by decide +kernel
theorem dX3_copy_34 : decode cX3_copy 34 = .ok (.aload_n 0, 1) := by decide +kernel
theorem dX3_copy_35 : decode cX3_copy 35 = .ok (.iload_n 3, 1) := by decide +kernel
theorem dX3_copy_36 : decode cX3_copy 36 = .ok (.invokevirtual 69, 3) := by decide +kernel
theorem dX3_copy_39 : decode cX3_copy 39 = .ok (.ifCond .eq 6, 3) := by decide +kernel
theorem dX3_copy_42 : decode cX3_copy 42 = .ok (.bipush (-11), 2) := by decide +kernel
theorem dX3_copy_44 : decode cX3_copy 44 = .ok (.ireturn, 1) := by decide +kernel
theorem dX3_copy_45 : decode cX3_copy 45 = .ok (.aload_n 0, 1) := by decide +kernel
theorem dX3_copy_46 : decode cX3_copy 46 = .ok (.getfield 7, 3) := by decide +kernel
theorem dX3_copy_49 : decode cX3_copy 49 = .ok (.iload_n 1, 1) := by decide +kernel
theorem dX3_copy_50 : decode cX3_copy 50 = .ok (.iaload, 1) := by decide +kernel
theorem dX3_copy_51 : decode cX3_copy 51 = .ok (.bipush 7, 2) := by decide +kernel
theorem dX3_copy_53 : decode cX3_copy 53 = .ok (.if_icmp .lt 7, 3) := by decide +kernel
theorem dX3_copy_56 : decode cX3_copy 56 = .ok (.iconst 1, 1) := by decide +kernel
theorem dX3_copy_57 : decode cX3_copy 57 = .ok (.goto 4, 3) := by decide +kernel
theorem dX3_copy_60 : decode cX3_copy 60 = .ok (.iconst 0, 1) := by decide +kernel
theorem dX3_copy_61 : decode cX3_copy 61 = .ok (.istore 6, 2) := by decide +kernel
theorem dX3_copy_63 : decode cX3_copy 63 = .ok (.iload 6, 2) := by decide +kernel
theorem dX3_copy_65 : decode cX3_copy 65 = .ok (.aload_n 0, 1) := by decide +kernel
theorem dX3_copy_66 : decode cX3_copy 66 = .ok (.getfield 7, 3) := by decide +kernel
theorem dX3_copy_69 : decode cX3_copy 69 = .ok (.iload_n 3, 1) := by decide +kernel
theorem dX3_copy_70 : decode cX3_copy 70 = .ok (.iaload, 1) := by decide +kernel
theorem dX3_copy_71 : decode cX3_copy 71 = .ok (.bipush 7, 2) := by decide +kernel
theorem dX3_copy_73 : decode cX3_copy 73 = .ok (.if_icmp .lt 7, 3) := by decide +kernel
theorem dX3_copy_76 : decode cX3_copy 76 = .ok (.iconst 1, 1) := by decide +kernel
theorem dX3_copy_77 : decode cX3_copy 77 = .ok (.goto 4, 3) := by decide +kernel
theorem dX3_copy_80 : decode cX3_copy 80 = .ok (.iconst 0, 1) := by decide +kernel
theorem dX3_copy_81 : decode cX3_copy 81 = .ok (.if_icmp .ne 23, 3) := by decide +kernel
theorem dX3_copy_84 : decode cX3_copy 84 = .ok (.iload 6, 2) := by decide +kernel
theorem dX3_copy_86 : decode cX3_copy 86 = .ok (.ifCond .ne 21, 3) := by decide +kernel
theorem dX3_copy_89 : decode cX3_copy 89 = .ok (.aload_n 0, 1) := by decide +kernel
theorem dX3_copy_90 : decode cX3_copy 90 = .ok (.getfield 7, 3) := by decide +kernel
theorem dX3_copy_93 : decode cX3_copy 93 = .ok (.iload_n 1, 1) := by decide +kernel
theorem dX3_copy_94 : decode cX3_copy 94 = .ok (.iaload, 1) := by decide +kernel
theorem dX3_copy_95 : decode cX3_copy 95 = .ok (.aload_n 0, 1) := by decide +kernel
theorem dX3_copy_96 : decode cX3_copy 96 = .ok (.getfield 7, 3) := by decide +kernel
theorem dX3_copy_99 : decode cX3_copy 99 = .ok (.iload_n 3, 1) := by decide +kernel
theorem dX3_copy_100 : decode cX3_copy 100 = .ok (.iaload, 1) := by decide +kernel
theorem dX3_copy_101 : decode cX3_copy 101 = .ok (.if_icmp .eq 6, 3) := by decide +kernel
theorem dX3_copy_104 : decode cX3_copy 104 = .ok (.bipush (-13), 2) := by decide +kernel
theorem dX3_copy_106 : decode cX3_copy 106 = .ok (.ireturn, 1) := by decide +kernel
theorem dX3_copy_107 : decode cX3_copy 107 = .ok (.iload 5, 2) := by decide +kernel
theorem dX3_copy_109 : decode cX3_copy 109 = .ok (.ifCond .lt 34, 3) := by decide +kernel
theorem dX3_copy_112 : decode cX3_copy 112 = .ok (.iload_n 2, 1) := by decide +kernel
theorem dX3_copy_113 : decode cX3_copy 113 = .ok (.iload 5, 2) := by decide +kernel
theorem dX3_copy_115 : decode cX3_copy 115 = .ok (.aload_n 0, 1) := by decide +kernel
theorem dX3_copy_116 : decode cX3_copy 116 = .ok (.getfield 13, 3) := by decide +kernel
theorem dX3_copy_119 : decode cX3_copy 119 = .ok (.iload_n 1, 1) := by decide +kernel
theorem dX3_copy_120 : decode cX3_copy 120 = .ok (.iaload, 1) := by decide +kernel
theorem dX3_copy_121 : decode cX3_copy 121 = .ok (.invokestatic 124, 3) := by decide +kernel
theorem dX3_copy_124 : decode cX3_copy 124 = .ok (.ifCond .eq 19, 3) := by decide +kernel
theorem dX3_copy_127 : decode cX3_copy 127 = .ok (.iload 4, 2) := by decide +kernel
theorem dX3_copy_129 : decode cX3_copy 129 = .ok (.iload 5, 2) := by decide +kernel
theorem dX3_copy_131 : decode cX3_copy 131 = .ok (.aload_n 0, 1) := by decide +kernel
theorem dX3_copy_132 : decode cX3_copy 132 = .ok (.getfield 13, 3) := by decide +kernel
theorem dX3_copy_135 : decode cX3_copy 135 = .ok (.iload_n 3, 1) := by decide +kernel
theorem dX3_copy_136 : decode cX3_copy 136 = .ok (.iaload, 1) := by decide +kernel
theorem dX3_copy_137 : decode cX3_copy 137 = .ok (.invokestatic 124, 3) := by decide +kernel
theorem dX3_copy_140 : decode cX3_copy 140 = .ok (.ifCond .ne 6, 3) := by decide +kernel
theorem dX3_copy_143 : decode cX3_copy 143 = .ok (.bipush (-12), 2) := by decide +kernel
theorem dX3_copy_145 : decode cX3_copy 145 = .ok (.ireturn, 1) := by decide +kernel
theorem dX3_copy_146 : decode cX3_copy 146 = .ok (.iload_n 1, 1) := by decide +kernel
theorem dX3_copy_147 : decode cX3_copy 147 = .ok (.iload_n 3, 1) := by decide +kernel
theorem dX3_copy_148 : decode cX3_copy 148 = .ok (.if_icmp .ne 13, 3) := by decide +kernel
theorem dX3_copy_151 : decode cX3_copy 151 = .ok (.iload 4, 2) := by decide +kernel
theorem dX3_copy_153 : decode cX3_copy 153 = .ok (.iload_n 2, 1) := by decide +kernel
theorem dX3_copy_154 : decode cX3_copy 154 = .ok (.if_icmp .le 7, 3) := by decide +kernel
theorem dX3_copy_157 : decode cX3_copy 157 = .ok (.iconst 1, 1) := by decide +kernel
theorem dX3_copy_158 : decode cX3_copy 158 = .ok (.goto 4, 3) := by decide +kernel
theorem dX3_copy_161 : decode cX3_copy 161 = .ok (.iconst 0, 1) := by decide +kernel
theorem dX3_copy_162 : decode cX3_copy 162 = .ok (.istore 7, 2) := by decide +kernel
theorem dX3_copy_164 : decode cX3_copy 164 = .ok (.iconst 0, 1) := by decide +kernel
theorem dX3_copy_165 : decode cX3_copy 165 = .ok (.istore 8, 2) := by decide +kernel
theorem dX3_copy_167 : decode cX3_copy 167 = .ok (.iload 8, 2) := by decide +kernel
theorem dX3_copy_169 : decode cX3_copy 169 = .ok (.iload 5, 2) := by decide +kernel
theorem dX3_copy_171 : decode cX3_copy 171 = .ok (.if_icmp .ge 132, 3) := by decide +kernel
theorem dX3_copy_174 : decode cX3_copy 174 = .ok (.iload 7, 2) := by decide +kernel
theorem dX3_copy_176 : decode cX3_copy 176 = .ok (.ifCond .eq 13, 3) := by decide +kernel
theorem dX3_copy_179 : decode cX3_copy 179 = .ok (.iload 5, 2) := by decide +kernel
theorem dX3_copy_181 : decode cX3_copy 181 = .ok (.iconst 1, 1) := by decide +kernel
theorem dX3_copy_182 : decode cX3_copy 182 = .ok (.isub, 1) := by decide +kernel
theorem dX3_copy_183 : decode cX3_copy 183 = .ok (.iload 8, 2) := by decide +kernel
theorem dX3_copy_185 : decode cX3_copy 185 = .ok (.isub, 1) := by decide +kernel
theorem dX3_copy_186 : decode cX3_copy 186 = .ok (.goto 5, 3) := by decide +kernel
theorem dX3_copy_189 : decode cX3_copy 189 = .ok (.iload 8, 2) := by decide +kernel
theorem dX3_copy_191 : decode cX3_copy 191 = .ok (.istore 9, 2) := by decide +kernel
theorem dX3_copy_193 : decode cX3_copy 193 = .ok (.bipush 40, 2) := by decide +kernel
theorem dX3_copy_195 : decode cX3_copy 195 = .ok (.iload_n 1, 1) := by decide +kernel
theorem dX3_copy_196 : decode cX3_copy 196 = .ok (.imul, 1) := by decide +kernel
theorem dX3_copy_197 : decode cX3_copy 197 = .ok (.iload_n 2, 1) := by decide +kernel
theorem dX3_copy_198 : decode cX3_copy 198 = .ok (.iadd, 1) := by decide +kernel
theorem dX3_copy_199 : decode cX3_copy 199 = .ok (.iload 9, 2) := by decide +kernel
theorem dX3_copy_201 : decode cX3_copy 201 = .ok (.iadd, 1) := by decide +kernel
theorem dX3_copy_202 : decode cX3_copy 202 = .ok (.istore 10, 2) := by decide +kernel
theorem dX3_copy_204 : decode cX3_copy 204 = .ok (.bipush 40, 2) := by decide +kernel
theorem dX3_copy_206 : decode cX3_copy 206 = .ok (.iload_n 3, 1) := by decide +kernel
theorem dX3_copy_207 : decode cX3_copy 207 = .ok (.imul, 1) := by decide +kernel
theorem dX3_copy_208 : decode cX3_copy 208 = .ok (.iload 4, 2) := by decide +kernel
theorem dX3_copy_210 : decode cX3_copy 210 = .ok (.iadd, 1) := by decide +kernel
theorem dX3_copy_211 : decode cX3_copy 211 = .ok (.iload 9, 2) := by decide +kernel
theorem dX3_copy_213 : decode cX3_copy 213 = .ok (.iadd, 1) := by decide +kernel
theorem dX3_copy_214 : decode cX3_copy 214 = .ok (.istore 11, 2) := by decide +kernel
theorem dX3_copy_216 : decode cX3_copy 216 = .ok (.iload 6, 2) := by decide +kernel
theorem dX3_copy_218 : decode cX3_copy 218 = .ok (.ifCond .eq 41, 3) := by decide +kernel
theorem dX3_copy_221 : decode cX3_copy 221 = .ok (.aload_n 0, 1) := by decide +kernel
theorem dX3_copy_222 : decode cX3_copy 222 = .ok (.getfield 7, 3) := by decide +kernel
theorem dX3_copy_225 : decode cX3_copy 225 = .ok (.iload_n 1, 1) := by decide +kernel
theorem dX3_copy_226 : decode cX3_copy 226 = .ok (.iaload, 1) := by decide +kernel
theorem dX3_copy_227 : decode cX3_copy 227 = .ok (.aload_n 0, 1) := by decide +kernel
theorem dX3_copy_228 : decode cX3_copy 228 = .ok (.getfield 7, 3) := by decide +kernel
theorem dX3_copy_231 : decode cX3_copy 231 = .ok (.iload_n 3, 1) := by decide +kernel
theorem dX3_copy_232 : decode cX3_copy 232 = .ok (.iaload, 1) := by decide +kernel
theorem dX3_copy_233 : decode cX3_copy 233 = .ok (.if_icmp .eq 26, 3) := by decide +kernel
theorem dX3_copy_236 : decode cX3_copy 236 = .ok (.aload_n 0, 1) := by decide +kernel
theorem dX3_copy_237 : decode cX3_copy 237 = .ok (.aload_n 0, 1) := by decide +kernel
theorem dX3_copy_238 : decode cX3_copy 238 = .ok (.getfield 7, 3) := by decide +kernel
theorem dX3_copy_241 : decode cX3_copy 241 = .ok (.iload_n 3, 1) := by decide +kernel
theorem dX3_copy_242 : decode cX3_copy 242 = .ok (.iaload, 1) := by decide +kernel
theorem dX3_copy_243 : decode cX3_copy 243 = .ok (.aload_n 0, 1) := by decide +kernel
theorem dX3_copy_244 : decode cX3_copy 244 = .ok (.getfield 20, 3) := by decide +kernel
theorem dX3_copy_247 : decode cX3_copy 247 = .ok (.iload 10, 2) := by decide +kernel
theorem dX3_copy_249 : decode cX3_copy 249 = .ok (.laload, 1) := by decide +kernel
theorem dX3_copy_250 : decode cX3_copy 250 = .ok (.invokevirtual 114, 3) := by decide +kernel
theorem dX3_copy_253 : decode cX3_copy 253 = .ok (.ifCond .ne 6, 3) := by decide +kernel
theorem dX3_copy_256 : decode cX3_copy 256 = .ok (.bipush (-14), 2) := by decide +kernel
theorem dX3_copy_258 : decode cX3_copy 258 = .ok (.ireturn, 1) := by decide +kernel
theorem dX3_copy_259 : decode cX3_copy 259 = .ok (.aload_n 0, 1) := by decide +kernel
theorem dX3_copy_260 : decode cX3_copy 260 = .ok (.getfield 20, 3) := by decide +kernel
theorem dX3_copy_263 : decode cX3_copy 263 = .ok (.iload 11, 2) := by decide +kernel
theorem dX3_copy_265 : decode cX3_copy 265 = .ok (.aload_n 0, 1) := by decide +kernel
theorem dX3_copy_266 : decode cX3_copy 266 = .ok (.getfield 20, 3) := by decide +kernel
theorem dX3_copy_269 : decode cX3_copy 269 = .ok (.iload 10, 2) := by decide +kernel
theorem dX3_copy_271 : decode cX3_copy 271 = .ok (.laload, 1) := by decide +kernel
theorem dX3_copy_272 : decode cX3_copy 272 = .ok (.lastore, 1) := by decide +kernel
theorem dX3_copy_273 : decode cX3_copy 273 = .ok (.aload_n 0, 1) := by decide +kernel
theorem dX3_copy_274 : decode cX3_copy 274 = .ok (.getfield 24, 3) := by decide +kernel
theorem dX3_copy_277 : decode cX3_copy 277 = .ok (.iload 11, 2) := by decide +kernel
theorem dX3_copy_279 : decode cX3_copy 279 = .ok (.aload_n 0, 1) := by decide +kernel
theorem dX3_copy_280 : decode cX3_copy 280 = .ok (.getfield 24, 3) := by decide +kernel
theorem dX3_copy_283 : decode cX3_copy 283 = .ok (.iload 10, 2) := by decide +kernel
theorem dX3_copy_285 : decode cX3_copy 285 = .ok (.daload, 1) := by decide +kernel
theorem dX3_copy_286 : decode cX3_copy 286 = .ok (.dastore, 1) := by decide +kernel
theorem dX3_copy_287 : decode cX3_copy 287 = .ok (.aload_n 0, 1) := by decide +kernel
theorem dX3_copy_288 : decode cX3_copy 288 = .ok (.dup, 1) := by decide +kernel
theorem dX3_copy_289 : decode cX3_copy 289 = .ok (.getfield 121, 3) := by decide +kernel
theorem dX3_copy_292 : decode cX3_copy 292 = .ok (.iconst 1, 1) := by decide +kernel
theorem dX3_copy_293 : decode cX3_copy 293 = .ok (.iadd, 1) := by decide +kernel
theorem dX3_copy_294 : decode cX3_copy 294 = .ok (.putfield 121, 3) := by decide +kernel
theorem dX3_copy_297 : decode cX3_copy 297 = .ok (.iinc 8 1, 3) := by decide +kernel
theorem dX3_copy_300 : decode cX3_copy 300 = .ok (.goto (-133), 3) := by decide +kernel
theorem dX3_copy_303 : decode cX3_copy 303 = .ok (.iload 5, 2) := by decide +kernel
theorem dX3_copy_305 : decode cX3_copy 305 = .ok (.ireturn, 1) := by decide +kernel
theorem dX3_copied_0 : decode cX3_copied 0 = .ok (.aload_n 0, 1) := by decide +kernel
theorem dX3_copied_1 : decode cX3_copied 1 = .ok (.iconst 0, 1) := by decide +kernel
theorem dX3_copied_2 : decode cX3_copied 2 = .ok (.putfield 55, 3) := by decide +kernel
theorem dX3_copied_5 : decode cX3_copied 5 = .ok (.aload_n 0, 1) := by decide +kernel
theorem dX3_copied_6 : decode cX3_copied 6 = .ok (.getfield 121, 3) := by decide +kernel
theorem dX3_copied_9 : decode cX3_copied 9 = .ok (.ireturn, 1) := by decide +kernel
theorem dX3_move_0 : decode cX3_move 0 = .ok (.aload_n 0, 1) := by decide +kernel
theorem dX3_move_1 : decode cX3_move 1 = .ok (.iconst 0, 1) := by decide +kernel
theorem dX3_move_2 : decode cX3_move 2 = .ok (.putfield 55, 3) := by decide +kernel
theorem dX3_move_5 : decode cX3_move 5 = .ok (.iload_n 1, 1) := by decide +kernel
theorem dX3_move_6 : decode cX3_move 6 = .ok (.iconst 0, 1) := by decide +kernel
theorem dX3_move_7 : decode cX3_move 7 = .ok (.iconst 3, 1) := by decide +kernel
theorem dX3_move_8 : decode cX3_move 8 = .ok (.invokestatic 59, 3) := by decide +kernel
theorem dX3_move_11 : decode cX3_move 11 = .ok (.ifCond .eq 22, 3) := by decide +kernel
theorem dX3_move_14 : decode cX3_move 14 = .ok (.iload_n 2, 1) := by decide +kernel
theorem dX3_move_15 : decode cX3_move 15 = .ok (.iconst 0, 1) := by decide +kernel
theorem dX3_move_16 : decode cX3_move 16 = .ok (.iconst 3, 1) := by decide +kernel
theorem dX3_move_17 : decode cX3_move 17 = .ok (.invokestatic 59, 3) := by decide +kernel
theorem dX3_move_20 : decode cX3_move 20 = .ok (.ifCond .eq 13, 3) := by decide +kernel
theorem dX3_move_23 : decode cX3_move 23 = .ok (.iload_n 3, 1) := by decide +kernel
theorem dX3_move_24 : decode cX3_move 24 = .ok (.iconst 0, 1) := by decide +kernel
theorem dX3_move_25 : decode cX3_move 25 = .ok (.ldc 127, 2) := by decide +kernel
theorem dX3_move_27 : decode cX3_move 27 = .ok (.invokestatic 59, 3) := by decide +kernel
theorem dX3_move_30 : decode cX3_move 30 = .ok (.ifCond .ne 5, 3) := by decide +kernel
theorem dX3_move_33 : decode cX3_move 33 = .ok (.iconst (-1), 1) := by decide +kernel
theorem dX3_move_34 : decode cX3_move 34 = .ok (.ireturn, 1) := by decide +kernel
theorem dX3_move_35 : decode cX3_move 35 = .ok (.iconst 0, 1) := by decide +kernel
theorem dX3_move_36 : decode cX3_move 36 = .ok (.istore 4, 2) := by decide +kernel
theorem dX3_move_38 : decode cX3_move 38 = .ok (.iload 4, 2) := by decide +kernel
theorem dX3_move_40 : decode cX3_move 40 = .ok (.bipush 6, 2) := by decide +kernel
theorem dX3_move_42 : decode cX3_move 42 = .ok (.if_icmp .ge 128, 3) := by decide +kernel
theorem dX3_move_45 : decode cX3_move 45 = .ok (.bipush 6, 2) := by decide +kernel
theorem dX3_move_47 : decode cX3_move 47 = .ok (.iload_n 1, 1) := by decide +kernel
theorem dX3_move_48 : decode cX3_move 48 = .ok (.imul, 1) := by decide +kernel
theorem dX3_move_49 : decode cX3_move 49 = .ok (.iload 4, 2) := by decide +kernel
theorem dX3_move_51 : decode cX3_move 51 = .ok (.iadd, 1) := by decide +kernel
theorem dX3_move_52 : decode cX3_move 52 = .ok (.istore 5, 2) := by decide +kernel
theorem dX3_move_54 : decode cX3_move 54 = .ok (.aload_n 0, 1) := by decide +kernel
theorem dX3_move_55 : decode cX3_move 55 = .ok (.getfield 28, 3) := by decide +kernel
theorem dX3_move_58 : decode cX3_move 58 = .ok (.iload 4, 2) := by decide +kernel
theorem dX3_move_60 : decode cX3_move 60 = .ok (.aload_n 0, 1) := by decide +kernel
theorem dX3_move_61 : decode cX3_move 61 = .ok (.getfield 7, 3) := by decide +kernel
theorem dX3_move_64 : decode cX3_move 64 = .ok (.iload 5, 2) := by decide +kernel
theorem dX3_move_66 : decode cX3_move 66 = .ok (.iaload, 1) := by decide +kernel
theorem dX3_move_67 : decode cX3_move 67 = .ok (.iastore, 1) := by decide +kernel
theorem dX3_move_68 : decode cX3_move 68 = .ok (.aload_n 0, 1) := by decide +kernel
theorem dX3_move_69 : decode cX3_move 69 = .ok (.getfield 31, 3) := by decide +kernel
theorem dX3_move_72 : decode cX3_move 72 = .ok (.iload 4, 2) := by decide +kernel
theorem dX3_move_74 : decode cX3_move 74 = .ok (.aload_n 0, 1) := by decide +kernel
theorem dX3_move_75 : decode cX3_move 75 = .ok (.getfield 13, 3) := by decide +kernel
theorem dX3_move_78 : decode cX3_move 78 = .ok (.iload 5, 2) := by decide +kernel
theorem dX3_move_80 : decode cX3_move 80 = .ok (.iaload, 1) := by decide +kernel
theorem dX3_move_81 : decode cX3_move 81 = .ok (.iastore, 1) := by decide +kernel
theorem dX3_move_82 : decode cX3_move 82 = .ok (.aload_n 0, 1) := by decide +kernel
theorem dX3_move_83 : decode cX3_move 83 = .ok (.getfield 34, 3) := by decide +kernel
theorem dX3_move_86 : decode cX3_move 86 = .ok (.iload 4, 2) := by decide +kernel
theorem dX3_move_88 : decode cX3_move 88 = .ok (.aload_n 0, 1) := by decide +kernel
theorem dX3_move_89 : decode cX3_move 89 = .ok (.getfield 16, 3) := by decide +kernel
theorem dX3_move_92 : decode cX3_move 92 = .ok (.iload 5, 2) := by decide +kernel
theorem dX3_move_94 : decode cX3_move 94 = .ok (.baload, 1) := by decide +kernel
theorem dX3_move_95 : decode cX3_move 95 = .ok (.bastore, 1) := by decide +kernel
theorem dX3_move_96 : decode cX3_move 96 = .ok (.iconst 0, 1) := by decide +kernel
theorem dX3_move_97 : decode cX3_move 97 = .ok (.istore 6, 2) := by decide +kernel
theorem dX3_move_99 : decode cX3_move 99 = .ok (.iload 6, 2) := by decide +kernel
theorem dX3_move_101 : decode cX3_move 101 = .ok (.bipush 40, 2) := by decide +kernel
theorem dX3_move_103 : decode cX3_move 103 = .ok (.if_icmp .ge 61, 3) := by decide +kernel
theorem dX3_move_106 : decode cX3_move 106 = .ok (.aload_n 0, 1) := by decide +kernel
theorem dX3_move_107 : decode cX3_move 107 = .ok (.getfield 37, 3) := by decide +kernel
theorem dX3_move_110 : decode cX3_move 110 = .ok (.bipush 40, 2) := by decide +kernel
theorem dX3_move_112 : decode cX3_move 112 = .ok (.iload 4, 2) := by decide +kernel
theorem dX3_move_114 : decode cX3_move 114 = .ok (.imul, 1) := by decide +kernel
theorem dX3_move_115 : decode cX3_move 115 = .ok (.iload 6, 2) := by decide +kernel
theorem dX3_move_117 : decode cX3_move 117 = .ok (.iadd, 1) := by decide +kernel
theorem dX3_move_118 : decode cX3_move 118 = .ok (.aload_n 0, 1) := by decide +kernel
theorem dX3_move_119 : decode cX3_move 119 = .ok (.getfield 20, 3) := by decide +kernel
theorem dX3_move_122 : decode cX3_move 122 = .ok (.bipush 40, 2) := by decide +kernel
theorem dX3_move_124 : decode cX3_move 124 = .ok (.iload 5, 2) := by decide +kernel
theorem dX3_move_126 : decode cX3_move 126 = .ok (.imul, 1) := by decide +kernel
theorem dX3_move_127 : decode cX3_move 127 = .ok (.iload 6, 2) := by decide +kernel
theorem dX3_move_129 : decode cX3_move 129 = .ok (.iadd, 1) := by decide +kernel
theorem dX3_move_130 : decode cX3_move 130 = .ok (.laload, 1) := by decide +kernel
theorem dX3_move_131 : decode cX3_move 131 = .ok (.lastore, 1) := by decide +kernel
theorem dX3_move_132 : decode cX3_move 132 = .ok (.aload_n 0, 1) := by decide +kernel
theorem dX3_move_133 : decode cX3_move 133 = .ok (.getfield 40, 3) := by decide +kernel
theorem dX3_move_136 : decode cX3_move 136 = .ok (.bipush 40, 2) := by decide +kernel
theorem dX3_move_138 : decode cX3_move 138 = .ok (.iload 4, 2) := by decide +kernel
theorem dX3_move_140 : decode cX3_move 140 = .ok (.imul, 1) := by decide +kernel
theorem dX3_move_141 : decode cX3_move 141 = .ok (.iload 6, 2) := by decide +kernel
theorem dX3_move_143 : decode cX3_move 143 = .ok (.iadd, 1) := by decide +kernel
theorem dX3_move_144 : decode cX3_move 144 = .ok (.aload_n 0, 1) := by decide +kernel
theorem dX3_move_145 : decode cX3_move 145 = .ok (.getfield 24, 3) := by decide +kernel
theorem dX3_move_148 : decode cX3_move 148 = .ok (.bipush 40, 2) := by decide +kernel
theorem dX3_move_150 : decode cX3_move 150 = .ok (.iload 5, 2) := by decide +kernel
theorem dX3_move_152 : decode cX3_move 152 = .ok (.imul, 1) := by decide +kernel
theorem dX3_move_153 : decode cX3_move 153 = .ok (.iload 6, 2) := by decide +kernel
theorem dX3_move_155 : decode cX3_move 155 = .ok (.iadd, 1) := by decide +kernel
theorem dX3_move_156 : decode cX3_move 156 = .ok (.daload, 1) := by decide +kernel
theorem dX3_move_157 : decode cX3_move 157 = .ok (.dastore, 1) := by decide +kernel
theorem dX3_move_158 : decode cX3_move 158 = .ok (.iinc 6 1, 3) := by decide +kernel
theorem dX3_move_161 : decode cX3_move 161 = .ok (.goto (-62), 3) := by decide +kernel
theorem dX3_move_164 : decode cX3_move 164 = .ok (.iinc 4 1, 3) := by decide +kernel
theorem dX3_move_167 : decode cX3_move 167 = .ok (.goto (-129), 3) := by decide +kernel
theorem dX3_move_170 : decode cX3_move 170 = .ok (.iconst 0, 1) := by decide +kernel
theorem dX3_move_171 : decode cX3_move 171 = .ok (.istore 4, 2) := by decide +kernel
theorem dX3_move_173 : decode cX3_move 173 = .ok (.iconst 0, 1) := by decide +kernel
theorem dX3_move_174 : decode cX3_move 174 = .ok (.istore 5, 2) := by decide +kernel
theorem dX3_move_176 : decode cX3_move 176 = .ok (.iload 5, 2) := by decide +kernel
theorem dX3_move_178 : decode cX3_move 178 = .ok (.bipush 6, 2) := by decide +kernel
theorem dX3_move_180 : decode cX3_move 180 = .ok (.if_icmp .ge 99, 3) := by decide +kernel
theorem dX3_move_183 : decode cX3_move 183 = .ok (.iload_n 3, 1) := by decide +kernel
theorem dX3_move_184 : decode cX3_move 184 = .ok (.iconst 3, 1) := by decide +kernel
theorem dX3_move_185 : decode cX3_move 185 = .ok (.iload 5, 2) := by decide +kernel
theorem dX3_move_187 : decode cX3_move 187 = .ok (.imul, 1) := by decide +kernel
theorem dX3_move_188 : decode cX3_move 188 = .ok (.ishr, 1) := by decide +kernel
theorem dX3_move_189 : decode cX3_move 189 = .ok (.bipush 7, 2) := by decide +kernel
theorem dX3_move_191 : decode cX3_move 191 = .ok (.iand, 1) := by decide +kernel
theorem dX3_move_192 : decode cX3_move 192 = .ok (.istore 6, 2) := by decide +kernel
theorem dX3_move_194 : decode cX3_move 194 = .ok (.bipush 6, 2) := by decide +kernel
theorem dX3_move_196 : decode cX3_move 196 = .ok (.iload_n 2, 1) := by decide +kernel
theorem dX3_move_197 : decode cX3_move 197 = .ok (.imul, 1) := by decide +kernel
theorem dX3_move_198 : decode cX3_move 198 = .ok (.iload 5, 2) := by decide +kernel
theorem dX3_move_200 : decode cX3_move 200 = .ok (.iadd, 1) := by decide +kernel
theorem dX3_move_201 : decode cX3_move 201 = .ok (.istore 7, 2) := by decide +kernel
theorem dX3_move_203 : decode cX3_move 203 = .ok (.iload 6, 2) := by decide +kernel
theorem dX3_move_205 : decode cX3_move 205 = .ok (.bipush 6, 2) := by decide +kernel
theorem dX3_move_207 : decode cX3_move 207 = .ok (.if_icmp .ge 14, 3) := by decide +kernel
theorem dX3_move_210 : decode cX3_move 210 = .ok (.aload_n 0, 1) := by decide +kernel
theorem dX3_move_211 : decode cX3_move 211 = .ok (.iload 7, 2) := by decide +kernel
theorem dX3_move_213 : decode cX3_move 213 = .ok (.iload 6, 2) := by decide +kernel
theorem dX3_move_215 : decode cX3_move 215 = .ok (.invokevirtual 128, 3) := by decide +kernel
theorem dX3_move_218 : decode cX3_move 218 = .ok (.goto 34, 3) := by decide +kernel
theorem dX3_move_221 : decode cX3_move 221 = .ok (.iload 6, 2) := by decide +kernel
theorem dX3_move_223 : decode cX3_move 223 = .ok (.bipush 6, 2) := by decide +kernel
theorem dX3_move_225 : decode cX3_move 225 = .ok (.if_icmp .ne 27, 3) := by decide +kernel
theorem dX3_move_228 : decode cX3_move 228 = .ok (.aload_n 0, 1) := by decide +kernel
theorem dX3_move_229 : decode cX3_move 229 = .ok (.getfield 7, 3) := by decide +kernel
theorem dX3_move_232 : decode cX3_move 232 = .ok (.iload 7, 2) := by decide +kernel
theorem dX3_move_234 : decode cX3_move 234 = .ok (.iconst (-1), 1) := by decide +kernel
theorem dX3_move_235 : decode cX3_move 235 = .ok (.iastore, 1) := by decide +kernel
theorem dX3_move_236 : decode cX3_move 236 = .ok (.aload_n 0, 1) := by decide +kernel
theorem dX3_move_237 : decode cX3_move 237 = .ok (.getfield 13, 3) := by decide +kernel
theorem dX3_move_240 : decode cX3_move 240 = .ok (.iload 7, 2) := by decide +kernel
theorem dX3_move_242 : decode cX3_move 242 = .ok (.iconst 0, 1) := by decide +kernel
theorem dX3_move_243 : decode cX3_move 243 = .ok (.iastore, 1) := by decide +kernel
theorem dX3_move_244 : decode cX3_move 244 = .ok (.aload_n 0, 1) := by decide +kernel
theorem dX3_move_245 : decode cX3_move 245 = .ok (.getfield 16, 3) := by decide +kernel
theorem dX3_move_248 : decode cX3_move 248 = .ok (.iload 7, 2) := by decide +kernel
theorem dX3_move_250 : decode cX3_move 250 = .ok (.iconst 0, 1) := by decide +kernel
theorem dX3_move_251 : decode cX3_move 251 = .ok (.bastore, 1) := by decide +kernel
theorem dX3_move_252 : decode cX3_move 252 = .ok (.iload 4, 2) := by decide +kernel
theorem dX3_move_254 : decode cX3_move 254 = .ok (.aload_n 0, 1) := by decide +kernel
theorem dX3_move_255 : decode cX3_move 255 = .ok (.getfield 7, 3) := by decide +kernel
theorem dX3_move_258 : decode cX3_move 258 = .ok (.iload 7, 2) := by decide +kernel
theorem dX3_move_260 : decode cX3_move 260 = .ok (.iaload, 1) := by decide +kernel
theorem dX3_move_261 : decode cX3_move 261 = .ok (.iconst (-1), 1) := by decide +kernel
theorem dX3_move_262 : decode cX3_move 262 = .ok (.if_icmp .eq 7, 3) := by decide +kernel
theorem dX3_move_265 : decode cX3_move 265 = .ok (.iconst 1, 1) := by decide +kernel
theorem dX3_move_266 : decode cX3_move 266 = .ok (.goto 4, 3) := by decide +kernel
theorem dX3_move_269 : decode cX3_move 269 = .ok (.iconst 0, 1) := by decide +kernel
theorem dX3_move_270 : decode cX3_move 270 = .ok (.iadd, 1) := by decide +kernel
theorem dX3_move_271 : decode cX3_move 271 = .ok (.istore 4, 2) := by decide +kernel
theorem dX3_move_273 : decode cX3_move 273 = .ok (.iinc 5 1, 3) := by decide +kernel
theorem dX3_move_276 : decode cX3_move 276 = .ok (.goto (-100), 3) := by decide +kernel
theorem dX3_move_279 : decode cX3_move 279 = .ok (.iload 4, 2) := by decide +kernel
theorem dX3_move_281 : decode cX3_move 281 = .ok (.ireturn, 1) := by decide +kernel
theorem dX3_take_0 : decode cX3_take 0 = .ok (.aload_n 0, 1) := by decide +kernel
theorem dX3_take_1 : decode cX3_take 1 = .ok (.getfield 7, 3) := by decide +kernel
theorem dX3_take_4 : decode cX3_take 4 = .ok (.iload_n 1, 1) := by decide +kernel
theorem dX3_take_5 : decode cX3_take 5 = .ok (.aload_n 0, 1) := by decide +kernel
theorem dX3_take_6 : decode cX3_take 6 = .ok (.getfield 28, 3) := by decide +kernel
theorem dX3_take_9 : decode cX3_take 9 = .ok (.iload_n 2, 1) := by decide +kernel
theorem dX3_take_10 : decode cX3_take 10 = .ok (.iaload, 1) := by decide +kernel
theorem dX3_take_11 : decode cX3_take 11 = .ok (.iastore, 1) := by decide +kernel
theorem dX3_take_12 : decode cX3_take 12 = .ok (.aload_n 0, 1) := by decide +kernel
theorem dX3_take_13 : decode cX3_take 13 = .ok (.getfield 13, 3) := by decide +kernel
theorem dX3_take_16 : decode cX3_take 16 = .ok (.iload_n 1, 1) := by decide +kernel
theorem dX3_take_17 : decode cX3_take 17 = .ok (.aload_n 0, 1) := by decide +kernel
theorem dX3_take_18 : decode cX3_take 18 = .ok (.getfield 31, 3) := by decide +kernel
theorem dX3_take_21 : decode cX3_take 21 = .ok (.iload_n 2, 1) := by decide +kernel
theorem dX3_take_22 : decode cX3_take 22 = .ok (.iaload, 1) := by decide +kernel
theorem dX3_take_23 : decode cX3_take 23 = .ok (.iastore, 1) := by decide +kernel
theorem dX3_take_24 : decode cX3_take 24 = .ok (.aload_n 0, 1) := by decide +kernel
theorem dX3_take_25 : decode cX3_take 25 = .ok (.getfield 16, 3) := by decide +kernel
theorem dX3_take_28 : decode cX3_take 28 = .ok (.iload_n 1, 1) := by decide +kernel
theorem dX3_take_29 : decode cX3_take 29 = .ok (.aload_n 0, 1) := by decide +kernel
theorem dX3_take_30 : decode cX3_take 30 = .ok (.getfield 34, 3) := by decide +kernel
theorem dX3_take_33 : decode cX3_take 33 = .ok (.iload_n 2, 1) := by decide +kernel
theorem dX3_take_34 : decode cX3_take 34 = .ok (.baload, 1) := by decide +kernel
theorem dX3_take_35 : decode cX3_take 35 = .ok (.bastore, 1) := by decide +kernel
theorem dX3_take_36 : decode cX3_take 36 = .ok (.iconst 0, 1) := by decide +kernel
theorem dX3_take_37 : decode cX3_take 37 = .ok (.istore_n 3, 1) := by decide +kernel
theorem dX3_take_38 : decode cX3_take 38 = .ok (.iload_n 3, 1) := by decide +kernel
theorem dX3_take_39 : decode cX3_take 39 = .ok (.bipush 40, 2) := by decide +kernel
theorem dX3_take_41 : decode cX3_take 41 = .ok (.if_icmp .ge 53, 3) := by decide +kernel
theorem dX3_take_44 : decode cX3_take 44 = .ok (.aload_n 0, 1) := by decide +kernel
theorem dX3_take_45 : decode cX3_take 45 = .ok (.getfield 20, 3) := by decide +kernel
theorem dX3_take_48 : decode cX3_take 48 = .ok (.bipush 40, 2) := by decide +kernel
theorem dX3_take_50 : decode cX3_take 50 = .ok (.iload_n 1, 1) := by decide +kernel
theorem dX3_take_51 : decode cX3_take 51 = .ok (.imul, 1) := by decide +kernel
theorem dX3_take_52 : decode cX3_take 52 = .ok (.iload_n 3, 1) := by decide +kernel
theorem dX3_take_53 : decode cX3_take 53 = .ok (.iadd, 1) := by decide +kernel
theorem dX3_take_54 : decode cX3_take 54 = .ok (.aload_n 0, 1) := by decide +kernel
theorem dX3_take_55 : decode cX3_take 55 = .ok (.getfield 37, 3) := by decide +kernel
theorem dX3_take_58 : decode cX3_take 58 = .ok (.bipush 40, 2) := by decide +kernel
theorem dX3_take_60 : decode cX3_take 60 = .ok (.iload_n 2, 1) := by decide +kernel
theorem dX3_take_61 : decode cX3_take 61 = .ok (.imul, 1) := by decide +kernel
theorem dX3_take_62 : decode cX3_take 62 = .ok (.iload_n 3, 1) := by decide +kernel
theorem dX3_take_63 : decode cX3_take 63 = .ok (.iadd, 1) := by decide +kernel
theorem dX3_take_64 : decode cX3_take 64 = .ok (.laload, 1) := by decide +kernel
theorem dX3_take_65 : decode cX3_take 65 = .ok (.lastore, 1) := by decide +kernel
theorem dX3_take_66 : decode cX3_take 66 = .ok (.aload_n 0, 1) := by decide +kernel
theorem dX3_take_67 : decode cX3_take 67 = .ok (.getfield 24, 3) := by decide +kernel
theorem dX3_take_70 : decode cX3_take 70 = .ok (.bipush 40, 2) := by decide +kernel
theorem dX3_take_72 : decode cX3_take 72 = .ok (.iload_n 1, 1) := by decide +kernel
theorem dX3_take_73 : decode cX3_take 73 = .ok (.imul, 1) := by decide +kernel
theorem dX3_take_74 : decode cX3_take 74 = .ok (.iload_n 3, 1) := by decide +kernel
theorem dX3_take_75 : decode cX3_take 75 = .ok (.iadd, 1) := by decide +kernel
theorem dX3_take_76 : decode cX3_take 76 = .ok (.aload_n 0, 1) := by decide +kernel
theorem dX3_take_77 : decode cX3_take 77 = .ok (.getfield 40, 3) := by decide +kernel
theorem dX3_take_80 : decode cX3_take 80 = .ok (.bipush 40, 2) := by decide +kernel
theorem dX3_take_82 : decode cX3_take 82 = .ok (.iload_n 2, 1) := by decide +kernel
theorem dX3_take_83 : decode cX3_take 83 = .ok (.imul, 1) := by decide +kernel
theorem dX3_take_84 : decode cX3_take 84 = .ok (.iload_n 3, 1) := by decide +kernel
theorem dX3_take_85 : decode cX3_take 85 = .ok (.iadd, 1) := by decide +kernel
theorem dX3_take_86 : decode cX3_take 86 = .ok (.daload, 1) := by decide +kernel
theorem dX3_take_87 : decode cX3_take 87 = .ok (.dastore, 1) := by decide +kernel
theorem dX3_take_88 : decode cX3_take 88 = .ok (.iinc 3 1, 3) := by decide +kernel
theorem dX3_take_91 : decode cX3_take 91 = .ok (.goto (-53), 3) := by decide +kernel
theorem dX3_take_94 : decode cX3_take 94 = .ok (.return_, 1) := by decide +kernel
theorem dX3_like_0 : decode cX3_like 0 = .ok (.aload_n 0, 1) := by decide +kernel
theorem dX3_like_1 : decode cX3_like 1 = .ok (.iconst 0, 1) := by decide +kernel
theorem dX3_like_2 : decode cX3_like 2 = .ok (.putfield 55, 3) := by decide +kernel
theorem dX3_like_5 : decode cX3_like 5 = .ok (.iload_n 1, 1) := by decide +kernel
theorem dX3_like_6 : decode cX3_like 6 = .ok (.invokestatic 63, 3) := by decide +kernel
theorem dX3_like_9 : decode cX3_like 9 = .ok (.ifCond .eq 10, 3) := by decide +kernel
theorem dX3_like_12 : decode cX3_like 12 = .ok (.iload_n 2, 1) := by decide +kernel
theorem dX3_like_13 : decode cX3_like 13 = .ok (.invokestatic 63, 3) := by decide +kernel
theorem dX3_like_16 : decode cX3_like 16 = .ok (.ifCond .ne 5, 3) := by decide +kernel
theorem dX3_like_19 : decode cX3_like 19 = .ok (.iconst (-1), 1) := by decide +kernel
theorem dX3_like_20 : decode cX3_like 20 = .ok (.ireturn, 1) := by decide +kernel
theorem dX3_like_21 : decode cX3_like 21 = .ok (.aload_n 0, 1) := by decide +kernel
theorem dX3_like_22 : decode cX3_like 22 = .ok (.iload_n 1, 1) := by decide +kernel
theorem dX3_like_23 : decode cX3_like 23 = .ok (.invokevirtual 69, 3) := by decide +kernel
theorem dX3_like_26 : decode cX3_like 26 = .ok (.ifCond .ne 11, 3) := by decide +kernel
theorem dX3_like_29 : decode cX3_like 29 = .ok (.aload_n 0, 1) := by decide +kernel
theorem dX3_like_30 : decode cX3_like 30 = .ok (.iload_n 2, 1) := by decide +kernel
theorem dX3_like_31 : decode cX3_like 31 = .ok (.invokevirtual 69, 3) := by decide +kernel
theorem dX3_like_34 : decode cX3_like 34 = .ok (.ifCond .eq 6, 3) := by decide +kernel
theorem dX3_like_37 : decode cX3_like 37 = .ok (.bipush (-11), 2) := by decide +kernel
theorem dX3_like_39 : decode cX3_like 39 = .ok (.ireturn, 1) := by decide +kernel
theorem dX3_like_40 : decode cX3_like 40 = .ok (.aload_n 0, 1) := by decide +kernel
theorem dX3_like_41 : decode cX3_like 41 = .ok (.getfield 7, 3) := by decide +kernel
theorem dX3_like_44 : decode cX3_like 44 = .ok (.iload_n 1, 1) := by decide +kernel
theorem dX3_like_45 : decode cX3_like 45 = .ok (.iaload, 1) := by decide +kernel
theorem dX3_like_46 : decode cX3_like 46 = .ok (.aload_n 0, 1) := by decide +kernel
theorem dX3_like_47 : decode cX3_like 47 = .ok (.getfield 7, 3) := by decide +kernel
theorem dX3_like_50 : decode cX3_like 50 = .ok (.iload_n 2, 1) := by decide +kernel
theorem dX3_like_51 : decode cX3_like 51 = .ok (.iaload, 1) := by decide +kernel
theorem dX3_like_52 : decode cX3_like 52 = .ok (.if_icmp .ne 22, 3) := by decide +kernel
theorem dX3_like_55 : decode cX3_like 55 = .ok (.aload_n 0, 1) := by decide +kernel
end
section
theorem dX3_like_56 : decode cX3_like 56 = .ok (.getfield 13, 3) := by decide +kernel
theorem dX3_like_59 : decode cX3_like 59 = .ok (.iload_n 1, 1) := by decide +kernel
theorem dX3_like_60 : decode cX3_like 60 = .ok (.iaload, 1) := by decide +kernel
theorem dX3_like_61 : decode cX3_like 61 = .ok (.aload_n 0, 1) := by decide +kernel
theorem dX3_like_62 : decode cX3_like 62 = .ok (.getfield 13, 3) := by decide +kernel
theorem dX3_like_65 : decode cX3_like 65 = .ok (.iload_n 2, 1) := by decide +kernel
theorem dX3_like_66 : decode cX3_like 66 = .ok (.iaload, 1) := by decide +kernel
theorem dX3_like_67 : decode cX3_like 67 = .ok (.if_icmp .ne 7, 3) := by decide +kernel
theorem dX3_like_70 : decode cX3_like 70 = .ok (.iconst 1, 1) := by decide +kernel
theorem dX3_like_71 : decode cX3_like 71 = .ok (.goto 4, 3) := by decide +kernel
theorem dX3_like_74 : decode cX3_like 74 = .ok (.iconst 0, 1) := by decide +kernel
theorem dX3_like_75 : decode cX3_like 75 = .ok (.istore_n 3, 1) := by decide +kernel
theorem dX3_like_76 : decode cX3_like 76 = .ok (.iconst 0, 1) := by decide +kernel
theorem dX3_like_77 : decode cX3_like 77 = .ok (.istore 4, 2) := by decide +kernel
theorem dX3_like_79 : decode cX3_like 79 = .ok (.iload 4, 2) := by decide +kernel
theorem dX3_like_81 : decode cX3_like 81 = .ok (.aload_n 0, 1) := by decide +kernel
theorem dX3_like_82 : decode cX3_like 82 = .ok (.getfield 13, 3) := by decide +kernel
theorem dX3_like_85 : decode cX3_like 85 = .ok (.iload_n 1, 1) := by decide +kernel
theorem dX3_like_86 : decode cX3_like 86 = .ok (.iaload, 1) := by decide +kernel
theorem dX3_like_87 : decode cX3_like 87 = .ok (.if_icmp .ge 116, 3) := by decide +kernel
theorem dX3_like_90 : decode cX3_like 90 = .ok (.iload_n 3, 1) := by decide +kernel
theorem dX3_like_91 : decode cX3_like 91 = .ok (.ifCond .eq 112, 3) := by decide +kernel
theorem dX3_like_94 : decode cX3_like 94 = .ok (.aload_n 0, 1) := by decide +kernel
theorem dX3_like_95 : decode cX3_like 95 = .ok (.getfield 7, 3) := by decide +kernel
theorem dX3_like_98 : decode cX3_like 98 = .ok (.iload_n 1, 1) := by decide +kernel
theorem dX3_like_99 : decode cX3_like 99 = .ok (.iaload, 1) := by decide +kernel
theorem dX3_like_100 : decode cX3_like 100 = .ok (.iconst 5, 1) := by decide +kernel
theorem dX3_like_101 : decode cX3_like 101 = .ok (.if_icmp .eq 14, 3) := by decide +kernel
theorem dX3_like_104 : decode cX3_like 104 = .ok (.aload_n 0, 1) := by decide +kernel
theorem dX3_like_105 : decode cX3_like 105 = .ok (.getfield 7, 3) := by decide +kernel
theorem dX3_like_108 : decode cX3_like 108 = .ok (.iload_n 1, 1) := by decide +kernel
theorem dX3_like_109 : decode cX3_like 109 = .ok (.iaload, 1) := by decide +kernel
theorem dX3_like_110 : decode cX3_like 110 = .ok (.bipush 6, 2) := by decide +kernel
theorem dX3_like_112 : decode cX3_like 112 = .ok (.if_icmp .ne 7, 3) := by decide +kernel
theorem dX3_like_115 : decode cX3_like 115 = .ok (.iconst 1, 1) := by decide +kernel
theorem dX3_like_116 : decode cX3_like 116 = .ok (.goto 4, 3) := by decide +kernel
theorem dX3_like_119 : decode cX3_like 119 = .ok (.iconst 0, 1) := by decide +kernel
theorem dX3_like_120 : decode cX3_like 120 = .ok (.istore 5, 2) := by decide +kernel
theorem dX3_like_122 : decode cX3_like 122 = .ok (.iload 5, 2) := by decide +kernel
theorem dX3_like_124 : decode cX3_like 124 = .ok (.ifCond .eq 39, 3) := by decide +kernel
theorem dX3_like_127 : decode cX3_like 127 = .ok (.aload_n 0, 1) := by decide +kernel
theorem dX3_like_128 : decode cX3_like 128 = .ok (.getfield 24, 3) := by decide +kernel
theorem dX3_like_131 : decode cX3_like 131 = .ok (.bipush 40, 2) := by decide +kernel
theorem dX3_like_133 : decode cX3_like 133 = .ok (.iload_n 1, 1) := by decide +kernel
theorem dX3_like_134 : decode cX3_like 134 = .ok (.imul, 1) := by decide +kernel
theorem dX3_like_135 : decode cX3_like 135 = .ok (.iload 4, 2) := by decide +kernel
theorem dX3_like_137 : decode cX3_like 137 = .ok (.iadd, 1) := by decide +kernel
theorem dX3_like_138 : decode cX3_like 138 = .ok (.daload, 1) := by decide +kernel
theorem dX3_like_139 : decode cX3_like 139 = .ok (.aload_n 0, 1) := by decide +kernel
theorem dX3_like_140 : decode cX3_like 140 = .ok (.getfield 24, 3) := by decide +kernel
theorem dX3_like_143 : decode cX3_like 143 = .ok (.bipush 40, 2) := by decide +kernel
theorem dX3_like_145 : decode cX3_like 145 = .ok (.iload_n 2, 1) := by decide +kernel
theorem dX3_like_146 : decode cX3_like 146 = .ok (.imul, 1) := by decide +kernel
theorem dX3_like_147 : decode cX3_like 147 = .ok (.iload 4, 2) := by decide +kernel
theorem dX3_like_149 : decode cX3_like 149 = .ok (.iadd, 1) := by decide +kernel
theorem dX3_like_150 : decode cX3_like 150 = .ok (.daload, 1) := by decide +kernel
theorem dX3_like_151 : decode cX3_like 151 = .ok (.dcmp .l, 1) := by decide +kernel
theorem dX3_like_152 : decode cX3_like 152 = .ok (.ifCond .ne 7, 3) := by decide +kernel
theorem dX3_like_155 : decode cX3_like 155 = .ok (.iconst 1, 1) := by decide +kernel
theorem dX3_like_156 : decode cX3_like 156 = .ok (.goto 40, 3) := by decide +kernel
theorem dX3_like_159 : decode cX3_like 159 = .ok (.iconst 0, 1) := by decide +kernel
theorem dX3_like_160 : decode cX3_like 160 = .ok (.goto 36, 3) := by decide +kernel
theorem dX3_like_163 : decode cX3_like 163 = .ok (.aload_n 0, 1) := by decide +kernel
theorem dX3_like_164 : decode cX3_like 164 = .ok (.getfield 20, 3) := by decide +kernel
theorem dX3_like_167 : decode cX3_like 167 = .ok (.bipush 40, 2) := by decide +kernel
theorem dX3_like_169 : decode cX3_like 169 = .ok (.iload_n 1, 1) := by decide +kernel
theorem dX3_like_170 : decode cX3_like 170 = .ok (.imul, 1) := by decide +kernel
theorem dX3_like_171 : decode cX3_like 171 = .ok (.iload 4, 2) := by decide +kernel
theorem dX3_like_173 : decode cX3_like 173 = .ok (.iadd, 1) := by decide +kernel
theorem dX3_like_174 : decode cX3_like 174 = .ok (.laload, 1) := by decide +kernel
theorem dX3_like_175 : decode cX3_like 175 = .ok (.aload_n 0, 1) := by decide +kernel
theorem dX3_like_176 : decode cX3_like 176 = .ok (.getfield 20, 3) := by decide +kernel
theorem dX3_like_179 : decode cX3_like 179 = .ok (.bipush 40, 2) := by decide +kernel
theorem dX3_like_181 : decode cX3_like 181 = .ok (.iload_n 2, 1) := by decide +kernel
theorem dX3_like_182 : decode cX3_like 182 = .ok (.imul, 1) := by decide +kernel
theorem dX3_like_183 : decode cX3_like 183 = .ok (.iload 4, 2) := by decide +kernel
theorem dX3_like_185 : decode cX3_like 185 = .ok (.iadd, 1) := by decide +kernel
theorem dX3_like_186 : decode cX3_like 186 = .ok (.laload, 1) := by decide +kernel
theorem dX3_like_187 : decode cX3_like 187 = .ok (.lcmp, 1) := by decide +kernel
theorem dX3_like_188 : decode cX3_like 188 = .ok (.ifCond .ne 7, 3) := by decide +kernel
theorem dX3_like_191 : decode cX3_like 191 = .ok (.iconst 1, 1) := by decide +kernel
theorem dX3_like_192 : decode cX3_like 192 = .ok (.goto 4, 3) := by decide +kernel
theorem dX3_like_195 : decode cX3_like 195 = .ok (.iconst 0, 1) := by decide +kernel
theorem dX3_like_196 : decode cX3_like 196 = .ok (.istore_n 3, 1) := by decide +kernel
theorem dX3_like_197 : decode cX3_like 197 = .ok (.iinc 4 1, 3) := by decide +kernel
theorem dX3_like_200 : decode cX3_like 200 = .ok (.goto (-121), 3) := by decide +kernel
theorem dX3_like_203 : decode cX3_like 203 = .ok (.iload_n 3, 1) := by decide +kernel
theorem dX3_like_204 : decode cX3_like 204 = .ok (.ifCond .eq 7, 3) := by decide +kernel
theorem dX3_like_207 : decode cX3_like 207 = .ok (.iconst 1, 1) := by decide +kernel
theorem dX3_like_208 : decode cX3_like 208 = .ok (.goto 4, 3) := by decide +kernel
theorem dX3_like_211 : decode cX3_like 211 = .ok (.iconst 0, 1) := by decide +kernel
theorem dX3_like_212 : decode cX3_like 212 = .ok (.ireturn, 1) := by decide +kernel
theorem dX3_told_0 : decode cX3_told 0 = .ok (.aload_n 0, 1) := by decide +kernel
theorem dX3_told_1 : decode cX3_told 1 = .ok (.iconst 0, 1) := by decide +kernel
theorem dX3_told_2 : decode cX3_told 2 = .ok (.putfield 55, 3) := by decide +kernel
theorem dX3_told_5 : decode cX3_told 5 = .ok (.iload_n 1, 1) := by decide +kernel
theorem dX3_told_6 : decode cX3_told 6 = .ok (.iconst 0, 1) := by decide +kernel
theorem dX3_told_7 : decode cX3_told 7 = .ok (.iconst 3, 1) := by decide +kernel
theorem dX3_told_8 : decode cX3_told 8 = .ok (.invokestatic 59, 3) := by decide +kernel
theorem dX3_told_11 : decode cX3_told 11 = .ok (.ifCond .ne 5, 3) := by decide +kernel
theorem dX3_told_14 : decode cX3_told 14 = .ok (.iconst (-1), 1) := by decide +kernel
theorem dX3_told_15 : decode cX3_told 15 = .ok (.ireturn, 1) := by decide +kernel
theorem dX3_told_16 : decode cX3_told 16 = .ok (.iconst 0, 1) := by decide +kernel
theorem dX3_told_17 : decode cX3_told 17 = .ok (.istore_n 2, 1) := by decide +kernel
theorem dX3_told_18 : decode cX3_told 18 = .ok (.iconst 0, 1) := by decide +kernel
theorem dX3_told_19 : decode cX3_told 19 = .ok (.istore_n 3, 1) := by decide +kernel
theorem dX3_told_20 : decode cX3_told 20 = .ok (.iconst 0, 1) := by decide +kernel
theorem dX3_told_21 : decode cX3_told 21 = .ok (.istore 4, 2) := by decide +kernel
theorem dX3_told_23 : decode cX3_told 23 = .ok (.iconst 0, 1) := by decide +kernel
theorem dX3_told_24 : decode cX3_told 24 = .ok (.istore 5, 2) := by decide +kernel
theorem dX3_told_26 : decode cX3_told 26 = .ok (.iload 5, 2) := by decide +kernel
theorem dX3_told_28 : decode cX3_told 28 = .ok (.bipush 24, 2) := by decide +kernel
theorem dX3_told_30 : decode cX3_told 30 = .ok (.if_icmp .ge 99, 3) := by decide +kernel
theorem dX3_told_33 : decode cX3_told 33 = .ok (.iload_n 2, 1) := by decide +kernel
theorem dX3_told_34 : decode cX3_told 34 = .ok (.aload_n 0, 1) := by decide +kernel
theorem dX3_told_35 : decode cX3_told 35 = .ok (.getfield 7, 3) := by decide +kernel
theorem dX3_told_38 : decode cX3_told 38 = .ok (.iload 5, 2) := by decide +kernel
theorem dX3_told_40 : decode cX3_told 40 = .ok (.iaload, 1) := by decide +kernel
theorem dX3_told_41 : decode cX3_told 41 = .ok (.iconst (-1), 1) := by decide +kernel
theorem dX3_told_42 : decode cX3_told 42 = .ok (.if_icmp .ne 7, 3) := by decide +kernel
theorem dX3_told_45 : decode cX3_told 45 = .ok (.iconst 0, 1) := by decide +kernel
theorem dX3_told_46 : decode cX3_told 46 = .ok (.goto 4, 3) := by decide +kernel
theorem dX3_told_49 : decode cX3_told 49 = .ok (.iconst 1, 1) := by decide +kernel
theorem dX3_told_50 : decode cX3_told 50 = .ok (.iadd, 1) := by decide +kernel
theorem dX3_told_51 : decode cX3_told 51 = .ok (.istore_n 2, 1) := by decide +kernel
theorem dX3_told_52 : decode cX3_told 52 = .ok (.iload_n 3, 1) := by decide +kernel
theorem dX3_told_53 : decode cX3_told 53 = .ok (.aload_n 0, 1) := by decide +kernel
theorem dX3_told_54 : decode cX3_told 54 = .ok (.getfield 13, 3) := by decide +kernel
theorem dX3_told_57 : decode cX3_told 57 = .ok (.iload 5, 2) := by decide +kernel
theorem dX3_told_59 : decode cX3_told 59 = .ok (.iaload, 1) := by decide +kernel
theorem dX3_told_60 : decode cX3_told 60 = .ok (.iadd, 1) := by decide +kernel
theorem dX3_told_61 : decode cX3_told 61 = .ok (.istore_n 3, 1) := by decide +kernel
theorem dX3_told_62 : decode cX3_told 62 = .ok (.iconst 0, 1) := by decide +kernel
theorem dX3_told_63 : decode cX3_told 63 = .ok (.istore 6, 2) := by decide +kernel
theorem dX3_told_65 : decode cX3_told 65 = .ok (.iload 6, 2) := by decide +kernel
theorem dX3_told_67 : decode cX3_told 67 = .ok (.aload_n 0, 1) := by decide +kernel
theorem dX3_told_68 : decode cX3_told 68 = .ok (.getfield 13, 3) := by decide +kernel
theorem dX3_told_71 : decode cX3_told 71 = .ok (.iload 5, 2) := by decide +kernel
theorem dX3_told_73 : decode cX3_told 73 = .ok (.iaload, 1) := by decide +kernel
theorem dX3_told_74 : decode cX3_told 74 = .ok (.if_icmp .ge 49, 3) := by decide +kernel
theorem dX3_told_77 : decode cX3_told 77 = .ok (.iload 4, 2) := by decide +kernel
theorem dX3_told_79 : decode cX3_told 79 = .ok (.aload_n 0, 1) := by decide +kernel
theorem dX3_told_80 : decode cX3_told 80 = .ok (.getfield 7, 3) := by decide +kernel
theorem dX3_told_83 : decode cX3_told 83 = .ok (.iload 5, 2) := by decide +kernel
theorem dX3_told_85 : decode cX3_told 85 = .ok (.iaload, 1) := by decide +kernel
theorem dX3_told_86 : decode cX3_told 86 = .ok (.bipush 7, 2) := by decide +kernel
theorem dX3_told_88 : decode cX3_told 88 = .ok (.if_icmp .lt 25, 3) := by decide +kernel
theorem dX3_told_91 : decode cX3_told 91 = .ok (.aload_n 0, 1) := by decide +kernel
theorem dX3_told_92 : decode cX3_told 92 = .ok (.getfield 20, 3) := by decide +kernel
theorem dX3_told_95 : decode cX3_told 95 = .ok (.bipush 40, 2) := by decide +kernel
theorem dX3_told_97 : decode cX3_told 97 = .ok (.iload 5, 2) := by decide +kernel
theorem dX3_told_99 : decode cX3_told 99 = .ok (.imul, 1) := by decide +kernel
theorem dX3_told_100 : decode cX3_told 100 = .ok (.iload 6, 2) := by decide +kernel
theorem dX3_told_102 : decode cX3_told 102 = .ok (.iadd, 1) := by decide +kernel
theorem dX3_told_103 : decode cX3_told 103 = .ok (.laload, 1) := by decide +kernel
theorem dX3_told_104 : decode cX3_told 104 = .ok (.lconst 0, 1) := by decide +kernel
theorem dX3_told_105 : decode cX3_told 105 = .ok (.lcmp, 1) := by decide +kernel
theorem dX3_told_106 : decode cX3_told 106 = .ok (.ifCond .lt 7, 3) := by decide +kernel
theorem dX3_told_109 : decode cX3_told 109 = .ok (.iconst 1, 1) := by decide +kernel
theorem dX3_told_110 : decode cX3_told 110 = .ok (.goto 4, 3) := by decide +kernel
theorem dX3_told_113 : decode cX3_told 113 = .ok (.iconst 0, 1) := by decide +kernel
theorem dX3_told_114 : decode cX3_told 114 = .ok (.iadd, 1) := by decide +kernel
theorem dX3_told_115 : decode cX3_told 115 = .ok (.istore 4, 2) := by decide +kernel
theorem dX3_told_117 : decode cX3_told 117 = .ok (.iinc 6 1, 3) := by decide +kernel
theorem dX3_told_120 : decode cX3_told 120 = .ok (.goto (-55), 3) := by decide +kernel
theorem dX3_told_123 : decode cX3_told 123 = .ok (.iinc 5 1, 3) := by decide +kernel
theorem dX3_told_126 : decode cX3_told 126 = .ok (.goto (-100), 3) := by decide +kernel
theorem dX3_told_129 : decode cX3_told 129 = .ok (.iload_n 1, 1) := by decide +kernel
theorem dX3_told_130 : decode cX3_told 130 = .ok (.ifCond .ne 7, 3) := by decide +kernel
theorem dX3_told_133 : decode cX3_told 133 = .ok (.iload_n 2, 1) := by decide +kernel
theorem dX3_told_134 : decode cX3_told 134 = .ok (.goto 26, 3) := by decide +kernel
theorem dX3_told_137 : decode cX3_told 137 = .ok (.iload_n 1, 1) := by decide +kernel
theorem dX3_told_138 : decode cX3_told 138 = .ok (.iconst 1, 1) := by decide +kernel
theorem dX3_told_139 : decode cX3_told 139 = .ok (.if_icmp .ne 7, 3) := by decide +kernel
theorem dX3_told_142 : decode cX3_told 142 = .ok (.iload_n 3, 1) := by decide +kernel
theorem dX3_told_143 : decode cX3_told 143 = .ok (.goto 17, 3) := by decide +kernel
theorem dX3_told_146 : decode cX3_told 146 = .ok (.iload_n 1, 1) := by decide +kernel
theorem dX3_told_147 : decode cX3_told 147 = .ok (.iconst 2, 1) := by decide +kernel
theorem dX3_told_148 : decode cX3_told 148 = .ok (.if_icmp .ne 10, 3) := by decide +kernel
theorem dX3_told_151 : decode cX3_told 151 = .ok (.aload_n 0, 1) := by decide +kernel
theorem dX3_told_152 : decode cX3_told 152 = .ok (.getfield 111, 3) := by decide +kernel
theorem dX3_told_155 : decode cX3_told 155 = .ok (.goto 5, 3) := by decide +kernel
theorem dX3_told_158 : decode cX3_told 158 = .ok (.iload 4, 2) := by decide +kernel
theorem dX3_told_160 : decode cX3_told 160 = .ok (.ireturn, 1) := by decide +kernel
theorem dJx00060_init_da8c8_0 : decode cJx00060_init_da8c8 0 = .ok (.aload_n 0, 1) := by decide +kernel
theorem dJx00060_init_da8c8_1 : decode cJx00060_init_da8c8 1 = .ok (.invokespecial 1, 3) := by decide +kernel
theorem dJx00060_init_da8c8_4 : decode cJx00060_init_da8c8 4 = .ok (.return_, 1) := by decide +kernel
theorem dJx00060_init_a7421_0 : decode cJx00060_init_a7421 0 = .ok (.aload_n 0, 1) := by decide +kernel
theorem dJx00060_init_a7421_1 : decode cJx00060_init_a7421 1 = .ok (.aload_n 1, 1) := by decide +kernel
theorem dJx00060_init_a7421_2 : decode cJx00060_init_a7421 2 = .ok (.invokespecial 7, 3) := by decide +kernel
theorem dJx00060_init_a7421_5 : decode cJx00060_init_a7421 5 = .ok (.return_, 1) := by decide +kernel
theorem dJx5d777_init_da8c8_0 : decode cJx5d777_init_da8c8 0 = .ok (.aload_n 0, 1) := by decide +kernel
theorem dJx5d777_init_da8c8_1 : decode cJx5d777_init_da8c8 1 = .ok (.invokespecial 1, 3) := by decide +kernel
theorem dJx5d777_init_da8c8_4 : decode cJx5d777_init_da8c8 4 = .ok (.return_, 1) := by decide +kernel
theorem dJx5d777_fillInStackTrace_cddbd_0 : decode cJx5d777_fillInStackTrace_cddbd 0 = .ok (.aload_n 0, 1) := by decide +kernel
theorem dJx5d777_fillInStackTrace_cddbd_1 : decode cJx5d777_fillInStackTrace_cddbd 1 = .ok (.getfield 10, 3) := by decide +kernel
theorem dJx5d777_fillInStackTrace_cddbd_4 : decode cJx5d777_fillInStackTrace_cddbd 4 = .ok (.ifCond .ne 11, 3) := by decide +kernel
theorem dJx5d777_fillInStackTrace_cddbd_7 : decode cJx5d777_fillInStackTrace_cddbd 7 = .ok (.aload_n 0, 1) := by decide +kernel
theorem dJx5d777_fillInStackTrace_cddbd_8 : decode cJx5d777_fillInStackTrace_cddbd 8 = .ok (.iconst 1, 1) := by decide +kernel
theorem dJx5d777_fillInStackTrace_cddbd_9 : decode cJx5d777_fillInStackTrace_cddbd 9 = .ok (.putfield 10, 3) := by decide +kernel
theorem dJx5d777_fillInStackTrace_cddbd_12 : decode cJx5d777_fillInStackTrace_cddbd 12 = .ok (.goto 24, 3) := by decide +kernel
theorem dJx5d777_fillInStackTrace_cddbd_15 : decode cJx5d777_fillInStackTrace_cddbd 15 = .ok (.aload_n 0, 1) := by decide +kernel
theorem dJx5d777_fillInStackTrace_cddbd_16 : decode cJx5d777_fillInStackTrace_cddbd 16 = .ok (.getfield 10, 3) := by decide +kernel
theorem dJx5d777_fillInStackTrace_cddbd_19 : decode cJx5d777_fillInStackTrace_cddbd 19 = .ok (.iconst 1, 1) := by decide +kernel
theorem dJx5d777_fillInStackTrace_cddbd_20 : decode cJx5d777_fillInStackTrace_cddbd 20 = .ok (.if_icmp .ne 16, 3) := by decide +kernel
theorem dJx5d777_fillInStackTrace_cddbd_23 : decode cJx5d777_fillInStackTrace_cddbd 23 = .ok (.aload_n 0, 1) := by decide +kernel
theorem dJx5d777_fillInStackTrace_cddbd_24 : decode cJx5d777_fillInStackTrace_cddbd 24 = .ok (.aload_n 0, 1) := by decide +kernel
theorem dJx5d777_fillInStackTrace_cddbd_25 : decode cJx5d777_fillInStackTrace_cddbd 25 = .ok (.invokevirtual 16, 3) := by decide +kernel
theorem dJx5d777_fillInStackTrace_cddbd_28 : decode cJx5d777_fillInStackTrace_cddbd 28 = .ok (.putfield 20, 3) := by decide +kernel
theorem dJx5d777_fillInStackTrace_cddbd_31 : decode cJx5d777_fillInStackTrace_cddbd 31 = .ok (.aload_n 0, 1) := by decide +kernel
theorem dJx5d777_fillInStackTrace_cddbd_32 : decode cJx5d777_fillInStackTrace_cddbd 32 = .ok (.iconst 2, 1) := by decide +kernel
theorem dJx5d777_fillInStackTrace_cddbd_33 : decode cJx5d777_fillInStackTrace_cddbd 33 = .ok (.putfield 10, 3) := by decide +kernel
theorem dJx5d777_fillInStackTrace_cddbd_36 : decode cJx5d777_fillInStackTrace_cddbd 36 = .ok (.aload_n 0, 1) := by decide +kernel
theorem dJx5d777_fillInStackTrace_cddbd_37 : decode cJx5d777_fillInStackTrace_cddbd 37 = .ok (.invokespecial 24, 3) := by decide +kernel
theorem dJx5d777_fillInStackTrace_cddbd_40 : decode cJx5d777_fillInStackTrace_cddbd 40 = .ok (.areturn, 1) := by decide +kernel
theorem dJ7_fill_d0a16_0 : decode cJ7_fill_d0a16 0 = .ok (.iconst 0, 1) := by decide +kernel
theorem dJ7_fill_d0a16_1 : decode cJ7_fill_d0a16 1 = .ok (.istore_n 3, 1) := by decide +kernel
theorem dJ7_fill_d0a16_2 : decode cJ7_fill_d0a16 2 = .ok (.aload_n 0, 1) := by decide +kernel
theorem dJ7_fill_d0a16_3 : decode cJ7_fill_d0a16 3 = .ok (.arraylength, 1) := by decide +kernel
theorem dJ7_fill_d0a16_4 : decode cJ7_fill_d0a16 4 = .ok (.istore 4, 2) := by decide +kernel
theorem dJ7_fill_d0a16_6 : decode cJ7_fill_d0a16 6 = .ok (.iload_n 3, 1) := by decide +kernel
theorem dJ7_fill_d0a16_7 : decode cJ7_fill_d0a16 7 = .ok (.iload 4, 2) := by decide +kernel
theorem dJ7_fill_d0a16_9 : decode cJ7_fill_d0a16 9 = .ok (.if_icmp .ge 13, 3) := by decide +kernel
theorem dJ7_fill_d0a16_12 : decode cJ7_fill_d0a16 12 = .ok (.aload_n 0, 1) := by decide +kernel
theorem dJ7_fill_d0a16_13 : decode cJ7_fill_d0a16 13 = .ok (.iload_n 3, 1) := by decide +kernel
theorem dJ7_fill_d0a16_14 : decode cJ7_fill_d0a16 14 = .ok (.lload_n 1, 1) := by decide +kernel
theorem dJ7_fill_d0a16_15 : decode cJ7_fill_d0a16 15 = .ok (.lastore, 1) := by decide +kernel
theorem dJ7_fill_d0a16_16 : decode cJ7_fill_d0a16 16 = .ok (.iinc 3 1, 3) := by decide +kernel
theorem dJ7_fill_d0a16_19 : decode cJ7_fill_d0a16 19 = .ok (.goto (-13), 3) := by decide +kernel
theorem dJ7_fill_d0a16_22 : decode cJ7_fill_d0a16 22 = .ok (.return_, 1) := by decide +kernel
theorem dJ7_fill_7f8df_0 : decode cJ7_fill_7f8df 0 = .ok (.iconst 0, 1) := by decide +kernel
theorem dJ7_fill_7f8df_1 : decode cJ7_fill_7f8df 1 = .ok (.istore_n 3, 1) := by decide +kernel
theorem dJ7_fill_7f8df_2 : decode cJ7_fill_7f8df 2 = .ok (.aload_n 0, 1) := by decide +kernel
theorem dJ7_fill_7f8df_3 : decode cJ7_fill_7f8df 3 = .ok (.arraylength, 1) := by decide +kernel
theorem dJ7_fill_7f8df_4 : decode cJ7_fill_7f8df 4 = .ok (.istore 4, 2) := by decide +kernel
theorem dJ7_fill_7f8df_6 : decode cJ7_fill_7f8df 6 = .ok (.iload_n 3, 1) := by decide +kernel
theorem dJ7_fill_7f8df_7 : decode cJ7_fill_7f8df 7 = .ok (.iload 4, 2) := by decide +kernel
theorem dJ7_fill_7f8df_9 : decode cJ7_fill_7f8df 9 = .ok (.if_icmp .ge 13, 3) := by decide +kernel
theorem dJ7_fill_7f8df_12 : decode cJ7_fill_7f8df 12 = .ok (.aload_n 0, 1) := by decide +kernel
theorem dJ7_fill_7f8df_13 : decode cJ7_fill_7f8df 13 = .ok (.iload_n 3, 1) := by decide +kernel
theorem dJ7_fill_7f8df_14 : decode cJ7_fill_7f8df 14 = .ok (.dload_n 1, 1) := by decide +kernel
theorem dJ7_fill_7f8df_15 : decode cJ7_fill_7f8df 15 = .ok (.dastore, 1) := by decide +kernel
theorem dJ7_fill_7f8df_16 : decode cJ7_fill_7f8df 16 = .ok (.iinc 3 1, 3) := by decide +kernel
theorem dJ7_fill_7f8df_19 : decode cJ7_fill_7f8df 19 = .ok (.goto (-13), 3) := by decide +kernel
theorem dJ7_fill_7f8df_22 : decode cJ7_fill_7f8df 22 = .ok (.return_, 1) := by decide +kernel
theorem dL_get_0 : decode cL_get 0 = .ok (.aload_n 3, 1) := by decide +kernel
theorem dL_get_1 : decode cL_get 1 = .ok (.iconst 0, 1) := by decide +kernel
theorem dL_get_2 : decode cL_get 2 = .ok (.aload_n 0, 1) := by decide +kernel
theorem dL_get_3 : decode cL_get 3 = .ok (.iload_n 1, 1) := by decide +kernel
theorem dL_get_4 : decode cL_get 4 = .ok (.iload_n 2, 1) := by decide +kernel
theorem dL_get_5 : decode cL_get 5 = .ok (.invokevirtual 7, 3) := by decide +kernel
theorem dL_get_8 : decode cL_get 8 = .ok (.lastore, 1) := by decide +kernel
theorem dL_get_9 : decode cL_get 9 = .ok (.goto 11, 3) := by decide +kernel
theorem dL_get_12 : decode cL_get 12 = .ok (.astore 4, 2) := by decide +kernel
theorem dL_get_14 : decode cL_get 14 = .ok (.iconst 1, 1) := by decide +kernel
theorem dL_get_15 : decode cL_get 15 = .ok (.ireturn, 1) := by decide +kernel
theorem dL_get_16 : decode cL_get 16 = .ok (.astore 4, 2) := by decide +kernel
theorem dL_get_18 : decode cL_get 18 = .ok (.iconst 2, 1) := by decide +kernel
theorem dL_get_19 : decode cL_get 19 = .ok (.ireturn, 1) := by decide +kernel
theorem dL_get_20 : decode cL_get 20 = .ok (.iconst 0, 1) := by decide +kernel
theorem dL_get_21 : decode cL_get 21 = .ok (.ireturn, 1) := by decide +kernel
theorem dL_law_0 : decode cL_law 0 = .ok (.new 8, 3) := by decide +kernel
theorem dL_law_3 : decode cL_law 3 = .ok (.dup, 1) := by decide +kernel
theorem dL_law_4 : decode cL_law 4 = .ok (.invokespecial 17, 3) := by decide +kernel
theorem dL_law_7 : decode cL_law 7 = .ok (.astore_n 1, 1) := by decide +kernel
theorem dL_law_8 : decode cL_law 8 = .ok (.new 18, 3) := by decide +kernel
theorem dL_law_11 : decode cL_law 11 = .ok (.dup, 1) := by decide +kernel
theorem dL_law_12 : decode cL_law 12 = .ok (.invokespecial 20, 3) := by decide +kernel
theorem dL_law_15 : decode cL_law 15 = .ok (.astore_n 2, 1) := by decide +kernel
theorem dL_law_16 : decode cL_law 16 = .ok (.iconst 1, 1) := by decide +kernel
theorem dL_law_17 : decode cL_law 17 = .ok (.newarray .long, 2) := by decide +kernel
theorem dL_law_19 : decode cL_law 19 = .ok (.astore_n 3, 1) := by decide +kernel
theorem dL_law_20 : decode cL_law 20 = .ok (.iconst 0, 1) := by decide +kernel
theorem dL_law_21 : decode cL_law 21 = .ok (.istore 4, 2) := by decide +kernel
theorem dL_law_23 : decode cL_law 23 = .ok (.iload 4, 2) := by decide +kernel
theorem dL_law_25 : decode cL_law 25 = .ok (.aload_n 0, 1) := by decide +kernel
theorem dL_law_26 : decode cL_law 26 = .ok (.arraylength, 1) := by decide +kernel
theorem dL_law_27 : decode cL_law 27 = .ok (.bipush 6, 2) := by decide +kernel
theorem dL_law_29 : decode cL_law 29 = .ok (.isub, 1) := by decide +kernel
theorem dL_law_30 : decode cL_law 30 = .ok (.if_icmp .gt 914, 3) := by decide +kernel
theorem dL_law_33 : decode cL_law 33 = .ok (.aload_n 0, 1) := by decide +kernel
theorem dL_law_34 : decode cL_law 34 = .ok (.iload 4, 2) := by decide +kernel
theorem dL_law_36 : decode cL_law 36 = .ok (.iaload, 1) := by decide +kernel
theorem dL_law_37 : decode cL_law 37 = .ok (.bipush 31, 2) := by decide +kernel
theorem dL_law_39 : decode cL_law 39 = .ok (.iand, 1) := by decide +kernel
theorem dL_law_40 : decode cL_law 40 = .ok (.tableswitch 898 0 19 #[96, 145, 170, 195, 220, 245, 326, 393, 430, 467, 504, 553, 590, 627, 664, 701, 774, 787, 836, 873], 96) := by decide +kernel
theorem dL_law_136 : decode cL_law 136 = .ok (.aload_n 1, 1) := by decide +kernel
theorem dL_law_137 : decode cL_law 137 = .ok (.aload_n 0, 1) := by decide +kernel
theorem dL_law_138 : decode cL_law 138 = .ok (.iload 4, 2) := by decide +kernel
theorem dL_law_140 : decode cL_law 140 = .ok (.iconst 1, 1) := by decide +kernel
theorem dL_law_141 : decode cL_law 141 = .ok (.iadd, 1) := by decide +kernel
theorem dL_law_142 : decode cL_law 142 = .ok (.iaload, 1) := by decide +kernel
theorem dL_law_143 : decode cL_law 143 = .ok (.aload_n 0, 1) := by decide +kernel
theorem dL_law_144 : decode cL_law 144 = .ok (.iload 4, 2) := by decide +kernel
theorem dL_law_146 : decode cL_law 146 = .ok (.iconst 2, 1) := by decide +kernel
theorem dL_law_147 : decode cL_law 147 = .ok (.iadd, 1) := by decide +kernel
theorem dL_law_148 : decode cL_law 148 = .ok (.iaload, 1) := by decide +kernel
theorem dL_law_149 : decode cL_law 149 = .ok (.aload_n 0, 1) := by decide +kernel
theorem dL_law_150 : decode cL_law 150 = .ok (.iload 4, 2) := by decide +kernel
theorem dL_law_152 : decode cL_law 152 = .ok (.iconst 3, 1) := by decide +kernel
theorem dL_law_153 : decode cL_law 153 = .ok (.iadd, 1) := by decide +kernel
theorem dL_law_154 : decode cL_law 154 = .ok (.iaload, 1) := by decide +kernel
theorem dL_law_155 : decode cL_law 155 = .ok (.invokevirtual 21, 3) := by decide +kernel
theorem dL_law_158 : decode cL_law 158 = .ok (.aload_n 2, 1) := by decide +kernel
theorem dL_law_159 : decode cL_law 159 = .ok (.aload_n 0, 1) := by decide +kernel
theorem dL_law_160 : decode cL_law 160 = .ok (.iload 4, 2) := by decide +kernel
theorem dL_law_162 : decode cL_law 162 = .ok (.iconst 1, 1) := by decide +kernel
theorem dL_law_163 : decode cL_law 163 = .ok (.iadd, 1) := by decide +kernel
theorem dL_law_164 : decode cL_law 164 = .ok (.iaload, 1) := by decide +kernel
theorem dL_law_165 : decode cL_law 165 = .ok (.aload_n 0, 1) := by decide +kernel
theorem dL_law_166 : decode cL_law 166 = .ok (.iload 4, 2) := by decide +kernel
theorem dL_law_168 : decode cL_law 168 = .ok (.iconst 2, 1) := by decide +kernel
theorem dL_law_169 : decode cL_law 169 = .ok (.iadd, 1) := by decide +kernel
theorem dL_law_170 : decode cL_law 170 = .ok (.iaload, 1) := by decide +kernel
theorem dL_law_171 : decode cL_law 171 = .ok (.aload_n 0, 1) := by decide +kernel
theorem dL_law_172 : decode cL_law 172 = .ok (.iload 4, 2) := by decide +kernel
theorem dL_law_174 : decode cL_law 174 = .ok (.iconst 3, 1) := by decide +kernel
theorem dL_law_175 : decode cL_law 175 = .ok (.iadd, 1) := by decide +kernel
theorem dL_law_176 : decode cL_law 176 = .ok (.iaload, 1) := by decide +kernel
theorem dL_law_177 : decode cL_law 177 = .ok (.invokevirtual 25, 3) := by decide +kernel
theorem dL_law_180 : decode cL_law 180 = .ok (.if_icmp .eq 758, 3) := by decide +kernel
theorem dL_law_183 : decode cL_law 183 = .ok (.iconst 0, 1) := by decide +kernel
theorem dL_law_184 : decode cL_law 184 = .ok (.ireturn, 1) := by decide +kernel
theorem dL_law_185 : decode cL_law 185 = .ok (.aload_n 1, 1) := by decide +kernel
theorem dL_law_186 : decode cL_law 186 = .ok (.aload_n 0, 1) := by decide +kernel
theorem dL_law_187 : decode cL_law 187 = .ok (.iload 4, 2) := by decide +kernel
theorem dL_law_189 : decode cL_law 189 = .ok (.iconst 1, 1) := by decide +kernel
theorem dL_law_190 : decode cL_law 190 = .ok (.iadd, 1) := by decide +kernel
theorem dL_law_191 : decode cL_law 191 = .ok (.iaload, 1) := by decide +kernel
theorem dL_law_192 : decode cL_law 192 = .ok (.invokevirtual 26, 3) := by decide +kernel
theorem dL_law_195 : decode cL_law 195 = .ok (.aload_n 2, 1) := by decide +kernel
theorem dL_law_196 : decode cL_law 196 = .ok (.aload_n 0, 1) := by decide +kernel
theorem dL_law_197 : decode cL_law 197 = .ok (.iload 4, 2) := by decide +kernel
theorem dL_law_199 : decode cL_law 199 = .ok (.iconst 1, 1) := by decide +kernel
theorem dL_law_200 : decode cL_law 200 = .ok (.iadd, 1) := by decide +kernel
theorem dL_law_201 : decode cL_law 201 = .ok (.iaload, 1) := by decide +kernel
theorem dL_law_202 : decode cL_law 202 = .ok (.invokevirtual 30, 3) := by decide +kernel
theorem dL_law_205 : decode cL_law 205 = .ok (.if_icmp .eq 733, 3) := by decide +kernel
theorem dL_law_208 : decode cL_law 208 = .ok (.iconst 0, 1) := by decide +kernel
theorem dL_law_209 : decode cL_law 209 = .ok (.ireturn, 1) := by decide +kernel
theorem dL_law_210 : decode cL_law 210 = .ok (.aload_n 1, 1) := by decide +kernel
theorem dL_law_211 : decode cL_law 211 = .ok (.aload_n 0, 1) := by decide +kernel
theorem dL_law_212 : decode cL_law 212 = .ok (.iload 4, 2) := by decide +kernel
theorem dL_law_214 : decode cL_law 214 = .ok (.iconst 1, 1) := by decide +kernel
theorem dL_law_215 : decode cL_law 215 = .ok (.iadd, 1) := by decide +kernel
theorem dL_law_216 : decode cL_law 216 = .ok (.iaload, 1) := by decide +kernel
theorem dL_law_217 : decode cL_law 217 = .ok (.invokevirtual 31, 3) := by decide +kernel
theorem dL_law_220 : decode cL_law 220 = .ok (.aload_n 2, 1) := by decide +kernel
theorem dL_law_221 : decode cL_law 221 = .ok (.aload_n 0, 1) := by decide +kernel
theorem dL_law_222 : decode cL_law 222 = .ok (.iload 4, 2) := by decide +kernel
theorem dL_law_224 : decode cL_law 224 = .ok (.iconst 1, 1) := by decide +kernel
theorem dL_law_225 : decode cL_law 225 = .ok (.iadd, 1) := by decide +kernel
theorem dL_law_226 : decode cL_law 226 = .ok (.iaload, 1) := by decide +kernel
theorem dL_law_227 : decode cL_law 227 = .ok (.invokevirtual 34, 3) := by decide +kernel
theorem dL_law_230 : decode cL_law 230 = .ok (.if_icmp .eq 708, 3) := by decide +kernel
theorem dL_law_233 : decode cL_law 233 = .ok (.iconst 0, 1) := by decide +kernel
theorem dL_law_234 : decode cL_law 234 = .ok (.ireturn, 1) := by decide +kernel
theorem dL_law_235 : decode cL_law 235 = .ok (.aload_n 1, 1) := by decide +kernel
theorem dL_law_236 : decode cL_law 236 = .ok (.aload_n 0, 1) := by decide +kernel
theorem dL_law_237 : decode cL_law 237 = .ok (.iload 4, 2) := by decide +kernel
theorem dL_law_239 : decode cL_law 239 = .ok (.iconst 1, 1) := by decide +kernel
theorem dL_law_240 : decode cL_law 240 = .ok (.iadd, 1) := by decide +kernel
theorem dL_law_241 : decode cL_law 241 = .ok (.iaload, 1) := by decide +kernel
theorem dL_law_242 : decode cL_law 242 = .ok (.invokevirtual 35, 3) := by decide +kernel
theorem dL_law_245 : decode cL_law 245 = .ok (.aload_n 2, 1) := by decide +kernel
theorem dL_law_246 : decode cL_law 246 = .ok (.aload_n 0, 1) := by decide +kernel
theorem dL_law_247 : decode cL_law 247 = .ok (.iload 4, 2) := by decide +kernel
theorem dL_law_249 : decode cL_law 249 = .ok (.iconst 1, 1) := by decide +kernel
theorem dL_law_250 : decode cL_law 250 = .ok (.iadd, 1) := by decide +kernel
theorem dL_law_251 : decode cL_law 251 = .ok (.iaload, 1) := by decide +kernel
theorem dL_law_252 : decode cL_law 252 = .ok (.invokevirtual 38, 3) := by decide +kernel
theorem dL_law_255 : decode cL_law 255 = .ok (.if_icmp .eq 683, 3) := by decide +kernel
theorem dL_law_258 : decode cL_law 258 = .ok (.iconst 0, 1) := by decide +kernel
theorem dL_law_259 : decode cL_law 259 = .ok (.ireturn, 1) := by decide +kernel
theorem dL_law_260 : decode cL_law 260 = .ok (.aload_n 1, 1) := by decide +kernel
theorem dL_law_261 : decode cL_law 261 = .ok (.aload_n 0, 1) := by decide +kernel
theorem dL_law_262 : decode cL_law 262 = .ok (.iload 4, 2) := by decide +kernel
theorem dL_law_264 : decode cL_law 264 = .ok (.iconst 1, 1) := by decide +kernel
theorem dL_law_265 : decode cL_law 265 = .ok (.iadd, 1) := by decide +kernel
theorem dL_law_266 : decode cL_law 266 = .ok (.iaload, 1) := by decide +kernel
theorem dL_law_267 : decode cL_law 267 = .ok (.invokevirtual 39, 3) := by decide +kernel
theorem dL_law_270 : decode cL_law 270 = .ok (.aload_n 2, 1) := by decide +kernel
theorem dL_law_271 : decode cL_law 271 = .ok (.aload_n 0, 1) := by decide +kernel
theorem dL_law_272 : decode cL_law 272 = .ok (.iload 4, 2) := by decide +kernel
theorem dL_law_274 : decode cL_law 274 = .ok (.iconst 1, 1) := by decide +kernel
theorem dL_law_275 : decode cL_law 275 = .ok (.iadd, 1) := by decide +kernel
theorem dL_law_276 : decode cL_law 276 = .ok (.iaload, 1) := by decide +kernel
theorem dL_law_277 : decode cL_law 277 = .ok (.invokevirtual 42, 3) := by decide +kernel
theorem dL_law_280 : decode cL_law 280 = .ok (.if_icmp .eq 658, 3) := by decide +kernel
theorem dL_law_283 : decode cL_law 283 = .ok (.iconst 0, 1) := by decide +kernel
theorem dL_law_284 : decode cL_law 284 = .ok (.ireturn, 1) := by decide +kernel
theorem dL_law_285 : decode cL_law 285 = .ok (.aload_n 1, 1) := by decide +kernel
theorem dL_law_286 : decode cL_law 286 = .ok (.aload_n 0, 1) := by decide +kernel
theorem dL_law_287 : decode cL_law 287 = .ok (.iload 4, 2) := by decide +kernel
theorem dL_law_289 : decode cL_law 289 = .ok (.iconst 1, 1) := by decide +kernel
theorem dL_law_290 : decode cL_law 290 = .ok (.iadd, 1) := by decide +kernel
theorem dL_law_291 : decode cL_law 291 = .ok (.iaload, 1) := by decide +kernel
theorem dL_law_292 : decode cL_law 292 = .ok (.aload_n 0, 1) := by decide +kernel
theorem dL_law_293 : decode cL_law 293 = .ok (.iload 4, 2) := by decide +kernel
theorem dL_law_295 : decode cL_law 295 = .ok (.iconst 2, 1) := by decide +kernel
theorem dL_law_296 : decode cL_law 296 = .ok (.iadd, 1) := by decide +kernel
theorem dL_law_297 : decode cL_law 297 = .ok (.iaload, 1) := by decide +kernel
theorem dL_law_298 : decode cL_law 298 = .ok (.aload_n 0, 1) := by decide +kernel
theorem dL_law_299 : decode cL_law 299 = .ok (.iload 4, 2) := by decide +kernel
theorem dL_law_301 : decode cL_law 301 = .ok (.iconst 3, 1) := by decide +kernel
theorem dL_law_302 : decode cL_law 302 = .ok (.iadd, 1) := by decide +kernel
theorem dL_law_303 : decode cL_law 303 = .ok (.iaload, 1) := by decide +kernel
theorem dL_law_304 : decode cL_law 304 = .ok (.i2l, 1) := by decide +kernel
theorem dL_law_305 : decode cL_law 305 = .ok (.bipush 32, 2) := by decide +kernel
theorem dL_law_307 : decode cL_law 307 = .ok (.lshl, 1) := by decide +kernel
theorem dL_law_308 : decode cL_law 308 = .ok (.aload_n 0, 1) := by decide +kernel
theorem dL_law_309 : decode cL_law 309 = .ok (.iload 4, 2) := by decide +kernel
theorem dL_law_311 : decode cL_law 311 = .ok (.iconst 4, 1) := by decide +kernel
theorem dL_law_312 : decode cL_law 312 = .ok (.iadd, 1) := by decide +kernel
theorem dL_law_313 : decode cL_law 313 = .ok (.iaload, 1) := by decide +kernel
theorem dL_law_314 : decode cL_law 314 = .ok (.i2l, 1) := by decide +kernel
theorem dL_law_315 : decode cL_law 315 = .ok (.ldc2_w 43, 3) := by decide +kernel
theorem dL_law_318 : decode cL_law 318 = .ok (.land, 1) := by decide +kernel
theorem dL_law_319 : decode cL_law 319 = .ok (.lor, 1) := by decide +kernel
theorem dL_law_320 : decode cL_law 320 = .ok (.invokevirtual 45, 3) := by decide +kernel
theorem dL_law_323 : decode cL_law 323 = .ok (.aload_n 2, 1) := by decide +kernel
theorem dL_law_324 : decode cL_law 324 = .ok (.aload_n 0, 1) := by decide +kernel
theorem dL_law_325 : decode cL_law 325 = .ok (.iload 4, 2) := by decide +kernel
theorem dL_law_327 : decode cL_law 327 = .ok (.iconst 1, 1) := by decide +kernel
theorem dL_law_328 : decode cL_law 328 = .ok (.iadd, 1) := by decide +kernel
theorem dL_law_329 : decode cL_law 329 = .ok (.iaload, 1) := by decide +kernel
theorem dL_law_330 : decode cL_law 330 = .ok (.aload_n 0, 1) := by decide +kernel
theorem dL_law_331 : decode cL_law 331 = .ok (.iload 4, 2) := by decide +kernel
theorem dL_law_333 : decode cL_law 333 = .ok (.iconst 2, 1) := by decide +kernel
theorem dL_law_334 : decode cL_law 334 = .ok (.iadd, 1) := by decide +kernel
theorem dL_law_335 : decode cL_law 335 = .ok (.iaload, 1) := by decide +kernel
theorem dL_law_336 : decode cL_law 336 = .ok (.aload_n 0, 1) := by decide +kernel
theorem dL_law_337 : decode cL_law 337 = .ok (.iload 4, 2) := by decide +kernel
theorem dL_law_339 : decode cL_law 339 = .ok (.iconst 3, 1) := by decide +kernel
theorem dL_law_340 : decode cL_law 340 = .ok (.iadd, 1) := by decide +kernel
theorem dL_law_341 : decode cL_law 341 = .ok (.iaload, 1) := by decide +kernel
theorem dL_law_342 : decode cL_law 342 = .ok (.i2l, 1) := by decide +kernel
theorem dL_law_343 : decode cL_law 343 = .ok (.bipush 32, 2) := by decide +kernel
theorem dL_law_345 : decode cL_law 345 = .ok (.lshl, 1) := by decide +kernel
theorem dL_law_346 : decode cL_law 346 = .ok (.aload_n 0, 1) := by decide +kernel
theorem dL_law_347 : decode cL_law 347 = .ok (.iload 4, 2) := by decide +kernel
theorem dL_law_349 : decode cL_law 349 = .ok (.iconst 4, 1) := by decide +kernel
theorem dL_law_350 : decode cL_law 350 = .ok (.iadd, 1) := by decide +kernel
theorem dL_law_351 : decode cL_law 351 = .ok (.iaload, 1) := by decide +kernel
theorem dL_law_352 : decode cL_law 352 = .ok (.i2l, 1) := by decide +kernel
theorem dL_law_353 : decode cL_law 353 = .ok (.ldc2_w 43, 3) := by decide +kernel
theorem dL_law_356 : decode cL_law 356 = .ok (.land, 1) := by decide +kernel
theorem dL_law_357 : decode cL_law 357 = .ok (.lor, 1) := by decide +kernel
theorem dL_law_358 : decode cL_law 358 = .ok (.invokevirtual 49, 3) := by decide +kernel
theorem dL_law_361 : decode cL_law 361 = .ok (.if_icmp .eq 577, 3) := by decide +kernel
theorem dL_law_364 : decode cL_law 364 = .ok (.iconst 0, 1) := by decide +kernel
theorem dL_law_365 : decode cL_law 365 = .ok (.ireturn, 1) := by decide +kernel
theorem dL_law_366 : decode cL_law 366 = .ok (.aload_n 1, 1) := by decide +kernel
theorem dL_law_367 : decode cL_law 367 = .ok (.aload_n 0, 1) := by decide +kernel
theorem dL_law_368 : decode cL_law 368 = .ok (.iload 4, 2) := by decide +kernel
theorem dL_law_370 : decode cL_law 370 = .ok (.iconst 1, 1) := by decide +kernel
theorem dL_law_371 : decode cL_law 371 = .ok (.iadd, 1) := by decide +kernel
theorem dL_law_372 : decode cL_law 372 = .ok (.iaload, 1) := by decide +kernel
theorem dL_law_373 : decode cL_law 373 = .ok (.aload_n 0, 1) := by decide +kernel
theorem dL_law_374 : decode cL_law 374 = .ok (.iload 4, 2) := by decide +kernel
theorem dL_law_376 : decode cL_law 376 = .ok (.iconst 2, 1) := by decide +kernel
theorem dL_law_377 : decode cL_law 377 = .ok (.iadd, 1) := by decide +kernel
theorem dL_law_378 : decode cL_law 378 = .ok (.iaload, 1) := by decide +kernel
theorem dL_law_379 : decode cL_law 379 = .ok (.aload_n 3, 1) := by decide +kernel
theorem dL_law_380 : decode cL_law 380 = .ok (.invokestatic 50, 3) := by decide +kernel
theorem dL_law_383 : decode cL_law 383 = .ok (.istore 5, 2) := by decide +kernel
theorem dL_law_385 : decode cL_law 385 = .ok (.aload_n 2, 1) := by decide +kernel
theorem dL_law_386 : decode cL_law 386 = .ok (.aload_n 0, 1) := by decide +kernel
theorem dL_law_387 : decode cL_law 387 = .ok (.iload 4, 2) := by decide +kernel
theorem dL_law_389 : decode cL_law 389 = .ok (.iconst 1, 1) := by decide +kernel
theorem dL_law_390 : decode cL_law 390 = .ok (.iadd, 1) := by decide +kernel
theorem dL_law_391 : decode cL_law 391 = .ok (.iaload, 1) := by decide +kernel
theorem dL_law_392 : decode cL_law 392 = .ok (.aload_n 0, 1) := by decide +kernel
theorem dL_law_393 : decode cL_law 393 = .ok (.iload 4, 2) := by decide +kernel
theorem dL_law_395 : decode cL_law 395 = .ok (.iconst 2, 1) := by decide +kernel
theorem dL_law_396 : decode cL_law 396 = .ok (.iadd, 1) := by decide +kernel
theorem dL_law_397 : decode cL_law 397 = .ok (.iaload, 1) := by decide +kernel
theorem dL_law_398 : decode cL_law 398 = .ok (.invokevirtual 55, 3) := by decide +kernel
theorem dL_law_401 : decode cL_law 401 = .ok (.lstore 6, 2) := by decide +kernel
theorem dL_law_403 : decode cL_law 403 = .ok (.aload_n 2, 1) := by decide +kernel
theorem dL_law_404 : decode cL_law 404 = .ok (.invokevirtual 56, 3) := by decide +kernel
theorem dL_law_407 : decode cL_law 407 = .ok (.iload 5, 2) := by decide +kernel
theorem dL_law_409 : decode cL_law 409 = .ok (.if_icmp .eq 5, 3) := by decide +kernel
theorem dL_law_412 : decode cL_law 412 = .ok (.iconst 0, 1) := by decide +kernel
theorem dL_law_413 : decode cL_law 413 = .ok (.ireturn, 1) := by decide +kernel
theorem dL_law_414 : decode cL_law 414 = .ok (.iload 5, 2) := by decide +kernel
theorem dL_law_416 : decode cL_law 416 = .ok (.ifCond .ne 14, 3) := by decide +kernel
theorem dL_law_419 : decode cL_law 419 = .ok (.aload_n 3, 1) := by decide +kernel
theorem dL_law_420 : decode cL_law 420 = .ok (.iconst 0, 1) := by decide +kernel
theorem dL_law_421 : decode cL_law 421 = .ok (.laload, 1) := by decide +kernel
theorem dL_law_422 : decode cL_law 422 = .ok (.lload 6, 2) := by decide +kernel
theorem dL_law_424 : decode cL_law 424 = .ok (.lcmp, 1) := by decide +kernel
theorem dL_law_425 : decode cL_law 425 = .ok (.ifCond .eq 5, 3) := by decide +kernel
theorem dL_law_428 : decode cL_law 428 = .ok (.iconst 0, 1) := by decide +kernel
theorem dL_law_429 : decode cL_law 429 = .ok (.ireturn, 1) := by decide +kernel
theorem dL_law_430 : decode cL_law 430 = .ok (.goto 508, 3) := by decide +kernel
theorem dL_law_433 : decode cL_law 433 = .ok (.aload_n 1, 1) := by decide +kernel
theorem dL_law_434 : decode cL_law 434 = .ok (.aload_n 0, 1) := by decide +kernel
theorem dL_law_435 : decode cL_law 435 = .ok (.iload 4, 2) := by decide +kernel
theorem dL_law_437 : decode cL_law 437 = .ok (.iconst 1, 1) := by decide +kernel
theorem dL_law_438 : decode cL_law 438 = .ok (.iadd, 1) := by decide +kernel
theorem dL_law_439 : decode cL_law 439 = .ok (.iaload, 1) := by decide +kernel
theorem dL_law_440 : decode cL_law 440 = .ok (.aload_n 0, 1) := by decide +kernel
theorem dL_law_441 : decode cL_law 441 = .ok (.iload 4, 2) := by decide +kernel
theorem dL_law_443 : decode cL_law 443 = .ok (.iconst 2, 1) := by decide +kernel
theorem dL_law_444 : decode cL_law 444 = .ok (.iadd, 1) := by decide +kernel
theorem dL_law_445 : decode cL_law 445 = .ok (.iaload, 1) := by decide +kernel
theorem dL_law_446 : decode cL_law 446 = .ok (.invokevirtual 60, 3) := by decide +kernel
theorem dL_law_449 : decode cL_law 449 = .ok (.aload_n 2, 1) := by decide +kernel
theorem dL_law_450 : decode cL_law 450 = .ok (.aload_n 0, 1) := by decide +kernel
theorem dL_law_451 : decode cL_law 451 = .ok (.iload 4, 2) := by decide +kernel
theorem dL_law_453 : decode cL_law 453 = .ok (.iconst 1, 1) := by decide +kernel
theorem dL_law_454 : decode cL_law 454 = .ok (.iadd, 1) := by decide +kernel
theorem dL_law_455 : decode cL_law 455 = .ok (.iaload, 1) := by decide +kernel
theorem dL_law_456 : decode cL_law 456 = .ok (.aload_n 0, 1) := by decide +kernel
theorem dL_law_457 : decode cL_law 457 = .ok (.iload 4, 2) := by decide +kernel
theorem dL_law_459 : decode cL_law 459 = .ok (.iconst 2, 1) := by decide +kernel
theorem dL_law_460 : decode cL_law 460 = .ok (.iadd, 1) := by decide +kernel
theorem dL_law_461 : decode cL_law 461 = .ok (.iaload, 1) := by decide +kernel
theorem dL_law_462 : decode cL_law 462 = .ok (.invokevirtual 64, 3) := by decide +kernel
theorem dL_law_465 : decode cL_law 465 = .ok (.if_icmp .eq 473, 3) := by decide +kernel
theorem dL_law_468 : decode cL_law 468 = .ok (.iconst 0, 1) := by decide +kernel
theorem dL_law_469 : decode cL_law 469 = .ok (.ireturn, 1) := by decide +kernel
theorem dL_law_470 : decode cL_law 470 = .ok (.aload_n 1, 1) := by decide +kernel
theorem dL_law_471 : decode cL_law 471 = .ok (.aload_n 0, 1) := by decide +kernel
theorem dL_law_472 : decode cL_law 472 = .ok (.iload 4, 2) := by decide +kernel
theorem dL_law_474 : decode cL_law 474 = .ok (.iconst 1, 1) := by decide +kernel
theorem dL_law_475 : decode cL_law 475 = .ok (.iadd, 1) := by decide +kernel
theorem dL_law_476 : decode cL_law 476 = .ok (.iaload, 1) := by decide +kernel
theorem dL_law_477 : decode cL_law 477 = .ok (.aload_n 0, 1) := by decide +kernel
theorem dL_law_478 : decode cL_law 478 = .ok (.iload 4, 2) := by decide +kernel
theorem dL_law_480 : decode cL_law 480 = .ok (.iconst 2, 1) := by decide +kernel
theorem dL_law_481 : decode cL_law 481 = .ok (.iadd, 1) := by decide +kernel
theorem dL_law_482 : decode cL_law 482 = .ok (.iaload, 1) := by decide +kernel
theorem dL_law_483 : decode cL_law 483 = .ok (.invokevirtual 65, 3) := by decide +kernel
theorem dL_law_486 : decode cL_law 486 = .ok (.aload_n 2, 1) := by decide +kernel
theorem dL_law_487 : decode cL_law 487 = .ok (.aload_n 0, 1) := by decide +kernel
theorem dL_law_488 : decode cL_law 488 = .ok (.iload 4, 2) := by decide +kernel
theorem dL_law_490 : decode cL_law 490 = .ok (.iconst 1, 1) := by decide +kernel
theorem dL_law_491 : decode cL_law 491 = .ok (.iadd, 1) := by decide +kernel
theorem dL_law_492 : decode cL_law 492 = .ok (.iaload, 1) := by decide +kernel
theorem dL_law_493 : decode cL_law 493 = .ok (.aload_n 0, 1) := by decide +kernel
theorem dL_law_494 : decode cL_law 494 = .ok (.iload 4, 2) := by decide +kernel
theorem dL_law_496 : decode cL_law 496 = .ok (.iconst 2, 1) := by decide +kernel
theorem dL_law_497 : decode cL_law 497 = .ok (.iadd, 1) := by decide +kernel
theorem dL_law_498 : decode cL_law 498 = .ok (.iaload, 1) := by decide +kernel
theorem dL_law_499 : decode cL_law 499 = .ok (.invokevirtual 68, 3) := by decide +kernel
theorem dL_law_502 : decode cL_law 502 = .ok (.if_icmp .eq 436, 3) := by decide +kernel
theorem dL_law_505 : decode cL_law 505 = .ok (.iconst 0, 1) := by decide +kernel
theorem dL_law_506 : decode cL_law 506 = .ok (.ireturn, 1) := by decide +kernel
theorem dL_law_507 : decode cL_law 507 = .ok (.aload_n 1, 1) := by decide +kernel
theorem dL_law_508 : decode cL_law 508 = .ok (.aload_n 0, 1) := by decide +kernel
theorem dL_law_509 : decode cL_law 509 = .ok (.iload 4, 2) := by decide +kernel
theorem dL_law_511 : decode cL_law 511 = .ok (.iconst 1, 1) := by decide +kernel
theorem dL_law_512 : decode cL_law 512 = .ok (.iadd, 1) := by decide +kernel
theorem dL_law_513 : decode cL_law 513 = .ok (.iaload, 1) := by decide +kernel
theorem dL_law_514 : decode cL_law 514 = .ok (.aload_n 0, 1) := by decide +kernel
theorem dL_law_515 : decode cL_law 515 = .ok (.iload 4, 2) := by decide +kernel
theorem dL_law_517 : decode cL_law 517 = .ok (.iconst 2, 1) := by decide +kernel
theorem dL_law_518 : decode cL_law 518 = .ok (.iadd, 1) := by decide +kernel
theorem dL_law_519 : decode cL_law 519 = .ok (.iaload, 1) := by decide +kernel
theorem dL_law_520 : decode cL_law 520 = .ok (.invokevirtual 69, 3) := by decide +kernel
theorem dL_law_523 : decode cL_law 523 = .ok (.aload_n 2, 1) := by decide +kernel
theorem dL_law_524 : decode cL_law 524 = .ok (.aload_n 0, 1) := by decide +kernel
theorem dL_law_525 : decode cL_law 525 = .ok (.iload 4, 2) := by decide +kernel
theorem dL_law_527 : decode cL_law 527 = .ok (.iconst 1, 1) := by decide +kernel
theorem dL_law_528 : decode cL_law 528 = .ok (.iadd, 1) := by decide +kernel
theorem dL_law_529 : decode cL_law 529 = .ok (.iaload, 1) := by decide +kernel
theorem dL_law_530 : decode cL_law 530 = .ok (.aload_n 0, 1) := by decide +kernel
theorem dL_law_531 : decode cL_law 531 = .ok (.iload 4, 2) := by decide +kernel
theorem dL_law_533 : decode cL_law 533 = .ok (.iconst 2, 1) := by decide +kernel
theorem dL_law_534 : decode cL_law 534 = .ok (.iadd, 1) := by decide +kernel
theorem dL_law_535 : decode cL_law 535 = .ok (.iaload, 1) := by decide +kernel
theorem dL_law_536 : decode cL_law 536 = .ok (.invokevirtual 72, 3) := by decide +kernel
theorem dL_law_539 : decode cL_law 539 = .ok (.if_icmp .eq 399, 3) := by decide +kernel
theorem dL_law_542 : decode cL_law 542 = .ok (.iconst 0, 1) := by decide +kernel
theorem dL_law_543 : decode cL_law 543 = .ok (.ireturn, 1) := by decide +kernel
theorem dL_law_544 : decode cL_law 544 = .ok (.aload_n 1, 1) := by decide +kernel
theorem dL_law_545 : decode cL_law 545 = .ok (.aload_n 0, 1) := by decide +kernel
theorem dL_law_546 : decode cL_law 546 = .ok (.iload 4, 2) := by decide +kernel
theorem dL_law_548 : decode cL_law 548 = .ok (.iconst 1, 1) := by decide +kernel
theorem dL_law_549 : decode cL_law 549 = .ok (.iadd, 1) := by decide +kernel
theorem dL_law_550 : decode cL_law 550 = .ok (.iaload, 1) := by decide +kernel
theorem dL_law_551 : decode cL_law 551 = .ok (.aload_n 0, 1) := by decide +kernel
theorem dL_law_552 : decode cL_law 552 = .ok (.iload 4, 2) := by decide +kernel
theorem dL_law_554 : decode cL_law 554 = .ok (.iconst 2, 1) := by decide +kernel
theorem dL_law_555 : decode cL_law 555 = .ok (.iadd, 1) := by decide +kernel
theorem dL_law_556 : decode cL_law 556 = .ok (.iaload, 1) := by decide +kernel
theorem dL_law_557 : decode cL_law 557 = .ok (.aload_n 0, 1) := by decide +kernel
theorem dL_law_558 : decode cL_law 558 = .ok (.iload 4, 2) := by decide +kernel
theorem dL_law_560 : decode cL_law 560 = .ok (.iconst 3, 1) := by decide +kernel
theorem dL_law_561 : decode cL_law 561 = .ok (.iadd, 1) := by decide +kernel
theorem dL_law_562 : decode cL_law 562 = .ok (.iaload, 1) := by decide +kernel
theorem dL_law_563 : decode cL_law 563 = .ok (.invokevirtual 73, 3) := by decide +kernel
theorem dL_law_566 : decode cL_law 566 = .ok (.aload_n 2, 1) := by decide +kernel
theorem dL_law_567 : decode cL_law 567 = .ok (.aload_n 0, 1) := by decide +kernel
theorem dL_law_568 : decode cL_law 568 = .ok (.iload 4, 2) := by decide +kernel
theorem dL_law_570 : decode cL_law 570 = .ok (.iconst 1, 1) := by decide +kernel
theorem dL_law_571 : decode cL_law 571 = .ok (.iadd, 1) := by decide +kernel
theorem dL_law_572 : decode cL_law 572 = .ok (.iaload, 1) := by decide +kernel
theorem dL_law_573 : decode cL_law 573 = .ok (.aload_n 0, 1) := by decide +kernel
theorem dL_law_574 : decode cL_law 574 = .ok (.iload 4, 2) := by decide +kernel
theorem dL_law_576 : decode cL_law 576 = .ok (.iconst 2, 1) := by decide +kernel
theorem dL_law_577 : decode cL_law 577 = .ok (.iadd, 1) := by decide +kernel
theorem dL_law_578 : decode cL_law 578 = .ok (.iaload, 1) := by decide +kernel
theorem dL_law_579 : decode cL_law 579 = .ok (.aload_n 0, 1) := by decide +kernel
theorem dL_law_580 : decode cL_law 580 = .ok (.iload 4, 2) := by decide +kernel
theorem dL_law_582 : decode cL_law 582 = .ok (.iconst 3, 1) := by decide +kernel
theorem dL_law_583 : decode cL_law 583 = .ok (.iadd, 1) := by decide +kernel
theorem dL_law_584 : decode cL_law 584 = .ok (.iaload, 1) := by decide +kernel
theorem dL_law_585 : decode cL_law 585 = .ok (.invokevirtual 76, 3) := by decide +kernel
theorem dL_law_588 : decode cL_law 588 = .ok (.if_icmp .eq 350, 3) := by decide +kernel
theorem dL_law_591 : decode cL_law 591 = .ok (.iconst 0, 1) := by decide +kernel
theorem dL_law_592 : decode cL_law 592 = .ok (.ireturn, 1) := by decide +kernel
theorem dL_law_593 : decode cL_law 593 = .ok (.aload_n 1, 1) := by decide +kernel
theorem dL_law_594 : decode cL_law 594 = .ok (.aload_n 0, 1) := by decide +kernel
theorem dL_law_595 : decode cL_law 595 = .ok (.iload 4, 2) := by decide +kernel
theorem dL_law_597 : decode cL_law 597 = .ok (.iconst 1, 1) := by decide +kernel
theorem dL_law_598 : decode cL_law 598 = .ok (.iadd, 1) := by decide +kernel
theorem dL_law_599 : decode cL_law 599 = .ok (.iaload, 1) := by decide +kernel
theorem dL_law_600 : decode cL_law 600 = .ok (.aload_n 0, 1) := by decide +kernel
theorem dL_law_601 : decode cL_law 601 = .ok (.iload 4, 2) := by decide +kernel
theorem dL_law_603 : decode cL_law 603 = .ok (.iconst 2, 1) := by decide +kernel
theorem dL_law_604 : decode cL_law 604 = .ok (.iadd, 1) := by decide +kernel
theorem dL_law_605 : decode cL_law 605 = .ok (.iaload, 1) := by decide +kernel
theorem dL_law_606 : decode cL_law 606 = .ok (.invokevirtual 77, 3) := by decide +kernel
theorem dL_law_609 : decode cL_law 609 = .ok (.aload_n 2, 1) := by decide +kernel
theorem dL_law_610 : decode cL_law 610 = .ok (.aload_n 0, 1) := by decide +kernel
theorem dL_law_611 : decode cL_law 611 = .ok (.iload 4, 2) := by decide +kernel
theorem dL_law_613 : decode cL_law 613 = .ok (.iconst 1, 1) := by decide +kernel
theorem dL_law_614 : decode cL_law 614 = .ok (.iadd, 1) := by decide +kernel
theorem dL_law_615 : decode cL_law 615 = .ok (.iaload, 1) := by decide +kernel
theorem dL_law_616 : decode cL_law 616 = .ok (.aload_n 0, 1) := by decide +kernel
theorem dL_law_617 : decode cL_law 617 = .ok (.iload 4, 2) := by decide +kernel
theorem dL_law_619 : decode cL_law 619 = .ok (.iconst 2, 1) := by decide +kernel
theorem dL_law_620 : decode cL_law 620 = .ok (.iadd, 1) := by decide +kernel
theorem dL_law_621 : decode cL_law 621 = .ok (.iaload, 1) := by decide +kernel
theorem dL_law_622 : decode cL_law 622 = .ok (.invokevirtual 80, 3) := by decide +kernel
theorem dL_law_625 : decode cL_law 625 = .ok (.if_icmp .eq 313, 3) := by decide +kernel
theorem dL_law_628 : decode cL_law 628 = .ok (.iconst 0, 1) := by decide +kernel
theorem dL_law_629 : decode cL_law 629 = .ok (.ireturn, 1) := by decide +kernel
theorem dL_law_630 : decode cL_law 630 = .ok (.aload_n 1, 1) := by decide +kernel
theorem dL_law_631 : decode cL_law 631 = .ok (.aload_n 0, 1) := by decide +kernel
theorem dL_law_632 : decode cL_law 632 = .ok (.iload 4, 2) := by decide +kernel
theorem dL_law_634 : decode cL_law 634 = .ok (.iconst 1, 1) := by decide +kernel
theorem dL_law_635 : decode cL_law 635 = .ok (.iadd, 1) := by decide +kernel
theorem dL_law_636 : decode cL_law 636 = .ok (.iaload, 1) := by decide +kernel
theorem dL_law_637 : decode cL_law 637 = .ok (.aload_n 0, 1) := by decide +kernel
theorem dL_law_638 : decode cL_law 638 = .ok (.iload 4, 2) := by decide +kernel
theorem dL_law_640 : decode cL_law 640 = .ok (.iconst 2, 1) := by decide +kernel
theorem dL_law_641 : decode cL_law 641 = .ok (.iadd, 1) := by decide +kernel
theorem dL_law_642 : decode cL_law 642 = .ok (.iaload, 1) := by decide +kernel
theorem dL_law_643 : decode cL_law 643 = .ok (.invokevirtual 81, 3) := by decide +kernel
theorem dL_law_646 : decode cL_law 646 = .ok (.aload_n 2, 1) := by decide +kernel
theorem dL_law_647 : decode cL_law 647 = .ok (.aload_n 0, 1) := by decide +kernel
theorem dL_law_648 : decode cL_law 648 = .ok (.iload 4, 2) := by decide +kernel
theorem dL_law_650 : decode cL_law 650 = .ok (.iconst 1, 1) := by decide +kernel
theorem dL_law_651 : decode cL_law 651 = .ok (.iadd, 1) := by decide +kernel
theorem dL_law_652 : decode cL_law 652 = .ok (.iaload, 1) := by decide +kernel
theorem dL_law_653 : decode cL_law 653 = .ok (.aload_n 0, 1) := by decide +kernel
theorem dL_law_654 : decode cL_law 654 = .ok (.iload 4, 2) := by decide +kernel
theorem dL_law_656 : decode cL_law 656 = .ok (.iconst 2, 1) := by decide +kernel
theorem dL_law_657 : decode cL_law 657 = .ok (.iadd, 1) := by decide +kernel
theorem dL_law_658 : decode cL_law 658 = .ok (.iaload, 1) := by decide +kernel
theorem dL_law_659 : decode cL_law 659 = .ok (.invokevirtual 84, 3) := by decide +kernel
theorem dL_law_662 : decode cL_law 662 = .ok (.if_icmp .eq 276, 3) := by decide +kernel
theorem dL_law_665 : decode cL_law 665 = .ok (.iconst 0, 1) := by decide +kernel
theorem dL_law_666 : decode cL_law 666 = .ok (.ireturn, 1) := by decide +kernel
theorem dL_law_667 : decode cL_law 667 = .ok (.aload_n 1, 1) := by decide +kernel
theorem dL_law_668 : decode cL_law 668 = .ok (.aload_n 0, 1) := by decide +kernel
theorem dL_law_669 : decode cL_law 669 = .ok (.iload 4, 2) := by decide +kernel
theorem dL_law_671 : decode cL_law 671 = .ok (.iconst 1, 1) := by decide +kernel
theorem dL_law_672 : decode cL_law 672 = .ok (.iadd, 1) := by decide +kernel
theorem dL_law_673 : decode cL_law 673 = .ok (.iaload, 1) := by decide +kernel
theorem dL_law_674 : decode cL_law 674 = .ok (.aload_n 0, 1) := by decide +kernel
theorem dL_law_675 : decode cL_law 675 = .ok (.iload 4, 2) := by decide +kernel
theorem dL_law_677 : decode cL_law 677 = .ok (.iconst 2, 1) := by decide +kernel
theorem dL_law_678 : decode cL_law 678 = .ok (.iadd, 1) := by decide +kernel
theorem dL_law_679 : decode cL_law 679 = .ok (.iaload, 1) := by decide +kernel
theorem dL_law_680 : decode cL_law 680 = .ok (.invokevirtual 85, 3) := by decide +kernel
theorem dL_law_683 : decode cL_law 683 = .ok (.aload_n 2, 1) := by decide +kernel
theorem dL_law_684 : decode cL_law 684 = .ok (.aload_n 0, 1) := by decide +kernel
theorem dL_law_685 : decode cL_law 685 = .ok (.iload 4, 2) := by decide +kernel
theorem dL_law_687 : decode cL_law 687 = .ok (.iconst 1, 1) := by decide +kernel
theorem dL_law_688 : decode cL_law 688 = .ok (.iadd, 1) := by decide +kernel
theorem dL_law_689 : decode cL_law 689 = .ok (.iaload, 1) := by decide +kernel
theorem dL_law_690 : decode cL_law 690 = .ok (.aload_n 0, 1) := by decide +kernel
theorem dL_law_691 : decode cL_law 691 = .ok (.iload 4, 2) := by decide +kernel
theorem dL_law_693 : decode cL_law 693 = .ok (.iconst 2, 1) := by decide +kernel
theorem dL_law_694 : decode cL_law 694 = .ok (.iadd, 1) := by decide +kernel
theorem dL_law_695 : decode cL_law 695 = .ok (.iaload, 1) := by decide +kernel
theorem dL_law_696 : decode cL_law 696 = .ok (.invokevirtual 88, 3) := by decide +kernel
theorem dL_law_699 : decode cL_law 699 = .ok (.if_icmp .eq 239, 3) := by decide +kernel
theorem dL_law_702 : decode cL_law 702 = .ok (.iconst 0, 1) := by decide +kernel
theorem dL_law_703 : decode cL_law 703 = .ok (.ireturn, 1) := by decide +kernel
theorem dL_law_704 : decode cL_law 704 = .ok (.aload_n 1, 1) := by decide +kernel
theorem dL_law_705 : decode cL_law 705 = .ok (.aload_n 0, 1) := by decide +kernel
theorem dL_law_706 : decode cL_law 706 = .ok (.iload 4, 2) := by decide +kernel
theorem dL_law_708 : decode cL_law 708 = .ok (.iconst 1, 1) := by decide +kernel
theorem dL_law_709 : decode cL_law 709 = .ok (.iadd, 1) := by decide +kernel
theorem dL_law_710 : decode cL_law 710 = .ok (.iaload, 1) := by decide +kernel
theorem dL_law_711 : decode cL_law 711 = .ok (.aload_n 0, 1) := by decide +kernel
theorem dL_law_712 : decode cL_law 712 = .ok (.iload 4, 2) := by decide +kernel
theorem dL_law_714 : decode cL_law 714 = .ok (.iconst 2, 1) := by decide +kernel
theorem dL_law_715 : decode cL_law 715 = .ok (.iadd, 1) := by decide +kernel
theorem dL_law_716 : decode cL_law 716 = .ok (.iaload, 1) := by decide +kernel
theorem dL_law_717 : decode cL_law 717 = .ok (.invokevirtual 89, 3) := by decide +kernel
theorem dL_law_720 : decode cL_law 720 = .ok (.aload_n 2, 1) := by decide +kernel
theorem dL_law_721 : decode cL_law 721 = .ok (.aload_n 0, 1) := by decide +kernel
theorem dL_law_722 : decode cL_law 722 = .ok (.iload 4, 2) := by decide +kernel
theorem dL_law_724 : decode cL_law 724 = .ok (.iconst 1, 1) := by decide +kernel
theorem dL_law_725 : decode cL_law 725 = .ok (.iadd, 1) := by decide +kernel
theorem dL_law_726 : decode cL_law 726 = .ok (.iaload, 1) := by decide +kernel
theorem dL_law_727 : decode cL_law 727 = .ok (.aload_n 0, 1) := by decide +kernel
theorem dL_law_728 : decode cL_law 728 = .ok (.iload 4, 2) := by decide +kernel
theorem dL_law_730 : decode cL_law 730 = .ok (.iconst 2, 1) := by decide +kernel
theorem dL_law_731 : decode cL_law 731 = .ok (.iadd, 1) := by decide +kernel
theorem dL_law_732 : decode cL_law 732 = .ok (.iaload, 1) := by decide +kernel
theorem dL_law_733 : decode cL_law 733 = .ok (.invokevirtual 92, 3) := by decide +kernel
theorem dL_law_736 : decode cL_law 736 = .ok (.if_icmp .eq 202, 3) := by decide +kernel
theorem dL_law_739 : decode cL_law 739 = .ok (.iconst 0, 1) := by decide +kernel
theorem dL_law_740 : decode cL_law 740 = .ok (.ireturn, 1) := by decide +kernel
theorem dL_law_741 : decode cL_law 741 = .ok (.aload_n 1, 1) := by decide +kernel
theorem dL_law_742 : decode cL_law 742 = .ok (.aload_n 0, 1) := by decide +kernel
theorem dL_law_743 : decode cL_law 743 = .ok (.iload 4, 2) := by decide +kernel
theorem dL_law_745 : decode cL_law 745 = .ok (.iconst 1, 1) := by decide +kernel
theorem dL_law_746 : decode cL_law 746 = .ok (.iadd, 1) := by decide +kernel
theorem dL_law_747 : decode cL_law 747 = .ok (.iaload, 1) := by decide +kernel
theorem dL_law_748 : decode cL_law 748 = .ok (.aload_n 0, 1) := by decide +kernel
theorem dL_law_749 : decode cL_law 749 = .ok (.iload 4, 2) := by decide +kernel
theorem dL_law_751 : decode cL_law 751 = .ok (.iconst 2, 1) := by decide +kernel
theorem dL_law_752 : decode cL_law 752 = .ok (.iadd, 1) := by decide +kernel
theorem dL_law_753 : decode cL_law 753 = .ok (.iaload, 1) := by decide +kernel
theorem dL_law_754 : decode cL_law 754 = .ok (.aload_n 0, 1) := by decide +kernel
theorem dL_law_755 : decode cL_law 755 = .ok (.iload 4, 2) := by decide +kernel
theorem dL_law_757 : decode cL_law 757 = .ok (.iconst 3, 1) := by decide +kernel
theorem dL_law_758 : decode cL_law 758 = .ok (.iadd, 1) := by decide +kernel
theorem dL_law_759 : decode cL_law 759 = .ok (.iaload, 1) := by decide +kernel
theorem dL_law_760 : decode cL_law 760 = .ok (.aload_n 0, 1) := by decide +kernel
theorem dL_law_761 : decode cL_law 761 = .ok (.iload 4, 2) := by decide +kernel
theorem dL_law_763 : decode cL_law 763 = .ok (.iconst 4, 1) := by decide +kernel
theorem dL_law_764 : decode cL_law 764 = .ok (.iadd, 1) := by decide +kernel
theorem dL_law_765 : decode cL_law 765 = .ok (.iaload, 1) := by decide +kernel
theorem dL_law_766 : decode cL_law 766 = .ok (.aload_n 0, 1) := by decide +kernel
theorem dL_law_767 : decode cL_law 767 = .ok (.iload 4, 2) := by decide +kernel
theorem dL_law_769 : decode cL_law 769 = .ok (.iconst 5, 1) := by decide +kernel
theorem dL_law_770 : decode cL_law 770 = .ok (.iadd, 1) := by decide +kernel
theorem dL_law_771 : decode cL_law 771 = .ok (.iaload, 1) := by decide +kernel
theorem dL_law_772 : decode cL_law 772 = .ok (.invokevirtual 93, 3) := by decide +kernel
theorem dL_law_775 : decode cL_law 775 = .ok (.aload_n 2, 1) := by decide +kernel
theorem dL_law_776 : decode cL_law 776 = .ok (.aload_n 0, 1) := by decide +kernel
theorem dL_law_777 : decode cL_law 777 = .ok (.iload 4, 2) := by decide +kernel
theorem dL_law_779 : decode cL_law 779 = .ok (.iconst 1, 1) := by decide +kernel
theorem dL_law_780 : decode cL_law 780 = .ok (.iadd, 1) := by decide +kernel
theorem dL_law_781 : decode cL_law 781 = .ok (.iaload, 1) := by decide +kernel
theorem dL_law_782 : decode cL_law 782 = .ok (.aload_n 0, 1) := by decide +kernel
theorem dL_law_783 : decode cL_law 783 = .ok (.iload 4, 2) := by decide +kernel
theorem dL_law_785 : decode cL_law 785 = .ok (.iconst 2, 1) := by decide +kernel
theorem dL_law_786 : decode cL_law 786 = .ok (.iadd, 1) := by decide +kernel
theorem dL_law_787 : decode cL_law 787 = .ok (.iaload, 1) := by decide +kernel
theorem dL_law_788 : decode cL_law 788 = .ok (.aload_n 0, 1) := by decide +kernel
theorem dL_law_789 : decode cL_law 789 = .ok (.iload 4, 2) := by decide +kernel
theorem dL_law_791 : decode cL_law 791 = .ok (.iconst 3, 1) := by decide +kernel
theorem dL_law_792 : decode cL_law 792 = .ok (.iadd, 1) := by decide +kernel
theorem dL_law_793 : decode cL_law 793 = .ok (.iaload, 1) := by decide +kernel
theorem dL_law_794 : decode cL_law 794 = .ok (.aload_n 0, 1) := by decide +kernel
theorem dL_law_795 : decode cL_law 795 = .ok (.iload 4, 2) := by decide +kernel
theorem dL_law_797 : decode cL_law 797 = .ok (.iconst 4, 1) := by decide +kernel
theorem dL_law_798 : decode cL_law 798 = .ok (.iadd, 1) := by decide +kernel
theorem dL_law_799 : decode cL_law 799 = .ok (.iaload, 1) := by decide +kernel
theorem dL_law_800 : decode cL_law 800 = .ok (.aload_n 0, 1) := by decide +kernel
theorem dL_law_801 : decode cL_law 801 = .ok (.iload 4, 2) := by decide +kernel
theorem dL_law_803 : decode cL_law 803 = .ok (.iconst 5, 1) := by decide +kernel
theorem dL_law_804 : decode cL_law 804 = .ok (.iadd, 1) := by decide +kernel
theorem dL_law_805 : decode cL_law 805 = .ok (.iaload, 1) := by decide +kernel
theorem dL_law_806 : decode cL_law 806 = .ok (.invokevirtual 97, 3) := by decide +kernel
theorem dL_law_809 : decode cL_law 809 = .ok (.if_icmp .eq 129, 3) := by decide +kernel
theorem dL_law_812 : decode cL_law 812 = .ok (.iconst 0, 1) := by decide +kernel
theorem dL_law_813 : decode cL_law 813 = .ok (.ireturn, 1) := by decide +kernel
theorem dL_law_814 : decode cL_law 814 = .ok (.aload_n 1, 1) := by decide +kernel
theorem dL_law_815 : decode cL_law 815 = .ok (.invokevirtual 98, 3) := by decide +kernel
theorem dL_law_818 : decode cL_law 818 = .ok (.aload_n 2, 1) := by decide +kernel
theorem dL_law_819 : decode cL_law 819 = .ok (.invokevirtual 101, 3) := by decide +kernel
theorem dL_law_822 : decode cL_law 822 = .ok (.if_icmp .eq 116, 3) := by decide +kernel
theorem dL_law_825 : decode cL_law 825 = .ok (.iconst 0, 1) := by decide +kernel
theorem dL_law_826 : decode cL_law 826 = .ok (.ireturn, 1) := by decide +kernel
theorem dL_law_827 : decode cL_law 827 = .ok (.aload_n 1, 1) := by decide +kernel
theorem dL_law_828 : decode cL_law 828 = .ok (.aload_n 0, 1) := by decide +kernel
theorem dL_law_829 : decode cL_law 829 = .ok (.iload 4, 2) := by decide +kernel
theorem dL_law_831 : decode cL_law 831 = .ok (.iconst 1, 1) := by decide +kernel
theorem dL_law_832 : decode cL_law 832 = .ok (.iadd, 1) := by decide +kernel
theorem dL_law_833 : decode cL_law 833 = .ok (.iaload, 1) := by decide +kernel
theorem dL_law_834 : decode cL_law 834 = .ok (.aload_n 0, 1) := by decide +kernel
theorem dL_law_835 : decode cL_law 835 = .ok (.iload 4, 2) := by decide +kernel
theorem dL_law_837 : decode cL_law 837 = .ok (.iconst 2, 1) := by decide +kernel
theorem dL_law_838 : decode cL_law 838 = .ok (.iadd, 1) := by decide +kernel
theorem dL_law_839 : decode cL_law 839 = .ok (.iaload, 1) := by decide +kernel
theorem dL_law_840 : decode cL_law 840 = .ok (.aload_n 0, 1) := by decide +kernel
theorem dL_law_841 : decode cL_law 841 = .ok (.iload 4, 2) := by decide +kernel
theorem dL_law_843 : decode cL_law 843 = .ok (.iconst 3, 1) := by decide +kernel
theorem dL_law_844 : decode cL_law 844 = .ok (.iadd, 1) := by decide +kernel
theorem dL_law_845 : decode cL_law 845 = .ok (.iaload, 1) := by decide +kernel
theorem dL_law_846 : decode cL_law 846 = .ok (.invokevirtual 102, 3) := by decide +kernel
theorem dL_law_849 : decode cL_law 849 = .ok (.aload_n 2, 1) := by decide +kernel
theorem dL_law_850 : decode cL_law 850 = .ok (.aload_n 0, 1) := by decide +kernel
theorem dL_law_851 : decode cL_law 851 = .ok (.iload 4, 2) := by decide +kernel
theorem dL_law_853 : decode cL_law 853 = .ok (.iconst 1, 1) := by decide +kernel
theorem dL_law_854 : decode cL_law 854 = .ok (.iadd, 1) := by decide +kernel
theorem dL_law_855 : decode cL_law 855 = .ok (.iaload, 1) := by decide +kernel
theorem dL_law_856 : decode cL_law 856 = .ok (.aload_n 0, 1) := by decide +kernel
theorem dL_law_857 : decode cL_law 857 = .ok (.iload 4, 2) := by decide +kernel
theorem dL_law_859 : decode cL_law 859 = .ok (.iconst 2, 1) := by decide +kernel
theorem dL_law_860 : decode cL_law 860 = .ok (.iadd, 1) := by decide +kernel
theorem dL_law_861 : decode cL_law 861 = .ok (.iaload, 1) := by decide +kernel
theorem dL_law_862 : decode cL_law 862 = .ok (.aload_n 0, 1) := by decide +kernel
theorem dL_law_863 : decode cL_law 863 = .ok (.iload 4, 2) := by decide +kernel
theorem dL_law_865 : decode cL_law 865 = .ok (.iconst 3, 1) := by decide +kernel
theorem dL_law_866 : decode cL_law 866 = .ok (.iadd, 1) := by decide +kernel
theorem dL_law_867 : decode cL_law 867 = .ok (.iaload, 1) := by decide +kernel
theorem dL_law_868 : decode cL_law 868 = .ok (.invokevirtual 105, 3) := by decide +kernel
theorem dL_law_871 : decode cL_law 871 = .ok (.if_icmp .eq 67, 3) := by decide +kernel
theorem dL_law_874 : decode cL_law 874 = .ok (.iconst 0, 1) := by decide +kernel
theorem dL_law_875 : decode cL_law 875 = .ok (.ireturn, 1) := by decide +kernel
theorem dL_law_876 : decode cL_law 876 = .ok (.aload_n 1, 1) := by decide +kernel
theorem dL_law_877 : decode cL_law 877 = .ok (.aload_n 0, 1) := by decide +kernel
theorem dL_law_878 : decode cL_law 878 = .ok (.iload 4, 2) := by decide +kernel
theorem dL_law_880 : decode cL_law 880 = .ok (.iconst 1, 1) := by decide +kernel
theorem dL_law_881 : decode cL_law 881 = .ok (.iadd, 1) := by decide +kernel
theorem dL_law_882 : decode cL_law 882 = .ok (.iaload, 1) := by decide +kernel
theorem dL_law_883 : decode cL_law 883 = .ok (.aload_n 0, 1) := by decide +kernel
theorem dL_law_884 : decode cL_law 884 = .ok (.iload 4, 2) := by decide +kernel
theorem dL_law_886 : decode cL_law 886 = .ok (.iconst 2, 1) := by decide +kernel
theorem dL_law_887 : decode cL_law 887 = .ok (.iadd, 1) := by decide +kernel
theorem dL_law_888 : decode cL_law 888 = .ok (.iaload, 1) := by decide +kernel
theorem dL_law_889 : decode cL_law 889 = .ok (.invokevirtual 106, 3) := by decide +kernel
theorem dL_law_892 : decode cL_law 892 = .ok (.aload_n 2, 1) := by decide +kernel
theorem dL_law_893 : decode cL_law 893 = .ok (.aload_n 0, 1) := by decide +kernel
theorem dL_law_894 : decode cL_law 894 = .ok (.iload 4, 2) := by decide +kernel
theorem dL_law_896 : decode cL_law 896 = .ok (.iconst 1, 1) := by decide +kernel
theorem dL_law_897 : decode cL_law 897 = .ok (.iadd, 1) := by decide +kernel
theorem dL_law_898 : decode cL_law 898 = .ok (.iaload, 1) := by decide +kernel
theorem dL_law_899 : decode cL_law 899 = .ok (.aload_n 0, 1) := by decide +kernel
theorem dL_law_900 : decode cL_law 900 = .ok (.iload 4, 2) := by decide +kernel
theorem dL_law_902 : decode cL_law 902 = .ok (.iconst 2, 1) := by decide +kernel
theorem dL_law_903 : decode cL_law 903 = .ok (.iadd, 1) := by decide +kernel
theorem dL_law_904 : decode cL_law 904 = .ok (.iaload, 1) := by decide +kernel
theorem dL_law_905 : decode cL_law 905 = .ok (.invokevirtual 109, 3) := by decide +kernel
theorem dL_law_908 : decode cL_law 908 = .ok (.if_icmp .eq 30, 3) := by decide +kernel
theorem dL_law_911 : decode cL_law 911 = .ok (.iconst 0, 1) := by decide +kernel
theorem dL_law_912 : decode cL_law 912 = .ok (.ireturn, 1) := by decide +kernel
theorem dL_law_913 : decode cL_law 913 = .ok (.aload_n 1, 1) := by decide +kernel
theorem dL_law_914 : decode cL_law 914 = .ok (.aload_n 0, 1) := by decide +kernel
theorem dL_law_915 : decode cL_law 915 = .ok (.iload 4, 2) := by decide +kernel
theorem dL_law_917 : decode cL_law 917 = .ok (.iconst 1, 1) := by decide +kernel
theorem dL_law_918 : decode cL_law 918 = .ok (.iadd, 1) := by decide +kernel
theorem dL_law_919 : decode cL_law 919 = .ok (.iaload, 1) := by decide +kernel
theorem dL_law_920 : decode cL_law 920 = .ok (.invokevirtual 110, 3) := by decide +kernel
theorem dL_law_923 : decode cL_law 923 = .ok (.aload_n 2, 1) := by decide +kernel
theorem dL_law_924 : decode cL_law 924 = .ok (.aload_n 0, 1) := by decide +kernel
theorem dL_law_925 : decode cL_law 925 = .ok (.iload 4, 2) := by decide +kernel
theorem dL_law_927 : decode cL_law 927 = .ok (.iconst 1, 1) := by decide +kernel
theorem dL_law_928 : decode cL_law 928 = .ok (.iadd, 1) := by decide +kernel
theorem dL_law_929 : decode cL_law 929 = .ok (.iaload, 1) := by decide +kernel
theorem dL_law_930 : decode cL_law 930 = .ok (.invokevirtual 113, 3) := by decide +kernel
theorem dL_law_933 : decode cL_law 933 = .ok (.if_icmp .eq 5, 3) := by decide +kernel
theorem dL_law_936 : decode cL_law 936 = .ok (.iconst 0, 1) := by decide +kernel
theorem dL_law_937 : decode cL_law 937 = .ok (.ireturn, 1) := by decide +kernel
theorem dL_law_938 : decode cL_law 938 = .ok (.iinc 4 6, 3) := by decide +kernel
theorem dL_law_941 : decode cL_law 941 = .ok (.goto (-918), 3) := by decide +kernel
theorem dL_law_944 : decode cL_law 944 = .ok (.iconst 1, 1) := by decide +kernel
theorem dL_law_945 : decode cL_law 945 = .ok (.ireturn, 1) := by decide +kernel
end
section
abbrev lw_all : List Cond := lw_tbl.filter goodWord
theorem lw_mem {w : Cond} {i : Nat} (h : lw_tbl[i]? = some w) (g : goodWord w = true) : w ∈ lw_all := List.mem_filter.mpr ⟨List.mem_of_getElem? h, g⟩
theorem qs0 : Cond.selects RX2 yX2_inWayOfCell yX2_inWayOfCell ∈ lw_all := lw_mem (i := 0) (by decide +kernel) rfl
theorem qs1 : Cond.selects RX2 yX2_isPart yX2_isPart ∈ lw_all := lw_mem (i := 1) (by decide +kernel) rfl
theorem qs2 : Cond.selects RX2 yX2_isForPart yX2_isForPart ∈ lw_all := lw_mem (i := 2) (by decide +kernel) rfl
theorem qs3 : Cond.selects RX2 yX2_partLookedAt yX2_partLookedAt ∈ lw_all := lw_mem (i := 3) (by decide +kernel) rfl
theorem qs4 : Cond.selects RX2 yX2_takeParts yX2_takeParts ∈ lw_all := lw_mem (i := 4) (by decide +kernel) rfl
theorem qs5 : Cond.selects RX2 yX2_moveByDigit yX2_moveByDigit ∈ lw_all := lw_mem (i := 5) (by decide +kernel) rfl
theorem qs6 : Cond.selects RX2 yX2_countColumns yX2_countColumns ∈ lw_all := lw_mem (i := 6) (by decide +kernel) rfl
theorem qs7 : Cond.selects RX2 yX2_countCells yX2_countCells ∈ lw_all := lw_mem (i := 7) (by decide +kernel) rfl
theorem qs8 : Cond.selects RX2 yX2_countHeld yX2_countHeld ∈ lw_all := lw_mem (i := 8) (by decide +kernel) rfl
theorem qs11 : Cond.selects RX3 yX3_isNone yX3_isNone ∈ lw_all := lw_mem (i := 11) (by decide +kernel) rfl
theorem qs12 : Cond.selects RX3 yX3_way yX3_way ∈ lw_all := lw_mem (i := 12) (by decide +kernel) rfl
theorem qs13 : Cond.selects RX3 yX3_has yX3_has ∈ lw_all := lw_mem (i := 13) (by decide +kernel) rfl
theorem qs14 : Cond.selects RX3 yX3_telling yX3_telling ∈ lw_all := lw_mem (i := 14) (by decide +kernel) rfl
theorem qs15 : Cond.selects RX3 yX3_canBe yX3_canBe ∈ lw_all := lw_mem (i := 15) (by decide +kernel) rfl
theorem qs16 : Cond.selects RX3 yX3_takes yX3_takes ∈ lw_all := lw_mem (i := 16) (by decide +kernel) rfl
theorem qs17 : Cond.selects RX3 yX3_wayTo yX3_wayTo ∈ lw_all := lw_mem (i := 17) (by decide +kernel) rfl
theorem qs18 : Cond.selects RX3 yX3_take yX3_take ∈ lw_all := lw_mem (i := 18) (by decide +kernel) rfl
theorem q0 : Cond.initialized RL ∈ lw_all := lw_mem (i := 19) (by decide +kernel) rfl
theorem q1 : Cond.initialized RX2 ∈ lw_all := lw_mem (i := 20) (by decide +kernel) rfl
theorem q2 : Cond.initialized RX0 ∈ lw_all := lw_mem (i := 21) (by decide +kernel) rfl
theorem q3 : Cond.initialized RX1 ∈ lw_all := lw_mem (i := 22) (by decide +kernel) rfl
theorem q4 : Cond.initialized RX3 ∈ lw_all := lw_mem (i := 23) (by decide +kernel) rfl
theorem q5 : Cond.initialized RJ7 ∈ lw_all := lw_mem (i := 24) (by decide +kernel) rfl
theorem q6 : Cond.initialized "java/lang/Throwable" ∈ lw_all := lw_mem (i := 25) (by decide +kernel) rfl
theorem q7 : Cond.initialized "java/lang/Exception" ∈ lw_all := lw_mem (i := 26) (by decide +kernel) rfl
theorem q8 : Cond.initialized "java/lang/RuntimeException" ∈ lw_all := lw_mem (i := 27) (by decide +kernel) rfl
theorem q9 : Cond.initialized RJx5d777 ∈ lw_all := lw_mem (i := 28) (by decide +kernel) rfl
theorem q10 : Cond.initialized "java/lang/IndexOutOfBoundsException" ∈ lw_all := lw_mem (i := 29) (by decide +kernel) rfl
theorem q11 : Cond.initialized RJx00060 ∈ lw_all := lw_mem (i := 30) (by decide +kernel) rfl
theorem q12 : Cond.initialized RJ0 ∈ lw_all := lw_mem (i := 31) (by decide +kernel) rfl
theorem q13 : Cond.initialized RJ10 ∈ lw_all := lw_mem (i := 32) (by decide +kernel) rfl
theorem q14 : Cond.classLink RL 8 RX2 ∈ lw_all := lw_mem (i := 33) (by decide +kernel) rfl
theorem q15 : Cond.instantiable RX2 5 ∈ lw_all := lw_mem (i := 34) (by decide +kernel) rfl
theorem q16 : Cond.methodLink RL 17 yX2_init ∈ lw_all := lw_mem (i := 35) (by decide +kernel) rfl
theorem q17 : Cond.instanceMethod yX2_init ∈ lw_all := lw_mem (i := 36) (by decide +kernel) rfl
theorem q18 : Cond.code yX2_init cX2_init 2 none ∈ lw_all := lw_mem (i := 37) (by decide +kernel) rfl
theorem q19 : Cond.methodLink RX2 3 objectInit ∈ lw_all := lw_mem (i := 38) (by decide +kernel) rfl
theorem q20 : Cond.instanceMethod objectInit ∈ lw_all := lw_mem (i := 39) (by decide +kernel) rfl
theorem q21 : Cond.code objectInit object_method_1_code 1 none ∈ lw_all := lw_mem (i := 40) (by decide +kernel) rfl
theorem q22 : Cond.classLink RX2 9 RX0 ∈ lw_all := lw_mem (i := 41) (by decide +kernel) rfl
theorem q24 : Cond.classLink RX2 18 RX1 ∈ lw_all := lw_mem (i := 43) (by decide +kernel) rfl
theorem q26 : Cond.instantiable RX0 4 ∈ lw_all := lw_mem (i := 45) (by decide +kernel) rfl
theorem q28 : Cond.instanceMethod yX0_init ∈ lw_all := lw_mem (i := 47) (by decide +kernel) rfl
theorem q29 : Cond.code yX0_init cX0_init 1 none ∈ lw_all := lw_mem (i := 48) (by decide +kernel) rfl
theorem q30 : Cond.methodLink RX0 3 objectInit ∈ lw_all := lw_mem (i := 49) (by decide +kernel) rfl
theorem q31 : Cond.fieldLink RX0 9 "MappingMoves$Column" "kind" "I" ∈ lw_all := lw_mem (i := 50) (by decide +kernel) rfl
theorem q33 : Cond.fieldLink RX0 15 "MappingMoves$Column" "cells" "I" ∈ lw_all := lw_mem (i := 52) (by decide +kernel) rfl
theorem q35 : Cond.fieldLink RX0 18 "MappingMoves$Column" "wholes" "[J" ∈ lw_all := lw_mem (i := 54) (by decide +kernel) rfl
theorem q36 : Cond.fieldLink RX0 22 "MappingMoves$Column" "reals" "[D" ∈ lw_all := lw_mem (i := 55) (by decide +kernel) rfl
theorem q37 : Cond.lays RX0 "MappingMoves$Column" "kind" "I" ∈ lw_all := lw_mem (i := 56) (by decide +kernel) rfl
theorem q39 : Cond.lays RX0 "MappingMoves$Column" "cells" "I" ∈ lw_all := lw_mem (i := 58) (by decide +kernel) rfl
theorem q41 : Cond.laysFinal RX0 "MappingMoves$Column" "wholes" "[J" ∈ lw_all := lw_mem (i := 60) (by decide +kernel) rfl
theorem q43 : Cond.laysFinal RX0 "MappingMoves$Column" "reals" "[D" ∈ lw_all := lw_mem (i := 62) (by decide +kernel) rfl
theorem q46 : Cond.arrayClass .long ∈ lw_all := lw_mem (i := 65) (by decide +kernel) rfl
theorem q47 : Cond.arrayClass .double ∈ lw_all := lw_mem (i := 66) (by decide +kernel) rfl
theorem q48 : Cond.instantiable RX1 4 ∈ lw_all := lw_mem (i := 67) (by decide +kernel) rfl
theorem q50 : Cond.instanceMethod yX1_init ∈ lw_all := lw_mem (i := 69) (by decide +kernel) rfl
theorem q51 : Cond.code yX1_init cX1_init 1 none ∈ lw_all := lw_mem (i := 70) (by decide +kernel) rfl
theorem q52 : Cond.methodLink RX1 3 objectInit ∈ lw_all := lw_mem (i := 71) (by decide +kernel) rfl
theorem q53 : Cond.fieldLink RX1 9 "MappingMoves$Part" "sort" "I" ∈ lw_all := lw_mem (i := 72) (by decide +kernel) rfl
theorem q55 : Cond.fieldLink RX1 15 "MappingMoves$Part" "weight" "I" ∈ lw_all := lw_mem (i := 74) (by decide +kernel) rfl
theorem q56 : Cond.fieldLink RX1 18 "MappingMoves$Part" "laid" "I" ∈ lw_all := lw_mem (i := 75) (by decide +kernel) rfl
theorem q58 : Cond.fieldLink RX1 21 "MappingMoves$Part" "code" "I" ∈ lw_all := lw_mem (i := 77) (by decide +kernel) rfl
theorem q60 : Cond.lays RX1 "MappingMoves$Part" "sort" "I" ∈ lw_all := lw_mem (i := 79) (by decide +kernel) rfl
theorem q62 : Cond.lays RX1 "MappingMoves$Part" "weight" "I" ∈ lw_all := lw_mem (i := 81) (by decide +kernel) rfl
theorem q64 : Cond.lays RX1 "MappingMoves$Part" "laid" "I" ∈ lw_all := lw_mem (i := 83) (by decide +kernel) rfl
theorem q66 : Cond.lays RX1 "MappingMoves$Part" "code" "I" ∈ lw_all := lw_mem (i := 85) (by decide +kernel) rfl
theorem q69 : Cond.fieldLink RX2 11 "MappingMoves" "columns" "[LMappingMoves$Column;" ∈ lw_all := lw_mem (i := 88) (by decide +kernel) rfl
theorem q70 : Cond.fieldLink RX2 15 "MappingMoves" "aside" "[LMappingMoves$Column;" ∈ lw_all := lw_mem (i := 89) (by decide +kernel) rfl
theorem q71 : Cond.fieldLink RX2 20 "MappingMoves" "parts" "[LMappingMoves$Part;" ∈ lw_all := lw_mem (i := 90) (by decide +kernel) rfl
theorem q72 : Cond.fieldLink RX2 24 "MappingMoves" "partCount" "I" ∈ lw_all := lw_mem (i := 91) (by decide +kernel) rfl
theorem q73 : Cond.fieldLink RX2 28 "MappingMoves" "latestCopied" "I" ∈ lw_all := lw_mem (i := 92) (by decide +kernel) rfl
theorem q74 : Cond.laysFinal RX2 "MappingMoves" "columns" "[LMappingMoves$Column;" ∈ lw_all := lw_mem (i := 93) (by decide +kernel) rfl
theorem q76 : Cond.laysFinal RX2 "MappingMoves" "aside" "[LMappingMoves$Column;" ∈ lw_all := lw_mem (i := 95) (by decide +kernel) rfl
theorem q78 : Cond.laysFinal RX2 "MappingMoves" "parts" "[LMappingMoves$Part;" ∈ lw_all := lw_mem (i := 97) (by decide +kernel) rfl
theorem q80 : Cond.lays RX2 "MappingMoves" "partCount" "I" ∈ lw_all := lw_mem (i := 99) (by decide +kernel) rfl
theorem q82 : Cond.lays RX2 "MappingMoves" "latestCopied" "I" ∈ lw_all := lw_mem (i := 101) (by decide +kernel) rfl
theorem q85 : Cond.methodLink RL 21 yX2_make ∈ lw_all := lw_mem (i := 104) (by decide +kernel) rfl
theorem q86 : Cond.instanceMethod yX2_make ∈ lw_all := lw_mem (i := 105) (by decide +kernel) rfl
theorem q87 : Cond.selects RX2 yX2_make yX2_make ∈ lw_all := lw_mem (i := 106) (by decide +kernel) rfl
theorem q88 : Cond.code yX2_make cX2_make 4 (some .int) ∈ lw_all := lw_mem (i := 107) (by decide +kernel) rfl
theorem q89 : Cond.methodLink RX2 33 yX2_isPlace ∈ lw_all := lw_mem (i := 108) (by decide +kernel) rfl
theorem q90 : Cond.static yX2_isPlace ∈ lw_all := lw_mem (i := 109) (by decide +kernel) rfl
theorem q91 : Cond.code yX2_isPlace cX2_isPlace 1 (some .boolean) ∈ lw_all := lw_mem (i := 110) (by decide +kernel) rfl
theorem q92 : Cond.methodLink RX2 37 yX0_begin ∈ lw_all := lw_mem (i := 111) (by decide +kernel) rfl
theorem q93 : Cond.instanceMethod yX0_begin ∈ lw_all := lw_mem (i := 112) (by decide +kernel) rfl
theorem q94 : Cond.selects RX0 yX0_begin yX0_begin ∈ lw_all := lw_mem (i := 113) (by decide +kernel) rfl
theorem q95 : Cond.code yX0_begin cX0_begin 3 none ∈ lw_all := lw_mem (i := 114) (by decide +kernel) rfl
theorem q96 : Cond.methodLink RX0 30 yX0_isShelf ∈ lw_all := lw_mem (i := 115) (by decide +kernel) rfl
theorem q97 : Cond.instanceMethod yX0_isShelf ∈ lw_all := lw_mem (i := 116) (by decide +kernel) rfl
theorem q98 : Cond.selects RX0 yX0_isShelf yX0_isShelf ∈ lw_all := lw_mem (i := 117) (by decide +kernel) rfl
theorem q99 : Cond.code yX0_isShelf cX0_isShelf 1 (some .boolean) ∈ lw_all := lw_mem (i := 118) (by decide +kernel) rfl
theorem q100 : Cond.constantLong RX0 34 (-1) ∈ lw_all := lw_mem (i := 119) (by decide +kernel) rfl
theorem q101 : Cond.methodLink RX0 36 yJ7_fill_d0a16 ∈ lw_all := lw_mem (i := 120) (by decide +kernel) rfl
theorem q102 : Cond.static yJ7_fill_d0a16 ∈ lw_all := lw_mem (i := 121) (by decide +kernel) rfl
theorem q103 : Cond.code yJ7_fill_d0a16 cJ7_fill_d0a16 5 none ∈ lw_all := lw_mem (i := 122) (by decide +kernel) rfl
theorem q104 : Cond.methodLink RX0 42 yJ7_fill_7f8df ∈ lw_all := lw_mem (i := 123) (by decide +kernel) rfl
theorem q105 : Cond.static yJ7_fill_7f8df ∈ lw_all := lw_mem (i := 124) (by decide +kernel) rfl
theorem q106 : Cond.code yJ7_fill_7f8df cJ7_fill_7f8df 5 none ∈ lw_all := lw_mem (i := 125) (by decide +kernel) rfl
theorem q107 : Cond.methodLink RL 26 yX2_let ∈ lw_all := lw_mem (i := 126) (by decide +kernel) rfl
theorem q108 : Cond.instanceMethod yX2_let ∈ lw_all := lw_mem (i := 127) (by decide +kernel) rfl
theorem q109 : Cond.selects RX2 yX2_let yX2_let ∈ lw_all := lw_mem (i := 128) (by decide +kernel) rfl
theorem q110 : Cond.code yX2_let cX2_let 4 (some .int) ∈ lw_all := lw_mem (i := 129) (by decide +kernel) rfl
theorem q111 : Cond.methodLink RX2 41 yX0_isGone ∈ lw_all := lw_mem (i := 130) (by decide +kernel) rfl
theorem q112 : Cond.instanceMethod yX0_isGone ∈ lw_all := lw_mem (i := 131) (by decide +kernel) rfl
theorem q113 : Cond.selects RX0 yX0_isGone yX0_isGone ∈ lw_all := lw_mem (i := 132) (by decide +kernel) rfl
theorem q114 : Cond.code yX0_isGone cX0_isGone 1 (some .boolean) ∈ lw_all := lw_mem (i := 133) (by decide +kernel) rfl
theorem q115 : Cond.methodLink RX2 48 yX0_letGo ∈ lw_all := lw_mem (i := 134) (by decide +kernel) rfl
theorem q116 : Cond.instanceMethod yX0_letGo ∈ lw_all := lw_mem (i := 135) (by decide +kernel) rfl
theorem q117 : Cond.selects RX0 yX0_letGo yX0_letGo ∈ lw_all := lw_mem (i := 136) (by decide +kernel) rfl
theorem q118 : Cond.code yX0_letGo cX0_letGo 1 none ∈ lw_all := lw_mem (i := 137) (by decide +kernel) rfl
theorem q119 : Cond.methodLink RL 31 yX2_drop ∈ lw_all := lw_mem (i := 138) (by decide +kernel) rfl
theorem q120 : Cond.instanceMethod yX2_drop ∈ lw_all := lw_mem (i := 139) (by decide +kernel) rfl
theorem q121 : Cond.selects RX2 yX2_drop yX2_drop ∈ lw_all := lw_mem (i := 140) (by decide +kernel) rfl
theorem q122 : Cond.code yX2_drop cX2_drop 3 (some .int) ∈ lw_all := lw_mem (i := 141) (by decide +kernel) rfl
theorem q123 : Cond.methodLink RX2 51 yX0_isNone ∈ lw_all := lw_mem (i := 142) (by decide +kernel) rfl
theorem q124 : Cond.instanceMethod yX0_isNone ∈ lw_all := lw_mem (i := 143) (by decide +kernel) rfl
theorem q125 : Cond.selects RX0 yX0_isNone yX0_isNone ∈ lw_all := lw_mem (i := 144) (by decide +kernel) rfl
theorem q126 : Cond.code yX0_isNone cX0_isNone 1 (some .boolean) ∈ lw_all := lw_mem (i := 145) (by decide +kernel) rfl
theorem q127 : Cond.methodLink RX2 54 yX0_end ∈ lw_all := lw_mem (i := 146) (by decide +kernel) rfl
theorem q128 : Cond.instanceMethod yX0_end ∈ lw_all := lw_mem (i := 147) (by decide +kernel) rfl
theorem q129 : Cond.selects RX0 yX0_end yX0_end ∈ lw_all := lw_mem (i := 148) (by decide +kernel) rfl
theorem q130 : Cond.code yX0_end cX0_end 1 none ∈ lw_all := lw_mem (i := 149) (by decide +kernel) rfl
theorem q131 : Cond.methodLink RL 35 yX2_kind ∈ lw_all := lw_mem (i := 150) (by decide +kernel) rfl
theorem q132 : Cond.instanceMethod yX2_kind ∈ lw_all := lw_mem (i := 151) (by decide +kernel) rfl
theorem q133 : Cond.selects RX2 yX2_kind yX2_kind ∈ lw_all := lw_mem (i := 152) (by decide +kernel) rfl
theorem q134 : Cond.code yX2_kind cX2_kind 3 (some .int) ∈ lw_all := lw_mem (i := 153) (by decide +kernel) rfl
theorem q135 : Cond.methodLink RL 39 yX2_length ∈ lw_all := lw_mem (i := 154) (by decide +kernel) rfl
theorem q136 : Cond.instanceMethod yX2_length ∈ lw_all := lw_mem (i := 155) (by decide +kernel) rfl
theorem q137 : Cond.selects RX2 yX2_length yX2_length ∈ lw_all := lw_mem (i := 156) (by decide +kernel) rfl
theorem q138 : Cond.code yX2_length cX2_length 3 (some .int) ∈ lw_all := lw_mem (i := 157) (by decide +kernel) rfl
theorem q139 : Cond.methodLink RL 45 yX2_put ∈ lw_all := lw_mem (i := 158) (by decide +kernel) rfl
theorem q140 : Cond.instanceMethod yX2_put ∈ lw_all := lw_mem (i := 159) (by decide +kernel) rfl
theorem q141 : Cond.selects RX2 yX2_put yX2_put ∈ lw_all := lw_mem (i := 160) (by decide +kernel) rfl
theorem q142 : Cond.code yX2_put cX2_put 6 (some .int) ∈ lw_all := lw_mem (i := 161) (by decide +kernel) rfl
theorem q143 : Cond.methodLink RX2 60 yX2_inWayOfCell ∈ lw_all := lw_mem (i := 162) (by decide +kernel) rfl
theorem q145 : Cond.instanceMethod yX2_inWayOfCell ∈ lw_all := lw_mem (i := 164) (by decide +kernel) rfl
theorem q146 : Cond.code yX2_inWayOfCell cX2_inWayOfCell 5 (some .int) ∈ lw_all := lw_mem (i := 165) (by decide +kernel) rfl
theorem q147 : Cond.methodLink RX2 77 yX0_isShelf ∈ lw_all := lw_mem (i := 166) (by decide +kernel) rfl
theorem q148 : Cond.methodLink RX2 74 yX0_hasCell ∈ lw_all := lw_mem (i := 167) (by decide +kernel) rfl
theorem q149 : Cond.instanceMethod yX0_hasCell ∈ lw_all := lw_mem (i := 168) (by decide +kernel) rfl
theorem q150 : Cond.selects RX0 yX0_hasCell yX0_hasCell ∈ lw_all := lw_mem (i := 169) (by decide +kernel) rfl
theorem q151 : Cond.code yX0_hasCell cX0_hasCell 2 (some .boolean) ∈ lw_all := lw_mem (i := 170) (by decide +kernel) rfl
theorem q152 : Cond.methodLink RX2 64 yX0_setNumber ∈ lw_all := lw_mem (i := 171) (by decide +kernel) rfl
theorem q153 : Cond.instanceMethod yX0_setNumber ∈ lw_all := lw_mem (i := 172) (by decide +kernel) rfl
theorem q154 : Cond.selects RX0 yX0_setNumber yX0_setNumber ∈ lw_all := lw_mem (i := 173) (by decide +kernel) rfl
theorem q155 : Cond.code yX0_setNumber cX0_setNumber 4 none ∈ lw_all := lw_mem (i := 174) (by decide +kernel) rfl
theorem q156 : Cond.constantFloat RX0 45 (1090519040) ∈ lw_all := lw_mem (i := 175) (by decide +kernel) rfl
theorem q157 : Cond.constantDouble RX0 46 (4620693217682128896) ∈ lw_all := lw_mem (i := 176) (by decide +kernel) rfl
theorem q158 : Cond.methodLink RX0 48 yX0_lowestBits ∈ lw_all := lw_mem (i := 177) (by decide +kernel) rfl
theorem q159 : Cond.static yX0_lowestBits ∈ lw_all := lw_mem (i := 178) (by decide +kernel) rfl
theorem q160 : Cond.code yX0_lowestBits cX0_lowestBits 3 (some .long) ∈ lw_all := lw_mem (i := 179) (by decide +kernel) rfl
theorem q161 : Cond.methodLink RL 60 yX2_sum ∈ lw_all := lw_mem (i := 180) (by decide +kernel) rfl
theorem q162 : Cond.instanceMethod yX2_sum ∈ lw_all := lw_mem (i := 181) (by decide +kernel) rfl
theorem q163 : Cond.selects RX2 yX2_sum yX2_sum ∈ lw_all := lw_mem (i := 182) (by decide +kernel) rfl
theorem q164 : Cond.code yX2_sum cX2_sum 4 (some .int) ∈ lw_all := lw_mem (i := 183) (by decide +kernel) rfl
theorem q165 : Cond.methodLink RX2 88 yX2_isKindOfNumbers ∈ lw_all := lw_mem (i := 184) (by decide +kernel) rfl
theorem q166 : Cond.static yX2_isKindOfNumbers ∈ lw_all := lw_mem (i := 185) (by decide +kernel) rfl
theorem q167 : Cond.code yX2_isKindOfNumbers cX2_isKindOfNumbers 1 (some .boolean) ∈ lw_all := lw_mem (i := 186) (by decide +kernel) rfl
theorem q168 : Cond.methodLink RX2 91 yX0_total ∈ lw_all := lw_mem (i := 187) (by decide +kernel) rfl
theorem q169 : Cond.instanceMethod yX0_total ∈ lw_all := lw_mem (i := 188) (by decide +kernel) rfl
theorem q170 : Cond.selects RX0 yX0_total yX0_total ∈ lw_all := lw_mem (i := 189) (by decide +kernel) rfl
theorem q171 : Cond.code yX0_total cX0_total 3 (some .int) ∈ lw_all := lw_mem (i := 190) (by decide +kernel) rfl
theorem q172 : Cond.methodLink RX0 55 yX0_tells ∈ lw_all := lw_mem (i := 191) (by decide +kernel) rfl
theorem q173 : Cond.instanceMethod yX0_tells ∈ lw_all := lw_mem (i := 192) (by decide +kernel) rfl
theorem q174 : Cond.selects RX0 yX0_tells yX0_tells ∈ lw_all := lw_mem (i := 193) (by decide +kernel) rfl
theorem q175 : Cond.code yX0_tells cX0_tells 2 (some .long) ∈ lw_all := lw_mem (i := 194) (by decide +kernel) rfl
theorem q176 : Cond.methodLink RX0 52 yX0_isOfReals ∈ lw_all := lw_mem (i := 195) (by decide +kernel) rfl
theorem q177 : Cond.instanceMethod yX0_isOfReals ∈ lw_all := lw_mem (i := 196) (by decide +kernel) rfl
theorem q178 : Cond.selects RX0 yX0_isOfReals yX0_isOfReals ∈ lw_all := lw_mem (i := 197) (by decide +kernel) rfl
theorem q179 : Cond.code yX0_isOfReals cX0_isOfReals 1 (some .boolean) ∈ lw_all := lw_mem (i := 198) (by decide +kernel) rfl
theorem q180 : Cond.methodLink RX0 26 yX0_areReals ∈ lw_all := lw_mem (i := 199) (by decide +kernel) rfl
theorem q181 : Cond.static yX0_areReals ∈ lw_all := lw_mem (i := 200) (by decide +kernel) rfl
theorem q182 : Cond.code yX0_areReals cX0_areReals 1 (some .boolean) ∈ lw_all := lw_mem (i := 201) (by decide +kernel) rfl
theorem q183 : Cond.methodLink RL 65 yX2_turn ∈ lw_all := lw_mem (i := 202) (by decide +kernel) rfl
theorem q184 : Cond.instanceMethod yX2_turn ∈ lw_all := lw_mem (i := 203) (by decide +kernel) rfl
theorem q185 : Cond.selects RX2 yX2_turn yX2_turn ∈ lw_all := lw_mem (i := 204) (by decide +kernel) rfl
theorem q186 : Cond.code yX2_turn cX2_turn 5 (some .int) ∈ lw_all := lw_mem (i := 205) (by decide +kernel) rfl
theorem q187 : Cond.methodLink RX2 95 yX0_firstNotIn ∈ lw_all := lw_mem (i := 206) (by decide +kernel) rfl
theorem q188 : Cond.instanceMethod yX0_firstNotIn ∈ lw_all := lw_mem (i := 207) (by decide +kernel) rfl
theorem q189 : Cond.selects RX0 yX0_firstNotIn yX0_firstNotIn ∈ lw_all := lw_mem (i := 208) (by decide +kernel) rfl
theorem q190 : Cond.code yX0_firstNotIn cX0_firstNotIn 3 (some .int) ∈ lw_all := lw_mem (i := 209) (by decide +kernel) rfl
theorem q191 : Cond.methodLink RX0 59 yX0_realFits ∈ lw_all := lw_mem (i := 210) (by decide +kernel) rfl
theorem q192 : Cond.static yX0_realFits ∈ lw_all := lw_mem (i := 211) (by decide +kernel) rfl
theorem q193 : Cond.code yX0_realFits cX0_realFits 3 (some .boolean) ∈ lw_all := lw_mem (i := 212) (by decide +kernel) rfl
theorem q194 : Cond.methodLink RX0 81 yX0_isJust ∈ lw_all := lw_mem (i := 213) (by decide +kernel) rfl
theorem q195 : Cond.static yX0_isJust ∈ lw_all := lw_mem (i := 214) (by decide +kernel) rfl
theorem q196 : Cond.code yX0_isJust cX0_isJust 4 (some .boolean) ∈ lw_all := lw_mem (i := 215) (by decide +kernel) rfl
theorem q197 : Cond.constantDouble RX0 85 (4890909195324358656) ∈ lw_all := lw_mem (i := 216) (by decide +kernel) rfl
theorem q198 : Cond.methodLink RX0 63 yX0_wholeFits ∈ lw_all := lw_mem (i := 217) (by decide +kernel) rfl
theorem q199 : Cond.static yX0_wholeFits ∈ lw_all := lw_mem (i := 218) (by decide +kernel) rfl
theorem q200 : Cond.code yX0_wholeFits cX0_wholeFits 3 (some .boolean) ∈ lw_all := lw_mem (i := 219) (by decide +kernel) rfl
theorem q201 : Cond.methodLink RX2 98 yX0_becomeKind ∈ lw_all := lw_mem (i := 220) (by decide +kernel) rfl
theorem q202 : Cond.instanceMethod yX0_becomeKind ∈ lw_all := lw_mem (i := 221) (by decide +kernel) rfl
theorem q203 : Cond.selects RX0 yX0_becomeKind yX0_becomeKind ∈ lw_all := lw_mem (i := 222) (by decide +kernel) rfl
theorem q204 : Cond.code yX0_becomeKind cX0_becomeKind 4 none ∈ lw_all := lw_mem (i := 223) (by decide +kernel) rfl
theorem q205 : Cond.methodLink RL 69 yX2_part ∈ lw_all := lw_mem (i := 224) (by decide +kernel) rfl
theorem q206 : Cond.instanceMethod yX2_part ∈ lw_all := lw_mem (i := 225) (by decide +kernel) rfl
theorem q207 : Cond.selects RX2 yX2_part yX2_part ∈ lw_all := lw_mem (i := 226) (by decide +kernel) rfl
theorem q208 : Cond.code yX2_part cX2_part 4 (some .int) ∈ lw_all := lw_mem (i := 227) (by decide +kernel) rfl
theorem q209 : Cond.methodLink RX2 102 yX1_begin ∈ lw_all := lw_mem (i := 228) (by decide +kernel) rfl
theorem q210 : Cond.instanceMethod yX1_begin ∈ lw_all := lw_mem (i := 229) (by decide +kernel) rfl
theorem q211 : Cond.selects RX1 yX1_begin yX1_begin ∈ lw_all := lw_mem (i := 230) (by decide +kernel) rfl
theorem q212 : Cond.code yX1_begin cX1_begin 3 none ∈ lw_all := lw_mem (i := 231) (by decide +kernel) rfl
theorem q213 : Cond.methodLink RL 73 yX2_lay ∈ lw_all := lw_mem (i := 232) (by decide +kernel) rfl
theorem q214 : Cond.instanceMethod yX2_lay ∈ lw_all := lw_mem (i := 233) (by decide +kernel) rfl
theorem q215 : Cond.selects RX2 yX2_lay yX2_lay ∈ lw_all := lw_mem (i := 234) (by decide +kernel) rfl
theorem q216 : Cond.code yX2_lay cX2_lay 6 (some .int) ∈ lw_all := lw_mem (i := 235) (by decide +kernel) rfl
theorem q217 : Cond.methodLink RX2 103 yX2_isPart ∈ lw_all := lw_mem (i := 236) (by decide +kernel) rfl
theorem q219 : Cond.instanceMethod yX2_isPart ∈ lw_all := lw_mem (i := 238) (by decide +kernel) rfl
theorem q220 : Cond.code yX2_isPart cX2_isPart 2 (some .boolean) ∈ lw_all := lw_mem (i := 239) (by decide +kernel) rfl
theorem q221 : Cond.methodLink RX2 106 yX2_isForPart ∈ lw_all := lw_mem (i := 240) (by decide +kernel) rfl
theorem q223 : Cond.instanceMethod yX2_isForPart ∈ lw_all := lw_mem (i := 242) (by decide +kernel) rfl
theorem q224 : Cond.code yX2_isForPart cX2_isForPart 3 (some .boolean) ∈ lw_all := lw_mem (i := 243) (by decide +kernel) rfl
theorem q225 : Cond.methodLink RX2 166 yX0_isForSort ∈ lw_all := lw_mem (i := 244) (by decide +kernel) rfl
theorem q226 : Cond.instanceMethod yX0_isForSort ∈ lw_all := lw_mem (i := 245) (by decide +kernel) rfl
theorem q227 : Cond.selects RX0 yX0_isForSort yX0_isForSort ∈ lw_all := lw_mem (i := 246) (by decide +kernel) rfl
theorem q228 : Cond.code yX0_isForSort cX0_isForSort 2 (some .boolean) ∈ lw_all := lw_mem (i := 247) (by decide +kernel) rfl
theorem q229 : Cond.methodLink RX2 110 yX0_holdPart ∈ lw_all := lw_mem (i := 248) (by decide +kernel) rfl
theorem q230 : Cond.instanceMethod yX0_holdPart ∈ lw_all := lw_mem (i := 249) (by decide +kernel) rfl
theorem q231 : Cond.selects RX0 yX0_holdPart yX0_holdPart ∈ lw_all := lw_mem (i := 250) (by decide +kernel) rfl
theorem q232 : Cond.code yX0_holdPart cX0_holdPart 3 none ∈ lw_all := lw_mem (i := 251) (by decide +kernel) rfl
theorem q233 : Cond.methodLink RL 77 yX2_weigh ∈ lw_all := lw_mem (i := 252) (by decide +kernel) rfl
theorem q234 : Cond.instanceMethod yX2_weigh ∈ lw_all := lw_mem (i := 253) (by decide +kernel) rfl
theorem q235 : Cond.selects RX2 yX2_weigh yX2_weigh ∈ lw_all := lw_mem (i := 254) (by decide +kernel) rfl
theorem q236 : Cond.code yX2_weigh cX2_weigh 4 (some .int) ∈ lw_all := lw_mem (i := 255) (by decide +kernel) rfl
theorem q237 : Cond.methodLink RX2 116 yX2_partLookedAt ∈ lw_all := lw_mem (i := 256) (by decide +kernel) rfl
theorem q239 : Cond.instanceMethod yX2_partLookedAt ∈ lw_all := lw_mem (i := 258) (by decide +kernel) rfl
theorem q240 : Cond.code yX2_partLookedAt cX2_partLookedAt 5 (some .int) ∈ lw_all := lw_mem (i := 259) (by decide +kernel) rfl
theorem q241 : Cond.methodLink RX2 80 yX0_heldPart ∈ lw_all := lw_mem (i := 260) (by decide +kernel) rfl
theorem q242 : Cond.instanceMethod yX0_heldPart ∈ lw_all := lw_mem (i := 261) (by decide +kernel) rfl
theorem q243 : Cond.selects RX0 yX0_heldPart yX0_heldPart ∈ lw_all := lw_mem (i := 262) (by decide +kernel) rfl
theorem q244 : Cond.code yX0_heldPart cX0_heldPart 2 (some .int) ∈ lw_all := lw_mem (i := 263) (by decide +kernel) rfl
theorem q245 : Cond.methodLink RX2 120 yX1_weighed ∈ lw_all := lw_mem (i := 264) (by decide +kernel) rfl
theorem q246 : Cond.instanceMethod yX1_weighed ∈ lw_all := lw_mem (i := 265) (by decide +kernel) rfl
theorem q247 : Cond.selects RX1 yX1_weighed yX1_weighed ∈ lw_all := lw_mem (i := 266) (by decide +kernel) rfl
theorem q248 : Cond.code yX1_weighed cX1_weighed 1 (some .int) ∈ lw_all := lw_mem (i := 267) (by decide +kernel) rfl
theorem q249 : Cond.methodLink RL 81 yX2_rigid ∈ lw_all := lw_mem (i := 268) (by decide +kernel) rfl
theorem q250 : Cond.instanceMethod yX2_rigid ∈ lw_all := lw_mem (i := 269) (by decide +kernel) rfl
theorem q251 : Cond.selects RX2 yX2_rigid yX2_rigid ∈ lw_all := lw_mem (i := 270) (by decide +kernel) rfl
theorem q252 : Cond.code yX2_rigid cX2_rigid 5 (some .int) ∈ lw_all := lw_mem (i := 271) (by decide +kernel) rfl
theorem q253 : Cond.methodLink RL 85 yX2_fault ∈ lw_all := lw_mem (i := 272) (by decide +kernel) rfl
theorem q254 : Cond.instanceMethod yX2_fault ∈ lw_all := lw_mem (i := 273) (by decide +kernel) rfl
theorem q255 : Cond.selects RX2 yX2_fault yX2_fault ∈ lw_all := lw_mem (i := 274) (by decide +kernel) rfl
theorem q256 : Cond.code yX2_fault cX2_fault 3 (some .int) ∈ lw_all := lw_mem (i := 275) (by decide +kernel) rfl
theorem q257 : Cond.methodLink RL 89 yX2_raise ∈ lw_all := lw_mem (i := 276) (by decide +kernel) rfl
theorem q258 : Cond.instanceMethod yX2_raise ∈ lw_all := lw_mem (i := 277) (by decide +kernel) rfl
theorem q259 : Cond.selects RX2 yX2_raise yX2_raise ∈ lw_all := lw_mem (i := 278) (by decide +kernel) rfl
theorem q260 : Cond.code yX2_raise cX2_raise 5 (some .int) ∈ lw_all := lw_mem (i := 279) (by decide +kernel) rfl
theorem q261 : Cond.methodLink RL 93 yX2_copy ∈ lw_all := lw_mem (i := 280) (by decide +kernel) rfl
theorem q262 : Cond.instanceMethod yX2_copy ∈ lw_all := lw_mem (i := 281) (by decide +kernel) rfl
theorem q263 : Cond.selects RX2 yX2_copy yX2_copy ∈ lw_all := lw_mem (i := 282) (by decide +kernel) rfl
theorem q264 : Cond.code yX2_copy cX2_copy 8 (some .int) ∈ lw_all := lw_mem (i := 283) (by decide +kernel) rfl
theorem q265 : Cond.methodLink RX2 129 yX0_hasCells ∈ lw_all := lw_mem (i := 284) (by decide +kernel) rfl
theorem q266 : Cond.instanceMethod yX0_hasCells ∈ lw_all := lw_mem (i := 285) (by decide +kernel) rfl
theorem q267 : Cond.selects RX0 yX0_hasCells yX0_hasCells ∈ lw_all := lw_mem (i := 286) (by decide +kernel) rfl
theorem q268 : Cond.code yX0_hasCells cX0_hasCells 3 (some .boolean) ∈ lw_all := lw_mem (i := 287) (by decide +kernel) rfl
theorem q269 : Cond.methodLink RX2 133 yX0_takeCells ∈ lw_all := lw_mem (i := 288) (by decide +kernel) rfl
theorem q270 : Cond.instanceMethod yX0_takeCells ∈ lw_all := lw_mem (i := 289) (by decide +kernel) rfl
theorem q271 : Cond.selects RX0 yX0_takeCells yX0_takeCells ∈ lw_all := lw_mem (i := 290) (by decide +kernel) rfl
theorem q272 : Cond.code yX0_takeCells cX0_takeCells 5 none ∈ lw_all := lw_mem (i := 291) (by decide +kernel) rfl
theorem q273 : Cond.methodLink RX0 67 arraycopyName ∈ lw_all := lw_mem (i := 292) (by decide +kernel) rfl
theorem q274 : Cond.static arraycopyName ∈ lw_all := lw_mem (i := 293) (by decide +kernel) rfl
theorem q275 : Cond.native arraycopyName ∈ lw_all := lw_mem (i := 294) (by decide +kernel) rfl
theorem q276 : Cond.methodLink RX2 137 yX2_takeParts ∈ lw_all := lw_mem (i := 295) (by decide +kernel) rfl
theorem q278 : Cond.instanceMethod yX2_takeParts ∈ lw_all := lw_mem (i := 297) (by decide +kernel) rfl
theorem q279 : Cond.code yX2_takeParts cX2_takeParts 8 (some .int) ∈ lw_all := lw_mem (i := 298) (by decide +kernel) rfl
theorem q280 : Cond.methodLink RL 98 yX2_copied ∈ lw_all := lw_mem (i := 299) (by decide +kernel) rfl
theorem q281 : Cond.instanceMethod yX2_copied ∈ lw_all := lw_mem (i := 300) (by decide +kernel) rfl
theorem q282 : Cond.selects RX2 yX2_copied yX2_copied ∈ lw_all := lw_mem (i := 301) (by decide +kernel) rfl
theorem q283 : Cond.code yX2_copied cX2_copied 1 (some .int) ∈ lw_all := lw_mem (i := 302) (by decide +kernel) rfl
theorem q284 : Cond.methodLink RL 102 yX2_move ∈ lw_all := lw_mem (i := 303) (by decide +kernel) rfl
theorem q285 : Cond.instanceMethod yX2_move ∈ lw_all := lw_mem (i := 304) (by decide +kernel) rfl
theorem q286 : Cond.selects RX2 yX2_move yX2_move ∈ lw_all := lw_mem (i := 305) (by decide +kernel) rfl
theorem q287 : Cond.code yX2_move cX2_move 7 (some .int) ∈ lw_all := lw_mem (i := 306) (by decide +kernel) rfl
theorem q288 : Cond.methodLink RX2 141 yX2_isMapping ∈ lw_all := lw_mem (i := 307) (by decide +kernel) rfl
theorem q289 : Cond.static yX2_isMapping ∈ lw_all := lw_mem (i := 308) (by decide +kernel) rfl
theorem q290 : Cond.code yX2_isMapping cX2_isMapping 1 (some .boolean) ∈ lw_all := lw_mem (i := 309) (by decide +kernel) rfl
theorem q291 : Cond.constant RX2 144 (262143) ∈ lw_all := lw_mem (i := 310) (by decide +kernel) rfl
theorem q292 : Cond.methodLink RX2 145 yX0_becomeLike ∈ lw_all := lw_mem (i := 311) (by decide +kernel) rfl
theorem q293 : Cond.instanceMethod yX0_becomeLike ∈ lw_all := lw_mem (i := 312) (by decide +kernel) rfl
theorem q294 : Cond.selects RX0 yX0_becomeLike yX0_becomeLike ∈ lw_all := lw_mem (i := 313) (by decide +kernel) rfl
theorem q295 : Cond.code yX0_becomeLike cX0_becomeLike 2 none ∈ lw_all := lw_mem (i := 314) (by decide +kernel) rfl
theorem q296 : Cond.methodLink RX0 73 yX0_takeCells ∈ lw_all := lw_mem (i := 315) (by decide +kernel) rfl
theorem q297 : Cond.methodLink RX2 149 yX2_moveByDigit ∈ lw_all := lw_mem (i := 316) (by decide +kernel) rfl
theorem q299 : Cond.instanceMethod yX2_moveByDigit ∈ lw_all := lw_mem (i := 318) (by decide +kernel) rfl
theorem q300 : Cond.code yX2_moveByDigit cX2_moveByDigit 3 none ∈ lw_all := lw_mem (i := 319) (by decide +kernel) rfl
theorem q301 : Cond.methodLink RL 106 yX2_like ∈ lw_all := lw_mem (i := 320) (by decide +kernel) rfl
theorem q302 : Cond.instanceMethod yX2_like ∈ lw_all := lw_mem (i := 321) (by decide +kernel) rfl
theorem q303 : Cond.selects RX2 yX2_like yX2_like ∈ lw_all := lw_mem (i := 322) (by decide +kernel) rfl
theorem q304 : Cond.code yX2_like cX2_like 5 (some .int) ∈ lw_all := lw_mem (i := 323) (by decide +kernel) rfl
theorem q305 : Cond.methodLink RX2 153 yX0_isSameAs ∈ lw_all := lw_mem (i := 324) (by decide +kernel) rfl
theorem q306 : Cond.instanceMethod yX0_isSameAs ∈ lw_all := lw_mem (i := 325) (by decide +kernel) rfl
theorem q307 : Cond.selects RX0 yX0_isSameAs yX0_isSameAs ∈ lw_all := lw_mem (i := 326) (by decide +kernel) rfl
theorem q308 : Cond.code yX0_isSameAs cX0_isSameAs 3 (some .boolean) ∈ lw_all := lw_mem (i := 327) (by decide +kernel) rfl
theorem q309 : Cond.methodLink RL 110 yX2_told ∈ lw_all := lw_mem (i := 328) (by decide +kernel) rfl
theorem q310 : Cond.instanceMethod yX2_told ∈ lw_all := lw_mem (i := 329) (by decide +kernel) rfl
theorem q311 : Cond.selects RX2 yX2_told yX2_told ∈ lw_all := lw_mem (i := 330) (by decide +kernel) rfl
theorem q312 : Cond.code yX2_told cX2_told 2 (some .int) ∈ lw_all := lw_mem (i := 331) (by decide +kernel) rfl
theorem q313 : Cond.methodLink RX2 157 yX2_countColumns ∈ lw_all := lw_mem (i := 332) (by decide +kernel) rfl
theorem q315 : Cond.instanceMethod yX2_countColumns ∈ lw_all := lw_mem (i := 334) (by decide +kernel) rfl
theorem q316 : Cond.code yX2_countColumns cX2_countColumns 3 (some .int) ∈ lw_all := lw_mem (i := 335) (by decide +kernel) rfl
theorem q317 : Cond.methodLink RX2 160 yX2_countCells ∈ lw_all := lw_mem (i := 336) (by decide +kernel) rfl
theorem q319 : Cond.instanceMethod yX2_countCells ∈ lw_all := lw_mem (i := 338) (by decide +kernel) rfl
theorem q320 : Cond.code yX2_countCells cX2_countCells 3 (some .int) ∈ lw_all := lw_mem (i := 339) (by decide +kernel) rfl
theorem q321 : Cond.methodLink RX2 163 yX2_countHeld ∈ lw_all := lw_mem (i := 340) (by decide +kernel) rfl
theorem q323 : Cond.instanceMethod yX2_countHeld ∈ lw_all := lw_mem (i := 342) (by decide +kernel) rfl
theorem q324 : Cond.code yX2_countHeld cX2_countHeld 3 (some .int) ∈ lw_all := lw_mem (i := 343) (by decide +kernel) rfl
theorem q325 : Cond.methodLink RX2 169 yX0_countHeldHere ∈ lw_all := lw_mem (i := 344) (by decide +kernel) rfl
theorem q326 : Cond.instanceMethod yX0_countHeldHere ∈ lw_all := lw_mem (i := 345) (by decide +kernel) rfl
theorem q327 : Cond.selects RX0 yX0_countHeldHere yX0_countHeldHere ∈ lw_all := lw_mem (i := 346) (by decide +kernel) rfl
theorem q328 : Cond.code yX0_countHeldHere cX0_countHeldHere 3 (some .int) ∈ lw_all := lw_mem (i := 347) (by decide +kernel) rfl
theorem q329 : Cond.methodLink RX0 77 yX0_heldPart ∈ lw_all := lw_mem (i := 348) (by decide +kernel) rfl
theorem q330 : Cond.methodLink RL 50 yL_get ∈ lw_all := lw_mem (i := 349) (by decide +kernel) rfl
theorem q331 : Cond.static yL_get ∈ lw_all := lw_mem (i := 350) (by decide +kernel) rfl
theorem q333 : Cond.classLink RL 13 RJx5d777 ∈ lw_all := lw_mem (i := 352) (by decide +kernel) rfl
theorem q334 : Cond.instantiable RJx5d777 8 ∈ lw_all := lw_mem (i := 353) (by decide +kernel) rfl
theorem q335 : Cond.instanceMethod yJx5d777_init_da8c8 ∈ lw_all := lw_mem (i := 354) (by decide +kernel) rfl
theorem q336 : Cond.code yJx5d777_init_da8c8 cJx5d777_init_da8c8 1 none ∈ lw_all := lw_mem (i := 355) (by decide +kernel) rfl
theorem q346 : Cond.methodLink "java/lang/Throwable" 1 objectInit ∈ lw_all := lw_mem (i := 365) (by decide +kernel) rfl
theorem q347 : Cond.fieldLink "java/lang/Throwable" 13 "java/lang/Throwable" "UNASSIGNED_STACK" "[Ljava/lang/StackTraceElement;" ∈ lw_all := lw_mem (i := 366) (by decide +kernel) rfl
theorem q349 : Cond.fieldLink "java/lang/Throwable" 20 "java/lang/Throwable" "SUPPRESSED_SENTINEL" "Ljava/util/List;" ∈ lw_all := lw_mem (i := 368) (by decide +kernel) rfl
theorem q356 : Cond.instanceMethod yJx5d777_fillInStackTrace_cddbd ∈ lw_all := lw_mem (i := 375) (by decide +kernel) rfl
theorem q372 : Cond.instantiable "java/lang/Throwable" 6 ∈ lw_all := lw_mem (i := 391) (by decide +kernel) rfl
theorem q374 : Cond.fieldLink RJx5d777 10 "java/lang/NullPointerException" "extendedMessageState" "I" ∈ lw_all := lw_mem (i := 393) (by decide +kernel) rfl
theorem q375 : Cond.fieldLink RJx5d777 20 "java/lang/NullPointerException" "extendedMessage" "Ljava/lang/String;" ∈ lw_all := lw_mem (i := 394) (by decide +kernel) rfl
theorem q376 : Cond.fieldLink "java/lang/Throwable" 198 "java/lang/Throwable" "backtrace" "Ljava/lang/Object;" ∈ lw_all := lw_mem (i := 395) (by decide +kernel) rfl
theorem q377 : Cond.fieldLink "java/lang/Throwable" 31 "java/lang/Throwable" "detailMessage" "Ljava/lang/String;" ∈ lw_all := lw_mem (i := 396) (by decide +kernel) rfl
theorem q378 : Cond.fieldLink "java/lang/Throwable" 7 "java/lang/Throwable" "cause" "Ljava/lang/Throwable;" ∈ lw_all := lw_mem (i := 397) (by decide +kernel) rfl
theorem q379 : Cond.fieldLink "java/lang/Throwable" 17 "java/lang/Throwable" "stackTrace" "[Ljava/lang/StackTraceElement;" ∈ lw_all := lw_mem (i := 398) (by decide +kernel) rfl
theorem q380 : Cond.fieldLink "java/lang/Throwable" 24 "java/lang/Throwable" "suppressedExceptions" "Ljava/util/List;" ∈ lw_all := lw_mem (i := 399) (by decide +kernel) rfl
theorem q381 : Cond.lays RJx5d777 "java/lang/NullPointerException" "extendedMessageState" "I" ∈ lw_all := lw_mem (i := 400) (by decide +kernel) rfl
theorem q383 : Cond.lays RJx5d777 "java/lang/NullPointerException" "extendedMessage" "Ljava/lang/String;" ∈ lw_all := lw_mem (i := 402) (by decide +kernel) rfl
theorem q385 : Cond.lays RJx5d777 "java/lang/Throwable" "backtrace" "Ljava/lang/Object;" ∈ lw_all := lw_mem (i := 404) (by decide +kernel) rfl
theorem q387 : Cond.lays RJx5d777 "java/lang/Throwable" "detailMessage" "Ljava/lang/String;" ∈ lw_all := lw_mem (i := 406) (by decide +kernel) rfl
theorem q389 : Cond.lays RJx5d777 "java/lang/Throwable" "cause" "Ljava/lang/Throwable;" ∈ lw_all := lw_mem (i := 408) (by decide +kernel) rfl
theorem q391 : Cond.lays RJx5d777 "java/lang/Throwable" "stackTrace" "[Ljava/lang/StackTraceElement;" ∈ lw_all := lw_mem (i := 410) (by decide +kernel) rfl
theorem q393 : Cond.lays RJx5d777 "java/lang/Throwable" "depth" "I" ∈ lw_all := lw_mem (i := 412) (by decide +kernel) rfl
theorem q395 : Cond.lays RJx5d777 "java/lang/Throwable" "suppressedExceptions" "Ljava/util/List;" ∈ lw_all := lw_mem (i := 414) (by decide +kernel) rfl
theorem q405 : Cond.lays "java/lang/Throwable" "java/lang/Throwable" "cause" "Ljava/lang/Throwable;" ∈ lw_all := lw_mem (i := 424) (by decide +kernel) rfl
theorem q406 : Cond.lays "java/lang/Throwable" "java/lang/Throwable" "stackTrace" "[Ljava/lang/StackTraceElement;" ∈ lw_all := lw_mem (i := 425) (by decide +kernel) rfl
theorem q407 : Cond.lays "java/lang/Throwable" "java/lang/Throwable" "suppressedExceptions" "Ljava/util/List;" ∈ lw_all := lw_mem (i := 426) (by decide +kernel) rfl
theorem q408 : Cond.lays "java/lang/Throwable" "java/lang/Throwable" "detailMessage" "Ljava/lang/String;" ∈ lw_all := lw_mem (i := 427) (by decide +kernel) rfl
theorem q409 : Cond.lays "java/lang/Throwable" "java/lang/Throwable" "backtrace" "Ljava/lang/Object;" ∈ lw_all := lw_mem (i := 428) (by decide +kernel) rfl
theorem q410 : Cond.fieldLink "java/lang/Throwable" 198 "java/lang/Throwable" "backtrace" "Ljava/lang/Object;" ∈ lw_all := lw_mem (i := 429) (by decide +kernel) rfl
theorem q413 : Cond.classLink RL 15 RJx00060 ∈ lw_all := lw_mem (i := 432) (by decide +kernel) rfl
theorem q414 : Cond.instantiable RJx00060 6 ∈ lw_all := lw_mem (i := 433) (by decide +kernel) rfl
theorem q415 : Cond.instanceMethod yJx00060_init_a7421 ∈ lw_all := lw_mem (i := 434) (by decide +kernel) rfl
theorem q416 : Cond.code yJx00060_init_a7421 cJx00060_init_a7421 2 none ∈ lw_all := lw_mem (i := 435) (by decide +kernel) rfl
theorem q429 : Cond.lays RJx00060 "java/lang/Throwable" "backtrace" "Ljava/lang/Object;" ∈ lw_all := lw_mem (i := 448) (by decide +kernel) rfl
theorem q430 : Cond.lays RJx00060 "java/lang/Throwable" "detailMessage" "Ljava/lang/String;" ∈ lw_all := lw_mem (i := 449) (by decide +kernel) rfl
theorem q431 : Cond.lays RJx00060 "java/lang/Throwable" "cause" "Ljava/lang/Throwable;" ∈ lw_all := lw_mem (i := 450) (by decide +kernel) rfl
theorem q432 : Cond.lays RJx00060 "java/lang/Throwable" "stackTrace" "[Ljava/lang/StackTraceElement;" ∈ lw_all := lw_mem (i := 451) (by decide +kernel) rfl
theorem q433 : Cond.lays RJx00060 "java/lang/Throwable" "depth" "I" ∈ lw_all := lw_mem (i := 452) (by decide +kernel) rfl
theorem q434 : Cond.lays RJx00060 "java/lang/Throwable" "suppressedExceptions" "Ljava/util/List;" ∈ lw_all := lw_mem (i := 453) (by decide +kernel) rfl
theorem q440 : Cond.instantiable RJ0 4 ∈ lw_all := lw_mem (i := 459) (by decide +kernel) rfl
theorem q441 : Cond.arrayClass .byte ∈ lw_all := lw_mem (i := 460) (by decide +kernel) rfl
theorem q442 : Cond.laysFinal RJ0 "java/lang/String" "value" "[B" ∈ lw_all := lw_mem (i := 461) (by decide +kernel) rfl
theorem q444 : Cond.laysFinal RJ0 "java/lang/String" "coder" "B" ∈ lw_all := lw_mem (i := 463) (by decide +kernel) rfl
theorem q446 : Cond.methodLink RL 7 yX2_get ∈ lw_all := lw_mem (i := 465) (by decide +kernel) rfl
theorem q447 : Cond.instanceMethod yX2_get ∈ lw_all := lw_mem (i := 466) (by decide +kernel) rfl
theorem q448 : Cond.selects RX2 yX2_get yX2_get ∈ lw_all := lw_mem (i := 467) (by decide +kernel) rfl
theorem q449 : Cond.code yX2_get cX2_get 4 (some .long) ∈ lw_all := lw_mem (i := 468) (by decide +kernel) rfl
theorem q450 : Cond.classLink RX2 68 RJx00060 ∈ lw_all := lw_mem (i := 469) (by decide +kernel) rfl
theorem q451 : Cond.methodLink RX2 70 yJx00060_init_da8c8 ∈ lw_all := lw_mem (i := 470) (by decide +kernel) rfl
theorem q452 : Cond.instanceMethod yJx00060_init_da8c8 ∈ lw_all := lw_mem (i := 471) (by decide +kernel) rfl
theorem q453 : Cond.code yJx00060_init_da8c8 cJx00060_init_da8c8 1 none ∈ lw_all := lw_mem (i := 472) (by decide +kernel) rfl
theorem q458 : Cond.classLink RX2 71 RJx5d777 ∈ lw_all := lw_mem (i := 477) (by decide +kernel) rfl
theorem q459 : Cond.methodLink RX2 73 yJx5d777_init_da8c8 ∈ lw_all := lw_mem (i := 478) (by decide +kernel) rfl
theorem q460 : Cond.methodLink RX2 84 yX0_tells ∈ lw_all := lw_mem (i := 479) (by decide +kernel) rfl
theorem q461 : Cond.classLink RL 18 RX3 ∈ lw_all := lw_mem (i := 480) (by decide +kernel) rfl
theorem q462 : Cond.instantiable RX3 17 ∈ lw_all := lw_mem (i := 481) (by decide +kernel) rfl
theorem q463 : Cond.methodLink RL 20 yX3_init ∈ lw_all := lw_mem (i := 482) (by decide +kernel) rfl
theorem q464 : Cond.instanceMethod yX3_init ∈ lw_all := lw_mem (i := 483) (by decide +kernel) rfl
theorem q465 : Cond.code yX3_init cX3_init 2 none ∈ lw_all := lw_mem (i := 484) (by decide +kernel) rfl
theorem q466 : Cond.methodLink RX3 1 objectInit ∈ lw_all := lw_mem (i := 485) (by decide +kernel) rfl
theorem q467 : Cond.fieldLink RX3 55 "MappingMovesModel" "code" "I" ∈ lw_all := lw_mem (i := 486) (by decide +kernel) rfl
theorem q468 : Cond.fieldLink RX3 7 "MappingMovesModel" "kinds" "[I" ∈ lw_all := lw_mem (i := 487) (by decide +kernel) rfl
theorem q469 : Cond.fieldLink RX3 13 "MappingMovesModel" "counts" "[I" ∈ lw_all := lw_mem (i := 488) (by decide +kernel) rfl
theorem q470 : Cond.fieldLink RX3 16 "MappingMovesModel" "gone" "[Z" ∈ lw_all := lw_mem (i := 489) (by decide +kernel) rfl
theorem q471 : Cond.fieldLink RX3 20 "MappingMovesModel" "cells" "[J" ∈ lw_all := lw_mem (i := 490) (by decide +kernel) rfl
theorem q472 : Cond.fieldLink RX3 24 "MappingMovesModel" "reals" "[D" ∈ lw_all := lw_mem (i := 491) (by decide +kernel) rfl
theorem q473 : Cond.fieldLink RX3 28 "MappingMovesModel" "hadKinds" "[I" ∈ lw_all := lw_mem (i := 492) (by decide +kernel) rfl
theorem q474 : Cond.fieldLink RX3 31 "MappingMovesModel" "hadCounts" "[I" ∈ lw_all := lw_mem (i := 493) (by decide +kernel) rfl
theorem q475 : Cond.fieldLink RX3 34 "MappingMovesModel" "hadGone" "[Z" ∈ lw_all := lw_mem (i := 494) (by decide +kernel) rfl
theorem q476 : Cond.fieldLink RX3 37 "MappingMovesModel" "hadCells" "[J" ∈ lw_all := lw_mem (i := 495) (by decide +kernel) rfl
theorem q477 : Cond.fieldLink RX3 40 "MappingMovesModel" "hadReals" "[D" ∈ lw_all := lw_mem (i := 496) (by decide +kernel) rfl
theorem q478 : Cond.fieldLink RX3 111 "MappingMovesModel" "parts" "I" ∈ lw_all := lw_mem (i := 497) (by decide +kernel) rfl
theorem q479 : Cond.fieldLink RX3 43 "MappingMovesModel" "sorts" "[I" ∈ lw_all := lw_mem (i := 498) (by decide +kernel) rfl
theorem q480 : Cond.fieldLink RX3 46 "MappingMovesModel" "weights" "[I" ∈ lw_all := lw_mem (i := 499) (by decide +kernel) rfl
theorem q481 : Cond.fieldLink RX3 49 "MappingMovesModel" "laid" "[I" ∈ lw_all := lw_mem (i := 500) (by decide +kernel) rfl
theorem q482 : Cond.fieldLink RX3 52 "MappingMovesModel" "faults" "[I" ∈ lw_all := lw_mem (i := 501) (by decide +kernel) rfl
theorem q483 : Cond.fieldLink RX3 121 "MappingMovesModel" "copies" "I" ∈ lw_all := lw_mem (i := 502) (by decide +kernel) rfl
theorem q484 : Cond.lays RX3 "MappingMovesModel" "code" "I" ∈ lw_all := lw_mem (i := 503) (by decide +kernel) rfl
theorem q486 : Cond.laysFinal RX3 "MappingMovesModel" "kinds" "[I" ∈ lw_all := lw_mem (i := 505) (by decide +kernel) rfl
theorem q488 : Cond.laysFinal RX3 "MappingMovesModel" "counts" "[I" ∈ lw_all := lw_mem (i := 507) (by decide +kernel) rfl
theorem q490 : Cond.laysFinal RX3 "MappingMovesModel" "gone" "[Z" ∈ lw_all := lw_mem (i := 509) (by decide +kernel) rfl
theorem q492 : Cond.laysFinal RX3 "MappingMovesModel" "cells" "[J" ∈ lw_all := lw_mem (i := 511) (by decide +kernel) rfl
theorem q494 : Cond.laysFinal RX3 "MappingMovesModel" "reals" "[D" ∈ lw_all := lw_mem (i := 513) (by decide +kernel) rfl
theorem q496 : Cond.laysFinal RX3 "MappingMovesModel" "hadKinds" "[I" ∈ lw_all := lw_mem (i := 515) (by decide +kernel) rfl
theorem q498 : Cond.laysFinal RX3 "MappingMovesModel" "hadCounts" "[I" ∈ lw_all := lw_mem (i := 517) (by decide +kernel) rfl
theorem q500 : Cond.laysFinal RX3 "MappingMovesModel" "hadGone" "[Z" ∈ lw_all := lw_mem (i := 519) (by decide +kernel) rfl
theorem q502 : Cond.laysFinal RX3 "MappingMovesModel" "hadCells" "[J" ∈ lw_all := lw_mem (i := 521) (by decide +kernel) rfl
theorem q504 : Cond.laysFinal RX3 "MappingMovesModel" "hadReals" "[D" ∈ lw_all := lw_mem (i := 523) (by decide +kernel) rfl
theorem q506 : Cond.lays RX3 "MappingMovesModel" "parts" "I" ∈ lw_all := lw_mem (i := 525) (by decide +kernel) rfl
theorem q508 : Cond.laysFinal RX3 "MappingMovesModel" "sorts" "[I" ∈ lw_all := lw_mem (i := 527) (by decide +kernel) rfl
theorem q510 : Cond.laysFinal RX3 "MappingMovesModel" "weights" "[I" ∈ lw_all := lw_mem (i := 529) (by decide +kernel) rfl
theorem q512 : Cond.laysFinal RX3 "MappingMovesModel" "laid" "[I" ∈ lw_all := lw_mem (i := 531) (by decide +kernel) rfl
theorem q514 : Cond.laysFinal RX3 "MappingMovesModel" "faults" "[I" ∈ lw_all := lw_mem (i := 533) (by decide +kernel) rfl
theorem q516 : Cond.lays RX3 "MappingMovesModel" "copies" "I" ∈ lw_all := lw_mem (i := 535) (by decide +kernel) rfl
theorem q519 : Cond.arrayClass .int ∈ lw_all := lw_mem (i := 538) (by decide +kernel) rfl
theorem q520 : Cond.arrayClass .boolean ∈ lw_all := lw_mem (i := 539) (by decide +kernel) rfl
theorem q521 : Cond.methodLink RL 56 yX3_thrown ∈ lw_all := lw_mem (i := 540) (by decide +kernel) rfl
theorem q522 : Cond.instanceMethod yX3_thrown ∈ lw_all := lw_mem (i := 541) (by decide +kernel) rfl
theorem q523 : Cond.selects RX3 yX3_thrown yX3_thrown ∈ lw_all := lw_mem (i := 542) (by decide +kernel) rfl
theorem q524 : Cond.code yX3_thrown cX3_thrown 1 (some .int) ∈ lw_all := lw_mem (i := 543) (by decide +kernel) rfl
theorem q525 : Cond.methodLink RL 25 yX3_make ∈ lw_all := lw_mem (i := 544) (by decide +kernel) rfl
theorem q526 : Cond.instanceMethod yX3_make ∈ lw_all := lw_mem (i := 545) (by decide +kernel) rfl
theorem q527 : Cond.selects RX3 yX3_make yX3_make ∈ lw_all := lw_mem (i := 546) (by decide +kernel) rfl
theorem q528 : Cond.code yX3_make cX3_make 5 (some .int) ∈ lw_all := lw_mem (i := 547) (by decide +kernel) rfl
theorem q529 : Cond.methodLink RX3 63 yX3_isPlace ∈ lw_all := lw_mem (i := 548) (by decide +kernel) rfl
theorem q530 : Cond.static yX3_isPlace ∈ lw_all := lw_mem (i := 549) (by decide +kernel) rfl
theorem q531 : Cond.code yX3_isPlace cX3_isPlace 1 (some .boolean) ∈ lw_all := lw_mem (i := 550) (by decide +kernel) rfl
theorem q532 : Cond.methodLink RX3 59 yX3_in ∈ lw_all := lw_mem (i := 551) (by decide +kernel) rfl
theorem q533 : Cond.static yX3_in ∈ lw_all := lw_mem (i := 552) (by decide +kernel) rfl
theorem q534 : Cond.code yX3_in cX3_in 3 (some .boolean) ∈ lw_all := lw_mem (i := 553) (by decide +kernel) rfl
theorem q535 : Cond.constantLong RX3 67 (-1) ∈ lw_all := lw_mem (i := 554) (by decide +kernel) rfl
theorem q536 : Cond.methodLink RL 30 yX3_let ∈ lw_all := lw_mem (i := 555) (by decide +kernel) rfl
theorem q537 : Cond.instanceMethod yX3_let ∈ lw_all := lw_mem (i := 556) (by decide +kernel) rfl
theorem q538 : Cond.selects RX3 yX3_let yX3_let ∈ lw_all := lw_mem (i := 557) (by decide +kernel) rfl
theorem q539 : Cond.code yX3_let cX3_let 3 (some .int) ∈ lw_all := lw_mem (i := 558) (by decide +kernel) rfl
theorem q540 : Cond.methodLink RX3 69 yX3_isNone ∈ lw_all := lw_mem (i := 559) (by decide +kernel) rfl
theorem q542 : Cond.instanceMethod yX3_isNone ∈ lw_all := lw_mem (i := 561) (by decide +kernel) rfl
theorem q543 : Cond.code yX3_isNone cX3_isNone 2 (some .boolean) ∈ lw_all := lw_mem (i := 562) (by decide +kernel) rfl
theorem q544 : Cond.methodLink RL 34 yX3_drop ∈ lw_all := lw_mem (i := 563) (by decide +kernel) rfl
theorem q545 : Cond.instanceMethod yX3_drop ∈ lw_all := lw_mem (i := 564) (by decide +kernel) rfl
theorem q546 : Cond.selects RX3 yX3_drop yX3_drop ∈ lw_all := lw_mem (i := 565) (by decide +kernel) rfl
theorem q547 : Cond.code yX3_drop cX3_drop 3 (some .int) ∈ lw_all := lw_mem (i := 566) (by decide +kernel) rfl
theorem q548 : Cond.methodLink RL 38 yX3_kind ∈ lw_all := lw_mem (i := 567) (by decide +kernel) rfl
theorem q549 : Cond.instanceMethod yX3_kind ∈ lw_all := lw_mem (i := 568) (by decide +kernel) rfl
theorem q550 : Cond.selects RX3 yX3_kind yX3_kind ∈ lw_all := lw_mem (i := 569) (by decide +kernel) rfl
theorem q551 : Cond.code yX3_kind cX3_kind 2 (some .int) ∈ lw_all := lw_mem (i := 570) (by decide +kernel) rfl
theorem q552 : Cond.methodLink RL 42 yX3_length ∈ lw_all := lw_mem (i := 571) (by decide +kernel) rfl
theorem q553 : Cond.instanceMethod yX3_length ∈ lw_all := lw_mem (i := 572) (by decide +kernel) rfl
theorem q554 : Cond.selects RX3 yX3_length yX3_length ∈ lw_all := lw_mem (i := 573) (by decide +kernel) rfl
theorem q555 : Cond.code yX3_length cX3_length 2 (some .int) ∈ lw_all := lw_mem (i := 574) (by decide +kernel) rfl
theorem q556 : Cond.methodLink RL 49 yX3_put ∈ lw_all := lw_mem (i := 575) (by decide +kernel) rfl
theorem q557 : Cond.instanceMethod yX3_put ∈ lw_all := lw_mem (i := 576) (by decide +kernel) rfl
theorem q558 : Cond.selects RX3 yX3_put yX3_put ∈ lw_all := lw_mem (i := 577) (by decide +kernel) rfl
theorem q559 : Cond.code yX3_put cX3_put 7 (some .int) ∈ lw_all := lw_mem (i := 578) (by decide +kernel) rfl
theorem q560 : Cond.methodLink RX3 74 yX3_way ∈ lw_all := lw_mem (i := 579) (by decide +kernel) rfl
theorem q562 : Cond.instanceMethod yX3_way ∈ lw_all := lw_mem (i := 581) (by decide +kernel) rfl
theorem q563 : Cond.code yX3_way cX3_way 3 (some .int) ∈ lw_all := lw_mem (i := 582) (by decide +kernel) rfl
theorem q564 : Cond.methodLink RX3 78 yX3_has ∈ lw_all := lw_mem (i := 583) (by decide +kernel) rfl
theorem q566 : Cond.instanceMethod yX3_has ∈ lw_all := lw_mem (i := 585) (by decide +kernel) rfl
theorem q567 : Cond.code yX3_has cX3_has 3 (some .boolean) ∈ lw_all := lw_mem (i := 586) (by decide +kernel) rfl
theorem q568 : Cond.constantFloat RX3 82 (1090519040) ∈ lw_all := lw_mem (i := 587) (by decide +kernel) rfl
theorem q569 : Cond.constantDouble RX3 83 (4620693217682128896) ∈ lw_all := lw_mem (i := 588) (by decide +kernel) rfl
theorem q570 : Cond.methodLink RX3 85 yX3_low ∈ lw_all := lw_mem (i := 589) (by decide +kernel) rfl
theorem q571 : Cond.static yX3_low ∈ lw_all := lw_mem (i := 590) (by decide +kernel) rfl
theorem q572 : Cond.code yX3_low cX3_low 3 (some .long) ∈ lw_all := lw_mem (i := 591) (by decide +kernel) rfl
theorem q573 : Cond.constantLong RX3 72 (65535) ∈ lw_all := lw_mem (i := 592) (by decide +kernel) rfl
theorem q574 : Cond.methodLink RL 55 yX3_get ∈ lw_all := lw_mem (i := 593) (by decide +kernel) rfl
theorem q575 : Cond.instanceMethod yX3_get ∈ lw_all := lw_mem (i := 594) (by decide +kernel) rfl
theorem q576 : Cond.selects RX3 yX3_get yX3_get ∈ lw_all := lw_mem (i := 595) (by decide +kernel) rfl
theorem q577 : Cond.code yX3_get cX3_get 3 (some .long) ∈ lw_all := lw_mem (i := 596) (by decide +kernel) rfl
theorem q578 : Cond.methodLink RX3 89 yX3_telling ∈ lw_all := lw_mem (i := 597) (by decide +kernel) rfl
theorem q580 : Cond.instanceMethod yX3_telling ∈ lw_all := lw_mem (i := 599) (by decide +kernel) rfl
theorem q581 : Cond.code yX3_telling cX3_telling 4 (some .long) ∈ lw_all := lw_mem (i := 600) (by decide +kernel) rfl
theorem q582 : Cond.methodLink RL 64 yX3_sum ∈ lw_all := lw_mem (i := 601) (by decide +kernel) rfl
theorem q583 : Cond.instanceMethod yX3_sum ∈ lw_all := lw_mem (i := 602) (by decide +kernel) rfl
theorem q584 : Cond.selects RX3 yX3_sum yX3_sum ∈ lw_all := lw_mem (i := 603) (by decide +kernel) rfl
theorem q585 : Cond.code yX3_sum cX3_sum 5 (some .int) ∈ lw_all := lw_mem (i := 604) (by decide +kernel) rfl
theorem q586 : Cond.methodLink RL 68 yX3_turn ∈ lw_all := lw_mem (i := 605) (by decide +kernel) rfl
theorem q587 : Cond.instanceMethod yX3_turn ∈ lw_all := lw_mem (i := 606) (by decide +kernel) rfl
theorem q588 : Cond.selects RX3 yX3_turn yX3_turn ∈ lw_all := lw_mem (i := 607) (by decide +kernel) rfl
theorem q589 : Cond.code yX3_turn cX3_turn 7 (some .int) ∈ lw_all := lw_mem (i := 608) (by decide +kernel) rfl
theorem q590 : Cond.methodLink RX3 108 yX3_canBe ∈ lw_all := lw_mem (i := 609) (by decide +kernel) rfl
theorem q592 : Cond.instanceMethod yX3_canBe ∈ lw_all := lw_mem (i := 611) (by decide +kernel) rfl
theorem q593 : Cond.code yX3_canBe cX3_canBe 8 (some .boolean) ∈ lw_all := lw_mem (i := 612) (by decide +kernel) rfl
theorem q594 : Cond.methodLink RX3 97 yX3_isWhole ∈ lw_all := lw_mem (i := 613) (by decide +kernel) rfl
theorem q595 : Cond.static yX3_isWhole ∈ lw_all := lw_mem (i := 614) (by decide +kernel) rfl
theorem q596 : Cond.code yX3_isWhole cX3_isWhole 1 (some .boolean) ∈ lw_all := lw_mem (i := 615) (by decide +kernel) rfl
theorem q597 : Cond.methodLink RX3 100 yX3_fits ∈ lw_all := lw_mem (i := 616) (by decide +kernel) rfl
theorem q598 : Cond.static yX3_fits ∈ lw_all := lw_mem (i := 617) (by decide +kernel) rfl
theorem q599 : Cond.code yX3_fits cX3_fits 3 (some .boolean) ∈ lw_all := lw_mem (i := 618) (by decide +kernel) rfl
theorem q600 : Cond.methodLink RX3 104 yX3_isInLongs ∈ lw_all := lw_mem (i := 619) (by decide +kernel) rfl
theorem q601 : Cond.static yX3_isInLongs ∈ lw_all := lw_mem (i := 620) (by decide +kernel) rfl
theorem q602 : Cond.code yX3_isInLongs cX3_isInLongs 2 (some .boolean) ∈ lw_all := lw_mem (i := 621) (by decide +kernel) rfl
theorem q603 : Cond.constantDouble RX3 93 (14114281232179134464) ∈ lw_all := lw_mem (i := 622) (by decide +kernel) rfl
theorem q604 : Cond.constantDouble RX3 95 (4890909195324358656) ∈ lw_all := lw_mem (i := 623) (by decide +kernel) rfl
theorem q605 : Cond.methodLink RL 72 yX3_part ∈ lw_all := lw_mem (i := 624) (by decide +kernel) rfl
theorem q606 : Cond.instanceMethod yX3_part ∈ lw_all := lw_mem (i := 625) (by decide +kernel) rfl
theorem q607 : Cond.selects RX3 yX3_part yX3_part ∈ lw_all := lw_mem (i := 626) (by decide +kernel) rfl
theorem q608 : Cond.code yX3_part cX3_part 3 (some .int) ∈ lw_all := lw_mem (i := 627) (by decide +kernel) rfl
theorem q609 : Cond.methodLink RL 76 yX3_lay ∈ lw_all := lw_mem (i := 628) (by decide +kernel) rfl
theorem q610 : Cond.instanceMethod yX3_lay ∈ lw_all := lw_mem (i := 629) (by decide +kernel) rfl
theorem q611 : Cond.selects RX3 yX3_lay yX3_lay ∈ lw_all := lw_mem (i := 630) (by decide +kernel) rfl
theorem q612 : Cond.code yX3_lay cX3_lay 5 (some .int) ∈ lw_all := lw_mem (i := 631) (by decide +kernel) rfl
theorem q613 : Cond.methodLink RX3 114 yX3_takes ∈ lw_all := lw_mem (i := 632) (by decide +kernel) rfl
theorem q615 : Cond.instanceMethod yX3_takes ∈ lw_all := lw_mem (i := 634) (by decide +kernel) rfl
theorem q616 : Cond.code yX3_takes cX3_takes 4 (some .boolean) ∈ lw_all := lw_mem (i := 635) (by decide +kernel) rfl
theorem q617 : Cond.methodLink RL 80 yX3_weigh ∈ lw_all := lw_mem (i := 636) (by decide +kernel) rfl
theorem q618 : Cond.instanceMethod yX3_weigh ∈ lw_all := lw_mem (i := 637) (by decide +kernel) rfl
theorem q619 : Cond.selects RX3 yX3_weigh yX3_weigh ∈ lw_all := lw_mem (i := 638) (by decide +kernel) rfl
theorem q620 : Cond.code yX3_weigh cX3_weigh 5 (some .int) ∈ lw_all := lw_mem (i := 639) (by decide +kernel) rfl
theorem q621 : Cond.methodLink RX3 117 yX3_wayTo ∈ lw_all := lw_mem (i := 640) (by decide +kernel) rfl
theorem q623 : Cond.instanceMethod yX3_wayTo ∈ lw_all := lw_mem (i := 642) (by decide +kernel) rfl
theorem q624 : Cond.code yX3_wayTo cX3_wayTo 4 (some .int) ∈ lw_all := lw_mem (i := 643) (by decide +kernel) rfl
theorem q625 : Cond.methodLink RL 84 yX3_rigid ∈ lw_all := lw_mem (i := 644) (by decide +kernel) rfl
theorem q626 : Cond.instanceMethod yX3_rigid ∈ lw_all := lw_mem (i := 645) (by decide +kernel) rfl
theorem q627 : Cond.selects RX3 yX3_rigid yX3_rigid ∈ lw_all := lw_mem (i := 646) (by decide +kernel) rfl
theorem q628 : Cond.code yX3_rigid cX3_rigid 5 (some .int) ∈ lw_all := lw_mem (i := 647) (by decide +kernel) rfl
theorem q629 : Cond.methodLink RL 88 yX3_fault ∈ lw_all := lw_mem (i := 648) (by decide +kernel) rfl
theorem q630 : Cond.instanceMethod yX3_fault ∈ lw_all := lw_mem (i := 649) (by decide +kernel) rfl
theorem q631 : Cond.selects RX3 yX3_fault yX3_fault ∈ lw_all := lw_mem (i := 650) (by decide +kernel) rfl
theorem q632 : Cond.code yX3_fault cX3_fault 3 (some .int) ∈ lw_all := lw_mem (i := 651) (by decide +kernel) rfl
theorem q633 : Cond.methodLink RL 92 yX3_raise ∈ lw_all := lw_mem (i := 652) (by decide +kernel) rfl
theorem q634 : Cond.instanceMethod yX3_raise ∈ lw_all := lw_mem (i := 653) (by decide +kernel) rfl
theorem q635 : Cond.selects RX3 yX3_raise yX3_raise ∈ lw_all := lw_mem (i := 654) (by decide +kernel) rfl
theorem q636 : Cond.code yX3_raise cX3_raise 5 (some .int) ∈ lw_all := lw_mem (i := 655) (by decide +kernel) rfl
theorem q637 : Cond.methodLink RL 97 yX3_copy ∈ lw_all := lw_mem (i := 656) (by decide +kernel) rfl
theorem q638 : Cond.instanceMethod yX3_copy ∈ lw_all := lw_mem (i := 657) (by decide +kernel) rfl
theorem q639 : Cond.selects RX3 yX3_copy yX3_copy ∈ lw_all := lw_mem (i := 658) (by decide +kernel) rfl
theorem q640 : Cond.code yX3_copy cX3_copy 12 (some .int) ∈ lw_all := lw_mem (i := 659) (by decide +kernel) rfl
theorem q641 : Cond.methodLink RX3 124 yX3_reaches ∈ lw_all := lw_mem (i := 660) (by decide +kernel) rfl
theorem q642 : Cond.static yX3_reaches ∈ lw_all := lw_mem (i := 661) (by decide +kernel) rfl
theorem q643 : Cond.code yX3_reaches cX3_reaches 3 (some .boolean) ∈ lw_all := lw_mem (i := 662) (by decide +kernel) rfl
theorem q644 : Cond.methodLink RL 101 yX3_copied ∈ lw_all := lw_mem (i := 663) (by decide +kernel) rfl
theorem q645 : Cond.instanceMethod yX3_copied ∈ lw_all := lw_mem (i := 664) (by decide +kernel) rfl
theorem q646 : Cond.selects RX3 yX3_copied yX3_copied ∈ lw_all := lw_mem (i := 665) (by decide +kernel) rfl
theorem q647 : Cond.code yX3_copied cX3_copied 1 (some .int) ∈ lw_all := lw_mem (i := 666) (by decide +kernel) rfl
theorem q648 : Cond.methodLink RL 105 yX3_move ∈ lw_all := lw_mem (i := 667) (by decide +kernel) rfl
theorem q649 : Cond.instanceMethod yX3_move ∈ lw_all := lw_mem (i := 668) (by decide +kernel) rfl
theorem q650 : Cond.selects RX3 yX3_move yX3_move ∈ lw_all := lw_mem (i := 669) (by decide +kernel) rfl
theorem q651 : Cond.code yX3_move cX3_move 8 (some .int) ∈ lw_all := lw_mem (i := 670) (by decide +kernel) rfl
theorem q652 : Cond.constant RX3 127 (262143) ∈ lw_all := lw_mem (i := 671) (by decide +kernel) rfl
theorem q653 : Cond.methodLink RX3 128 yX3_take ∈ lw_all := lw_mem (i := 672) (by decide +kernel) rfl
theorem q655 : Cond.instanceMethod yX3_take ∈ lw_all := lw_mem (i := 674) (by decide +kernel) rfl
theorem q656 : Cond.code yX3_take cX3_take 4 none ∈ lw_all := lw_mem (i := 675) (by decide +kernel) rfl
theorem q657 : Cond.methodLink RL 109 yX3_like ∈ lw_all := lw_mem (i := 676) (by decide +kernel) rfl
theorem q658 : Cond.instanceMethod yX3_like ∈ lw_all := lw_mem (i := 677) (by decide +kernel) rfl
theorem q659 : Cond.selects RX3 yX3_like yX3_like ∈ lw_all := lw_mem (i := 678) (by decide +kernel) rfl
theorem q660 : Cond.code yX3_like cX3_like 6 (some .int) ∈ lw_all := lw_mem (i := 679) (by decide +kernel) rfl
theorem q661 : Cond.methodLink RL 113 yX3_told ∈ lw_all := lw_mem (i := 680) (by decide +kernel) rfl
theorem q662 : Cond.instanceMethod yX3_told ∈ lw_all := lw_mem (i := 681) (by decide +kernel) rfl
theorem q663 : Cond.selects RX3 yX3_told yX3_told ∈ lw_all := lw_mem (i := 682) (by decide +kernel) rfl
theorem q664 : Cond.code yX3_told cX3_told 7 (some .int) ∈ lw_all := lw_mem (i := 683) (by decide +kernel) rfl
theorem q665 : Cond.constantLong RL 43 (4294967295) ∈ lw_all := lw_mem (i := 684) (by decide +kernel) rfl
end
section
/-! ===== THE PURE MACHINE: values (references by kind and number), rows of numbers by kind, number and place ===== -/
abbrev AV : Type := Value ⊕ (Nat × Nat)
abbrev MM : Type := (Nat → Nat → Nat → Int32) × (Nat → Nat → Nat → Int64) × (Nat → Nat → Nat → UInt64)
abbrev LV : Type := List (Nat × AV)
abbrev PT : Type := LV → List AV → MM → Prop
abbrev SP : Type := List AV → MM → (Option AV → MM → Prop) → Prop
def cv (G : Nat → Nat → Nat) : AV → Value
  | .inl v => v
  | .inr q => .ref (G q.1 q.2)
def sI (M : MM) (t i k : Nat) (v : Int32) : MM := (fun t' i' k' => if t' = t ∧ i' = i ∧ k' = k then v else M.1 t' i' k', M.2)
def sL (M : MM) (t i k : Nat) (v : Int64) : MM := (M.1, fun t' i' k' => if t' = t ∧ i' = i ∧ k' = k then v else M.2.1 t' i' k', M.2.2)
def sD (M : MM) (t i k : Nat) (v : UInt64) : MM := (M.1, M.2.1, fun t' i' k' => if t' = t ∧ i' = i ∧ k' = k then v else M.2.2 t' i' k')
/-- a whole row of longs, of doubles -/
def rL (M : MM) (t i : Nat) (f : Nat → Int64) : MM := (M.1, fun t' i' => if t' = t ∧ i' = i then f else M.2.1 t' i', M.2.2)
def rD (M : MM) (t i : Nat) (f : Nat → UInt64) : MM := (M.1, M.2.1, fun t' i' => if t' = t ∧ i' = i then f else M.2.2 t' i')
/-- how many there are of each kind of cell; where they stand in the world's list -/
def tCnt : Nat → Nat
  | 0 => 1 | 1 => 1 | 2 => 1 | 3 => 1 | 4 => 30 | 5 => 40 | 6 => 30 | 7 => 30 | 8 => 1 | 9 => 1 | 10 => 1 | 11 => 1 | 12 => 1 | 13 => 1 | 14 => 1 | 15 => 1 | 16 => 1 | 17 => 1 | 18 => 1 | 19 => 1 | 20 => 1 | 21 => 1 | 22 => 1 | 23 => 1 | _ => 0
def tOff : Nat → Nat
  | 0 => 0 | 1 => 1 | 2 => 2 | 3 => 3 | 4 => 4 | 5 => 34 | 6 => 74 | 7 => 104 | n => 126 + n
def tTag (n : Nat) : Nat := if n < 4 then n else if n < 34 then 4 else if n < 74 then 5 else if n < 104 then 6 else if n < 134 then 7 else n - 126
def tIdx (n : Nat) : Nat := if n < 4 then 0 else if n < 34 then n - 4 else if n < 74 then n - 34 else if n < 104 then n - 74 else if n < 134 then n - 104 else 0
/-- arrays: 0 ints, 1 booleans, 2 longs, 3 doubles, 4 columns, 5 parts; their lengths -/
def aK : Nat → Nat
  | 1 => 4 | 2 => 4 | 3 => 5 | 6 => 2 | 7 => 3 | 9 => 0 | 10 => 0 | 11 => 1 | 12 => 2 | 13 => 3 | 14 => 0 | 15 => 0 | 16 => 1 | 17 => 2 | 18 => 3 | 19 => 0 | 20 => 0 | 21 => 0 | 22 => 0 | 23 => 2 | _ => 9
def aN : Nat → Nat
  | 1 => 24 | 2 => 6 | 3 => 40 | 6 => 40 | 7 => 40 | 9 => 24 | 10 => 24 | 11 => 24 | 12 => 960 | 13 => 960 | 14 => 6 | 15 => 6 | 16 => 6 | 17 => 240 | 18 => 240 | 19 => 40 | 20 => 40 | 21 => 40 | 22 => 40 | 23 => 1 | _ => 0
/-- what an array of references holds: kind and number -/
def aR : Nat → Nat → Nat × Nat
  | 1, j => (4, j) | 2, j => (4, 24 + j) | 3, j => (5, j) | _, _ => (0, 0)
abbrev mcl : List vw_C := [(RX0, TX0, 4), (RX1, TX1, 4), (RX2, TX2, 5), (RX3, TX3, 17)]
abbrev tys (cy : Nat → ClassId) : List (ClassId × FieldType) := [(cy 0, .int), (cy 1, .boolean), (cy 2, .long), (cy 3, .double), (cy 4, .object "MappingMoves$Column"), (cy 5, .object "MappingMoves$Part")]
/-- a cell by its kind and number, its own rows of numbers -/
def cR (G : Nat → Nat → Nat) (cy : Nat → ClassId) (t i : Nat) (f : Nat → Int32) (g : Nat → Int64) (h : Nat → UInt64) : va_E :=
  if t = 0 then .inr (2, [.ref (G 1 0), .ref (G 2 0), .ref (G 3 0), .int (f 3), .int (f 4)])
  else if t = 4 then .inr (0, [.int (f 0), .int (f 1), .ref (G 6 i), .ref (G 7 i)])
  else if t = 5 then .inr (1, [.int (f 0), .int (f 1), .int (f 2), .int (f 3)])
  else if t = 8 then .inr (3, [.int (f 0), .ref (G 9 0), .ref (G 10 0), .ref (G 11 0), .ref (G 12 0), .ref (G 13 0), .ref (G 14 0), .ref (G 15 0), .ref (G 16 0), .ref (G 17 0), .ref (G 18 0), .int (f 11), .ref (G 19 0), .ref (G 20 0), .ref (G 21 0), .ref (G 22 0), .int (f 16)])
  else if aK t = 0 then .inl (cy 0, aN t, .inl f)
  else if aK t = 1 then .inl (cy 1, aN t, .inl f)
  else if aK t = 2 then .inl (cy 2, aN t, .inr (.inl g))
  else if aK t = 3 then .inl (cy 3, aN t, .inr (.inr (.inr (.inl h))))
  else .inl (cy (aK t), aN t, .inr (.inr (.inr (.inr (fun j => some (G (aR t j).1 (aR t j).2))))))
abbrev cE (G : Nat → Nat → Nat) (cy : Nat → ClassId) (M : MM) (t i : Nat) : va_E := cR G cy t i (M.1 t i) (M.2.1 t i) (M.2.2 t i)
def wl (G : Nat → Nat → Nat) (cy : Nat → ClassId) (M : MM) : va_W := (List.range 150).map (fun n => (G (tTag n) (tIdx n), cE G cy M (tTag n) (tIdx n)))
/-- the references apart -/
def GJ (G : Nat → Nat → Nat) : Prop := ∀ t i t' i', i < tCnt t → i' < tCnt t' → G t i = G t' i' → t = t' ∧ i = i'
def AW (G : Nat → Nat → Nat) : Nat → Prop := fun q => ∃ t i, i < tCnt t ∧ q = G t i
def GD (A : Nat → Prop) (G : Nat → Nat → Nat) : Prop := GJ G ∧ ∀ t i, i < tCnt t → A (G t i)
theorem tPos : ∀ t, t < 24 → ∀ i, i < tCnt t → tTag (tOff t + i) = t ∧ tIdx (tOff t + i) = i ∧ tOff t + i < 150 := by decide +kernel
theorem tBack : ∀ n, n < 150 → tIdx n < tCnt (tTag n) ∧ tOff (tTag n) + tIdx n = n := by decide +kernel
theorem tLt {t i : Nat} (h : i < tCnt t) : t < 24 := by
  rcases Nat.lt_or_ge t 24 with q | q
  · exact q
  · exfalso
    have : tCnt t = 0 := by
      unfold tCnt
      split <;> first | rfl | omega
    omega
theorem wl_at {G : Nat → Nat → Nat} {cy : Nat → ClassId} {M : MM} {t i : Nat} (h : i < tCnt t) : (wl G cy M)[tOff t + i]? = some (G t i, cR G cy t i (M.1 t i) (M.2.1 t i) (M.2.2 t i)) := by
  obtain ⟨h1, h2, h3⟩ := tPos t (tLt h) i h
  unfold wl
  rw [List.getElem?_map, List.getElem?_range h3, Option.map_some, h1, h2]
theorem wl_in {G : Nat → Nat → Nat} {cy : Nat → ClassId} {M : MM} {n : Nat} {q : Nat × va_E} (h : (wl G cy M)[n]? = some q) : n < 150 ∧ q = (G (tTag n) (tIdx n), cE G cy M (tTag n) (tIdx n)) := by
  unfold wl at h
  rw [List.getElem?_map] at h
  rcases Nat.lt_or_ge n 150 with hn | hn
  · rw [List.getElem?_range hn, Option.map_some] at h
    exact ⟨hn, (Option.some.inj h).symm⟩
  · rw [List.getElem?_eq_none (by simpa using hn)] at h
    cases h
theorem wl_D {A : Nat → Prop} {G : Nat → Nat → Nat} (hG : GD A G) (cy : Nat → ClassId) (M : MM) : va_D A (wl G cy M) := by
  refine ⟨fun i j p q hi hj hpq => ?_, fun k q hk => ?_⟩
  · obtain ⟨i1, rfl⟩ := wl_in hi
    obtain ⟨j1, rfl⟩ := wl_in hj
    obtain ⟨a1, a2⟩ := tBack i i1
    obtain ⟨b1, b2⟩ := tBack j j1
    obtain ⟨e1, e2⟩ := hG.1 _ _ _ _ a1 b1 hpq
    rw [← a2, ← b2, e1, e2]
  · obtain ⟨k1, rfl⟩ := wl_in hk
    exact hG.2 _ _ (tBack k k1).1
/-- one cell's rows have changed: that cell of the list -/
theorem wl_set {G : Nat → Nat → Nat} {cy : Nat → ClassId} {M M' : MM} {t i : Nat} {e : va_E} (h : i < tCnt t) (he : cE G cy M' t i = e) (hI : ∀ t' i', ¬ (t' = t ∧ i' = i) → M'.1 t' i' = M.1 t' i') (hL : ∀ t' i', ¬ (t' = t ∧ i' = i) → M'.2.1 t' i' = M.2.1 t' i') (hD : ∀ t' i', ¬ (t' = t ∧ i' = i) → M'.2.2 t' i' = M.2.2 t' i') : (wl G cy M).set (tOff t + i) (G t i, e) = wl G cy M' := by
  subst he
  obtain ⟨h1, h2, h3⟩ := tPos t (tLt h) i h
  refine List.ext_getElem? fun n => ?_
  rw [List.getElem?_set]
  by_cases e : tOff t + i = n
  · rw [if_pos e, if_pos (by simp [wl]; omega), ← e, wl_at h]
  · rw [if_neg e]
    unfold wl
    rw [List.getElem?_map, List.getElem?_map]
    rcases Nat.lt_or_ge n 150 with hn | hn
    · rw [List.getElem?_range hn, Option.map_some, Option.map_some]
      have hne : ¬ (tTag n = t ∧ tIdx n = i) := fun q => e (by rw [← (tBack n hn).2, q.1, q.2])
      rw [show cE G cy M (tTag n) (tIdx n) = cE G cy M' (tTag n) (tIdx n) by unfold cE; rw [hI _ _ hne, hL _ _ hne, hD _ _ hne]]
    · rw [List.getElem?_eq_none (by simpa using hn)]
      rfl
/-- the words of private members of nest mates, as the methods of MappingMoves use them -/
abbrev nwL : List Cond := [.fieldLinkNest RX2 57 "MappingMoves$Column" "kind" "I" "MappingMoves", .fieldLinkNest RX2 45 "MappingMoves$Column" "cells" "I" "MappingMoves", .fieldLinkNest RX2 123 "MappingMoves$Part" "sort" "I" "MappingMoves", .fieldLinkNest RX2 113 "MappingMoves$Part" "laid" "I" "MappingMoves", .fieldLinkNest RX2 126 "MappingMoves$Part" "code" "I" "MappingMoves"]
def NW (U : State) : Prop := ∀ w ∈ nwL, va_Nw w U
theorem nwL_tab : ∀ w ∈ nwL, w.onTables = true := by decide +kernel
theorem NW.same {u U : State} (h : u.vm = U.vm) (hN : NW u) : NW U := fun w hw => va_Nw.same (nwL_tab w hw) h (hN w hw)
theorem NW.warm {u U : State} (h : u.WarmedH U.vm) (hN : NW u) : NW U := fun w hw => by
  have h0 := hN w hw
  simp only [nwL, List.mem_cons, List.not_mem_nil, or_false] at hw
  rcases hw with rfl | rfl | rfl | rfl | rfl <;> exact va_Nw.warmF h h0
def ws_ (y : MethodName) (cc : ByteArray) (n : Nat) (ret : Option FieldType) : List Cond := .code y cc n ret :: lw_all
theorem lw_good : ∀ w ∈ lw_all, goodWord w = true := fun w h => (List.mem_filter.mp h).2
theorem lw_sub {y : MethodName} {cc : ByteArray} {n : Nat} {ret : Option FieldType} (h : Cond.code y cc n ret ∈ lw_all) : GoodIn lw_all (ws_ y cc n ret) := fun w hw => by
  rcases List.mem_cons.mp hw with rfl | hw
  · exact ⟨h, good_of_word (lw_good _ h)⟩
  · exact ⟨hw, good_of_word (lw_good _ hw)⟩
theorem lw_V {own C : String} {idx : Nat} {y : MethodName} {cc : ByteArray} {n : Nat} {ret : Option FieldType} (h1 : Cond.methodLink own idx y ∈ lw_all) (h2 : Cond.instanceMethod y ∈ lw_all) (h3 : Cond.selects C y y ∈ lw_all) (h4 : Cond.initialized C ∈ lw_all) (h5 : Cond.code y cc n ret ∈ lw_all) : GoodIn lw_all (wsV own idx C y (ws_ y cc n ret)) := fun w hw => by
  rcases List.mem_append.mp hw with hw | hw
  · simp only [List.mem_cons, List.not_mem_nil, or_false] at hw
    have : w ∈ lw_all := by rcases hw with rfl | rfl | rfl | rfl <;> assumption
    exact ⟨this, good_of_word (lw_good _ this)⟩
  · exact lw_sub h5 w hw
theorem lw_S {own : String} {idx : Nat} {y : MethodName} {cc : ByteArray} {n : Nat} {ret : Option FieldType} (h1 : Cond.methodLink own idx y ∈ lw_all) (h2 : Cond.static y ∈ lw_all) (h4 : Cond.initialized y.cls ∈ lw_all) (h5 : Cond.code y cc n ret ∈ lw_all) : GoodIn lw_all (va_wsS own idx y (ws_ y cc n ret)) := fun w hw => by
  rcases List.mem_append.mp hw with hw | hw
  · simp only [List.mem_cons, List.not_mem_nil, or_false] at hw
    have : w ∈ lw_all := by rcases hw with rfl | rfl | rfl <;> assumption
    exact ⟨this, good_of_word (lw_good _ this)⟩
  · exact lw_sub h5 w hw
/-! locals by their numbers -/
def lk : LV → Nat → Option AV
  | [], _ => none
  | (j, v) :: r, i => bif j == i then some v else lk r i
def wd : AV → Bool
  | .inl (.long _) => true
  | .inl (.double _) => true
  | _ => false
def rm1 : LV → Nat → LV
  | [], _ => []
  | (j, v) :: r, i => bif (!(j == i) && !(j + 1 == i && wd v)) then (j, v) :: rm1 r i else rm1 r i
def rm2 : LV → Nat → LV
  | [], _ => []
  | (j, v) :: r, i => bif (!(j == i) && (!(j == i + 1) && !(j + 1 == i && wd v))) then (j, v) :: rm2 r i else rm2 r i
def pick : LV → List Nat → Option LV
  | _, [] => some []
  | lv, i :: is => match lk lv i, pick lv is with
    | some v, some r => some ((i, v) :: r)
    | _, _ => none
def popn : Nat → List AV → List AV → Option (List AV × List AV)
  | 0, st, acc => some (acc, st)
  | n + 1, v :: st, acc => popn n st (v :: acc)
  | _ + 1, [], _ => none
def catS : List AV → Nat
  | [] => 0
  | v :: r => (bif wd v then 2 else 1) + catS r
def pushO : Option AV → List AV → List AV
  | none, r => r
  | some v, r => v :: r
abbrev cL (G : Nat → Nat → Nat) (lv : LV) : List (Nat × Value) := lv.map (fun q => (q.1, cv G q.2))
theorem wd_cat (G : Nat → Nat → Nat) (v : AV) : ((cv G v).category == 2) = wd v := by
  rcases v with v | q
  · cases v <;> rfl
  · rfl
theorem lk_mem {lv : LV} {i : Nat} {v : AV} (h : lk lv i = some v) : (i, v) ∈ lv := by
  induction lv with
  | nil => cases h
  | cons q r ih =>
    obtain ⟨j, w⟩ := q
    unfold lk at h
    cases hj : (j == i)
    · rw [hj] at h
      exact List.mem_cons_of_mem _ (ih h)
    · rw [hj] at h
      cases h
      rw [show j = i from by simpa using hj]
      exact List.mem_cons_self
theorem lk_at {G : Nat → Nat → Nat} {ls : Array Slot} {nL : Nat} {lv : LV} {i : Nat} {v : AV} (hl : lv_has ls nL (cL G lv)) (h : lk lv i = some v) : ls[i]? = some (.val (cv G v)) := hl.2.2 (i, cv G v) (List.mem_map.mpr ⟨(i, v), lk_mem h, rfl⟩)
theorem pick_sub {lv lv' : LV} {is : List Nat} (h : pick lv is = some lv') : ∀ q ∈ lv', q ∈ lv := by
  induction is generalizing lv' with
  | nil => cases h; intro q hq; cases hq
  | cons i is ih =>
    unfold pick at h
    split at h
    · rename_i v r h1 h2
      cases h
      intro q hq
      rcases List.mem_cons.mp hq with rfl | hq
      · exact lk_mem h1
      · exact ih h2 q hq
    · cases h
theorem pick_has {G : Nat → Nat → Nat} {ls : Array Slot} {nL : Nat} {lv lv' : LV} {is : List Nat} (hl : lv_has ls nL (cL G lv)) (h : pick lv is = some lv') : lv_has ls nL (cL G lv') := ⟨hl.1, hl.2.1, fun q hq => by
  obtain ⟨z, hz, rfl⟩ := List.mem_map.mp hq
  exact hl.2.2 _ (List.mem_map.mpr ⟨z, pick_sub h z hz, rfl⟩)⟩
theorem rm1_eq (G : Nat → Nat → Nat) (lv : LV) (i : Nat) : (cL G lv).filter (fun q => !(q.1 == i) && !(q.1 + 1 == i && q.2.category == 2)) = cL G (rm1 lv i) := by
  induction lv with
  | nil => rfl
  | cons q r ih =>
    obtain ⟨j, w⟩ := q
    unfold cL at ih ⊢
    rw [List.map_cons, List.filter_cons]
    unfold rm1
    dsimp only
    rw [wd_cat, ih]
    cases (!(j == i) && !(j + 1 == i && wd w)) <;> rfl
theorem rm2_eq (G : Nat → Nat → Nat) (lv : LV) (i : Nat) : (cL G lv).filter (fun q => !(q.1 == i) && (!(q.1 == i + 1) && !(q.1 + 1 == i && q.2.category == 2))) = cL G (rm2 lv i) := by
  induction lv with
  | nil => rfl
  | cons q r ih =>
    obtain ⟨j, w⟩ := q
    unfold cL at ih ⊢
    rw [List.map_cons, List.filter_cons]
    unfold rm2
    dsimp only
    rw [wd_cat, ih]
    cases (!(j == i) && (!(j == i + 1) && !(j + 1 == i && wd w))) <;> rfl
theorem catS_eq (G : Nat → Nat → Nat) (st : List AV) : ((st.map (cv G)).map fun v => v.category).sum = catS st := by
  induction st with
  | nil => rfl
  | cons v r ih =>
    simp only [List.map_cons, List.sum_cons, catS]
    rw [ih]
    have h := wd_cat G v
    have h2 : (cv G v).category = 1 ∨ (cv G v).category = 2 := lv_cat _
    rcases h2 with h2 | h2 <;> rw [h2] at h ⊢ <;> rw [← h] <;> rfl
theorem popn_eq (G : Nat → Nat → Nat) : ∀ (n : Nat) (st acc as r : List AV), popn n st acc = some (as, r) → ∃ zs : List AV, zs.length = n ∧ st = zs.reverse ++ r ∧ as = zs ++ acc
  | 0, st, acc, as, r, h => by
    cases h
    exact ⟨[], rfl, rfl, rfl⟩
  | n + 1, v :: st, acc, as, r, h => by
    obtain ⟨zs, h1, h2, h3⟩ := popn_eq G n st (v :: acc) as r h
    refine ⟨zs ++ [v], by simp [h1], ?_, ?_⟩
    · rw [h2]; simp
    · rw [h3]; simp
  | n + 1, [], acc, as, r, h => by cases h

/-! ===== one instruction's meaning: what must hold here that all goes well behind it ===== -/
def i_push (v : AV) (k : PT) (lv : LV) (st : List AV) (M : MM) : Prop := k lv (v :: st) M
def i_iload (i : Nat) (k : PT) (lv : LV) (st : List AV) (M : MM) : Prop := match lk lv i with
  | some (.inl (.int x)) => k lv (.inl (.int x) :: st) M
  | _ => False
def i_lload (i : Nat) (k : PT) (lv : LV) (st : List AV) (M : MM) : Prop := match lk lv i with
  | some (.inl (.long x)) => k lv (.inl (.long x) :: st) M
  | _ => False
def i_dload (i : Nat) (k : PT) (lv : LV) (st : List AV) (M : MM) : Prop := match lk lv i with
  | some (.inl (.double x)) => k lv (.inl (.double x) :: st) M
  | _ => False
def i_aload (i : Nat) (k : PT) (lv : LV) (st : List AV) (M : MM) : Prop := match lk lv i with
  | some (.inr q) => k lv (.inr q :: st) M
  | some (.inl (.ref b)) => k lv (.inl (.ref b) :: st) M
  | _ => False
def i_istore (i : Nat) (k : PT) (lv : LV) (st : List AV) (M : MM) : Prop := match st with
  | .inl (.int x) :: r => k ((i, .inl (.int x)) :: rm1 lv i) r M
  | _ => False
def i_astore (i : Nat) (k : PT) (lv : LV) (st : List AV) (M : MM) : Prop := match st with
  | .inr q :: r => k ((i, .inr q) :: rm1 lv i) r M
  | _ => False
def i_lstore (i : Nat) (k : PT) (lv : LV) (st : List AV) (M : MM) : Prop := match st with
  | .inl (.long x) :: r => k ((i, .inl (.long x)) :: rm2 lv i) r M
  | _ => False
def i_dstore (i : Nat) (k : PT) (lv : LV) (st : List AV) (M : MM) : Prop := match st with
  | .inl (.double x) :: r => k ((i, .inl (.double x)) :: rm2 lv i) r M
  | _ => False
def i_iinc (i : Nat) (n : Int32) (k : PT) (lv : LV) (st : List AV) (M : MM) : Prop := match lk lv i with
  | some (.inl (.int x)) => k ((i, .inl (.int (x + n))) :: rm1 lv i) st M
  | _ => False
def i_II (f : Int32 → Int32 → Int32) (k : PT) (lv : LV) (st : List AV) (M : MM) : Prop := match st with
  | .inl (.int b) :: .inl (.int a) :: r => k lv (.inl (.int (f a b)) :: r) M
  | _ => False
def i_div (k : PT) (lv : LV) (st : List AV) (M : MM) : Prop := match st with
  | .inl (.int b) :: .inl (.int a) :: r => ¬ b = 0 ∧ k lv (.inl (.int (a / b)) :: r) M
  | _ => False
def i_LL (f : Int64 → Int64 → Int64) (k : PT) (lv : LV) (st : List AV) (M : MM) : Prop := match st with
  | .inl (.long b) :: .inl (.long a) :: r => k lv (.inl (.long (f a b)) :: r) M
  | _ => False
def i_lshl (k : PT) (lv : LV) (st : List AV) (M : MM) : Prop := match st with
  | .inl (.int b) :: .inl (.long a) :: r => k lv (.inl (.long (a <<< (b.toInt64 &&& 63))) :: r) M
  | _ => False
def i_lcmp (k : PT) (lv : LV) (st : List AV) (M : MM) : Prop := match st with
  | .inl (.long b) :: .inl (.long a) :: r => k lv (.inl (.int (lg_cmp a b)) :: r) M
  | _ => False
def i_dcmp (o : CmpOp) (k : PT) (lv : LV) (st : List AV) (M : MM) : Prop := match st with
  | .inl (.double b) :: .inl (.double a) :: r => k lv (.inl (.int (Op.cmpValue (FP.dcmp a b) o)) :: r) M
  | _ => False
def i_I (f : Int32 → AV) (k : PT) (lv : LV) (st : List AV) (M : MM) : Prop := match st with
  | .inl (.int a) :: r => k lv (f a :: r) M
  | _ => False
def i_L (f : Int64 → AV) (k : PT) (lv : LV) (st : List AV) (M : MM) : Prop := match st with
  | .inl (.long a) :: r => k lv (f a :: r) M
  | _ => False
def i_D (f : UInt64 → AV) (k : PT) (lv : LV) (st : List AV) (M : MM) : Prop := match st with
  | .inl (.double a) :: r => k lv (f a :: r) M
  | _ => False
def i_F (f : UInt32 → AV) (k : PT) (lv : LV) (st : List AV) (M : MM) : Prop := match st with
  | .inl (.float a) :: r => k lv (f a :: r) M
  | _ => False
def i_f2d (k : PT) (lv : LV) (st : List AV) (M : MM) : Prop := match st with
  | .inl (.float a) :: r => vf_n64 (FP.f2d a) ∧ k lv (.inl (.double (FP.f2d a)) :: r) M
  | _ => False
def i_d2f (k : PT) (lv : LV) (st : List AV) (M : MM) : Prop := match st with
  | .inl (.double a) :: r => vf_n32 (FP.d2f a) ∧ k lv (.inl (.float (FP.d2f a)) :: r) M
  | _ => False
def i_fdiv (k : PT) (lv : LV) (st : List AV) (M : MM) : Prop := match st with
  | .inl (.float b) :: .inl (.float a) :: r => vf_n32 (FP.fdiv a b) ∧ k lv (.inl (.float (FP.fdiv a b)) :: r) M
  | _ => False
def i_fmul (k : PT) (lv : LV) (st : List AV) (M : MM) : Prop := match st with
  | .inl (.float b) :: .inl (.float a) :: r => vf_n32 (FP.fmul a b) ∧ k lv (.inl (.float (FP.fmul a b)) :: r) M
  | _ => False
def i_ddiv (k : PT) (lv : LV) (st : List AV) (M : MM) : Prop := match st with
  | .inl (.double b) :: .inl (.double a) :: r => vf_n64 (FP.ddiv a b) ∧ k lv (.inl (.double (FP.ddiv a b)) :: r) M
  | _ => False
def i_dmul (k : PT) (lv : LV) (st : List AV) (M : MM) : Prop := match st with
  | .inl (.double b) :: .inl (.double a) :: r => vf_n64 (FP.dmul a b) ∧ k lv (.inl (.double (FP.dmul a b)) :: r) M
  | _ => False
def i_dup (k : PT) (lv : LV) (st : List AV) (M : MM) : Prop := match st with
  | v :: r => wd v = false ∧ k lv (v :: v :: r) M
  | _ => False
def i_dup2 (k : PT) (lv : LV) (st : List AV) (M : MM) : Prop := match st with
  | v :: w :: r => wd v = false ∧ wd w = false ∧ k lv (v :: w :: v :: w :: r) M
  | _ => False
def i_if (P : Int32 → Prop) (kt kf : PT) (lv : LV) (st : List AV) (M : MM) : Prop := match st with
  | .inl (.int a) :: r => (P a → kt lv r M) ∧ (¬ P a → kf lv r M)
  | _ => False
def i_cmp (P : Int32 → Int32 → Prop) (kt kf : PT) (lv : LV) (st : List AV) (M : MM) : Prop := match st with
  | .inl (.int b) :: .inl (.int a) :: r => (P a b → kt lv r M) ∧ (¬ P a b → kf lv r M)
  | _ => False
def i_swc : List (Int32 × PT) → PT → Int32 → PT
  | [], dk, _, lv, r, M => dk lv r M
  | q :: cs, dk, x, lv, r, M => (x = q.1 → q.2 lv r M) ∧ (¬ x = q.1 → i_swc cs dk x lv r M)
def i_sw (cs : List (Int32 × PT)) (dk : PT) (lv : LV) (st : List AV) (M : MM) : Prop := match st with
  | .inl (.int x) :: r => i_swc cs dk x lv r M
  | _ => False
def i_getI (t f : Nat) (k : PT) (lv : LV) (st : List AV) (M : MM) : Prop := match st with
  | .inr (t', i) :: r => t' = t ∧ i < tCnt t ∧ k lv (.inl (.int (M.1 t i f)) :: r) M
  | _ => False
def i_getR (t : Nat) (t2 : Nat) (g : Nat → Nat) (k : PT) (lv : LV) (st : List AV) (M : MM) : Prop := match st with
  | .inr (t', i) :: r => t' = t ∧ i < tCnt t ∧ k lv (.inr (t2, g i) :: r) M
  | _ => False
def i_putI (t f : Nat) (k : PT) (lv : LV) (st : List AV) (M : MM) : Prop := match st with
  | .inl (.int v) :: .inr (t', i) :: r => t' = t ∧ i < tCnt t ∧ k lv r (sI M t i f v)
  | _ => False
def i_iald (a : Nat) (k : PT) (lv : LV) (st : List AV) (M : MM) : Prop := match st with
  | .inl (.int j) :: .inr (t, i) :: r => aK t = a ∧ i < tCnt t ∧ vp_in j (aN t) ∧ k lv (.inl (.int (M.1 t i j.toNatClampNeg)) :: r) M
  | _ => False
def i_lald (k : PT) (lv : LV) (st : List AV) (M : MM) : Prop := match st with
  | .inl (.int j) :: .inr (t, i) :: r => aK t = 2 ∧ i < tCnt t ∧ vp_in j (aN t) ∧ k lv (.inl (.long (M.2.1 t i j.toNatClampNeg)) :: r) M
  | _ => False
def i_dald (k : PT) (lv : LV) (st : List AV) (M : MM) : Prop := match st with
  | .inl (.int j) :: .inr (t, i) :: r => aK t = 3 ∧ i < tCnt t ∧ vp_in j (aN t) ∧ k lv (.inl (.double (M.2.2 t i j.toNatClampNeg)) :: r) M
  | _ => False
def i_aald (k : PT) (lv : LV) (st : List AV) (M : MM) : Prop := match st with
  | .inl (.int j) :: .inr (t, i) :: r => (aK t = 4 ∨ aK t = 5) ∧ i < tCnt t ∧ vp_in j (aN t) ∧ k lv (.inr (aR t j.toNatClampNeg) :: r) M
  | _ => False
def i_iast (k : PT) (lv : LV) (st : List AV) (M : MM) : Prop := match st with
  | .inl (.int v) :: .inl (.int j) :: .inr (t, i) :: r => aK t = 0 ∧ i < tCnt t ∧ vp_in j (aN t) ∧ k lv r (sI M t i j.toNatClampNeg v)
  | _ => False
def i_bast (k : PT) (lv : LV) (st : List AV) (M : MM) : Prop := match st with
  | .inl (.int v) :: .inl (.int j) :: .inr (t, i) :: r => aK t = 1 ∧ i < tCnt t ∧ vp_in j (aN t) ∧ k lv r (sI M t i j.toNatClampNeg (vp_nar .boolean v))
  | _ => False
def i_last (k : PT) (lv : LV) (st : List AV) (M : MM) : Prop := match st with
  | .inl (.long v) :: .inl (.int j) :: .inr (t, i) :: r => aK t = 2 ∧ i < tCnt t ∧ vp_in j (aN t) ∧ k lv r (sL M t i j.toNatClampNeg v)
  | _ => False
def i_dast (k : PT) (lv : LV) (st : List AV) (M : MM) : Prop := match st with
  | .inl (.double v) :: .inl (.int j) :: .inr (t, i) :: r => aK t = 3 ∧ i < tCnt t ∧ vp_in j (aN t) ∧ k lv r (sD M t i j.toNatClampNeg v)
  | _ => False
def i_alen (k : PT) (lv : LV) (st : List AV) (M : MM) : Prop := match st with
  | .inr (t, i) :: r => aK t < 6 ∧ i < tCnt t ∧ k lv (.inl (.int (Int32.ofNat (aN t))) :: r) M
  | _ => False
def i_call (n : Nat) (S : SP) (k : PT) (lv : LV) (st : List AV) (M : MM) : Prop := match popn n st [] with
  | some q => catS q.2 ≤ 8 ∧ S q.1 M (fun o M' => k lv (pushO o q.2) M')
  | none => False
def i_callV (n t : Nat) (S : SP) (k : PT) (lv : LV) (st : List AV) (M : MM) : Prop := match popn n st [] with
  | some q => match q.2 with
    | .inr (t', i) :: r => t' = t ∧ i < tCnt t ∧ catS r ≤ 8 ∧ S (.inr (t', i) :: q.1) M (fun o M' => k lv (pushO o r) M')
    | _ => False
  | none => False
def i_cpL (k : PT) (lv : LV) (st : List AV) (M : MM) : Prop := match st with
  | .inl (.int n) :: .inl (.int dp) :: .inr (d1, d2) :: .inl (.int sp) :: .inr (a1, a2) :: r => aK d1 = 2 ∧ aK a1 = 2 ∧ d2 < tCnt d1 ∧ a2 < tCnt a1 ∧ ¬ sp < 0 ∧ ¬ dp < 0 ∧ ¬ n < 0 ∧ sp.toNatClampNeg + n.toNatClampNeg ≤ aN a1 ∧ dp.toNatClampNeg + n.toNatClampNeg ≤ aN d1 ∧ catS r ≤ 8 ∧ k lv r (rL M d1 d2 (va_cpy (M.2.1 a1 a2) (M.2.1 d1 d2) sp.toNatClampNeg dp.toNatClampNeg n.toNatClampNeg))
  | _ => False
def i_cpD (k : PT) (lv : LV) (st : List AV) (M : MM) : Prop := match st with
  | .inl (.int n) :: .inl (.int dp) :: .inr (d1, d2) :: .inl (.int sp) :: .inr (a1, a2) :: r => aK d1 = 3 ∧ aK a1 = 3 ∧ d2 < tCnt d1 ∧ a2 < tCnt a1 ∧ ¬ sp < 0 ∧ ¬ dp < 0 ∧ ¬ n < 0 ∧ sp.toNatClampNeg + n.toNatClampNeg ≤ aN a1 ∧ dp.toNatClampNeg + n.toNatClampNeg ≤ aN d1 ∧ catS r ≤ 8 ∧ k lv r (rD M d1 d2 (va_cpy (M.2.2 a1 a2) (M.2.2 d1 d2) sp.toNatClampNeg dp.toNatClampNeg n.toNatClampNeg))
  | _ => False
def i_iret (q : Option AV → MM → Prop) (_ : LV) (st : List AV) (M : MM) : Prop := match st with
  | [.inl (.int v)] => q (some (.inl (.int v))) M
  | _ => False
def i_zret (q : Option AV → MM → Prop) (_ : LV) (st : List AV) (M : MM) : Prop := match st with
  | [.inl (.int v)] => (v = 0 ∨ v = 1) ∧ q (some (.inl (.int v))) M
  | _ => False
def i_lret (q : Option AV → MM → Prop) (_ : LV) (st : List AV) (M : MM) : Prop := match st with
  | [.inl (.long v)] => q (some (.inl (.long v))) M
  | _ => False
def i_vret (q : Option AV → MM → Prop) (_ : LV) (st : List AV) (M : MM) : Prop := match st with
  | [] => q none M
  | _ => False
/-- to a place where ways meet: the listed locals, in this order -/
def i_cut (is : List Nat) (k : PT) (lv : LV) (st : List AV) (M : MM) : Prop := match pick lv is with
  | some lv' => k lv' st M
  | none => False
def b2i (P : Prop) [Decidable P] : Int32 := if P then 1 else 0
/-! ===== soundness over the machine ===== -/
section MS
variable {p : Program} {l : Launch} {e : Env} {R : Room} {s : State} {m : MethodId} {args : Array Value} {below : List Frame} {meth : Method} {c : Code} {cells slots : Nat} {Q : State → Prop} {nL : Nat} {A : Nat → Prop} {G : Nat → Nat → Nat} {cy : Nat → ClassId} {dC : Nat → ClassId} {dI : Nat → Nat → Nat} {cc : ByteArray} {own : String}
def SW (p : Program) (l : Launch) (e : Env) (R : Room) (s : State) (m : MethodId) (args : Array Value) (below : List Frame) (meth : Method) (c : Code) (cells slots : Nat) (Q : State → Prop) (nL : Nat) (A : Nat → Prop) (G : Nat → Nat → Nat) (cy : Nat → ClassId) (dC : Nat → ClassId) (dI : Nat → Nat → Nat) (pc : Nat) (lv : LV) (st : List AV) (M : MM) : Prop :=
  ∀ (H : Heap) (locs : List Loc) (ls : Array Slot), va_P (dC, dI) mcl (wl G cy M) H → va_S A s.heap H locs → lv_has ls nL (cL G lv) → W p l e R s m args below meth c H locs cells slots Q (F0 m pc ls (st.map (cv G)))
def SO (p : Program) (l : Launch) (e : Env) (R : Room) (s : State) (m : MethodId) (args : Array Value) (below : List Frame) (meth : Method) (c : Code) (cells slots : Nat) (Q : State → Prop) (nL : Nat) (A : Nat → Prop) (G : Nat → Nat → Nat) (cy : Nat → ClassId) (dC : Nat → ClassId) (dI : Nat → Nat → Nat) (pc : Nat) (k : PT) : Prop :=
  ∀ lv st M, k lv st M → SW p l e R s m args below meth c cells slots Q nL A G cy dC dI pc lv st M
def FX (p : Program) (m : MethodId) (c : Code) (cc : ByteArray) (nL : Nat) (own : String) (s : State) (args : Array Value) (A : Nat → Prop) (G : Nat → Nat → Nat) (cy : Nat → ClassId) (dC : Nat → ClassId) (dI : Nat → Nat → Nat) : Prop :=
  p.tables.exec = Jvm.exec ∧ c.code = cc ∧ c.maxLocals = nL ∧ s.vm.findClass own = some m.cls ∧ (∀ w ∈ lw_all, w.before args s = true) ∧ va_K (dC, dI) mcl (tys cy) s ∧ NW s ∧ GD A G
set_option maxHeartbeats 1000000 in
theorem s_iconst {n : Int} {v : Int32} (F : FX p m c cc nL own s args A G cy dC dI) {pc : Nat} {k : PT} (d : decode cc pc = .ok (.iconst n, 1)) (hv : Int32.ofInt n = v) (h : SO p l e R s m args below meth c cells slots Q nL A G cy dC dI (pc + 1) k) : SO p l e R s m args below meth c cells slots Q nL A G cy dC dI pc (i_push (.inl (.int v)) k) := by
  intro lv st M hw H locs ls hP hS hl
  unfold i_push at hw
  exact lv_iconst F.1 F.2.1 d hv (h _ _ _ hw H locs ls hP hS hl)
set_option maxHeartbeats 1000000 in
theorem s_bipush {n : Int} {v : Int32} (F : FX p m c cc nL own s args A G cy dC dI) {pc : Nat} {k : PT} (d : decode cc pc = .ok (.bipush n, 2)) (hv : (Int8.ofInt n).toInt32 = v) (h : SO p l e R s m args below meth c cells slots Q nL A G cy dC dI (pc + 2) k) : SO p l e R s m args below meth c cells slots Q nL A G cy dC dI pc (i_push (.inl (.int v)) k) := by
  intro lv st M hw H locs ls hP hS hl
  unfold i_push at hw
  exact lv_bipush F.1 F.2.1 d hv (h _ _ _ hw H locs ls hP hS hl)
set_option maxHeartbeats 1000000 in
theorem s_sipush {n : Int} {v : Int32} (F : FX p m c cc nL own s args A G cy dC dI) {pc : Nat} {k : PT} (d : decode cc pc = .ok (.sipush n, 3)) (hv : (Int16.ofInt n).toInt32 = v) (h : SO p l e R s m args below meth c cells slots Q nL A G cy dC dI (pc + 3) k) : SO p l e R s m args below meth c cells slots Q nL A G cy dC dI pc (i_push (.inl (.int v)) k) := by
  intro lv st M hw H locs ls hP hS hl
  unfold i_push at hw
  exact lv_sipush F.1 F.2.1 d hv (h _ _ _ hw H locs ls hP hS hl)
set_option maxHeartbeats 1000000 in
theorem s_lconst {n : Fin 2} {v : Int64} (F : FX p m c cc nL own s args A G cy dC dI) {pc : Nat} {k : PT} (d : decode cc pc = .ok (.lconst n, 1)) (hv : Int64.ofNat (n : Nat) = v) (h : SO p l e R s m args below meth c cells slots Q nL A G cy dC dI (pc + 1) k) : SO p l e R s m args below meth c cells slots Q nL A G cy dC dI pc (i_push (.inl (.long v)) k) := by
  intro lv st M hw H locs ls hP hS hl
  unfold i_push at hw
  exact lv_lconst F.1 F.2.1 d hv (h _ _ _ hw H locs ls hP hS hl)
set_option maxHeartbeats 1000000 in
theorem s_dconst0 (F : FX p m c cc nL own s args A G cy dC dI) {pc : Nat} {k : PT} (d : decode cc pc = .ok (.dconst 0, 1)) (h : SO p l e R s m args below meth c cells slots Q nL A G cy dC dI (pc + 1) k) : SO p l e R s m args below meth c cells slots Q nL A G cy dC dI pc (i_push (.inl (.double 0)) k) := by
  intro lv st M hw H locs ls hP hS hl
  unfold i_push at hw
  exact lv_dconst0 F.1 F.2.1 d (h _ _ _ hw H locs ls hP hS hl)
set_option maxHeartbeats 1000000 in
theorem s_ldc {ix : Nat} {v : Int32} (F : FX p m c cc nL own s args A G cy dC dI) {pc : Nat} {k : PT} (d : decode cc pc = .ok (.ldc ix, 2)) (q : Cond.constant own ix v ∈ lw_all) (h : SO p l e R s m args below meth c cells slots Q nL A G cy dC dI (pc + 2) k) : SO p l e R s m args below meth c cells slots Q nL A G cy dC dI pc (i_push (.inl (.int v)) k) := by
  intro lv st M hw H locs ls hP hS hl
  unfold i_push at hw
  exact lv_ldc F.1 F.2.1 F.2.2.2.1 (F.2.2.2.2.1 _ q) d (h _ _ _ hw H locs ls hP hS hl)
set_option maxHeartbeats 1000000 in
theorem s_ldcf {ix : Nat} {v : UInt32} (F : FX p m c cc nL own s args A G cy dC dI) {pc : Nat} {k : PT} (d : decode cc pc = .ok (.ldc ix, 2)) (q : Cond.constantFloat own ix v ∈ lw_all) (h : SO p l e R s m args below meth c cells slots Q nL A G cy dC dI (pc + 2) k) : SO p l e R s m args below meth c cells slots Q nL A G cy dC dI pc (i_push (.inl (.float v)) k) := by
  intro lv st M hw H locs ls hP hS hl
  unfold i_push at hw
  exact lv_ldcf F.1 F.2.1 F.2.2.2.1 (F.2.2.2.2.1 _ q) d (h _ _ _ hw H locs ls hP hS hl)
set_option maxHeartbeats 1000000 in
theorem s_ldc2 {ix : Nat} {v : Int64} (F : FX p m c cc nL own s args A G cy dC dI) {pc : Nat} {k : PT} (d : decode cc pc = .ok (.ldc2_w ix, 3)) (q : Cond.constantLong own ix v ∈ lw_all) (h : SO p l e R s m args below meth c cells slots Q nL A G cy dC dI (pc + 3) k) : SO p l e R s m args below meth c cells slots Q nL A G cy dC dI pc (i_push (.inl (.long v)) k) := by
  intro lv st M hw H locs ls hP hS hl
  unfold i_push at hw
  exact lv_ldc2 F.1 F.2.1 F.2.2.2.1 (F.2.2.2.2.1 _ q) d (h _ _ _ hw H locs ls hP hS hl)
set_option maxHeartbeats 1000000 in
theorem s_ldc2d {ix : Nat} {v : UInt64} (F : FX p m c cc nL own s args A G cy dC dI) {pc : Nat} {k : PT} (d : decode cc pc = .ok (.ldc2_w ix, 3)) (q : Cond.constantDouble own ix v ∈ lw_all) (h : SO p l e R s m args below meth c cells slots Q nL A G cy dC dI (pc + 3) k) : SO p l e R s m args below meth c cells slots Q nL A G cy dC dI pc (i_push (.inl (.double v)) k) := by
  intro lv st M hw H locs ls hP hS hl
  unfold i_push at hw
  exact lv_ldc2d F.1 F.2.1 F.2.2.2.1 (F.2.2.2.2.1 _ q) d (h _ _ _ hw H locs ls hP hS hl)
set_option maxHeartbeats 1000000 in
theorem s_iload {i : Nat} (F : FX p m c cc nL own s args A G cy dC dI) {pc : Nat} {k : PT} (d : decode cc pc = .ok (.iload i, 2)) (h : SO p l e R s m args below meth c cells slots Q nL A G cy dC dI (pc + 2) k) : SO p l e R s m args below meth c cells slots Q nL A G cy dC dI pc (i_iload i k) := by
  intro lv st M hw H locs ls hP hS hl
  unfold i_iload at hw
  split at hw
  · rename_i x hx
    exact lv_iload F.1 F.2.1 d (lk_at hl hx) (h _ _ _ hw H locs ls hP hS hl)
  · exact hw.elim
set_option maxHeartbeats 1000000 in
theorem s_iload_n {n : Fin 4} {i : Nat} (F : FX p m c cc nL own s args A G cy dC dI) {pc : Nat} {k : PT} (d : decode cc pc = .ok (.iload_n n, 1)) (hi : (n : Nat) = i) (h : SO p l e R s m args below meth c cells slots Q nL A G cy dC dI (pc + 1) k) : SO p l e R s m args below meth c cells slots Q nL A G cy dC dI pc (i_iload i k) := by
  intro lv st M hw H locs ls hP hS hl
  unfold i_iload at hw
  split at hw
  · rename_i x hx
    exact lv_iload_n F.1 F.2.1 d hi (lk_at hl hx) (h _ _ _ hw H locs ls hP hS hl)
  · exact hw.elim
set_option maxHeartbeats 1000000 in
theorem s_lload {i : Nat} (F : FX p m c cc nL own s args A G cy dC dI) {pc : Nat} {k : PT} (d : decode cc pc = .ok (.lload i, 2)) (h : SO p l e R s m args below meth c cells slots Q nL A G cy dC dI (pc + 2) k) : SO p l e R s m args below meth c cells slots Q nL A G cy dC dI pc (i_lload i k) := by
  intro lv st M hw H locs ls hP hS hl
  unfold i_lload at hw
  split at hw
  · rename_i x hx
    exact lv_lload F.1 F.2.1 d (lk_at hl hx) (h _ _ _ hw H locs ls hP hS hl)
  · exact hw.elim
set_option maxHeartbeats 1000000 in
theorem s_lload_n {n : Fin 4} {i : Nat} (F : FX p m c cc nL own s args A G cy dC dI) {pc : Nat} {k : PT} (d : decode cc pc = .ok (.lload_n n, 1)) (hi : (n : Nat) = i) (h : SO p l e R s m args below meth c cells slots Q nL A G cy dC dI (pc + 1) k) : SO p l e R s m args below meth c cells slots Q nL A G cy dC dI pc (i_lload i k) := by
  intro lv st M hw H locs ls hP hS hl
  unfold i_lload at hw
  split at hw
  · rename_i x hx
    exact lv_lload_n F.1 F.2.1 d hi (lk_at hl hx) (h _ _ _ hw H locs ls hP hS hl)
  · exact hw.elim
set_option maxHeartbeats 1000000 in
theorem s_dload {i : Nat} (F : FX p m c cc nL own s args A G cy dC dI) {pc : Nat} {k : PT} (d : decode cc pc = .ok (.dload i, 2)) (h : SO p l e R s m args below meth c cells slots Q nL A G cy dC dI (pc + 2) k) : SO p l e R s m args below meth c cells slots Q nL A G cy dC dI pc (i_dload i k) := by
  intro lv st M hw H locs ls hP hS hl
  unfold i_dload at hw
  split at hw
  · rename_i x hx
    exact lv_dload F.1 F.2.1 d (lk_at hl hx) (h _ _ _ hw H locs ls hP hS hl)
  · exact hw.elim
set_option maxHeartbeats 1000000 in
theorem s_dload_n {n : Fin 4} {i : Nat} (F : FX p m c cc nL own s args A G cy dC dI) {pc : Nat} {k : PT} (d : decode cc pc = .ok (.dload_n n, 1)) (hi : (n : Nat) = i) (h : SO p l e R s m args below meth c cells slots Q nL A G cy dC dI (pc + 1) k) : SO p l e R s m args below meth c cells slots Q nL A G cy dC dI pc (i_dload i k) := by
  intro lv st M hw H locs ls hP hS hl
  unfold i_dload at hw
  split at hw
  · rename_i x hx
    exact lv_dload_n F.1 F.2.1 d hi (lk_at hl hx) (h _ _ _ hw H locs ls hP hS hl)
  · exact hw.elim
set_option maxHeartbeats 1000000 in
theorem s_aload {i : Nat} (F : FX p m c cc nL own s args A G cy dC dI) {pc : Nat} {k : PT} (d : decode cc pc = .ok (.aload i, 2)) (h : SO p l e R s m args below meth c cells slots Q nL A G cy dC dI (pc + 2) k) : SO p l e R s m args below meth c cells slots Q nL A G cy dC dI pc (i_aload i k) := by
  intro lv st M hw H locs ls hP hS hl
  unfold i_aload at hw
  split at hw
  · rename_i x hx
    exact lv_aload F.1 F.2.1 d (lk_at hl hx) (h _ _ _ hw H locs ls hP hS hl)
  · rename_i x hx
    exact lv_aload F.1 F.2.1 d (lk_at hl hx) (h _ _ _ hw H locs ls hP hS hl)
  · exact hw.elim
set_option maxHeartbeats 1000000 in
theorem s_aload_n {n : Fin 4} {i : Nat} (F : FX p m c cc nL own s args A G cy dC dI) {pc : Nat} {k : PT} (d : decode cc pc = .ok (.aload_n n, 1)) (hi : (n : Nat) = i) (h : SO p l e R s m args below meth c cells slots Q nL A G cy dC dI (pc + 1) k) : SO p l e R s m args below meth c cells slots Q nL A G cy dC dI pc (i_aload i k) := by
  intro lv st M hw H locs ls hP hS hl
  unfold i_aload at hw
  split at hw
  · rename_i x hx
    exact lv_aload_n F.1 F.2.1 d hi (lk_at hl hx) (h _ _ _ hw H locs ls hP hS hl)
  · rename_i x hx
    exact lv_aload_n F.1 F.2.1 d hi (lk_at hl hx) (h _ _ _ hw H locs ls hP hS hl)
  · exact hw.elim
set_option maxHeartbeats 1000000 in
theorem s_istore {i : Nat} (F : FX p m c cc nL own s args A G cy dC dI) {pc : Nat} {k : PT} (d : decode cc pc = .ok (.istore i, 2)) (hn : i < nL) (h : SO p l e R s m args below meth c cells slots Q nL A G cy dC dI (pc + 2) k) : SO p l e R s m args below meth c cells slots Q nL A G cy dC dI pc (i_istore i k) := by
  intro lv st M hw H locs ls hP hS hl
  unfold i_istore at hw
  split at hw
  · exact lv_istore F.1 F.2.1 d hl hn (by rw [rm1_eq]; rfl) (fun ls2 hl2 => h _ _ _ hw H locs ls2 hP hS hl2)
  · exact hw.elim
set_option maxHeartbeats 1000000 in
theorem s_istore_n {n : Fin 4} {i : Nat} (F : FX p m c cc nL own s args A G cy dC dI) {pc : Nat} {k : PT} (d : decode cc pc = .ok (.istore_n n, 1)) (hi : (n : Nat) = i) (hn : i < nL) (h : SO p l e R s m args below meth c cells slots Q nL A G cy dC dI (pc + 1) k) : SO p l e R s m args below meth c cells slots Q nL A G cy dC dI pc (i_istore i k) := by
  intro lv st M hw H locs ls hP hS hl
  unfold i_istore at hw
  split at hw
  · exact lv_istore_n F.1 F.2.1 d hi hl hn (by rw [rm1_eq]; rfl) (fun ls2 hl2 => h _ _ _ hw H locs ls2 hP hS hl2)
  · exact hw.elim
set_option maxHeartbeats 1000000 in
theorem s_astore {i : Nat} (F : FX p m c cc nL own s args A G cy dC dI) {pc : Nat} {k : PT} (d : decode cc pc = .ok (.astore i, 2)) (hn : i < nL) (h : SO p l e R s m args below meth c cells slots Q nL A G cy dC dI (pc + 2) k) : SO p l e R s m args below meth c cells slots Q nL A G cy dC dI pc (i_astore i k) := by
  intro lv st M hw H locs ls hP hS hl
  unfold i_astore at hw
  split at hw
  · exact lv_astore F.1 F.2.1 d hl hn (by rw [rm1_eq]; rfl) (fun ls2 hl2 => h _ _ _ hw H locs ls2 hP hS hl2)
  · exact hw.elim
set_option maxHeartbeats 1000000 in
theorem s_astore_n {n : Fin 4} {i : Nat} (F : FX p m c cc nL own s args A G cy dC dI) {pc : Nat} {k : PT} (d : decode cc pc = .ok (.astore_n n, 1)) (hi : (n : Nat) = i) (hn : i < nL) (h : SO p l e R s m args below meth c cells slots Q nL A G cy dC dI (pc + 1) k) : SO p l e R s m args below meth c cells slots Q nL A G cy dC dI pc (i_astore i k) := by
  intro lv st M hw H locs ls hP hS hl
  unfold i_astore at hw
  split at hw
  · exact lv_astore_n F.1 F.2.1 d hi hl hn (by rw [rm1_eq]; rfl) (fun ls2 hl2 => h _ _ _ hw H locs ls2 hP hS hl2)
  · exact hw.elim
set_option maxHeartbeats 1000000 in
theorem s_lstore {i : Nat} (F : FX p m c cc nL own s args A G cy dC dI) {pc : Nat} {k : PT} (d : decode cc pc = .ok (.lstore i, 2)) (hn : i + 1 < nL) (h : SO p l e R s m args below meth c cells slots Q nL A G cy dC dI (pc + 2) k) : SO p l e R s m args below meth c cells slots Q nL A G cy dC dI pc (i_lstore i k) := by
  intro lv st M hw H locs ls hP hS hl
  unfold i_lstore at hw
  split at hw
  · exact lv_lstore F.1 F.2.1 d hl hn (by rw [rm2_eq]; rfl) (fun ls2 hl2 => h _ _ _ hw H locs ls2 hP hS hl2)
  · exact hw.elim
set_option maxHeartbeats 1000000 in
theorem s_dstore {i : Nat} (F : FX p m c cc nL own s args A G cy dC dI) {pc : Nat} {k : PT} (d : decode cc pc = .ok (.dstore i, 2)) (hn : i + 1 < nL) (h : SO p l e R s m args below meth c cells slots Q nL A G cy dC dI (pc + 2) k) : SO p l e R s m args below meth c cells slots Q nL A G cy dC dI pc (i_dstore i k) := by
  intro lv st M hw H locs ls hP hS hl
  unfold i_dstore at hw
  split at hw
  · exact lv_dstore F.1 F.2.1 d hl hn (by rw [rm2_eq]; rfl) (fun ls2 hl2 => h _ _ _ hw H locs ls2 hP hS hl2)
  · exact hw.elim
set_option maxHeartbeats 1000000 in
theorem s_iinc {i : Nat} {n : Int} {v : Int32} (F : FX p m c cc nL own s args A G cy dC dI) {pc : Nat} {k : PT} (d : decode cc pc = .ok (.iinc i n, 3)) (hv : Int32.ofInt n = v) (hn : i < nL) (h : SO p l e R s m args below meth c cells slots Q nL A G cy dC dI (pc + 3) k) : SO p l e R s m args below meth c cells slots Q nL A G cy dC dI pc (i_iinc i v k) := by
  intro lv st M hw H locs ls hP hS hl
  unfold i_iinc at hw
  split at hw
  · rename_i x hx
    have hm := lk_mem hx
    obtain ⟨z, hz⟩ := List.getElem?_of_mem (List.mem_map.mpr ⟨_, hm, rfl⟩ : (i, cv G (.inl (.int x))) ∈ cL G lv)
    exact lv_iinc F.1 F.2.1 d hl (k := z) hz (by rw [hv]) hn (by rw [rm1_eq]; rfl) (fun ls2 hl2 => h _ _ _ hw H locs ls2 hP hS hl2)
  · exact hw.elim
set_option maxHeartbeats 1000000 in
theorem s_iadd (F : FX p m c cc nL own s args A G cy dC dI) {pc : Nat} {k : PT} (d : decode cc pc = .ok (.iadd, 1)) (h : SO p l e R s m args below meth c cells slots Q nL A G cy dC dI (pc + 1) k) : SO p l e R s m args below meth c cells slots Q nL A G cy dC dI pc (i_II (fun a b => a + b) k) := by
  intro lv st M hw H locs ls hP hS hl
  unfold i_II at hw
  split at hw
  · exact lv_iadd F.1 F.2.1 d (h _ _ _ hw H locs ls hP hS hl)
  · exact hw.elim
set_option maxHeartbeats 1000000 in
theorem s_isub (F : FX p m c cc nL own s args A G cy dC dI) {pc : Nat} {k : PT} (d : decode cc pc = .ok (.isub, 1)) (h : SO p l e R s m args below meth c cells slots Q nL A G cy dC dI (pc + 1) k) : SO p l e R s m args below meth c cells slots Q nL A G cy dC dI pc (i_II (fun a b => a - b) k) := by
  intro lv st M hw H locs ls hP hS hl
  unfold i_II at hw
  split at hw
  · exact lv_isub F.1 F.2.1 d (h _ _ _ hw H locs ls hP hS hl)
  · exact hw.elim
set_option maxHeartbeats 1000000 in
theorem s_imul (F : FX p m c cc nL own s args A G cy dC dI) {pc : Nat} {k : PT} (d : decode cc pc = .ok (.imul, 1)) (h : SO p l e R s m args below meth c cells slots Q nL A G cy dC dI (pc + 1) k) : SO p l e R s m args below meth c cells slots Q nL A G cy dC dI pc (i_II (fun a b => a * b) k) := by
  intro lv st M hw H locs ls hP hS hl
  unfold i_II at hw
  split at hw
  · exact lv_imul F.1 F.2.1 d (h _ _ _ hw H locs ls hP hS hl)
  · exact hw.elim
set_option maxHeartbeats 1000000 in
theorem s_iand (F : FX p m c cc nL own s args A G cy dC dI) {pc : Nat} {k : PT} (d : decode cc pc = .ok (.iand, 1)) (h : SO p l e R s m args below meth c cells slots Q nL A G cy dC dI (pc + 1) k) : SO p l e R s m args below meth c cells slots Q nL A G cy dC dI pc (i_II (fun a b => a &&& b) k) := by
  intro lv st M hw H locs ls hP hS hl
  unfold i_II at hw
  split at hw
  · exact lv_iand F.1 F.2.1 d (h _ _ _ hw H locs ls hP hS hl)
  · exact hw.elim
set_option maxHeartbeats 1000000 in
theorem s_ishr (F : FX p m c cc nL own s args A G cy dC dI) {pc : Nat} {k : PT} (d : decode cc pc = .ok (.ishr, 1)) (h : SO p l e R s m args below meth c cells slots Q nL A G cy dC dI (pc + 1) k) : SO p l e R s m args below meth c cells slots Q nL A G cy dC dI pc (i_II (fun a b => a >>> (b &&& 31)) k) := by
  intro lv st M hw H locs ls hP hS hl
  unfold i_II at hw
  split at hw
  · exact lv_ishr F.1 F.2.1 d (h _ _ _ hw H locs ls hP hS hl)
  · exact hw.elim
set_option maxHeartbeats 1000000 in
theorem s_idiv (F : FX p m c cc nL own s args A G cy dC dI) {pc : Nat} {k : PT} (d : decode cc pc = .ok (.idiv, 1)) (h : SO p l e R s m args below meth c cells slots Q nL A G cy dC dI (pc + 1) k) : SO p l e R s m args below meth c cells slots Q nL A G cy dC dI pc (i_div k) := by
  intro lv st M hw H locs ls hP hS hl
  unfold i_div at hw
  split at hw
  · exact lv_idiv F.1 F.2.1 d hw.1 (h _ _ _ hw.2 H locs ls hP hS hl)
  · exact hw.elim
set_option maxHeartbeats 1000000 in
theorem s_land (F : FX p m c cc nL own s args A G cy dC dI) {pc : Nat} {k : PT} (d : decode cc pc = .ok (.land, 1)) (h : SO p l e R s m args below meth c cells slots Q nL A G cy dC dI (pc + 1) k) : SO p l e R s m args below meth c cells slots Q nL A G cy dC dI pc (i_LL (fun a b => a &&& b) k) := by
  intro lv st M hw H locs ls hP hS hl
  unfold i_LL at hw
  split at hw
  · exact lv_land F.1 F.2.1 d (h _ _ _ hw H locs ls hP hS hl)
  · exact hw.elim
set_option maxHeartbeats 1000000 in
theorem s_lor (F : FX p m c cc nL own s args A G cy dC dI) {pc : Nat} {k : PT} (d : decode cc pc = .ok (.lor, 1)) (h : SO p l e R s m args below meth c cells slots Q nL A G cy dC dI (pc + 1) k) : SO p l e R s m args below meth c cells slots Q nL A G cy dC dI pc (i_LL (fun a b => a ||| b) k) := by
  intro lv st M hw H locs ls hP hS hl
  unfold i_LL at hw
  split at hw
  · exact lv_lor F.1 F.2.1 d (h _ _ _ hw H locs ls hP hS hl)
  · exact hw.elim
set_option maxHeartbeats 1000000 in
theorem s_lshl (F : FX p m c cc nL own s args A G cy dC dI) {pc : Nat} {k : PT} (d : decode cc pc = .ok (.lshl, 1)) (h : SO p l e R s m args below meth c cells slots Q nL A G cy dC dI (pc + 1) k) : SO p l e R s m args below meth c cells slots Q nL A G cy dC dI pc (i_lshl k) := by
  intro lv st M hw H locs ls hP hS hl
  unfold i_lshl at hw
  split at hw
  · exact lv_lshl F.1 F.2.1 d rfl (h _ _ _ hw H locs ls hP hS hl)
  · exact hw.elim
set_option maxHeartbeats 1000000 in
theorem s_lcmp (F : FX p m c cc nL own s args A G cy dC dI) {pc : Nat} {k : PT} (d : decode cc pc = .ok (.lcmp, 1)) (h : SO p l e R s m args below meth c cells slots Q nL A G cy dC dI (pc + 1) k) : SO p l e R s m args below meth c cells slots Q nL A G cy dC dI pc (i_lcmp k) := by
  intro lv st M hw H locs ls hP hS hl
  unfold i_lcmp at hw
  split at hw
  · exact W.lcmp F.1 F.2.1 d (h _ _ _ hw H locs ls hP hS hl)
  · exact hw.elim
set_option maxHeartbeats 1000000 in
theorem s_dcmp {o : CmpOp} (F : FX p m c cc nL own s args A G cy dC dI) {pc : Nat} {k : PT} (d : decode cc pc = .ok (.dcmp o, 1)) (h : SO p l e R s m args below meth c cells slots Q nL A G cy dC dI (pc + 1) k) : SO p l e R s m args below meth c cells slots Q nL A G cy dC dI pc (i_dcmp o k) := by
  intro lv st M hw H locs ls hP hS hl
  unfold i_dcmp at hw
  split at hw
  · exact lv_dcmp F.1 F.2.1 d (h _ _ _ hw H locs ls hP hS hl)
  · exact hw.elim
set_option maxHeartbeats 1000000 in
theorem s_i2l (F : FX p m c cc nL own s args A G cy dC dI) {pc : Nat} {k : PT} (d : decode cc pc = .ok (.i2l, 1)) (h : SO p l e R s m args below meth c cells slots Q nL A G cy dC dI (pc + 1) k) : SO p l e R s m args below meth c cells slots Q nL A G cy dC dI pc (i_I (fun a => .inl (.long a.toInt64)) k) := by
  intro lv st M hw H locs ls hP hS hl
  unfold i_I at hw
  split at hw
  · exact lv_i2l F.1 F.2.1 d rfl (h _ _ _ hw H locs ls hP hS hl)
  · exact hw.elim
set_option maxHeartbeats 1000000 in
theorem s_i2b (F : FX p m c cc nL own s args A G cy dC dI) {pc : Nat} {k : PT} (d : decode cc pc = .ok (.i2b, 1)) (h : SO p l e R s m args below meth c cells slots Q nL A G cy dC dI (pc + 1) k) : SO p l e R s m args below meth c cells slots Q nL A G cy dC dI pc (i_I (fun a => .inl (.int a.toInt8.toInt32)) k) := by
  intro lv st M hw H locs ls hP hS hl
  unfold i_I at hw
  split at hw
  · exact lv_i2b F.1 F.2.1 d rfl (h _ _ _ hw H locs ls hP hS hl)
  · exact hw.elim
set_option maxHeartbeats 1000000 in
theorem s_i2s (F : FX p m c cc nL own s args A G cy dC dI) {pc : Nat} {k : PT} (d : decode cc pc = .ok (.i2s, 1)) (h : SO p l e R s m args below meth c cells slots Q nL A G cy dC dI (pc + 1) k) : SO p l e R s m args below meth c cells slots Q nL A G cy dC dI pc (i_I (fun a => .inl (.int a.toInt16.toInt32)) k) := by
  intro lv st M hw H locs ls hP hS hl
  unfold i_I at hw
  split at hw
  · exact lv_i2s F.1 F.2.1 d rfl (h _ _ _ hw H locs ls hP hS hl)
  · exact hw.elim
set_option maxHeartbeats 1000000 in
theorem s_i2c (F : FX p m c cc nL own s args A G cy dC dI) {pc : Nat} {k : PT} (d : decode cc pc = .ok (.i2c, 1)) (h : SO p l e R s m args below meth c cells slots Q nL A G cy dC dI (pc + 1) k) : SO p l e R s m args below meth c cells slots Q nL A G cy dC dI pc (i_I (fun a => .inl (.int (a.toUInt32 % 65536).toInt32)) k) := by
  intro lv st M hw H locs ls hP hS hl
  unfold i_I at hw
  split at hw
  · exact lv_i2c F.1 F.2.1 d rfl (h _ _ _ hw H locs ls hP hS hl)
  · exact hw.elim
set_option maxHeartbeats 1000000 in
theorem s_l2i (F : FX p m c cc nL own s args A G cy dC dI) {pc : Nat} {k : PT} (d : decode cc pc = .ok (.l2i, 1)) (h : SO p l e R s m args below meth c cells slots Q nL A G cy dC dI (pc + 1) k) : SO p l e R s m args below meth c cells slots Q nL A G cy dC dI pc (i_L (fun a => .inl (.int a.toInt32)) k) := by
  intro lv st M hw H locs ls hP hS hl
  unfold i_L at hw
  split at hw
  · exact lv_l2i F.1 F.2.1 d rfl (h _ _ _ hw H locs ls hP hS hl)
  · exact hw.elim
set_option maxHeartbeats 1000000 in
theorem s_l2d (F : FX p m c cc nL own s args A G cy dC dI) {pc : Nat} {k : PT} (d : decode cc pc = .ok (.l2d, 1)) (h : SO p l e R s m args below meth c cells slots Q nL A G cy dC dI (pc + 1) k) : SO p l e R s m args below meth c cells slots Q nL A G cy dC dI pc (i_L (fun a => .inl (.double (FP.l2d a))) k) := by
  intro lv st M hw H locs ls hP hS hl
  unfold i_L at hw
  split at hw
  · exact lv_l2d F.1 F.2.1 d (h _ _ _ hw H locs ls hP hS hl)
  · exact hw.elim
set_option maxHeartbeats 1000000 in
theorem s_l2f (F : FX p m c cc nL own s args A G cy dC dI) {pc : Nat} {k : PT} (d : decode cc pc = .ok (.l2f, 1)) (h : SO p l e R s m args below meth c cells slots Q nL A G cy dC dI (pc + 1) k) : SO p l e R s m args below meth c cells slots Q nL A G cy dC dI pc (i_L (fun a => .inl (.float (FP.l2f a))) k) := by
  intro lv st M hw H locs ls hP hS hl
  unfold i_L at hw
  split at hw
  · exact lv_l2f F.1 F.2.1 d (h _ _ _ hw H locs ls hP hS hl)
  · exact hw.elim
set_option maxHeartbeats 1000000 in
theorem s_d2l (F : FX p m c cc nL own s args A G cy dC dI) {pc : Nat} {k : PT} (d : decode cc pc = .ok (.d2l, 1)) (h : SO p l e R s m args below meth c cells slots Q nL A G cy dC dI (pc + 1) k) : SO p l e R s m args below meth c cells slots Q nL A G cy dC dI pc (i_D (fun a => .inl (.long (FP.d2l a))) k) := by
  intro lv st M hw H locs ls hP hS hl
  unfold i_D at hw
  split at hw
  · exact lv_d2l F.1 F.2.1 d (h _ _ _ hw H locs ls hP hS hl)
  · exact hw.elim
set_option maxHeartbeats 1000000 in
theorem s_f2l (F : FX p m c cc nL own s args A G cy dC dI) {pc : Nat} {k : PT} (d : decode cc pc = .ok (.f2l, 1)) (h : SO p l e R s m args below meth c cells slots Q nL A G cy dC dI (pc + 1) k) : SO p l e R s m args below meth c cells slots Q nL A G cy dC dI pc (i_F (fun a => .inl (.long (FP.f2l a))) k) := by
  intro lv st M hw H locs ls hP hS hl
  unfold i_F at hw
  split at hw
  · exact lv_f2l F.1 F.2.1 d (h _ _ _ hw H locs ls hP hS hl)
  · exact hw.elim
set_option maxHeartbeats 1000000 in
theorem s_f2d (F : FX p m c cc nL own s args A G cy dC dI) {pc : Nat} {k : PT} (d : decode cc pc = .ok (.f2d, 1)) (h : SO p l e R s m args below meth c cells slots Q nL A G cy dC dI (pc + 1) k) : SO p l e R s m args below meth c cells slots Q nL A G cy dC dI pc (i_f2d k) := by
  intro lv st M hw H locs ls hP hS hl
  unfold i_f2d at hw
  split at hw
  · exact lv_f2d F.1 F.2.1 d hw.1 (h _ _ _ hw.2 H locs ls hP hS hl)
  · exact hw.elim
set_option maxHeartbeats 1000000 in
theorem s_d2f (F : FX p m c cc nL own s args A G cy dC dI) {pc : Nat} {k : PT} (d : decode cc pc = .ok (.d2f, 1)) (h : SO p l e R s m args below meth c cells slots Q nL A G cy dC dI (pc + 1) k) : SO p l e R s m args below meth c cells slots Q nL A G cy dC dI pc (i_d2f k) := by
  intro lv st M hw H locs ls hP hS hl
  unfold i_d2f at hw
  split at hw
  · exact lv_d2f F.1 F.2.1 d hw.1 (h _ _ _ hw.2 H locs ls hP hS hl)
  · exact hw.elim
set_option maxHeartbeats 1000000 in
theorem s_fdiv (F : FX p m c cc nL own s args A G cy dC dI) {pc : Nat} {k : PT} (d : decode cc pc = .ok (.fdiv, 1)) (h : SO p l e R s m args below meth c cells slots Q nL A G cy dC dI (pc + 1) k) : SO p l e R s m args below meth c cells slots Q nL A G cy dC dI pc (i_fdiv k) := by
  intro lv st M hw H locs ls hP hS hl
  unfold i_fdiv at hw
  split at hw
  · exact lv_fdiv F.1 F.2.1 d hw.1 (h _ _ _ hw.2 H locs ls hP hS hl)
  · exact hw.elim
set_option maxHeartbeats 1000000 in
theorem s_fmul (F : FX p m c cc nL own s args A G cy dC dI) {pc : Nat} {k : PT} (d : decode cc pc = .ok (.fmul, 1)) (h : SO p l e R s m args below meth c cells slots Q nL A G cy dC dI (pc + 1) k) : SO p l e R s m args below meth c cells slots Q nL A G cy dC dI pc (i_fmul k) := by
  intro lv st M hw H locs ls hP hS hl
  unfold i_fmul at hw
  split at hw
  · exact lv_fmul F.1 F.2.1 d hw.1 (h _ _ _ hw.2 H locs ls hP hS hl)
  · exact hw.elim
set_option maxHeartbeats 1000000 in
theorem s_ddiv (F : FX p m c cc nL own s args A G cy dC dI) {pc : Nat} {k : PT} (d : decode cc pc = .ok (.ddiv, 1)) (h : SO p l e R s m args below meth c cells slots Q nL A G cy dC dI (pc + 1) k) : SO p l e R s m args below meth c cells slots Q nL A G cy dC dI pc (i_ddiv k) := by
  intro lv st M hw H locs ls hP hS hl
  unfold i_ddiv at hw
  split at hw
  · exact lv_ddiv F.1 F.2.1 d hw.1 (h _ _ _ hw.2 H locs ls hP hS hl)
  · exact hw.elim
set_option maxHeartbeats 1000000 in
theorem s_dmul (F : FX p m c cc nL own s args A G cy dC dI) {pc : Nat} {k : PT} (d : decode cc pc = .ok (.dmul, 1)) (h : SO p l e R s m args below meth c cells slots Q nL A G cy dC dI (pc + 1) k) : SO p l e R s m args below meth c cells slots Q nL A G cy dC dI pc (i_dmul k) := by
  intro lv st M hw H locs ls hP hS hl
  unfold i_dmul at hw
  split at hw
  · exact lv_dmul F.1 F.2.1 d hw.1 (h _ _ _ hw.2 H locs ls hP hS hl)
  · exact hw.elim
theorem wd_1 (G : Nat → Nat → Nat) {v : AV} (h : wd v = false) : (cv G v).category = 1 := by
  rcases lv_cat (cv G v) with q | q
  · exact q
  · have := wd_cat G v
    rw [q, h] at this
    cases this
set_option maxHeartbeats 1000000 in
theorem s_dup (F : FX p m c cc nL own s args A G cy dC dI) {pc : Nat} {k : PT} (d : decode cc pc = .ok (.dup, 1)) (h : SO p l e R s m args below meth c cells slots Q nL A G cy dC dI (pc + 1) k) : SO p l e R s m args below meth c cells slots Q nL A G cy dC dI pc (i_dup k) := by
  intro lv st M hw H locs ls hP hS hl
  unfold i_dup at hw
  split at hw
  · exact lv_dup F.1 F.2.1 d (wd_1 G hw.1) (h _ _ _ hw.2 H locs ls hP hS hl)
  · exact hw.elim
set_option maxHeartbeats 1000000 in
theorem s_dup2 (F : FX p m c cc nL own s args A G cy dC dI) {pc : Nat} {k : PT} (d : decode cc pc = .ok (.dup2, 1)) (h : SO p l e R s m args below meth c cells slots Q nL A G cy dC dI (pc + 1) k) : SO p l e R s m args below meth c cells slots Q nL A G cy dC dI pc (i_dup2 k) := by
  intro lv st M hw H locs ls hP hS hl
  unfold i_dup2 at hw
  split at hw
  · exact lv_dup2_11 F.1 F.2.1 d (wd_1 G hw.1) (wd_1 G hw.2.1) (h _ _ _ hw.2.2 H locs ls hP hS hl)
  · exact hw.elim
set_option maxHeartbeats 1000000 in
theorem s_goto (F : FX p m c cc nL own s args A G cy dC dI) {pc tgt : Nat} {off : Int} {k : PT} (d : decode cc pc = .ok (.goto off, 3)) (ht : (pc : Int) + off = (tgt : Int)) (h : SO p l e R s m args below meth c cells slots Q nL A G cy dC dI tgt k) : SO p l e R s m args below meth c cells slots Q nL A G cy dC dI pc k := by
  intro lv st M hw H locs ls hP hS hl
  exact lv_goto F.1 F.2.1 d ht (h _ _ _ hw H locs ls hP hS hl)
set_option maxHeartbeats 1000000 in
theorem s_if_eq (F : FX p m c cc nL own s args A G cy dC dI) {pc tgt : Nat} {off : Int} {k1 k2 : PT} (d : decode cc pc = .ok (.ifCond .eq off, 3)) (ht : (pc : Int) + off = (tgt : Int)) (h1 : SO p l e R s m args below meth c cells slots Q nL A G cy dC dI tgt k1) (h2 : SO p l e R s m args below meth c cells slots Q nL A G cy dC dI (pc + 3) k2) : SO p l e R s m args below meth c cells slots Q nL A G cy dC dI pc (i_if (fun a => a = 0) k1 k2) := by
  intro lv st M hw H locs ls hP hS hl
  unfold i_if at hw
  split at hw
  · exact lv_if_eq F.1 F.2.1 d ht (fun q => h1 _ _ _ (hw.1 (q)) H locs ls hP hS hl) (fun q => h2 _ _ _ (hw.2 (q)) H locs ls hP hS hl)
  · exact hw.elim
set_option maxHeartbeats 1000000 in
theorem s_if_ne (F : FX p m c cc nL own s args A G cy dC dI) {pc tgt : Nat} {off : Int} {k1 k2 : PT} (d : decode cc pc = .ok (.ifCond .ne off, 3)) (ht : (pc : Int) + off = (tgt : Int)) (h1 : SO p l e R s m args below meth c cells slots Q nL A G cy dC dI tgt k1) (h2 : SO p l e R s m args below meth c cells slots Q nL A G cy dC dI (pc + 3) k2) : SO p l e R s m args below meth c cells slots Q nL A G cy dC dI pc (i_if (fun a => a = 0) k2 k1) := by
  intro lv st M hw H locs ls hP hS hl
  unfold i_if at hw
  split at hw
  · exact lv_if_ne F.1 F.2.1 d ht (fun q => h1 _ _ _ (hw.2 (q)) H locs ls hP hS hl) (fun q => h2 _ _ _ (hw.1 (q)) H locs ls hP hS hl)
  · exact hw.elim
set_option maxHeartbeats 1000000 in
theorem s_if_lt (F : FX p m c cc nL own s args A G cy dC dI) {pc tgt : Nat} {off : Int} {k1 k2 : PT} (d : decode cc pc = .ok (.ifCond .lt off, 3)) (ht : (pc : Int) + off = (tgt : Int)) (h1 : SO p l e R s m args below meth c cells slots Q nL A G cy dC dI tgt k1) (h2 : SO p l e R s m args below meth c cells slots Q nL A G cy dC dI (pc + 3) k2) : SO p l e R s m args below meth c cells slots Q nL A G cy dC dI pc (i_if (fun a => a < 0) k1 k2) := by
  intro lv st M hw H locs ls hP hS hl
  unfold i_if at hw
  split at hw
  · exact lv_if_lt F.1 F.2.1 d ht (fun q => h1 _ _ _ (hw.1 (q)) H locs ls hP hS hl) (fun q => h2 _ _ _ (hw.2 (q)) H locs ls hP hS hl)
  · exact hw.elim
set_option maxHeartbeats 1000000 in
theorem s_if_ge (F : FX p m c cc nL own s args A G cy dC dI) {pc tgt : Nat} {off : Int} {k1 k2 : PT} (d : decode cc pc = .ok (.ifCond .ge off, 3)) (ht : (pc : Int) + off = (tgt : Int)) (h1 : SO p l e R s m args below meth c cells slots Q nL A G cy dC dI tgt k1) (h2 : SO p l e R s m args below meth c cells slots Q nL A G cy dC dI (pc + 3) k2) : SO p l e R s m args below meth c cells slots Q nL A G cy dC dI pc (i_if (fun a => a < 0) k2 k1) := by
  intro lv st M hw H locs ls hP hS hl
  unfold i_if at hw
  split at hw
  · exact lv_if_ge F.1 F.2.1 d ht (fun q => h1 _ _ _ (hw.2 (Int32.not_lt.mpr q)) H locs ls hP hS hl) (fun q => h2 _ _ _ (hw.1 (Int32.not_le.mp q)) H locs ls hP hS hl)
  · exact hw.elim
set_option maxHeartbeats 1000000 in
theorem s_if_gt (F : FX p m c cc nL own s args A G cy dC dI) {pc tgt : Nat} {off : Int} {k1 k2 : PT} (d : decode cc pc = .ok (.ifCond .gt off, 3)) (ht : (pc : Int) + off = (tgt : Int)) (h1 : SO p l e R s m args below meth c cells slots Q nL A G cy dC dI tgt k1) (h2 : SO p l e R s m args below meth c cells slots Q nL A G cy dC dI (pc + 3) k2) : SO p l e R s m args below meth c cells slots Q nL A G cy dC dI pc (i_if (fun a => 0 < a) k1 k2) := by
  intro lv st M hw H locs ls hP hS hl
  unfold i_if at hw
  split at hw
  · exact lv_if_gt F.1 F.2.1 d ht (fun q => h1 _ _ _ (hw.1 (q)) H locs ls hP hS hl) (fun q => h2 _ _ _ (hw.2 (q)) H locs ls hP hS hl)
  · exact hw.elim
set_option maxHeartbeats 1000000 in
theorem s_if_le (F : FX p m c cc nL own s args A G cy dC dI) {pc tgt : Nat} {off : Int} {k1 k2 : PT} (d : decode cc pc = .ok (.ifCond .le off, 3)) (ht : (pc : Int) + off = (tgt : Int)) (h1 : SO p l e R s m args below meth c cells slots Q nL A G cy dC dI tgt k1) (h2 : SO p l e R s m args below meth c cells slots Q nL A G cy dC dI (pc + 3) k2) : SO p l e R s m args below meth c cells slots Q nL A G cy dC dI pc (i_if (fun a => 0 < a) k2 k1) := by
  intro lv st M hw H locs ls hP hS hl
  unfold i_if at hw
  split at hw
  · exact lv_if_le F.1 F.2.1 d ht (fun q => h1 _ _ _ (hw.2 (Int32.not_lt.mpr q)) H locs ls hP hS hl) (fun q => h2 _ _ _ (hw.1 (Int32.not_le.mp q)) H locs ls hP hS hl)
  · exact hw.elim
set_option maxHeartbeats 1000000 in
theorem s_icmp_eq (F : FX p m c cc nL own s args A G cy dC dI) {pc tgt : Nat} {off : Int} {k1 k2 : PT} (d : decode cc pc = .ok (.if_icmp .eq off, 3)) (ht : (pc : Int) + off = (tgt : Int)) (h1 : SO p l e R s m args below meth c cells slots Q nL A G cy dC dI tgt k1) (h2 : SO p l e R s m args below meth c cells slots Q nL A G cy dC dI (pc + 3) k2) : SO p l e R s m args below meth c cells slots Q nL A G cy dC dI pc (i_cmp (fun a b => a = b) k1 k2) := by
  intro lv st M hw H locs ls hP hS hl
  unfold i_cmp at hw
  split at hw
  · exact lv_icmp_eq F.1 F.2.1 d ht (fun q => h1 _ _ _ (hw.1 (q)) H locs ls hP hS hl) (fun q => h2 _ _ _ (hw.2 (q)) H locs ls hP hS hl)
  · exact hw.elim
set_option maxHeartbeats 1000000 in
theorem s_icmp_ne (F : FX p m c cc nL own s args A G cy dC dI) {pc tgt : Nat} {off : Int} {k1 k2 : PT} (d : decode cc pc = .ok (.if_icmp .ne off, 3)) (ht : (pc : Int) + off = (tgt : Int)) (h1 : SO p l e R s m args below meth c cells slots Q nL A G cy dC dI tgt k1) (h2 : SO p l e R s m args below meth c cells slots Q nL A G cy dC dI (pc + 3) k2) : SO p l e R s m args below meth c cells slots Q nL A G cy dC dI pc (i_cmp (fun a b => a = b) k2 k1) := by
  intro lv st M hw H locs ls hP hS hl
  unfold i_cmp at hw
  split at hw
  · exact lv_icmp_ne F.1 F.2.1 d ht (fun q => h1 _ _ _ (hw.2 (q)) H locs ls hP hS hl) (fun q => h2 _ _ _ (hw.1 (q)) H locs ls hP hS hl)
  · exact hw.elim
set_option maxHeartbeats 1000000 in
theorem s_icmp_lt (F : FX p m c cc nL own s args A G cy dC dI) {pc tgt : Nat} {off : Int} {k1 k2 : PT} (d : decode cc pc = .ok (.if_icmp .lt off, 3)) (ht : (pc : Int) + off = (tgt : Int)) (h1 : SO p l e R s m args below meth c cells slots Q nL A G cy dC dI tgt k1) (h2 : SO p l e R s m args below meth c cells slots Q nL A G cy dC dI (pc + 3) k2) : SO p l e R s m args below meth c cells slots Q nL A G cy dC dI pc (i_cmp (fun a b => a < b) k1 k2) := by
  intro lv st M hw H locs ls hP hS hl
  unfold i_cmp at hw
  split at hw
  · exact lv_icmp_lt F.1 F.2.1 d ht (fun q => h1 _ _ _ (hw.1 (q)) H locs ls hP hS hl) (fun q => h2 _ _ _ (hw.2 (q)) H locs ls hP hS hl)
  · exact hw.elim
set_option maxHeartbeats 1000000 in
theorem s_icmp_ge (F : FX p m c cc nL own s args A G cy dC dI) {pc tgt : Nat} {off : Int} {k1 k2 : PT} (d : decode cc pc = .ok (.if_icmp .ge off, 3)) (ht : (pc : Int) + off = (tgt : Int)) (h1 : SO p l e R s m args below meth c cells slots Q nL A G cy dC dI tgt k1) (h2 : SO p l e R s m args below meth c cells slots Q nL A G cy dC dI (pc + 3) k2) : SO p l e R s m args below meth c cells slots Q nL A G cy dC dI pc (i_cmp (fun a b => a < b) k2 k1) := by
  intro lv st M hw H locs ls hP hS hl
  unfold i_cmp at hw
  split at hw
  · exact lv_icmp_ge F.1 F.2.1 d ht (fun q => h1 _ _ _ (hw.2 (Int32.not_lt.mpr q)) H locs ls hP hS hl) (fun q => h2 _ _ _ (hw.1 (Int32.not_le.mp q)) H locs ls hP hS hl)
  · exact hw.elim
set_option maxHeartbeats 1000000 in
theorem s_icmp_gt (F : FX p m c cc nL own s args A G cy dC dI) {pc tgt : Nat} {off : Int} {k1 k2 : PT} (d : decode cc pc = .ok (.if_icmp .gt off, 3)) (ht : (pc : Int) + off = (tgt : Int)) (h1 : SO p l e R s m args below meth c cells slots Q nL A G cy dC dI tgt k1) (h2 : SO p l e R s m args below meth c cells slots Q nL A G cy dC dI (pc + 3) k2) : SO p l e R s m args below meth c cells slots Q nL A G cy dC dI pc (i_cmp (fun a b => b < a) k1 k2) := by
  intro lv st M hw H locs ls hP hS hl
  unfold i_cmp at hw
  split at hw
  · exact lv_icmp_gt F.1 F.2.1 d ht (fun q => h1 _ _ _ (hw.1 (q)) H locs ls hP hS hl) (fun q => h2 _ _ _ (hw.2 (q)) H locs ls hP hS hl)
  · exact hw.elim
set_option maxHeartbeats 1000000 in
theorem s_icmp_le (F : FX p m c cc nL own s args A G cy dC dI) {pc tgt : Nat} {off : Int} {k1 k2 : PT} (d : decode cc pc = .ok (.if_icmp .le off, 3)) (ht : (pc : Int) + off = (tgt : Int)) (h1 : SO p l e R s m args below meth c cells slots Q nL A G cy dC dI tgt k1) (h2 : SO p l e R s m args below meth c cells slots Q nL A G cy dC dI (pc + 3) k2) : SO p l e R s m args below meth c cells slots Q nL A G cy dC dI pc (i_cmp (fun a b => b < a) k2 k1) := by
  intro lv st M hw H locs ls hP hS hl
  unfold i_cmp at hw
  split at hw
  · exact lv_icmp_le F.1 F.2.1 d ht (fun q => h1 _ _ _ (hw.2 (Int32.not_lt.mpr q)) H locs ls hP hS hl) (fun q => h2 _ _ _ (hw.1 (Int32.not_le.mp q)) H locs ls hP hS hl)
  · exact hw.elim
set_option maxHeartbeats 1000000 in
theorem s_sw {pc : Nat} {dk : PT} (go : Int32 → Nat) (hgo : ∀ (x : Int32) (lv : LV) (st : List AV) (M : MM), SW p l e R s m args below meth c cells slots Q nL A G cy dC dI (go x) lv st M → SW p l e R s m args below meth c cells slots Q nL A G cy dC dI pc lv (.inl (.int x) :: st) M) :
    ∀ (cs : List (Int32 × PT)), (∀ q ∈ cs, SO p l e R s m args below meth c cells slots Q nL A G cy dC dI (go q.1) q.2) → (∀ x : Int32, (∀ q ∈ cs, ¬ x = q.1) → SO p l e R s m args below meth c cells slots Q nL A G cy dC dI (go x) dk) → SO p l e R s m args below meth c cells slots Q nL A G cy dC dI pc (i_sw cs dk) := by
  intro cs hcs hd lv st M hw
  unfold i_sw at hw
  split at hw
  · rename_i x r
    refine hgo x lv r M ?_
    have key : ∀ (zs : List (Int32 × PT)), (∀ q ∈ zs, q ∈ cs) → (∀ q ∈ cs, q ∈ zs ∨ ¬ x = q.1) → i_swc zs dk x lv r M → SW p l e R s m args below meth c cells slots Q nL A G cy dC dI (go x) lv r M := by
      intro zs
      induction zs with
      | nil =>
        intro _ h2 h3
        exact hd x (fun q hq => (h2 q hq).resolve_left (fun z => nomatch z)) _ _ _ h3
      | cons z zs ih =>
        intro h1 h2 h3
        by_cases e : x = z.1
        · have := hcs z (h1 z List.mem_cons_self) _ _ _ (h3.1 e)
          rw [e]
          exact this
        · refine ih (fun q hq => h1 q (List.mem_cons_of_mem _ hq)) (fun q hq => ?_) (h3.2 e)
          rcases h2 q hq with h | h
          · rcases List.mem_cons.mp h with rfl | h
            · exact Or.inr e
            · exact Or.inl h
          · exact Or.inr h
    exact key cs (fun _ h => h) (fun q hq => Or.inl hq) hw
  · exact hw.elim
set_option maxHeartbeats 1000000 in
theorem s_tsw (F : FX p m c cc nL own s args A G cy dC dI) {pc len : Nat} {dflt lo hi : Int} {offs : Array Int} {dk : PT} (cs : List (Int32 × PT)) (go : Int32 → Nat) (dt : Nat) (d : decode cc pc = .ok (.tableswitch dflt lo hi offs, len)) (hdt : (pc : Int) + dflt = (dt : Int))
    (hgo : ∀ x : Int32, (¬ x.toInt < lo ∧ ¬ hi < x.toInt ∧ ∃ off, offs[(x.toInt - lo).toNat]? = some off ∧ (pc : Int) + off = (go x : Int)) ∨ ((x.toInt < lo ∨ hi < x.toInt) ∧ go x = dt))
    (hcs : ∀ q ∈ cs, SO p l e R s m args below meth c cells slots Q nL A G cy dC dI (go q.1) q.2) (hd : ∀ x : Int32, (∀ q ∈ cs, ¬ x = q.1) → SO p l e R s m args below meth c cells slots Q nL A G cy dC dI (go x) dk) : SO p l e R s m args below meth c cells slots Q nL A G cy dC dI pc (i_sw cs dk) := by
  refine s_sw go (fun x lv st M h => ?_) cs hcs hd
  intro H locs ls hP hS hl
  rcases hgo x with ⟨h1, h2, off, h3, h4⟩ | ⟨h1, h2⟩
  · exact lv_tableIn F.1 F.2.1 d h1 h2 h3 h4 (h H locs ls hP hS hl)
  · rw [h2] at h
    exact lv_tableOut F.1 F.2.1 d h1 hdt (h H locs ls hP hS hl)
theorem s_lsw (F : FX p m c cc nL own s args A G cy dC dI) {pc len : Nat} {dflt : Int} {ps : Array (Int × Int)} {dk : PT} (cs : List (Int32 × PT)) (go : Int32 → Nat) (d : decode cc pc = .ok (.lookupswitch dflt ps, len)) (hp : (ps.toList.zip (ps.toList.drop 1)).all (fun (a, next) => a.1 < next.1) = true)
    (hgo : ∀ x : Int32, (pc : Int) + Op.lookupswitch.offset ps.toList dflt x.toInt = (go x : Int))
    (hcs : ∀ q ∈ cs, SO p l e R s m args below meth c cells slots Q nL A G cy dC dI (go q.1) q.2) (hd : ∀ x : Int32, (∀ q ∈ cs, ¬ x = q.1) → SO p l e R s m args below meth c cells slots Q nL A G cy dC dI (go x) dk) : SO p l e R s m args below meth c cells slots Q nL A G cy dC dI pc (i_sw cs dk) := by
  refine s_sw go (fun x lv st M h => ?_) cs hcs hd
  intro H locs ls hP hS hl
  exact lv_lookup F.1 F.2.1 d hp rfl (hgo x) (h H locs ls hP hS hl)
set_option maxHeartbeats 1000000 in
theorem s_getI (F : FX p m c cc nL own s args A G cy dC dI) {pc ix t f ci N : Nat} {k : PT} {C : String} {T : u_T} (d : decode cc pc = .ok (.getfield ix, 3)) (hc : mcl[ci]? = some (C, T, N)) (hin : ∀ w ∈ u_ws C T N, w ∈ lw_all) (hf : f < N) (q : Cond.fieldLink own ix (T f).1 (T f).2.1 (T f).2.2.1 ∈ lw_all)
    (hv : ∀ (i : Nat) (a : Nat → Int32) (b : Nat → Int64) (z : Nat → UInt64), ∃ fs : List Value, cR G cy t i a b z = .inr (ci, fs) ∧ fs[f]? = some (.int (a f))) (h : SO p l e R s m args below meth c cells slots Q nL A G cy dC dI (pc + 3) k) : SO p l e R s m args below meth c cells slots Q nL A G cy dC dI pc (i_getI t f k) := by
  intro lv st M hw H locs ls hP hS hl
  unfold i_getI at hw
  split at hw
  · rename_i t' i r
    obtain ⟨rfl, h2, h3⟩ := hw
    obtain ⟨fs, e1, e2⟩ := hv i (M.1 t' i) (M.2.1 t' i) (M.2.2 t' i)
    exact va_get F.1 F.2.1 F.2.2.2.2.1 hin F.2.2.2.1 F.2.2.2.2.2.1 hP (tOff t' + i) (by rw [wl_at h2, ← e1]) hc f hf (F.2.2.2.2.1 _ q) (fun _ h9 => h9) e2 d (h _ _ _ h3 H locs ls hP hS hl)
  · exact hw.elim
theorem s_getIN (F : FX p m c cc nL own s args A G cy dC dI) {pc ix t f ci N : Nat} {k : PT} {C host : String} {T : u_T} (d : decode cc pc = .ok (.getfield ix, 3)) (hc : mcl[ci]? = some (C, T, N)) (hin : ∀ w ∈ u_ws C T N, w ∈ lw_all) (hf : f < N) (q : Cond.fieldLinkNest own ix (T f).1 (T f).2.1 (T f).2.2.1 host ∈ nwL)
    (hv : ∀ (i : Nat) (a : Nat → Int32) (b : Nat → Int64) (z : Nat → UInt64), ∃ fs : List Value, cR G cy t i a b z = .inr (ci, fs) ∧ fs[f]? = some (.int (a f))) (h : SO p l e R s m args below meth c cells slots Q nL A G cy dC dI (pc + 3) k) : SO p l e R s m args below meth c cells slots Q nL A G cy dC dI pc (i_getI t f k) := by
  intro lv st M hw H locs ls hP hS hl
  unfold i_getI at hw
  split at hw
  · rename_i t' i r
    obtain ⟨rfl, h2, h3⟩ := hw
    obtain ⟨fs, e1, e2⟩ := hv i (M.1 t' i) (M.2.1 t' i) (M.2.2 t' i)
    exact va_getN F.1 F.2.1 F.2.2.2.2.1 hin F.2.2.2.1 F.2.2.2.2.2.1 hP (tOff t' + i) (by rw [wl_at h2, ← e1]) hc f hf (va_Nw.use (nwL_tab _ q) (F.2.2.2.2.2.2.1 _ q)) (fun _ h9 => h9) e2 d (h _ _ _ h3 H locs ls hP hS hl)
  · exact hw.elim
theorem s_getR (F : FX p m c cc nL own s args A G cy dC dI) {pc ix t f ci N t2 : Nat} {g : Nat → Nat} {k : PT} {C : String} {T : u_T} (d : decode cc pc = .ok (.getfield ix, 3)) (hc : mcl[ci]? = some (C, T, N)) (hin : ∀ w ∈ u_ws C T N, w ∈ lw_all) (hf : f < N) (q : Cond.fieldLink own ix (T f).1 (T f).2.1 (T f).2.2.1 ∈ lw_all)
    (hv : ∀ (i : Nat) (a : Nat → Int32) (b : Nat → Int64) (z : Nat → UInt64), ∃ fs : List Value, cR G cy t i a b z = .inr (ci, fs) ∧ fs[f]? = some (.ref (G t2 (g i)))) (h : SO p l e R s m args below meth c cells slots Q nL A G cy dC dI (pc + 3) k) : SO p l e R s m args below meth c cells slots Q nL A G cy dC dI pc (i_getR t t2 g k) := by
  intro lv st M hw H locs ls hP hS hl
  unfold i_getR at hw
  split at hw
  · rename_i t' i r
    obtain ⟨rfl, h2, h3⟩ := hw
    obtain ⟨fs, e1, e2⟩ := hv i (M.1 t' i) (M.2.1 t' i) (M.2.2 t' i)
    exact va_get F.1 F.2.1 F.2.2.2.2.1 hin F.2.2.2.1 F.2.2.2.2.2.1 hP (tOff t' + i) (by rw [wl_at h2, ← e1]) hc f hf (F.2.2.2.2.1 _ q) (fun _ h9 => h9) e2 d (h _ _ _ h3 H locs ls hP hS hl)
  · exact hw.elim
set_option maxHeartbeats 1000000 in
theorem s_putI (F : FX p m c cc nL own s args A G cy dC dI) {pc ix t f ci N : Nat} {k : PT} {C : String} {T : u_T} (d : decode cc pc = .ok (.putfield ix, 3)) (hc : mcl[ci]? = some (C, T, N)) (hin : ∀ w ∈ u_ws C T N, w ∈ lw_all) (ty0 : Nat → FieldType) (hty : ∀ k, k < N → parseFieldDescriptor (T k).2.2.1 = some (ty0 k)) (hnm : ∀ a, a < N → ∀ b, b < N → a ≠ b → (T a).2.1 ≠ (T b).2.1) (hf : f < N) (q : Cond.fieldLink own ix (T f).1 (T f).2.1 (T f).2.2.1 ∈ lw_all) (hfin : (T f).2.2.2 = false) (hint : parseFieldDescriptor (T f).2.2.1 = some .int)
    (hv : ∀ (i : Nat) (a : Nat → Int32) (b : Nat → Int64) (z : Nat → UInt64) (v : Int32), ∃ fs : List Value, cR G cy t i a b z = .inr (ci, fs) ∧ f < fs.length ∧ cR G cy t i (upd a f v) b z = .inr (ci, fs.set f (.int v))) (h : SO p l e R s m args below meth c cells slots Q nL A G cy dC dI (pc + 3) k) : SO p l e R s m args below meth c cells slots Q nL A G cy dC dI pc (i_putI t f k) := by
  intro lv st M hw H locs ls hP hS hl
  unfold i_putI at hw
  split at hw
  · rename_i v t' i r
    obtain ⟨rfl, h2, h3⟩ := hw
    obtain ⟨fs, e1, e2, e3⟩ := hv i (M.1 t' i) (M.2.1 t' i) (M.2.2 t' i) v
    refine va_put F.1 F.2.1 F.2.2.2.2.1 hin ty0 hty hnm F.2.2.2.1 F.2.2.2.2.2.1 hP (wl_D F.2.2.2.2.2.2.2 cy M) hS (tOff t' + i) (by rw [wl_at h2, ← e1]) hc f hf (F.2.2.2.2.1 _ q) (fun _ h9 => h9) hfin hint rfl rfl e2 d (fun H1 locs1 hP1 _ hS1 => ?_)
    refine h _ _ _ h3 H1 locs1 ls ?_ hS1 hl
    have key : (wl G cy M).set (tOff t' + i) (G t' i, .inr (ci, fs.set f (.int v))) = wl G cy (sI M t' i f v) := by
      refine wl_set h2 ?_ ?_ (fun _ _ _ => rfl) (fun _ _ _ => rfl)
      · refine Eq.trans ?_ e3
        show cR G cy t' i _ _ _ = _
        congr 1
        funext z
        simp [sI, upd]
      · intro t2 i2 hne
        funext z
        simp only [sI]
        rw [if_neg (fun e => hne ⟨e.1, e.2.1⟩)]
    show va_P _ _ (wl G cy (sI M t' i f v)) H1
    rw [← key]
    exact hP1
  · exact hw.elim
set_option maxHeartbeats 1000000 in
theorem s_putIN (F : FX p m c cc nL own s args A G cy dC dI) {pc ix t f ci N : Nat} {k : PT} {C host : String} {T : u_T} (d : decode cc pc = .ok (.putfield ix, 3)) (hc : mcl[ci]? = some (C, T, N)) (hin : ∀ w ∈ u_ws C T N, w ∈ lw_all) (ty0 : Nat → FieldType) (hty : ∀ k, k < N → parseFieldDescriptor (T k).2.2.1 = some (ty0 k)) (hnm : ∀ a, a < N → ∀ b, b < N → a ≠ b → (T a).2.1 ≠ (T b).2.1) (hf : f < N) (q : Cond.fieldLinkNest own ix (T f).1 (T f).2.1 (T f).2.2.1 host ∈ nwL) (hfin : (T f).2.2.2 = false) (hint : parseFieldDescriptor (T f).2.2.1 = some .int)
    (hv : ∀ (i : Nat) (a : Nat → Int32) (b : Nat → Int64) (z : Nat → UInt64) (v : Int32), ∃ fs : List Value, cR G cy t i a b z = .inr (ci, fs) ∧ f < fs.length ∧ cR G cy t i (upd a f v) b z = .inr (ci, fs.set f (.int v))) (h : SO p l e R s m args below meth c cells slots Q nL A G cy dC dI (pc + 3) k) : SO p l e R s m args below meth c cells slots Q nL A G cy dC dI pc (i_putI t f k) := by
  intro lv st M hw H locs ls hP hS hl
  unfold i_putI at hw
  split at hw
  · rename_i v t' i r
    obtain ⟨rfl, h2, h3⟩ := hw
    obtain ⟨fs, e1, e2, e3⟩ := hv i (M.1 t' i) (M.2.1 t' i) (M.2.2 t' i) v
    refine va_putN F.1 F.2.1 F.2.2.2.2.1 hin ty0 hty hnm F.2.2.2.1 F.2.2.2.2.2.1 hP (wl_D F.2.2.2.2.2.2.2 cy M) hS (tOff t' + i) (by rw [wl_at h2, ← e1]) hc f hf (va_Nw.use (nwL_tab _ q) (F.2.2.2.2.2.2.1 _ q)) (fun _ h9 => h9) hfin hint rfl rfl e2 d (fun H1 locs1 hP1 _ hS1 => ?_)
    refine h _ _ _ h3 H1 locs1 ls ?_ hS1 hl
    have key : (wl G cy M).set (tOff t' + i) (G t' i, .inr (ci, fs.set f (.int v))) = wl G cy (sI M t' i f v) := by
      refine wl_set h2 ?_ ?_ (fun _ _ _ => rfl) (fun _ _ _ => rfl)
      · refine Eq.trans ?_ e3
        show cR G cy t' i _ _ _ = _
        congr 1
        funext z
        simp [sI, upd]
      · intro t2 i2 hne
        funext z
        simp only [sI]
        rw [if_neg (fun e => hne ⟨e.1, e.2.1⟩)]
    show va_P _ _ (wl G cy (sI M t' i f v)) H1
    rw [← key]
    exact hP1
  · exact hw.elim
theorem cR_0 {t i : Nat} {a : Nat → Int32} {b : Nat → Int64} {z : Nat → UInt64} (h : aK t = 0) : cR G cy t i a b z = .inl (cy 0, aN t, .inl a) := by
  have h0 : t ≠ 0 ∧ t ≠ 4 ∧ t ≠ 5 ∧ t ≠ 8 := ⟨fun e => by rw [e] at h; exact absurd h (by decide), fun e => by rw [e] at h; exact absurd h (by decide), fun e => by rw [e] at h; exact absurd h (by decide), fun e => by rw [e] at h; exact absurd h (by decide)⟩
  unfold cR
  rw [if_neg h0.1, if_neg h0.2.1, if_neg h0.2.2.1, if_neg h0.2.2.2, if_pos h]
theorem cR_1 {t i : Nat} {a : Nat → Int32} {b : Nat → Int64} {z : Nat → UInt64} (h : aK t = 1) : cR G cy t i a b z = .inl (cy 1, aN t, .inl a) := by
  have h0 : t ≠ 0 ∧ t ≠ 4 ∧ t ≠ 5 ∧ t ≠ 8 := ⟨fun e => by rw [e] at h; exact absurd h (by decide), fun e => by rw [e] at h; exact absurd h (by decide), fun e => by rw [e] at h; exact absurd h (by decide), fun e => by rw [e] at h; exact absurd h (by decide)⟩
  unfold cR
  rw [if_neg h0.1, if_neg h0.2.1, if_neg h0.2.2.1, if_neg h0.2.2.2, if_neg (by omega), if_pos h]
theorem cR_2 {t i : Nat} {a : Nat → Int32} {b : Nat → Int64} {z : Nat → UInt64} (h : aK t = 2) : cR G cy t i a b z = .inl (cy 2, aN t, .inr (.inl b)) := by
  have h0 : t ≠ 0 ∧ t ≠ 4 ∧ t ≠ 5 ∧ t ≠ 8 := ⟨fun e => by rw [e] at h; exact absurd h (by decide), fun e => by rw [e] at h; exact absurd h (by decide), fun e => by rw [e] at h; exact absurd h (by decide), fun e => by rw [e] at h; exact absurd h (by decide)⟩
  unfold cR
  rw [if_neg h0.1, if_neg h0.2.1, if_neg h0.2.2.1, if_neg h0.2.2.2, if_neg (by omega), if_neg (by omega), if_pos h]
theorem cR_3 {t i : Nat} {a : Nat → Int32} {b : Nat → Int64} {z : Nat → UInt64} (h : aK t = 3) : cR G cy t i a b z = .inl (cy 3, aN t, .inr (.inr (.inr (.inl z)))) := by
  have h0 : t ≠ 0 ∧ t ≠ 4 ∧ t ≠ 5 ∧ t ≠ 8 := ⟨fun e => by rw [e] at h; exact absurd h (by decide), fun e => by rw [e] at h; exact absurd h (by decide), fun e => by rw [e] at h; exact absurd h (by decide), fun e => by rw [e] at h; exact absurd h (by decide)⟩
  unfold cR
  rw [if_neg h0.1, if_neg h0.2.1, if_neg h0.2.2.1, if_neg h0.2.2.2, if_neg (by omega), if_neg (by omega), if_neg (by omega), if_pos h]
theorem cR_4 {t i : Nat} {a : Nat → Int32} {b : Nat → Int64} {z : Nat → UInt64} (h : aK t = 4 ∨ aK t = 5) : cR G cy t i a b z = .inl (cy (aK t), aN t, .inr (.inr (.inr (.inr (fun j => some (G (aR t j).1 (aR t j).2)))))) := by
  have h0 : t ≠ 0 ∧ t ≠ 4 ∧ t ≠ 5 ∧ t ≠ 8 := ⟨fun e => by rw [e] at h; exact absurd h (by decide), fun e => by rw [e] at h; exact absurd h (by decide), fun e => by rw [e] at h; exact absurd h (by decide), fun e => by rw [e] at h; exact absurd h (by decide)⟩
  unfold cR
  rw [if_neg h0.1, if_neg h0.2.1, if_neg h0.2.2.1, if_neg h0.2.2.2, if_neg (by omega), if_neg (by omega), if_neg (by omega), if_neg (by omega)]
set_option maxHeartbeats 1000000 in
theorem s_iald (F : FX p m c cc nL own s args A G cy dC dI) {pc : Nat} {k : PT} (d : decode cc pc = .ok (.iaload, 1)) (h : SO p l e R s m args below meth c cells slots Q nL A G cy dC dI (pc + 1) k) : SO p l e R s m args below meth c cells slots Q nL A G cy dC dI pc (i_iald 0 k) := by
  intro lv st M hw H locs ls hP hS hl
  unfold i_iald at hw
  split at hw
  · rename_i j t0 i0 r
    obtain ⟨h1, h2, h3, h4⟩ := hw
    exact va_iald F.1 F.2.1 F.2.2.2.2.2.1 hP (tOff t0 + i0) 0 (by rw [wl_at h2, cR_0 h1]) rfl h3 d (h _ _ _ h4 H locs ls hP hS hl)
  · exact hw.elim
set_option maxHeartbeats 1000000 in
theorem s_zald (F : FX p m c cc nL own s args A G cy dC dI) {pc : Nat} {k : PT} (d : decode cc pc = .ok (.baload, 1)) (h : SO p l e R s m args below meth c cells slots Q nL A G cy dC dI (pc + 1) k) : SO p l e R s m args below meth c cells slots Q nL A G cy dC dI pc (i_iald 1 k) := by
  intro lv st M hw H locs ls hP hS hl
  unfold i_iald at hw
  split at hw
  · rename_i j t0 i0 r
    obtain ⟨h1, h2, h3, h4⟩ := hw
    exact va_zald F.1 F.2.1 F.2.2.2.2.2.1 hP (tOff t0 + i0) 1 (by rw [wl_at h2, cR_1 h1]) rfl h3 d (h _ _ _ h4 H locs ls hP hS hl)
  · exact hw.elim
set_option maxHeartbeats 1000000 in
theorem s_lald (F : FX p m c cc nL own s args A G cy dC dI) {pc : Nat} {k : PT} (d : decode cc pc = .ok (.laload, 1)) (h : SO p l e R s m args below meth c cells slots Q nL A G cy dC dI (pc + 1) k) : SO p l e R s m args below meth c cells slots Q nL A G cy dC dI pc (i_lald k) := by
  intro lv st M hw H locs ls hP hS hl
  unfold i_lald at hw
  split at hw
  · rename_i j t0 i0 r
    obtain ⟨h1, h2, h3, h4⟩ := hw
    exact va_lald F.1 F.2.1 F.2.2.2.2.2.1 hP (tOff t0 + i0) 2 (by rw [wl_at h2, cR_2 h1]) rfl h3 d (h _ _ _ h4 H locs ls hP hS hl)
  · exact hw.elim
set_option maxHeartbeats 1000000 in
theorem s_dald (F : FX p m c cc nL own s args A G cy dC dI) {pc : Nat} {k : PT} (d : decode cc pc = .ok (.daload, 1)) (h : SO p l e R s m args below meth c cells slots Q nL A G cy dC dI (pc + 1) k) : SO p l e R s m args below meth c cells slots Q nL A G cy dC dI pc (i_dald k) := by
  intro lv st M hw H locs ls hP hS hl
  unfold i_dald at hw
  split at hw
  · rename_i j t0 i0 r
    obtain ⟨h1, h2, h3, h4⟩ := hw
    exact va_dald F.1 F.2.1 F.2.2.2.2.2.1 hP (tOff t0 + i0) 3 (by rw [wl_at h2, cR_3 h1]) rfl h3 d (h _ _ _ h4 H locs ls hP hS hl)
  · exact hw.elim
set_option maxHeartbeats 1000000 in
theorem s_aald (F : FX p m c cc nL own s args A G cy dC dI) {pc : Nat} {k : PT} (d : decode cc pc = .ok (.aaload, 1)) (h : SO p l e R s m args below meth c cells slots Q nL A G cy dC dI (pc + 1) k) : SO p l e R s m args below meth c cells slots Q nL A G cy dC dI pc (i_aald k) := by
  intro lv st M hw H locs ls hP hS hl
  unfold i_aald at hw
  split at hw
  · rename_i j t0 i0 r
    obtain ⟨h1, h2, h3, h4⟩ := hw
    rcases h1 with h1 | h1
    · exact va_aldq (f := fun j => some (G (aR t0 j).1 (aR t0 j).2)) (C := "MappingMoves$Column") F.1 F.2.1 F.2.2.2.2.2.1 hP (tOff t0 + i0) 4 (by rw [wl_at h2, cR_4 (Or.inl h1), h1]) rfl h3 d (h _ _ _ h4 H locs ls hP hS hl)
    · exact va_aldq (f := fun j => some (G (aR t0 j).1 (aR t0 j).2)) (C := "MappingMoves$Part") F.1 F.2.1 F.2.2.2.2.2.1 hP (tOff t0 + i0) 5 (by rw [wl_at h2, cR_4 (Or.inr h1), h1]) rfl h3 d (h _ _ _ h4 H locs ls hP hS hl)
  · exact hw.elim
set_option maxHeartbeats 1000000 in
theorem s_iast (F : FX p m c cc nL own s args A G cy dC dI) {pc : Nat} {k : PT} (d : decode cc pc = .ok (.iastore, 1)) (h : SO p l e R s m args below meth c cells slots Q nL A G cy dC dI (pc + 1) k) : SO p l e R s m args below meth c cells slots Q nL A G cy dC dI pc (i_iast k) := by
  intro lv st M hw H locs ls hP hS hl
  unfold i_iast at hw
  split at hw
  · rename_i v j t0 i0 r
    obtain ⟨h1, h2, h3, h4⟩ := hw
    refine va_iast F.1 F.2.1 F.2.2.2.2.2.1 hP (wl_D F.2.2.2.2.2.2.2 cy M) hS (tOff t0 + i0) 0 (by rw [wl_at h2, cR_0 h1]) rfl h3 d (fun H1 locs1 hP1 _ hS1 => ?_)
    refine h _ _ _ h4 H1 locs1 ls ?_ hS1 hl
    have key : (wl G cy M).set (tOff t0 + i0) (G t0 i0, .inl (cy 0, aN t0, .inl (upd (M.1 t0 i0) j.toNatClampNeg v))) = wl G cy (sI M t0 i0 j.toNatClampNeg v) := by
      refine wl_set h2 ?_ (fun t2 i2 hne => by funext y; simp only [sI]; rw [if_neg (fun e => hne ⟨e.1, e.2.1⟩)]) (fun _ _ _ => rfl) (fun _ _ _ => rfl)
      show cR G cy t0 i0 _ _ _ = _
      rw [cR_0 h1]
      congr 4
      funext y
      simp [sI, upd]
    rw [← key]
    exact hP1
  · exact hw.elim
set_option maxHeartbeats 1000000 in
theorem s_bast (F : FX p m c cc nL own s args A G cy dC dI) {pc : Nat} {k : PT} (d : decode cc pc = .ok (.bastore, 1)) (h : SO p l e R s m args below meth c cells slots Q nL A G cy dC dI (pc + 1) k) : SO p l e R s m args below meth c cells slots Q nL A G cy dC dI pc (i_bast k) := by
  intro lv st M hw H locs ls hP hS hl
  unfold i_bast at hw
  split at hw
  · rename_i v j t0 i0 r
    obtain ⟨h1, h2, h3, h4⟩ := hw
    refine va_zast F.1 F.2.1 F.2.2.2.2.2.1 hP (wl_D F.2.2.2.2.2.2.2 cy M) hS (tOff t0 + i0) 1 (by rw [wl_at h2, cR_1 h1]) rfl h3 d (fun H1 locs1 hP1 _ hS1 => ?_)
    refine h _ _ _ h4 H1 locs1 ls ?_ hS1 hl
    have key : (wl G cy M).set (tOff t0 + i0) (G t0 i0, .inl (cy 1, aN t0, .inl (upd (M.1 t0 i0) j.toNatClampNeg (vp_nar .boolean v)))) = wl G cy (sI M t0 i0 j.toNatClampNeg (vp_nar .boolean v)) := by
      refine wl_set h2 ?_ (fun t2 i2 hne => by funext y; simp only [sI]; rw [if_neg (fun e => hne ⟨e.1, e.2.1⟩)]) (fun _ _ _ => rfl) (fun _ _ _ => rfl)
      show cR G cy t0 i0 _ _ _ = _
      rw [cR_1 h1]
      congr 4
      funext y
      simp [sI, upd]
    rw [← key]
    exact hP1
  · exact hw.elim
set_option maxHeartbeats 1000000 in
theorem s_last (F : FX p m c cc nL own s args A G cy dC dI) {pc : Nat} {k : PT} (d : decode cc pc = .ok (.lastore, 1)) (h : SO p l e R s m args below meth c cells slots Q nL A G cy dC dI (pc + 1) k) : SO p l e R s m args below meth c cells slots Q nL A G cy dC dI pc (i_last k) := by
  intro lv st M hw H locs ls hP hS hl
  unfold i_last at hw
  split at hw
  · rename_i v j t0 i0 r
    obtain ⟨h1, h2, h3, h4⟩ := hw
    refine va_last F.1 F.2.1 F.2.2.2.2.2.1 hP (wl_D F.2.2.2.2.2.2.2 cy M) hS (tOff t0 + i0) 2 (by rw [wl_at h2, cR_2 h1]) rfl h3 d (fun H1 locs1 hP1 _ hS1 => ?_)
    refine h _ _ _ h4 H1 locs1 ls ?_ hS1 hl
    have key : (wl G cy M).set (tOff t0 + i0) (G t0 i0, .inl (cy 2, aN t0, .inr (.inl (vp_updL (M.2.1 t0 i0) j.toNatClampNeg v)))) = wl G cy (sL M t0 i0 j.toNatClampNeg v) := by
      refine wl_set h2 ?_ (fun _ _ _ => rfl) (fun t2 i2 hne => by funext y; simp only [sL]; rw [if_neg (fun e => hne ⟨e.1, e.2.1⟩)]) (fun _ _ _ => rfl)
      show cR G cy t0 i0 _ _ _ = _
      rw [cR_2 h1]
      congr 5
      funext y
      simp [sL, vp_updL]
    rw [← key]
    exact hP1
  · exact hw.elim
set_option maxHeartbeats 1000000 in
theorem s_dast (F : FX p m c cc nL own s args A G cy dC dI) {pc : Nat} {k : PT} (d : decode cc pc = .ok (.dastore, 1)) (h : SO p l e R s m args below meth c cells slots Q nL A G cy dC dI (pc + 1) k) : SO p l e R s m args below meth c cells slots Q nL A G cy dC dI pc (i_dast k) := by
  intro lv st M hw H locs ls hP hS hl
  unfold i_dast at hw
  split at hw
  · rename_i v j t0 i0 r
    obtain ⟨h1, h2, h3, h4⟩ := hw
    refine va_dast F.1 F.2.1 F.2.2.2.2.2.1 hP (wl_D F.2.2.2.2.2.2.2 cy M) hS (tOff t0 + i0) 3 (by rw [wl_at h2, cR_3 h1]) rfl h3 d (fun H1 locs1 hP1 _ hS1 => ?_)
    refine h _ _ _ h4 H1 locs1 ls ?_ hS1 hl
    have key : (wl G cy M).set (tOff t0 + i0) (G t0 i0, .inl (cy 3, aN t0, .inr (.inr (.inr (.inl (vf_upd (M.2.2 t0 i0) j.toNatClampNeg v)))))) = wl G cy (sD M t0 i0 j.toNatClampNeg v) := by
      refine wl_set h2 ?_ (fun _ _ _ => rfl) (fun _ _ _ => rfl) (fun t2 i2 hne => by funext y; simp only [sD]; rw [if_neg (fun e => hne ⟨e.1, e.2.1⟩)])
      show cR G cy t0 i0 _ _ _ = _
      rw [cR_3 h1]
      congr 7
      funext y
      simp [sD, vf_upd]
    rw [← key]
    exact hP1
  · exact hw.elim
set_option maxHeartbeats 1000000 in
theorem s_alen (F : FX p m c cc nL own s args A G cy dC dI) {pc : Nat} {k : PT} (d : decode cc pc = .ok (.arraylength, 1)) (h : SO p l e R s m args below meth c cells slots Q nL A G cy dC dI (pc + 1) k) : SO p l e R s m args below meth c cells slots Q nL A G cy dC dI pc (i_alen k) := by
  intro lv st M hw H locs ls hP hS hl
  unfold i_alen at hw
  split at hw
  · rename_i t0 i0 r
    obtain ⟨h1, h2, h4⟩ := hw
    have key : ∃ (x : vp_A) (ty : FieldType), (wl G cy M)[tOff t0 + i0]? = some (G t0 i0, .inl (cy (aK t0), x)) ∧ (tys cy)[aK t0]? = some (cy (aK t0), ty) ∧ x.1 = aN t0 := by
      rcases (show aK t0 = 0 ∨ aK t0 = 1 ∨ aK t0 = 2 ∨ aK t0 = 3 ∨ aK t0 = 4 ∨ aK t0 = 5 by omega) with q | q | q | q | q | q
      · exact ⟨_, _, by rw [wl_at h2, cR_0 q, q], by rw [q]; rfl, rfl⟩
      · exact ⟨_, _, by rw [wl_at h2, cR_1 q, q], by rw [q]; rfl, rfl⟩
      · exact ⟨_, _, by rw [wl_at h2, cR_2 q, q], by rw [q]; rfl, rfl⟩
      · exact ⟨_, _, by rw [wl_at h2, cR_3 q, q], by rw [q]; rfl, rfl⟩
      · exact ⟨_, _, by rw [wl_at h2, cR_4 (Or.inl q)], by rw [q]; rfl, rfl⟩
      · exact ⟨_, _, by rw [wl_at h2, cR_4 (Or.inr q)], by rw [q]; rfl, rfl⟩
    obtain ⟨x, ty, k1, k2, k3⟩ := key
    exact va_alen F.1 F.2.1 F.2.2.2.2.2.1 hP (tOff t0 + i0) (aK t0) k1 k2 (by rw [k3]) d (h _ _ _ h4 H locs ls hP hS hl)
  · exact hw.elim
set_option maxHeartbeats 1000000 in
theorem s_cpL (F : FX p m c cc nL own s args A G cy dC dI) {pc ix : Nat} {k : PT} (d : decode cc pc = .ok (.invokestatic ix, 3)) (q : Cond.methodLink own ix arraycopyName ∈ lw_all) (hR : 1 ≤ R.frames ∧ 8 + (nativeFrameWords "java/lang/System" "arraycopy" 5 + 11) ≤ R.locals) (h : SO p l e R s m args below meth c cells slots Q nL A G cy dC dI (pc + 3) k) : SO p l e R s m args below meth c cells slots Q nL A G cy dC dI pc (i_cpL k) := by
  intro lv st M hw H locs ls hP hS hl
  unfold i_cpL at hw
  split at hw
  · rename_i n dp t0 i0 sp a1 a2 r
    obtain ⟨h1, h2, h3, h4, h5, h6, h7, h8, h9, h10, h11⟩ := hw
    refine va_copyl F.1 F.2.1 (F.2.2.1.trans hl.1.symm) F.2.2.2.1 (F.2.2.2.2.1 _ q) (F.2.2.2.2.1 _ q275) (F.2.2.2.2.1 _ q274) (F.2.2.2.2.1 _ q13) F.2.2.2.2.2.1 hP (wl_D F.2.2.2.2.2.2.2 cy M) hS (tOff a1 + a2) (tOff t0 + i0) 2 2 (by rw [wl_at h4, cR_2 h2]) (by rw [wl_at h3, cR_2 h1]) rfl rfl rfl h5 h6 h7 h8 h9 (fun _ _ => rfl) hR.1 (by rw [catS_eq]; omega) d (fun H1 locs1 hP1 _ hS1 => ?_)
    refine h _ _ _ h11 H1 locs1 ls ?_ hS1 hl
    have key : (wl G cy M).set (tOff t0 + i0) (G t0 i0, .inl (cy 2, aN t0, .inr (.inl (va_cpy (M.2.1 a1 a2) (M.2.1 t0 i0) sp.toNatClampNeg dp.toNatClampNeg n.toNatClampNeg)))) = wl G cy (rL M t0 i0 (va_cpy (M.2.1 a1 a2) (M.2.1 t0 i0) sp.toNatClampNeg dp.toNatClampNeg n.toNatClampNeg)) := by
      refine wl_set h3 ?_ (fun _ _ _ => rfl) (fun t2 i2 hne => by simp only [rL]; rw [if_neg hne]) (fun _ _ _ => rfl)
      show cR G cy t0 i0 _ _ _ = _
      rw [cR_2 h1]
      simp [rL]
    rw [← key]
    exact hP1
  · exact hw.elim
set_option maxHeartbeats 1000000 in
theorem s_cpD (F : FX p m c cc nL own s args A G cy dC dI) {pc ix : Nat} {k : PT} (d : decode cc pc = .ok (.invokestatic ix, 3)) (q : Cond.methodLink own ix arraycopyName ∈ lw_all) (hR : 1 ≤ R.frames ∧ 8 + (nativeFrameWords "java/lang/System" "arraycopy" 5 + 11) ≤ R.locals) (h : SO p l e R s m args below meth c cells slots Q nL A G cy dC dI (pc + 3) k) : SO p l e R s m args below meth c cells slots Q nL A G cy dC dI pc (i_cpD k) := by
  intro lv st M hw H locs ls hP hS hl
  unfold i_cpD at hw
  split at hw
  · rename_i n dp t0 i0 sp a1 a2 r
    obtain ⟨h1, h2, h3, h4, h5, h6, h7, h8, h9, h10, h11⟩ := hw
    refine va_copyd F.1 F.2.1 (F.2.2.1.trans hl.1.symm) F.2.2.2.1 (F.2.2.2.2.1 _ q) (F.2.2.2.2.1 _ q275) (F.2.2.2.2.1 _ q274) (F.2.2.2.2.1 _ q13) F.2.2.2.2.2.1 hP (wl_D F.2.2.2.2.2.2.2 cy M) hS (tOff a1 + a2) (tOff t0 + i0) 3 3 (by rw [wl_at h4, cR_3 h2]) (by rw [wl_at h3, cR_3 h1]) rfl rfl rfl h5 h6 h7 h8 h9 (fun _ _ => rfl) hR.1 (by rw [catS_eq]; omega) d (fun H1 locs1 hP1 _ hS1 => ?_)
    refine h _ _ _ h11 H1 locs1 ls ?_ hS1 hl
    have key : (wl G cy M).set (tOff t0 + i0) (G t0 i0, .inl (cy 3, aN t0, .inr (.inr (.inr (.inl (va_cpy (M.2.2 a1 a2) (M.2.2 t0 i0) sp.toNatClampNeg dp.toNatClampNeg n.toNatClampNeg)))))) = wl G cy (rD M t0 i0 (va_cpy (M.2.2 a1 a2) (M.2.2 t0 i0) sp.toNatClampNeg dp.toNatClampNeg n.toNatClampNeg)) := by
      refine wl_set h3 ?_ (fun _ _ _ => rfl) (fun _ _ _ => rfl) (fun t2 i2 hne => by simp only [rD]; rw [if_neg hne])
      show cR G cy t0 i0 _ _ _ = _
      rw [cR_3 h1]
      simp [rD]
    rw [← key]
    exact hP1
  · exact hw.elim
set_option maxHeartbeats 1000000 in
theorem s_cut (is : List Nat) {pc : Nat} {k : PT} (h : SO p l e R s m args below meth c cells slots Q nL A G cy dC dI pc k) : SO p l e R s m args below meth c cells slots Q nL A G cy dC dI pc (i_cut is k) := by
  intro lv st M hw H locs ls hP hS hl
  unfold i_cut at hw
  split at hw
  · rename_i lv' hp
    exact h _ _ _ hw H locs ls hP hS (pick_has hl hp)
  · exact hw.elim
/-- contracts: int or boolean, long, nothing comes back -/
def PCW (G : Nat → Nat → Nat) (cy : Nat → ClassId) (dC : Nat → ClassId) (dI : Nat → Nat → Nat) (as : List AV) (M : MM) : Array Value → State → Prop := va_Pc (as.map (cv G)) (fun U => va_P (dC, dI) mcl (wl G cy M) U.heap ∧ va_K (dC, dI) mcl (tys cy) U ∧ NW U)
def QI (G : Nat → Nat → Nat) (cy : Nat → ClassId) (dC : Nat → ClassId) (dI : Nat → Nat → Nat) (post : Option AV → MM → Prop) : Array Value → State → Outcome → State → Prop := va_Qi (fun (r : Int32) (u : MM) => post (some (.inl (.int r))) u) (fun u t => va_P (dC, dI) mcl (wl G cy u) t.heap) (AW G)
def QL (G : Nat → Nat → Nat) (cy : Nat → ClassId) (dC : Nat → ClassId) (dI : Nat → Nat → Nat) (post : Option AV → MM → Prop) : Array Value → State → Outcome → State → Prop := va_Ql (fun (r : Int64) (u : MM) => post (some (.inl (.long r))) u) (fun u t => va_P (dC, dI) mcl (wl G cy u) t.heap) (AW G)
def QV (G : Nat → Nat → Nat) (cy : Nat → ClassId) (dC : Nat → ClassId) (dI : Nat → Nat → Nat) (post : Option AV → MM → Prop) : Array Value → State → Outcome → State → Prop := va_Qv (fun (u : MM) => post none u) (fun u t => va_P (dC, dI) mcl (wl G cy u) t.heap) (AW G)
def CI (l : Launch) (y : MethodName) (ws : List Cond) (rm : Room) (S : SP) : Prop := ∀ (G : Nat → Nat → Nat) (cy dC : Nat → ClassId) (dI : Nat → Nat → Nat), GJ G → ∀ (as : List AV) (M : MM) (post : Option AV → MM → Prop), S as M post → Met l y ws rm (PCW G cy dC dI as M) (QI G cy dC dI post) 0 0 (AW G)
def CL (l : Launch) (y : MethodName) (ws : List Cond) (rm : Room) (S : SP) : Prop := ∀ (G : Nat → Nat → Nat) (cy dC : Nat → ClassId) (dI : Nat → Nat → Nat), GJ G → ∀ (as : List AV) (M : MM) (post : Option AV → MM → Prop), S as M post → Met l y ws rm (PCW G cy dC dI as M) (QL G cy dC dI post) 0 0 (AW G)
def CV (l : Launch) (y : MethodName) (ws : List Cond) (rm : Room) (S : SP) : Prop := ∀ (G : Nat → Nat → Nat) (cy dC : Nat → ClassId) (dI : Nat → Nat → Nat), GJ G → ∀ (as : List AV) (M : MM) (post : Option AV → MM → Prop), S as M post → Met l y ws rm (PCW G cy dC dI as M) (QV G cy dC dI post) 0 0 (AW G)
theorem PCW_blind (as : List AV) (M : MM) : FrameBlind (PCW G cy dC dI as M) := fun a U g mk q => by
  obtain ⟨q0, qP, qK, qN⟩ := q
  exact ⟨q0, qP, va_K.moved (u := U) (U := U.calling g mk a) (Vm.Alike.refl U.vm) qK, NW.same (u := U) (U := U.calling g mk a) rfl qN⟩
theorem s_iret (F : FX p m c cc nL own s args (AW G) G cy dC dI) {pc : Nat} {post : Option AV → MM → Prop} (d : decode cc pc = .ok (.ireturn, 1)) (hr : meth.sig.returnType = some .int) (hlocks : meth.locks = false) : SO p l e R s m args below meth c cells slots (MQ below (QI G cy dC dI post) args s cells slots (AW G)) nL (AW G) G cy dC dI pc (i_iret post) := by
  intro lv st M hw H locs ls hP hS hl
  unfold i_iret at hw
  split at hw
  · rename_i v
    exact W.iret F.1 F.2.1 hr (fun t ht hW => ⟨⟨v, M, rfl, hw, by show va_P _ _ _ t.heap; rw [ht]; exact hP⟩, hS.F ht⟩) hS.2.2 d hlocks
  · exact hw.elim
theorem s_zret (F : FX p m c cc nL own s args (AW G) G cy dC dI) {pc : Nat} {post : Option AV → MM → Prop} (d : decode cc pc = .ok (.ireturn, 1)) (hr : meth.sig.returnType = some .boolean) (hlocks : meth.locks = false) : SO p l e R s m args below meth c cells slots (MQ below (QI G cy dC dI post) args s cells slots (AW G)) nL (AW G) G cy dC dI pc (i_zret post) := by
  intro lv st M hw H locs ls hP hS hl
  unfold i_zret at hw
  split at hw
  · rename_i v
    exact W.zret F.1 F.2.1 hr (by rcases hw.1 with h | h <;> rw [h] <;> decide) (fun t ht hW => ⟨⟨v, M, rfl, hw.2, by show va_P _ _ _ t.heap; rw [ht]; exact hP⟩, hS.F ht⟩) hS.2.2 d hlocks
  · exact hw.elim
theorem s_lret (F : FX p m c cc nL own s args (AW G) G cy dC dI) {pc : Nat} {post : Option AV → MM → Prop} (d : decode cc pc = .ok (.lreturn, 1)) (hr : meth.sig.returnType = some .long) (hlocks : meth.locks = false) : SO p l e R s m args below meth c cells slots (MQ below (QL G cy dC dI post) args s cells slots (AW G)) nL (AW G) G cy dC dI pc (i_lret post) := by
  intro lv st M hw H locs ls hP hS hl
  unfold i_lret at hw
  split at hw
  · rename_i v
    exact W.lret F.1 F.2.1 hr (fun t ht hW => ⟨⟨v, M, rfl, hw, by show va_P _ _ _ t.heap; rw [ht]; exact hP⟩, hS.F ht⟩) hS.2.2 d hlocks
  · exact hw.elim
theorem s_vret (F : FX p m c cc nL own s args (AW G) G cy dC dI) {pc : Nat} {post : Option AV → MM → Prop} (d : decode cc pc = .ok (.return_, 1)) (hr : meth.sig.returnType = none) (hlocks : meth.locks = false) : SO p l e R s m args below meth c cells slots (MQ below (QV G cy dC dI post) args s cells slots (AW G)) nL (AW G) G cy dC dI pc (i_vret post) := by
  intro lv st M hw H locs ls hP hS hl
  unfold i_vret at hw
  split at hw
  · exact W.vret F.1 F.2.1 hr (fun t ht hW => ⟨⟨M, rfl, hw, by show va_P _ _ _ t.heap; rw [ht]; exact hP⟩, hS.F ht⟩) hS.2.2 d hlocks
  · exact hw.elim
set_option maxHeartbeats 1000000 in
theorem s_callSi (F : FX p m c cc nL own s args A G cy dC dI) {pc ix n maxL : Nat} {k : PT} {y : MethodName} {bytes : ByteArray} {ret : Option FieldType} {rm : Room} {S : SP} (d : decode cc pc = .ok (.invokestatic ix, 3)) (hM : CI l y (ws_ y bytes maxL ret) rm S) (hg : GoodIn lw_all (va_wsS own ix y (ws_ y bytes maxL ret))) (hrc : rm.cells = 0 ∧ rm.slots = 0) (hd : y.cls ≠ "java/lang/invoke/MethodHandle" ∧ y.cls ≠ "java/lang/invoke/VarHandle" ∧ (parseMethodDescriptor y.desc).map (fun d => d.parameters.length) = some n) (hR : rm.frames + 1 ≤ R.frames ∧ 8 + (maxL + 11) + rm.locals ≤ R.locals) (hcs : cells ≤ R.cells ∧ slots ≤ R.slots) (h : SO p l e R s m args below meth c cells slots Q nL A G cy dC dI (pc + 3) k) : SO p l e R s m args below meth c cells slots Q nL A G cy dC dI pc (i_call n S k) := by
  intro lv st M hw H locs ls hP hS hl
  unfold i_call at hw
  split at hw
  · rename_i q hq
    obtain ⟨as, r0⟩ := q
    obtain ⟨zs, z1, rfl, z3⟩ := popn_eq G _ _ _ _ _ hq
    rw [List.append_nil] at z3
    subst z3
    obtain ⟨hc8, hS2⟩ := hw
    have hMet := hM G cy dC dI F.2.2.2.2.2.2.2.1 _ M _ hS2
    refine va_calli (va_runS (As := as.map (cv G)) (rest := r0.map (cv G)) ⟨F.1, F.2.1, F.2.2.1, F.2.2.2.1, F.2.2.2.2.1⟩ hMet (va_cwS n F.2.2.2.2.1 hg rfl hrc.1 hrc.2 hd hR) ⟨PCW_blind _ _, fun U hU hW => ⟨rfl, by rw [hU]; exact hP, va_K.moved hW.alike F.2.2.2.2.2.1, NW.warm hW F.2.2.2.2.2.2.1⟩⟩ rfl (by rw [List.length_map, z1]) hl.1 (by simp) (lv_room (by rw [catS_eq]; exact hc8)) d hcs) hS (fun q _ hq => ?_) (fun q hq => ?_) (fun r u t H1 locs1 ht hvm hw hB hz1 hk1 hS1 => ?_)
    · obtain ⟨t9, i9, h9, rfl⟩ := hq; exact F.2.2.2.2.2.2.2.2 _ _ h9
    · obtain ⟨t9, i9, h9, rfl⟩ := hq; exact F.2.2.2.2.2.2.2.2 _ _ h9
    · exact h _ _ _ hw H1 locs1 ls (by rw [← ht]; exact hB) hS1 hl
  · exact hw.elim
theorem s_callVi (F : FX p m c cc nL own s args A G cy dC dI) {pc ix n maxL t ci : Nat} {k : PT} {y : MethodName} {bytes : ByteArray} {ret : Option FieldType} {rm : Room} {S : SP} {C : String} {T : u_T} {N : Nat} (d : decode cc pc = .ok (.invokevirtual ix, 3)) (hM : CI l y (ws_ y bytes maxL ret) rm S) (hg : GoodIn lw_all (wsV own ix C y (ws_ y bytes maxL ret))) (hrc : rm.cells = 0 ∧ rm.slots = 0) (hd : y.cls = C ∧ y.cls ≠ "java/lang/invoke/MethodHandle" ∧ y.cls ≠ "java/lang/invoke/VarHandle" ∧ (parseMethodDescriptor y.desc).map (fun d => d.parameters.length) = some n) (hR : rm.frames + 1 ≤ R.frames ∧ 8 + (maxL + 11) + rm.locals ≤ R.locals) (hcs : cells ≤ R.cells ∧ slots ≤ R.slots) (hc : mcl[ci]? = some (C, T, N)) (hv : ∀ (i : Nat) (a : Nat → Int32) (b : Nat → Int64) (z : Nat → UInt64), ∃ fs : List Value, cR G cy t i a b z = .inr (ci, fs)) (h : SO p l e R s m args below meth c cells slots Q nL A G cy dC dI (pc + 3) k) : SO p l e R s m args below meth c cells slots Q nL A G cy dC dI pc (i_callV n t S k) := by
  intro lv st M hw H locs ls hP hS hl
  unfold i_callV at hw
  split at hw
  · rename_i q hq
    obtain ⟨as, r0⟩ := q
    obtain ⟨zs, z1, rfl, z3⟩ := popn_eq G _ _ _ _ _ hq
    rw [List.append_nil] at z3
    subst z3
    dsimp only at hw
    split at hw
    · rename_i t' i r1
      obtain ⟨rfl, h2, hc8, hS2⟩ := hw
      obtain ⟨fs, e1⟩ := hv i (M.1 t' i) (M.2.1 t' i) (M.2.2 t' i)
      have hMet := hM G cy dC dI F.2.2.2.2.2.2.2.1 _ M _ hS2
      refine va_calli (va_runV (As := as.map (cv G)) (rest := r1.map (cv G)) (b := G t' i) ⟨F.1, F.2.1, F.2.2.1, F.2.2.2.1, F.2.2.2.2.1⟩ hMet (cwV n F.2.2.2.2.1 hg rfl hrc.1 hrc.2 hd hR) ⟨PCW_blind _ _, va_recv F.2.2.2.2.2.1 hP hc (q0 := tOff t' + i) (by rw [wl_at h2, ← e1]), fun U hU hW => ⟨rfl, by rw [hU]; exact hP, va_K.moved hW.alike F.2.2.2.2.2.1, NW.warm hW F.2.2.2.2.2.2.1⟩⟩ rfl (by rw [List.length_map, z1]) hl.1 (by simp [cv]) (lv_room (by rw [catS_eq]; exact hc8)) d hcs) hS (fun q _ hq => ?_) (fun q hq => ?_) (fun r u t H1 locs1 ht hvm hw hB hz1 hk1 hS1 => ?_)
      · obtain ⟨t9, i9, h9, rfl⟩ := hq; exact F.2.2.2.2.2.2.2.2 _ _ h9
      · obtain ⟨t9, i9, h9, rfl⟩ := hq; exact F.2.2.2.2.2.2.2.2 _ _ h9
      · exact h _ _ _ hw H1 locs1 ls (by rw [← ht]; exact hB) hS1 hl
    · exact hw.elim
  · exact hw.elim
set_option maxHeartbeats 1000000 in
theorem s_callSl (F : FX p m c cc nL own s args A G cy dC dI) {pc ix n maxL : Nat} {k : PT} {y : MethodName} {bytes : ByteArray} {ret : Option FieldType} {rm : Room} {S : SP} (d : decode cc pc = .ok (.invokestatic ix, 3)) (hM : CL l y (ws_ y bytes maxL ret) rm S) (hg : GoodIn lw_all (va_wsS own ix y (ws_ y bytes maxL ret))) (hrc : rm.cells = 0 ∧ rm.slots = 0) (hd : y.cls ≠ "java/lang/invoke/MethodHandle" ∧ y.cls ≠ "java/lang/invoke/VarHandle" ∧ (parseMethodDescriptor y.desc).map (fun d => d.parameters.length) = some n) (hR : rm.frames + 1 ≤ R.frames ∧ 8 + (maxL + 11) + rm.locals ≤ R.locals) (hcs : cells ≤ R.cells ∧ slots ≤ R.slots) (h : SO p l e R s m args below meth c cells slots Q nL A G cy dC dI (pc + 3) k) : SO p l e R s m args below meth c cells slots Q nL A G cy dC dI pc (i_call n S k) := by
  intro lv st M hw H locs ls hP hS hl
  unfold i_call at hw
  split at hw
  · rename_i q hq
    obtain ⟨as, r0⟩ := q
    obtain ⟨zs, z1, rfl, z3⟩ := popn_eq G _ _ _ _ _ hq
    rw [List.append_nil] at z3
    subst z3
    obtain ⟨hc8, hS2⟩ := hw
    have hMet := hM G cy dC dI F.2.2.2.2.2.2.2.1 _ M _ hS2
    refine va_calll (va_runS (As := as.map (cv G)) (rest := r0.map (cv G)) ⟨F.1, F.2.1, F.2.2.1, F.2.2.2.1, F.2.2.2.2.1⟩ hMet (va_cwS n F.2.2.2.2.1 hg rfl hrc.1 hrc.2 hd hR) ⟨PCW_blind _ _, fun U hU hW => ⟨rfl, by rw [hU]; exact hP, va_K.moved hW.alike F.2.2.2.2.2.1, NW.warm hW F.2.2.2.2.2.2.1⟩⟩ rfl (by rw [List.length_map, z1]) hl.1 (by simp) (lv_room (by rw [catS_eq]; exact hc8)) d hcs) hS (fun q _ hq => ?_) (fun q hq => ?_) (fun r u t H1 locs1 ht hvm hw hB hz1 hk1 hS1 => ?_)
    · obtain ⟨t9, i9, h9, rfl⟩ := hq; exact F.2.2.2.2.2.2.2.2 _ _ h9
    · obtain ⟨t9, i9, h9, rfl⟩ := hq; exact F.2.2.2.2.2.2.2.2 _ _ h9
    · exact h _ _ _ hw H1 locs1 ls (by rw [← ht]; exact hB) hS1 hl
  · exact hw.elim
theorem s_callVl (F : FX p m c cc nL own s args A G cy dC dI) {pc ix n maxL t ci : Nat} {k : PT} {y : MethodName} {bytes : ByteArray} {ret : Option FieldType} {rm : Room} {S : SP} {C : String} {T : u_T} {N : Nat} (d : decode cc pc = .ok (.invokevirtual ix, 3)) (hM : CL l y (ws_ y bytes maxL ret) rm S) (hg : GoodIn lw_all (wsV own ix C y (ws_ y bytes maxL ret))) (hrc : rm.cells = 0 ∧ rm.slots = 0) (hd : y.cls = C ∧ y.cls ≠ "java/lang/invoke/MethodHandle" ∧ y.cls ≠ "java/lang/invoke/VarHandle" ∧ (parseMethodDescriptor y.desc).map (fun d => d.parameters.length) = some n) (hR : rm.frames + 1 ≤ R.frames ∧ 8 + (maxL + 11) + rm.locals ≤ R.locals) (hcs : cells ≤ R.cells ∧ slots ≤ R.slots) (hc : mcl[ci]? = some (C, T, N)) (hv : ∀ (i : Nat) (a : Nat → Int32) (b : Nat → Int64) (z : Nat → UInt64), ∃ fs : List Value, cR G cy t i a b z = .inr (ci, fs)) (h : SO p l e R s m args below meth c cells slots Q nL A G cy dC dI (pc + 3) k) : SO p l e R s m args below meth c cells slots Q nL A G cy dC dI pc (i_callV n t S k) := by
  intro lv st M hw H locs ls hP hS hl
  unfold i_callV at hw
  split at hw
  · rename_i q hq
    obtain ⟨as, r0⟩ := q
    obtain ⟨zs, z1, rfl, z3⟩ := popn_eq G _ _ _ _ _ hq
    rw [List.append_nil] at z3
    subst z3
    dsimp only at hw
    split at hw
    · rename_i t' i r1
      obtain ⟨rfl, h2, hc8, hS2⟩ := hw
      obtain ⟨fs, e1⟩ := hv i (M.1 t' i) (M.2.1 t' i) (M.2.2 t' i)
      have hMet := hM G cy dC dI F.2.2.2.2.2.2.2.1 _ M _ hS2
      refine va_calll (va_runV (As := as.map (cv G)) (rest := r1.map (cv G)) (b := G t' i) ⟨F.1, F.2.1, F.2.2.1, F.2.2.2.1, F.2.2.2.2.1⟩ hMet (cwV n F.2.2.2.2.1 hg rfl hrc.1 hrc.2 hd hR) ⟨PCW_blind _ _, va_recv F.2.2.2.2.2.1 hP hc (q0 := tOff t' + i) (by rw [wl_at h2, ← e1]), fun U hU hW => ⟨rfl, by rw [hU]; exact hP, va_K.moved hW.alike F.2.2.2.2.2.1, NW.warm hW F.2.2.2.2.2.2.1⟩⟩ rfl (by rw [List.length_map, z1]) hl.1 (by simp [cv]) (lv_room (by rw [catS_eq]; exact hc8)) d hcs) hS (fun q _ hq => ?_) (fun q hq => ?_) (fun r u t H1 locs1 ht hvm hw hB hz1 hk1 hS1 => ?_)
      · obtain ⟨t9, i9, h9, rfl⟩ := hq; exact F.2.2.2.2.2.2.2.2 _ _ h9
      · obtain ⟨t9, i9, h9, rfl⟩ := hq; exact F.2.2.2.2.2.2.2.2 _ _ h9
      · exact h _ _ _ hw H1 locs1 ls (by rw [← ht]; exact hB) hS1 hl
    · exact hw.elim
  · exact hw.elim
set_option maxHeartbeats 1000000 in
theorem s_callSv (F : FX p m c cc nL own s args A G cy dC dI) {pc ix n maxL : Nat} {k : PT} {y : MethodName} {bytes : ByteArray} {ret : Option FieldType} {rm : Room} {S : SP} (d : decode cc pc = .ok (.invokestatic ix, 3)) (hM : CV l y (ws_ y bytes maxL ret) rm S) (hg : GoodIn lw_all (va_wsS own ix y (ws_ y bytes maxL ret))) (hrc : rm.cells = 0 ∧ rm.slots = 0) (hd : y.cls ≠ "java/lang/invoke/MethodHandle" ∧ y.cls ≠ "java/lang/invoke/VarHandle" ∧ (parseMethodDescriptor y.desc).map (fun d => d.parameters.length) = some n) (hR : rm.frames + 1 ≤ R.frames ∧ 8 + (maxL + 11) + rm.locals ≤ R.locals) (hcs : cells ≤ R.cells ∧ slots ≤ R.slots) (h : SO p l e R s m args below meth c cells slots Q nL A G cy dC dI (pc + 3) k) : SO p l e R s m args below meth c cells slots Q nL A G cy dC dI pc (i_call n S k) := by
  intro lv st M hw H locs ls hP hS hl
  unfold i_call at hw
  split at hw
  · rename_i q hq
    obtain ⟨as, r0⟩ := q
    obtain ⟨zs, z1, rfl, z3⟩ := popn_eq G _ _ _ _ _ hq
    rw [List.append_nil] at z3
    subst z3
    obtain ⟨hc8, hS2⟩ := hw
    have hMet := hM G cy dC dI F.2.2.2.2.2.2.2.1 _ M _ hS2
    refine va_callv (va_runS (As := as.map (cv G)) (rest := r0.map (cv G)) ⟨F.1, F.2.1, F.2.2.1, F.2.2.2.1, F.2.2.2.2.1⟩ hMet (va_cwS n F.2.2.2.2.1 hg rfl hrc.1 hrc.2 hd hR) ⟨PCW_blind _ _, fun U hU hW => ⟨rfl, by rw [hU]; exact hP, va_K.moved hW.alike F.2.2.2.2.2.1, NW.warm hW F.2.2.2.2.2.2.1⟩⟩ rfl (by rw [List.length_map, z1]) hl.1 (by simp) (lv_room (by rw [catS_eq]; exact hc8)) d hcs) hS (fun q _ hq => ?_) (fun q hq => ?_) (fun u t H1 locs1 ht hvm hw hB hz1 hk1 hS1 => ?_)
    · obtain ⟨t9, i9, h9, rfl⟩ := hq; exact F.2.2.2.2.2.2.2.2 _ _ h9
    · obtain ⟨t9, i9, h9, rfl⟩ := hq; exact F.2.2.2.2.2.2.2.2 _ _ h9
    · exact h _ _ _ hw H1 locs1 ls (by rw [← ht]; exact hB) hS1 hl
  · exact hw.elim
theorem s_callVv (F : FX p m c cc nL own s args A G cy dC dI) {pc ix n maxL t ci : Nat} {k : PT} {y : MethodName} {bytes : ByteArray} {ret : Option FieldType} {rm : Room} {S : SP} {C : String} {T : u_T} {N : Nat} (d : decode cc pc = .ok (.invokevirtual ix, 3)) (hM : CV l y (ws_ y bytes maxL ret) rm S) (hg : GoodIn lw_all (wsV own ix C y (ws_ y bytes maxL ret))) (hrc : rm.cells = 0 ∧ rm.slots = 0) (hd : y.cls = C ∧ y.cls ≠ "java/lang/invoke/MethodHandle" ∧ y.cls ≠ "java/lang/invoke/VarHandle" ∧ (parseMethodDescriptor y.desc).map (fun d => d.parameters.length) = some n) (hR : rm.frames + 1 ≤ R.frames ∧ 8 + (maxL + 11) + rm.locals ≤ R.locals) (hcs : cells ≤ R.cells ∧ slots ≤ R.slots) (hc : mcl[ci]? = some (C, T, N)) (hv : ∀ (i : Nat) (a : Nat → Int32) (b : Nat → Int64) (z : Nat → UInt64), ∃ fs : List Value, cR G cy t i a b z = .inr (ci, fs)) (h : SO p l e R s m args below meth c cells slots Q nL A G cy dC dI (pc + 3) k) : SO p l e R s m args below meth c cells slots Q nL A G cy dC dI pc (i_callV n t S k) := by
  intro lv st M hw H locs ls hP hS hl
  unfold i_callV at hw
  split at hw
  · rename_i q hq
    obtain ⟨as, r0⟩ := q
    obtain ⟨zs, z1, rfl, z3⟩ := popn_eq G _ _ _ _ _ hq
    rw [List.append_nil] at z3
    subst z3
    dsimp only at hw
    split at hw
    · rename_i t' i r1
      obtain ⟨rfl, h2, hc8, hS2⟩ := hw
      obtain ⟨fs, e1⟩ := hv i (M.1 t' i) (M.2.1 t' i) (M.2.2 t' i)
      have hMet := hM G cy dC dI F.2.2.2.2.2.2.2.1 _ M _ hS2
      refine va_callv (va_runV (As := as.map (cv G)) (rest := r1.map (cv G)) (b := G t' i) ⟨F.1, F.2.1, F.2.2.1, F.2.2.2.1, F.2.2.2.2.1⟩ hMet (cwV n F.2.2.2.2.1 hg rfl hrc.1 hrc.2 hd hR) ⟨PCW_blind _ _, va_recv F.2.2.2.2.2.1 hP hc (q0 := tOff t' + i) (by rw [wl_at h2, ← e1]), fun U hU hW => ⟨rfl, by rw [hU]; exact hP, va_K.moved hW.alike F.2.2.2.2.2.1, NW.warm hW F.2.2.2.2.2.2.1⟩⟩ rfl (by rw [List.length_map, z1]) hl.1 (by simp [cv]) (lv_room (by rw [catS_eq]; exact hc8)) d hcs) hS (fun q _ hq => ?_) (fun q hq => ?_) (fun u t H1 locs1 ht hvm hw hB hz1 hk1 hS1 => ?_)
      · obtain ⟨t9, i9, h9, rfl⟩ := hq; exact F.2.2.2.2.2.2.2.2 _ _ h9
      · obtain ⟨t9, i9, h9, rfl⟩ := hq; exact F.2.2.2.2.2.2.2.2 _ _ h9
      · exact h _ _ _ hw H1 locs1 ls (by rw [← ht]; exact hB) hS1 hl
    · exact hw.elim
  · exact hw.elim
end MS
end
section
/-! ===== a method out of its blocks ===== -/
theorem in_X0 : ∀ w ∈ u_ws RX0 TX0 4, w ∈ lw_all := by
  intro w hw
  obtain ⟨k, hk, rfl⟩ := List.mem_map.mp hw
  have hk := List.mem_range.mp hk
  match k, hk with
  | 0, _ => exact q37
  | 1, _ => exact q39
  | 2, _ => exact q41
  | 3, _ => exact q43
theorem in_X1 : ∀ w ∈ u_ws RX1 TX1 4, w ∈ lw_all := by
  intro w hw
  obtain ⟨k, hk, rfl⟩ := List.mem_map.mp hw
  have hk := List.mem_range.mp hk
  match k, hk with
  | 0, _ => exact q60
  | 1, _ => exact q62
  | 2, _ => exact q64
  | 3, _ => exact q66
theorem in_X2 : ∀ w ∈ u_ws RX2 TX2 5, w ∈ lw_all := by
  intro w hw
  obtain ⟨k, hk, rfl⟩ := List.mem_map.mp hw
  have hk := List.mem_range.mp hk
  match k, hk with
  | 0, _ => exact q74
  | 1, _ => exact q76
  | 2, _ => exact q78
  | 3, _ => exact q80
  | 4, _ => exact q82
theorem in_X3 : ∀ w ∈ u_ws RX3 TX3 17, w ∈ lw_all := by
  intro w hw
  obtain ⟨k, hk, rfl⟩ := List.mem_map.mp hw
  have hk := List.mem_range.mp hk
  match k, hk with
  | 0, _ => exact q484
  | 1, _ => exact q486
  | 2, _ => exact q488
  | 3, _ => exact q490
  | 4, _ => exact q492
  | 5, _ => exact q494
  | 6, _ => exact q496
  | 7, _ => exact q498
  | 8, _ => exact q500
  | 9, _ => exact q502
  | 10, _ => exact q504
  | 11, _ => exact q506
  | 12, _ => exact q508
  | 13, _ => exact q510
  | 14, _ => exact q512
  | 15, _ => exact q514
  | 16, _ => exact q516
  | k + 17, h9 => exact absurd h9 (by omega)
def aLV : Nat → List AV → LV
  | _, [] => []
  | n, v :: r => (n, v) :: aLV (bif wd v then n + 2 else n + 1) r
theorem aLV_eq (G : Nat → Nat → Nat) (as : List AV) : ∀ n : Nat, lv_args n (as.map (cv G)) = cL G (aLV n as) := by
  induction as with
  | nil => intro n; rfl
  | cons v r ih =>
    intro n
    simp only [List.map_cons, lv_args, aLV, cL]
    rw [ih]
    have h := wd_cat G v
    rcases lv_cat (cv G v) with h2 | h2 <;> rw [h2] at h ⊢ <;> rw [← h] <;> rfl
theorem aLen (G : Nat → Nat → Nat) (as : List AV) : (lg_sl (as.map (cv G))).length = catS as := by
  induction as with
  | nil => rfl
  | cons v r ih =>
    have e : lg_sl ((v :: r).map (cv G)) = (if (cv G v).category = 2 then [.val (cv G v), .second] else [.val (cv G v)]) ++ lg_sl (r.map (cv G)) := rfl
    rw [e, List.length_append, ih]
    have h := wd_cat G v
    show _ = (bif wd v then 2 else 1) + catS r
    rcases lv_cat (cv G v) with h2 | h2 <;> rw [h2] at h <;> rw [← h, h2] <;> rfl
theorem AW_GD {G : Nat → Nat → Nat} (h : GJ G) : GD (AW G) G := ⟨h, fun t i hi => ⟨t, i, hi, rfl⟩⟩
theorem mk_CI {l : Launch} {y : MethodName} {cc : ByteArray} {maxL : Nat} {ret : Option FieldType} {rm : Room} {S : SP} (hy : plainName y.cls = true)
    (body : ∀ (p : Program) (e : Env) (s : State) (m : MethodId) (args : Array Value) (below : List Frame) (meth : Method) (c : Code) (G : Nat → Nat → Nat) (cy dC : Nat → ClassId) (dI : Nat → Nat → Nat), FX p m c cc maxL y.cls s args (AW G) G cy dC dI → meth.sig.returnType = ret → meth.locks = false →
      ∀ (as : List AV) (M : MM) (post : Option AV → MM → Prop), S as M post → catS as ≤ maxL ∧ SW p l e rm s m args below meth c 0 0 (MQ below (QI G cy dC dI post) args s 0 0 (AW G)) maxL (AW G) G cy dC dI 0 (aLV 0 as) [] M) : CI l y (ws_ y cc maxL ret) rm S := by
  intro G cy dC dI hG as M post hS0
  refine Met.ofW (cc := cc) (maxL := maxL) (ret := ret) hy rfl ?_
  intro p e s m args below meth c s₁ B hml hv
  obtain ⟨rfl, hP, hK, hN⟩ := hv
  have hts := atoms_spec (ws := ws_ y cc maxL ret) B.pre
  have hF : FX p m c cc maxL y.cls s (as.map (cv G)).toArray (AW G) G cy dC dI := ⟨B.exec, B.bytes, hml, findClass_of_methodNamed B.named, fun w hw => hts w (List.mem_cons_of_mem _ hw), hK, hN, AW_GD hG⟩
  obtain ⟨h1, h2⟩ := body p e s m _ below meth c G cy dC dI hF B.returns B.notSynchronized as M post hS0
  have hl := lv_entry (as.map (cv G)) (n := maxL) (by rw [aLen]; exact h1)
  rw [lg_entry_eq]
  rw [aLV_eq] at hl
  exact h2 s.heap [] _ hP va_S.rf hl
theorem mk_CL {l : Launch} {y : MethodName} {cc : ByteArray} {maxL : Nat} {ret : Option FieldType} {rm : Room} {S : SP} (hy : plainName y.cls = true)
    (body : ∀ (p : Program) (e : Env) (s : State) (m : MethodId) (args : Array Value) (below : List Frame) (meth : Method) (c : Code) (G : Nat → Nat → Nat) (cy dC : Nat → ClassId) (dI : Nat → Nat → Nat), FX p m c cc maxL y.cls s args (AW G) G cy dC dI → meth.sig.returnType = ret → meth.locks = false →
      ∀ (as : List AV) (M : MM) (post : Option AV → MM → Prop), S as M post → catS as ≤ maxL ∧ SW p l e rm s m args below meth c 0 0 (MQ below (QL G cy dC dI post) args s 0 0 (AW G)) maxL (AW G) G cy dC dI 0 (aLV 0 as) [] M) : CL l y (ws_ y cc maxL ret) rm S := by
  intro G cy dC dI hG as M post hS0
  refine Met.ofW (cc := cc) (maxL := maxL) (ret := ret) hy rfl ?_
  intro p e s m args below meth c s₁ B hml hv
  obtain ⟨rfl, hP, hK, hN⟩ := hv
  have hts := atoms_spec (ws := ws_ y cc maxL ret) B.pre
  have hF : FX p m c cc maxL y.cls s (as.map (cv G)).toArray (AW G) G cy dC dI := ⟨B.exec, B.bytes, hml, findClass_of_methodNamed B.named, fun w hw => hts w (List.mem_cons_of_mem _ hw), hK, hN, AW_GD hG⟩
  obtain ⟨h1, h2⟩ := body p e s m _ below meth c G cy dC dI hF B.returns B.notSynchronized as M post hS0
  have hl := lv_entry (as.map (cv G)) (n := maxL) (by rw [aLen]; exact h1)
  rw [lg_entry_eq]
  rw [aLV_eq] at hl
  exact h2 s.heap [] _ hP va_S.rf hl
theorem mk_CV {l : Launch} {y : MethodName} {cc : ByteArray} {maxL : Nat} {ret : Option FieldType} {rm : Room} {S : SP} (hy : plainName y.cls = true)
    (body : ∀ (p : Program) (e : Env) (s : State) (m : MethodId) (args : Array Value) (below : List Frame) (meth : Method) (c : Code) (G : Nat → Nat → Nat) (cy dC : Nat → ClassId) (dI : Nat → Nat → Nat), FX p m c cc maxL y.cls s args (AW G) G cy dC dI → meth.sig.returnType = ret → meth.locks = false →
      ∀ (as : List AV) (M : MM) (post : Option AV → MM → Prop), S as M post → catS as ≤ maxL ∧ SW p l e rm s m args below meth c 0 0 (MQ below (QV G cy dC dI post) args s 0 0 (AW G)) maxL (AW G) G cy dC dI 0 (aLV 0 as) [] M) : CV l y (ws_ y cc maxL ret) rm S := by
  intro G cy dC dI hG as M post hS0
  refine Met.ofW (cc := cc) (maxL := maxL) (ret := ret) hy rfl ?_
  intro p e s m args below meth c s₁ B hml hv
  obtain ⟨rfl, hP, hK, hN⟩ := hv
  have hts := atoms_spec (ws := ws_ y cc maxL ret) B.pre
  have hF : FX p m c cc maxL y.cls s (as.map (cv G)).toArray (AW G) G cy dC dI := ⟨B.exec, B.bytes, hml, findClass_of_methodNamed B.named, fun w hw => hts w (List.mem_cons_of_mem _ hw), hK, hN, AW_GD hG⟩
  obtain ⟨h1, h2⟩ := body p e s m _ below meth c G cy dC dI hF B.returns B.notSynchronized as M post hS0
  have hl := lv_entry (as.map (cv G)) (n := maxL) (by rw [aLen]; exact h1)
  rw [lg_entry_eq]
  rw [aLV_eq] at hl
  exact h2 s.heap [] _ hP va_S.rf hl
section LP
variable {p : Program} {l : Launch} {e : Env} {R : Room} {s : State} {m : MethodId} {args : Array Value} {below : List Frame} {meth : Method} {c : Code} {cells slots : Nat} {Q : State → Prop} {nL : Nat} {A : Nat → Prop} {G : Nat → Nat → Nat} {cy : Nat → ClassId} {dC : Nat → ClassId} {dI : Nat → Nat → Nat}
theorem SO_no {pc : Nat} : SO p l e R s m args below meth c cells slots Q nL A G cy dC dI pc (fun _ _ _ => False) := fun _ _ _ h => h.elim
theorem SO_or {pc : Nat} {α : Type} {K : α → PT} (h : ∀ a, SO p l e R s m args below meth c cells slots Q nL A G cy dC dI pc (K a)) : SO p l e R s m args below meth c cells slots Q nL A G cy dC dI pc (fun lv st M => ∃ a, K a lv st M) := fun lv st M ⟨a, ha⟩ => h a lv st M ha
theorem SO_imp {pc : Nat} {K K2 : PT} (h : SO p l e R s m args below meth c cells slots Q nL A G cy dC dI pc K) (hi : ∀ lv st M, K2 lv st M → K lv st M) : SO p l e R s m args below meth c cells slots Q nL A G cy dC dI pc K2 := fun lv st M hk => h lv st M (hi lv st M hk)
/-- a loop: its head's block, with a measure that falls -/
theorem SO_loop {h : Nat} (B : PT → PT) (hB : ∀ K, SO p l e R s m args below meth c cells slots Q nL A G cy dC dI h K → SO p l e R s m args below meth c cells slots Q nL A G cy dC dI h (B K)) (Inv : Nat → PT) (step : ∀ n lv st M, Inv n lv st M → B (fun lv st M => ∃ n', n' < n ∧ Inv n' lv st M) lv st M) : ∀ n, SO p l e R s m args below meth c cells slots Q nL A G cy dC dI h (Inv n) := by
  intro n
  induction n using Nat.strongRecOn with
  | ind n ih =>
    intro lv st M hi
    exact hB _ (fun lv st M ⟨n', hn, hI⟩ => ih n' hn lv st M hI) lv st M (step n lv st M hi)
end LP
theorem b2i_0 (P : Prop) [Decidable P] : (b2i P = 0) = ¬ P := by unfold b2i; split <;> simp [*]
theorem b2i_1 (P : Prop) [Decidable P] : b2i P = 0 ∨ b2i P = 1 := by unfold b2i; split <;> simp
theorem b2i_t {P : Prop} [Decidable P] (h : P) : b2i P = 1 := if_pos h
theorem b2i_f {P : Prop} [Decidable P] (h : ¬ P) : b2i P = 0 := if_neg h
end
section
/-! ===== floats: no NaN comes up ===== -/
theorem n64_of {r : UInt64} (h : FP.Core.val64 r ≠ .nan) : vf_n64 r := by
  have h1 := (FP.Core.ne_nan r).mp h
  unfold vf_n64
  rw [UInt64.le_iff_toNat_le, UInt64.toNat_and]
  have e : (0x7fffffffffffffff : UInt64).toNat = 2 ^ 63 - 1 := by decide
  rw [e, Nat.and_two_pow_sub_one_eq_mod]
  exact h1
theorem n32_of {r : UInt32} (h : FP.Core.val32 r ≠ .nan) : vf_n32 r := by
  have h1 := (FP.Core.ne_nan32 r).mp h
  unfold vf_n32
  rw [UInt32.le_iff_toNat_le, UInt32.toNat_and]
  have e : (0x7fffffff : UInt32).toNat = 2 ^ 31 - 1 := by decide
  rw [e, Nat.and_two_pow_sub_one_eq_mod]
  exact h1
theorem rnd_nn (f : FP.Core.Fmt) {x : FP.Core.Datum} (h : x ≠ .nan) : FP.Core.round f x ≠ .nan := by
  cases x with
  | nan => exact absurd rfl h
  | inf s => intro e; cases e
  | fin s c q => exact FP.Core.roundRatio_ne_nan f s c 1 q
theorem prod_nn {x : FP.Core.Datum} (h : x ≠ .nan) {s : Bool} {c : Nat} {q : Int} (hc : c ≠ 0) : FP.Core.exactProduct x (.fin s c q) ≠ .nan := by
  cases x with
  | nan => exact absurd rfl h
  | inf t =>
    show (if c = 0 then FP.Core.Datum.nan else .inf (t != s)) ≠ .nan
    rw [if_neg hc]; intro e; cases e
  | fin t d r => intro e; cases e
theorem quot_nn (f : FP.Core.Fmt) {s t : Bool} {c d : Nat} {q r : Int} (hd : d ≠ 0) : FP.Core.quotient f (.fin s c q) (.fin t d r) ≠ .nan := by
  show (if d = 0 then (if c = 0 then FP.Core.Datum.nan else .inf (s != t)) else FP.Core.roundRatio f (s != t) c d (q - r)) ≠ .nan
  rw [if_neg hd]
  exact FP.Core.roundRatio_ne_nan _ _ _ _ _
theorem v_c8 : FP.Core.val64 4620693217682128896 = .fin false 4503599627370496 (-49) := by decide +kernel
theorem v_f8 : FP.Core.val32 1090519040 = .fin false 8388608 (-20) := by decide +kernel
theorem dmul8_nn {d : UInt64} (h : FP.Core.val64 d ≠ .nan) : FP.Core.val64 (FP.dmul d 4620693217682128896) ≠ .nan := by
  show FP.Core.val64 (FP.Core.dmul _ _) ≠ _
  rw [FP.Core.val64_dmul, v_c8]
  exact rnd_nn _ (prod_nn h (by decide))
theorem fmul8_nn {d : UInt32} (h : FP.Core.val32 d ≠ .nan) : FP.Core.val32 (FP.fmul d 1090519040) ≠ .nan := by
  show FP.Core.val32 (FP.Core.fmul _ _) ≠ _
  rw [FP.Core.val32_fmul, v_f8]
  exact rnd_nn _ (prod_nn h (by decide))
theorem d2f_is {d : UInt64} (h : FP.Core.val64 d ≠ .nan) : FP.d2f d = FP.Core.d2f d := FP.d2f_core ((FP.Core.notNaN_iff d).mpr h)
theorem f2d_is {d : UInt32} (h : FP.Core.val32 d ≠ .nan) : FP.f2d d = FP.Core.f2d d := FP.f2d_core ((FP.Core.notNaN_iff32 d).mpr h)
theorem d2f_nn {d : UInt64} (h : FP.Core.val64 d ≠ .nan) : FP.Core.val32 (FP.d2f d) ≠ .nan := by
  rw [d2f_is h, FP.Core.val32_d2f]
  exact rnd_nn _ h
theorem f2d_nn {d : UInt32} (h : FP.Core.val32 d ≠ .nan) : FP.Core.val64 (FP.f2d d) ≠ .nan := by
  rw [f2d_is h, FP.Core.val64_f2d]
  exact rnd_nn _ h
theorem l2d_nn (v : Int64) : FP.Core.val64 (FP.l2d v) ≠ .nan := by
  obtain ⟨c, q, h⟩ := FP.Core.l2d_shape v
  show FP.Core.val64 (FP.Core.l2d v) ≠ _
  rw [h]; intro e; cases e
theorem l2f_nn (v : Int64) : FP.Core.val32 (FP.l2f v) ≠ .nan := by
  obtain ⟨c, q, h⟩ := FP.Core.l2f_shape v
  show FP.Core.val32 (FP.Core.l2f v) ≠ _
  rw [h]; intro e; cases e
theorem fdiv8_nn (v : Int64) : FP.Core.val32 (FP.fdiv (FP.l2f v) 1090519040) ≠ .nan := by
  obtain ⟨c, q, h⟩ := FP.Core.l2f_shape v
  show FP.Core.val32 (FP.Core.fdiv (FP.Core.l2f v) _) ≠ _
  rw [FP.Core.val32_fdiv, h, v_f8]
  exact quot_nn _ (by decide)
theorem ddiv8_nn (v : Int64) : FP.Core.val64 (FP.ddiv (FP.l2d v) 4620693217682128896) ≠ .nan := by
  obtain ⟨c, q, h⟩ := FP.Core.l2d_shape v
  show FP.Core.val64 (FP.Core.ddiv (FP.Core.l2d v) _) ≠ _
  rw [FP.Core.val64_ddiv, h, v_c8]
  exact quot_nn _ (by decide)
end
