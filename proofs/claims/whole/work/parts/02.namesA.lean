def RX0 : String := "CutYard$Content"
def TX0 : u_T := fun k => match k with
  | 0 => ("CutYard$Content", "numbers", "[I", false)
  | 1 => ("CutYard$Content", "count", "I", false)
  | _ => ("CutYard$Content", "bytes", "I", false)
def tyX0 : Nat → FieldType := fun k => match k with
  | 0 => .array .int
  | 1 => .int
  | _ => .int
abbrev wsX00 : List Cond := u_ws RX0 TX0 3
theorem nmX0 : ∀ a, a < 3 → ∀ b, b < 3 → a ≠ b → (TX0 a).2.1 ≠ (TX0 b).2.1 := by decide +kernel
theorem tyX0_ok : ∀ k, k < 3 → parseFieldDescriptor (TX0 k).2.2.1 = some (tyX0 k) := by decide +kernel
abbrev cX0_init : ByteArray := prog_2_method_1_code
def yX0_init : MethodName := ⟨RX0, "<init>", "()V"⟩
abbrev cX0_empty : ByteArray := prog_2_method_2_code
def yX0_empty : MethodName := ⟨RX0, "empty", "()V"⟩
abbrev cX0_become : ByteArray := prog_2_method_3_code
def yX0_become : MethodName := ⟨RX0, "become", "([III)V"⟩
abbrev cX0_hasNumber : ByteArray := prog_2_method_4_code
def yX0_hasNumber : MethodName := ⟨RX0, "hasNumber", "(I)Z"⟩
def RX1 : String := "CutYard$Cutter"
def TX1 : u_T := fun k => match k with
  | 0 => ("CutYard$Cutter", "mask", "I", false)
  | 1 => ("CutYard$Cutter", "least", "I", false)
  | _ => ("CutYard$Cutter", "most", "I", false)
def tyX1 : Nat → FieldType := fun k => match k with
  | 0 => .int
  | 1 => .int
  | _ => .int
abbrev wsX10 : List Cond := u_ws RX1 TX1 3
theorem nmX1 : ∀ a, a < 3 → ∀ b, b < 3 → a ≠ b → (TX1 a).2.1 ≠ (TX1 b).2.1 := by decide +kernel
theorem tyX1_ok : ∀ k, k < 3 → parseFieldDescriptor (TX1 k).2.2.1 = some (tyX1 k) := by decide +kernel
abbrev cX1_init : ByteArray := prog_3_method_1_code
def yX1_init : MethodName := ⟨RX1, "<init>", "()V"⟩
abbrev cX1_setRule : ByteArray := prog_3_method_2_code
def yX1_setRule : MethodName := ⟨RX1, "setRule", "(III)V"⟩
abbrev cX1_endOfPart : ByteArray := prog_3_method_3_code
def yX1_endOfPart : MethodName := ⟨RX1, "endOfPart", "([BII)I"⟩
abbrev cX1_mark : ByteArray := prog_3_method_4_code
def yX1_mark : MethodName := ⟨RX1, "mark", "(B)I"⟩
abbrev cX1_turned : ByteArray := prog_3_method_5_code
def yX1_turned : MethodName := ⟨RX1, "turned", "(II)I"⟩
def RX2 : String := "CutYard$Stock"
def TX2 : u_T := fun k => match k with
  | 0 => ("CutYard$Stock", "uses", "[I", true)
  | 1 => ("CutYard$Stock", "lengths", "[I", true)
  | 2 => ("CutYard$Stock", "hashes", "[I", true)
  | 3 => ("CutYard$Stock", "next", "[I", true)
  | 4 => ("CutYard$Stock", "heads", "[I", true)
  | 5 => ("CutYard$Stock", "room", "[B", false)
  | 6 => ("CutYard$Stock", "lowest", "I", false)
  | 7 => ("CutYard$Stock", "count", "I", false)
  | _ => ("CutYard$Stock", "bytes", "I", false)
def tyX2 : Nat → FieldType := fun k => match k with
  | 0 => .array .int
  | 1 => .array .int
  | 2 => .array .int
  | 3 => .array .int
  | 4 => .array .int
  | 5 => .array .byte
  | 6 => .int
  | 7 => .int
  | _ => .int
abbrev wsX20 : List Cond := u_ws RX2 TX2 9
theorem nmX2 : ∀ a, a < 9 → ∀ b, b < 9 → a ≠ b → (TX2 a).2.1 ≠ (TX2 b).2.1 := by decide +kernel
theorem tyX2_ok : ∀ k, k < 9 → parseFieldDescriptor (TX2 k).2.2.1 = some (tyX2 k) := by decide +kernel
abbrev cX2_init : ByteArray := prog_4_method_1_code
def yX2_init : MethodName := ⟨RX2, "<init>", "()V"⟩
abbrev cX2_empty : ByteArray := prog_4_method_2_code
def yX2_empty : MethodName := ⟨RX2, "empty", "()V"⟩
abbrev cX2_has : ByteArray := prog_4_method_3_code
def yX2_has : MethodName := ⟨RX2, "has", "(I)Z"⟩
abbrev cX2_usesOf : ByteArray := prog_4_method_4_code
def yX2_usesOf : MethodName := ⟨RX2, "usesOf", "(I)I"⟩
abbrev cX2_lengthOf : ByteArray := prog_4_method_5_code
def yX2_lengthOf : MethodName := ⟨RX2, "lengthOf", "(I)I"⟩
abbrev cX2_byteOf : ByteArray := prog_4_method_6_code
def yX2_byteOf : MethodName := ⟨RX2, "byteOf", "(II)I"⟩
abbrev cX2_writeOut : ByteArray := prog_4_method_7_code
def yX2_writeOut : MethodName := ⟨RX2, "writeOut", "(I[BI)I"⟩
abbrev cX2_useAgain : ByteArray := prog_4_method_8_code
def yX2_useAgain : MethodName := ⟨RX2, "useAgain", "(I)V"⟩
abbrev cX2_take : ByteArray := prog_4_method_9_code
def yX2_take : MethodName := ⟨RX2, "take", "([BII)I"⟩
abbrev cX2_giveBack : ByteArray := prog_4_method_10_code
def yX2_giveBack : MethodName := ⟨RX2, "giveBack", "(I)V"⟩
abbrev cX2_hashOf : ByteArray := prog_4_method_11_code
def yX2_hashOf : MethodName := ⟨RX2, "hashOf", "([BII)I"⟩
abbrev cX2_find : ByteArray := prog_4_method_12_code
def yX2_find : MethodName := ⟨RX2, "find", "(I[BII)I"⟩
abbrev cX2_sameBytes : ByteArray := prog_4_method_13_code
def yX2_sameBytes : MethodName := ⟨RX2, "sameBytes", "(I[BI)Z"⟩
abbrev cX2_add : ByteArray := prog_4_method_14_code
def yX2_add : MethodName := ⟨RX2, "add", "(I[BII)I"⟩
abbrev cX2_leastFree : ByteArray := prog_4_method_15_code
def yX2_leastFree : MethodName := ⟨RX2, "leastFree", "()I"⟩
abbrev cX2_makeRoomFor : ByteArray := prog_4_method_16_code
def yX2_makeRoomFor : MethodName := ⟨RX2, "makeRoomFor", "(I)V"⟩
abbrev cX2_unchain : ByteArray := prog_4_method_17_code
def yX2_unchain : MethodName := ⟨RX2, "unchain", "(I)V"⟩
def RX3 : String := "CutYard"
def TX3 : u_T := fun k => match k with
  | 0 => ("CutYard", "cutter", "LCutYard$Cutter;", true)
  | 1 => ("CutYard", "stock", "LCutYard$Stock;", true)
  | 2 => ("CutYard", "files", "[LCutYard$Content;", true)
  | 3 => ("CutYard", "hand", "[B", true)
  | 4 => ("CutYard", "inHand", "I", false)
  | 5 => ("CutYard", "work", "[B", true)
  | 6 => ("CutYard", "taken", "[I", true)
  | _ => ("CutYard", "seen", "[I", true)
def tyX3 : Nat → FieldType := fun k => match k with
  | 0 => .object "CutYard$Cutter"
  | 1 => .object "CutYard$Stock"
  | 2 => .array (.object "CutYard$Content")
  | 3 => .array .byte
  | 4 => .int
  | 5 => .array .byte
  | 6 => .array .int
  | _ => .array .int
abbrev wsX30 : List Cond := u_ws RX3 TX3 8
theorem nmX3 : ∀ a, a < 8 → ∀ b, b < 8 → a ≠ b → (TX3 a).2.1 ≠ (TX3 b).2.1 := by decide +kernel
theorem tyX3_ok : ∀ k, k < 8 → parseFieldDescriptor (TX3 k).2.2.1 = some (tyX3 k) := by decide +kernel
abbrev cX3_init : ByteArray := prog_1_method_1_code
def yX3_init : MethodName := ⟨RX3, "<init>", "()V"⟩
abbrev cX3_begin : ByteArray := prog_1_method_2_code
def yX3_begin : MethodName := ⟨RX3, "begin", "(III)V"⟩
abbrev cX3_put : ByteArray := prog_1_method_3_code
def yX3_put : MethodName := ⟨RX3, "put", "(II)I"⟩
abbrev cX3_store : ByteArray := prog_1_method_4_code
def yX3_store : MethodName := ⟨RX3, "store", "(I)I"⟩
abbrev cX3_edit : ByteArray := prog_1_method_5_code
def yX3_edit : MethodName := ⟨RX3, "edit", "(III)I"⟩
abbrev cX3_copy : ByteArray := prog_1_method_6_code
def yX3_copy : MethodName := ⟨RX3, "copy", "(II)V"⟩
abbrev cX3_size : ByteArray := prog_1_method_7_code
def yX3_size : MethodName := ⟨RX3, "size", "(I)I"⟩
abbrev cX3_get : ByteArray := prog_1_method_8_code
def yX3_get : MethodName := ⟨RX3, "get", "(II)I"⟩
abbrev cX3_parts : ByteArray := prog_1_method_9_code
def yX3_parts : MethodName := ⟨RX3, "parts", "(I)I"⟩
abbrev cX3_part : ByteArray := prog_1_method_10_code
def yX3_part : MethodName := ⟨RX3, "part", "(II)I"⟩
abbrev cX3_about : ByteArray := prog_1_method_11_code
def yX3_about : MethodName := ⟨RX3, "about", "(II)I"⟩
abbrev cX3_common : ByteArray := prog_1_method_12_code
def yX3_common : MethodName := ⟨RX3, "common", "(II)I"⟩
abbrev cX3_all : ByteArray := prog_1_method_13_code
def yX3_all : MethodName := ⟨RX3, "all", "(I)I"⟩
abbrev cX3_fileAt : ByteArray := prog_1_method_14_code
def yX3_fileAt : MethodName := ⟨RX3, "fileAt", "(I)LCutYard$Content;"⟩
abbrev cX3_fillFile : ByteArray := prog_1_method_15_code
def yX3_fillFile : MethodName := ⟨RX3, "fillFile", "(LCutYard$Content;[BI)I"⟩
abbrev cX3_takeParts : ByteArray := prog_1_method_16_code
def yX3_takeParts : MethodName := ⟨RX3, "takeParts", "([BI)I"⟩
abbrev cX3_giveBack : ByteArray := prog_1_method_17_code
def yX3_giveBack : MethodName := ⟨RX3, "giveBack", "([II)V"⟩
abbrev cX3_layOut : ByteArray := prog_1_method_18_code
def yX3_layOut : MethodName := ⟨RX3, "layOut", "(LCutYard$Content;)V"⟩
abbrev cX3_filesWith : ByteArray := prog_1_method_19_code
def yX3_filesWith : MethodName := ⟨RX3, "filesWith", "(I)I"⟩
def RX4 : String := "CutYardModel"
def TX4 : u_T := fun k => match k with
  | 0 => ("CutYardModel", "thrown", "I", false)
  | 1 => ("CutYardModel", "bits", "I", false)
  | 2 => ("CutYardModel", "least", "I", false)
  | 3 => ("CutYardModel", "most", "I", false)
  | 4 => ("CutYardModel", "held", "I", false)
  | 5 => ("CutYardModel", "hand", "[I", true)
  | 6 => ("CutYardModel", "size", "I", false)
  | 7 => ("CutYardModel", "row", "[I", true)
  | 8 => ("CutYardModel", "cuts", "I", false)
  | 9 => ("CutYardModel", "ends", "[I", true)
  | 10 => ("CutYardModel", "numbers", "[I", true)
  | 11 => ("CutYardModel", "fresh", "[Z", true)
  | 12 => ("CutYardModel", "sizes", "[I", true)
  | 13 => ("CutYardModel", "bytes", "[I", true)
  | 14 => ("CutYardModel", "counts", "[I", true)
  | 15 => ("CutYardModel", "parts", "[I", true)
  | 16 => ("CutYardModel", "uses", "[I", true)
  | 17 => ("CutYardModel", "lengths", "[I", true)
  | _ => ("CutYardModel", "contents", "[I", true)
def tyX4 : Nat → FieldType := fun k => match k with
  | 0 => .int
  | 1 => .int
  | 2 => .int
  | 3 => .int
  | 4 => .int
  | 5 => .array .int
  | 6 => .int
  | 7 => .array .int
  | 8 => .int
  | 9 => .array .int
  | 10 => .array .int
  | 11 => .array .boolean
  | 12 => .array .int
  | 13 => .array .int
  | 14 => .array .int
  | 15 => .array .int
  | 16 => .array .int
  | 17 => .array .int
  | _ => .array .int
abbrev wsX40 : List Cond := u_ws RX4 TX4 19
theorem nmX4 : ∀ a, a < 19 → ∀ b, b < 19 → a ≠ b → (TX4 a).2.1 ≠ (TX4 b).2.1 := by decide +kernel
theorem tyX4_ok : ∀ k, k < 19 → parseFieldDescriptor (TX4 k).2.2.1 = some (tyX4 k) := by decide +kernel
abbrev cX4_init : ByteArray := prog_6_method_1_code
def yX4_init : MethodName := ⟨RX4, "<init>", "()V"⟩
abbrev cX4_thrown : ByteArray := prog_6_method_2_code
def yX4_thrown : MethodName := ⟨RX4, "thrown", "()I"⟩
abbrev cX4_refuse : ByteArray := prog_6_method_3_code
def yX4_refuse : MethodName := ⟨RX4, "refuse", "(ZZZ)Z"⟩
abbrev cX4_in : ByteArray := prog_6_method_4_code
def yX4_in : MethodName := ⟨RX4, "in", "(III)Z"⟩
abbrev cX4_isFile : ByteArray := prog_6_method_5_code
def yX4_isFile : MethodName := ⟨RX4, "isFile", "(I)Z"⟩
abbrev cX4_begin : ByteArray := prog_6_method_6_code
def yX4_begin : MethodName := ⟨RX4, "begin", "(III)V"⟩
abbrev cX4_put : ByteArray := prog_6_method_7_code
def yX4_put : MethodName := ⟨RX4, "put", "(II)I"⟩
abbrev cX4_mark : ByteArray := prog_6_method_8_code
def yX4_mark : MethodName := ⟨RX4, "mark", "(I)I"⟩
abbrev cX4_sum : ByteArray := prog_6_method_9_code
def yX4_sum : MethodName := ⟨RX4, "sum", "(II)I"⟩
abbrev cX4_cut : ByteArray := prog_6_method_10_code
def yX4_cut : MethodName := ⟨RX4, "cut", "()V"⟩
abbrev cX4_beginOf : ByteArray := prog_6_method_11_code
def yX4_beginOf : MethodName := ⟨RX4, "beginOf", "(I)I"⟩
abbrev cX4_isPart : ByteArray := prog_6_method_12_code
def yX4_isPart : MethodName := ⟨RX4, "isPart", "(III)Z"⟩
abbrev cX4_numberOf : ByteArray := prog_6_method_13_code
def yX4_numberOf : MethodName := ⟨RX4, "numberOf", "(II)I"⟩
abbrev cX4_give : ByteArray := prog_6_method_14_code
def yX4_give : MethodName := ⟨RX4, "give", "()I"⟩
abbrev cX4_take : ByteArray := prog_6_method_15_code
def yX4_take : MethodName := ⟨RX4, "take", "(I)V"⟩
abbrev cX4_store : ByteArray := prog_6_method_16_code
def yX4_store : MethodName := ⟨RX4, "store", "(I)I"⟩
abbrev cX4_edit : ByteArray := prog_6_method_17_code
def yX4_edit : MethodName := ⟨RX4, "edit", "(III)I"⟩
abbrev cX4_copy : ByteArray := prog_6_method_18_code
def yX4_copy : MethodName := ⟨RX4, "copy", "(II)V"⟩
abbrev cX4_size : ByteArray := prog_6_method_19_code
def yX4_size : MethodName := ⟨RX4, "size", "(I)I"⟩
abbrev cX4_get : ByteArray := prog_6_method_20_code
def yX4_get : MethodName := ⟨RX4, "get", "(II)I"⟩
abbrev cX4_parts : ByteArray := prog_6_method_21_code
def yX4_parts : MethodName := ⟨RX4, "parts", "(I)I"⟩
abbrev cX4_part : ByteArray := prog_6_method_22_code
def yX4_part : MethodName := ⟨RX4, "part", "(II)I"⟩
abbrev cX4_has : ByteArray := prog_6_method_23_code
def yX4_has : MethodName := ⟨RX4, "has", "(II)Z"⟩
abbrev cX4_about : ByteArray := prog_6_method_24_code
def yX4_about : MethodName := ⟨RX4, "about", "(II)I"⟩
abbrev cX4_common : ByteArray := prog_6_method_25_code
def yX4_common : MethodName := ⟨RX4, "common", "(II)I"⟩
abbrev cX4_all : ByteArray := prog_6_method_26_code
def yX4_all : MethodName := ⟨RX4, "all", "(I)I"⟩
def RJx8e188 : String := "java/lang/Cloneable"
def TJx8e188 : u_T := fun k => match k with
  | _ => ("", "", "", false)
def tyJx8e188 : Nat → FieldType := fun k => match k with
  | _ => .int
abbrev wsJx8e1880 : List Cond := u_ws RJx8e188 TJx8e188 0
theorem nmJx8e188 : ∀ a, a < 0 → ∀ b, b < 0 → a ≠ b → (TJx8e188 a).2.1 ≠ (TJx8e188 b).2.1 := by decide +kernel
theorem tyJx8e188_ok : ∀ k, k < 0 → parseFieldDescriptor (TJx8e188 k).2.2.1 = some (tyJx8e188 k) := by decide +kernel
def RJ9 : String := "java/lang/Math"
def TJ9 : u_T := fun k => match k with
  | _ => ("", "", "", false)
def tyJ9 : Nat → FieldType := fun k => match k with
  | _ => .int
abbrev wsJ90 : List Cond := u_ws RJ9 TJ9 0
theorem nmJ9 : ∀ a, a < 0 → ∀ b, b < 0 → a ≠ b → (TJ9 a).2.1 ≠ (TJ9 b).2.1 := by decide +kernel
theorem tyJ9_ok : ∀ k, k < 0 → parseFieldDescriptor (TJ9 k).2.2.1 = some (tyJ9 k) := by decide +kernel
abbrev cJ9_max_7cf53 : ByteArray := prog_11_method_65_code
def yJ9_max_7cf53 : MethodName := ⟨RJ9, "max", "(II)I"⟩
abbrev cJ9_min_7cf53 : ByteArray := prog_11_method_69_code
def yJ9_min_7cf53 : MethodName := ⟨RJ9, "min", "(II)I"⟩
def RJ0 : String := "java/lang/String"
def TJ0 : u_T := fun k => match k with
  | _ => ("", "", "", false)
def tyJ0 : Nat → FieldType := fun k => match k with
  | _ => .int
abbrev wsJ00 : List Cond := u_ws RJ0 TJ0 0
theorem nmJ0 : ∀ a, a < 0 → ∀ b, b < 0 → a ≠ b → (TJ0 a).2.1 ≠ (TJ0 b).2.1 := by decide +kernel
theorem tyJ0_ok : ∀ k, k < 0 → parseFieldDescriptor (TJ0 k).2.2.1 = some (tyJ0 k) := by decide +kernel
def RJ10 : String := "java/lang/System"
def TJ10 : u_T := fun k => match k with
  | _ => ("", "", "", false)
def tyJ10 : Nat → FieldType := fun k => match k with
  | _ => .int
abbrev wsJ100 : List Cond := u_ws RJ10 TJ10 0
theorem nmJ10 : ∀ a, a < 0 → ∀ b, b < 0 → a ≠ b → (TJ10 a).2.1 ≠ (TJ10 b).2.1 := by decide +kernel
theorem tyJ10_ok : ∀ k, k < 0 → parseFieldDescriptor (TJ10 k).2.2.1 = some (tyJ10 k) := by decide +kernel
def RJ7 : String := "java/util/Arrays"
def TJ7 : u_T := fun k => match k with
  | _ => ("", "", "", false)
def tyJ7 : Nat → FieldType := fun k => match k with
  | _ => .int
abbrev wsJ70 : List Cond := u_ws RJ7 TJ7 0
theorem nmJ7 : ∀ a, a < 0 → ∀ b, b < 0 → a ≠ b → (TJ7 a).2.1 ≠ (TJ7 b).2.1 := by decide +kernel
theorem tyJ7_ok : ∀ k, k < 0 → parseFieldDescriptor (TJ7 k).2.2.1 = some (tyJ7 k) := by decide +kernel
abbrev cJ7_fill_53178 : ByteArray := prog_17_method_103_code
def yJ7_fill_53178 : MethodName := ⟨RJ7, "fill", "([II)V"⟩
abbrev cJ7_copyOf_9075b : ByteArray := prog_17_method_121_code
def yJ7_copyOf_9075b : MethodName := ⟨RJ7, "copyOf", "([BI)[B"⟩
def wsX0_init : List Cond := .code yX0_init cX0_init 1 none :: ([.methodLink RX0 3 objectInit, .instanceMethod objectInit, .code objectInit ⟨#[0xb1]⟩ 1 none, .arrayClass .int, .fieldLink RX0 11 "CutYard$Content" "numbers" "[I", .fieldLink RX0 15 "CutYard$Content" "count" "I", .fieldLink RX0 19 "CutYard$Content" "bytes" "I"] ++ wsX00)
def wsX0_empty : List Cond := .code yX0_empty cX0_empty 1 none :: ([.fieldLink RX0 15 "CutYard$Content" "count" "I", .fieldLink RX0 19 "CutYard$Content" "bytes" "I"] ++ wsX00)
def wsX0_become : List Cond := .code yX0_become cX0_become 4 none :: ([.fieldLink RX0 11 "CutYard$Content" "numbers" "[I", .methodLink RX0 22 Lib.Math.max.name, .static Lib.Math.max.name, .initialized "java/lang/Math", .code Lib.Math.max.name Lib.Math.max.code 2 (some .int), .methodLink RX0 28 Lib.Math.min.name, .static Lib.Math.min.name, .code Lib.Math.min.name Lib.Math.min.code 2 (some .int), .arrayClass .int, .methodLink RX0 31 arraycopyName, .native arraycopyName, .static arraycopyName, .initialized "java/lang/System", .fieldLink RX0 15 "CutYard$Content" "count" "I", .fieldLink RX0 19 "CutYard$Content" "bytes" "I"] ++ wsX00)
def wsX0_hasNumber : List Cond := .code yX0_hasNumber cX0_hasNumber 3 (some .boolean) :: ([.fieldLink RX0 15 "CutYard$Content" "count" "I", .fieldLink RX0 11 "CutYard$Content" "numbers" "[I"] ++ wsX00)
def wsX1_init : List Cond := .code yX1_init cX1_init 1 none :: ([.methodLink RX1 1 objectInit, .instanceMethod objectInit, .code objectInit ⟨#[0xb1]⟩ 1 none, .fieldLink RX1 7 "CutYard$Cutter" "mask" "I", .fieldLink RX1 13 "CutYard$Cutter" "least" "I", .fieldLink RX1 16 "CutYard$Cutter" "most" "I"] ++ wsX10)
def wsX1_setRule : List Cond := .code yX1_setRule cX1_setRule 4 none :: ([.fieldLink RX1 7 "CutYard$Cutter" "mask" "I", .fieldLink RX1 13 "CutYard$Cutter" "least" "I", .fieldLink RX1 16 "CutYard$Cutter" "most" "I"] ++ wsX10)
def wsX1_turned : List Cond := .code yX1_turned cX1_turned 2 (some .int) :: ([])
def wsX1_mark : List Cond := .code yX1_mark cX1_mark 2 (some .int) :: ([.constant RX1 32 (-1640531527)])
def wsX1_endOfPart : List Cond := .code yX1_endOfPart cX1_endOfPart 7 (some .int) :: ([.fieldLink RX1 16 "CutYard$Cutter" "most" "I", .methodLink RX1 19 Lib.Math.min.name, .static Lib.Math.min.name, .initialized "java/lang/Math", .code Lib.Math.min.name Lib.Math.min.code 2 (some .int), .fieldLink RX1 13 "CutYard$Cutter" "least" "I", .fieldLink RX1 7 "CutYard$Cutter" "mask" "I", .methodLink RX1 25 yX1_turned, .static yX1_turned, .initialized RX1, .code yX1_turned cX1_turned 2 (some .int), .methodLink RX1 28 yX1_mark, .static yX1_mark, .code yX1_mark cX1_mark 2 (some .int), .constant RX1 32 (-1640531527)] ++ wsX10)
def wsJ7_fill_53178 : List Cond := .code yJ7_fill_53178 cJ7_fill_53178 4 none :: ([])
def wsX2_init : List Cond := .code yX2_init cX2_init 1 none :: ([.methodLink RX2 3 objectInit, .instanceMethod objectInit, .code objectInit ⟨#[0xb1]⟩ 1 none, .arrayClass .int, .fieldLink RX2 9 "CutYard$Stock" "uses" "[I", .fieldLink RX2 15 "CutYard$Stock" "lengths" "[I", .fieldLink RX2 18 "CutYard$Stock" "hashes" "[I", .fieldLink RX2 21 "CutYard$Stock" "next" "[I", .fieldLink RX2 24 "CutYard$Stock" "heads" "[I", .arrayClass .byte, .fieldLink RX2 27 "CutYard$Stock" "room" "[B", .fieldLink RX2 31 "CutYard$Stock" "lowest" "I", .fieldLink RX2 35 "CutYard$Stock" "count" "I", .fieldLink RX2 38 "CutYard$Stock" "bytes" "I", .methodLink RX2 41 yJ7_fill_53178, .static yJ7_fill_53178, .initialized RJ7, .code yJ7_fill_53178 cJ7_fill_53178 4 none] ++ wsX20)
def wsX2_empty : List Cond := .code yX2_empty cX2_empty 1 none :: ([.fieldLink RX2 9 "CutYard$Stock" "uses" "[I", .fieldLink RX2 24 "CutYard$Stock" "heads" "[I", .fieldLink RX2 31 "CutYard$Stock" "lowest" "I", .fieldLink RX2 35 "CutYard$Stock" "count" "I", .fieldLink RX2 38 "CutYard$Stock" "bytes" "I", .methodLink RX2 41 yJ7_fill_53178, .static yJ7_fill_53178, .initialized RJ7, .code yJ7_fill_53178 cJ7_fill_53178 4 none] ++ wsX20)
def wsX2_has : List Cond := .code yX2_has cX2_has 2 (some .boolean) :: ([.fieldLink RX2 9 "CutYard$Stock" "uses" "[I"] ++ wsX20)
def wsX2_usesOf : List Cond := .code yX2_usesOf cX2_usesOf 2 (some .int) :: ([.fieldLink RX2 9 "CutYard$Stock" "uses" "[I", .methodLink RX2 47 yX2_has, .instanceMethod yX2_has, .selects RX2 yX2_has yX2_has, .initialized RX2, .code yX2_has cX2_has 2 (some .boolean)] ++ wsX20)
def wsX2_lengthOf : List Cond := .code yX2_lengthOf cX2_lengthOf 2 (some .int) :: ([.fieldLink RX2 15 "CutYard$Stock" "lengths" "[I", .methodLink RX2 47 yX2_has, .instanceMethod yX2_has, .selects RX2 yX2_has yX2_has, .initialized RX2, .code yX2_has cX2_has 2 (some .boolean), .fieldLink RX2 9 "CutYard$Stock" "uses" "[I"] ++ wsX20)
def wsX2_byteOf : List Cond := .code yX2_byteOf cX2_byteOf 3 (some .int) :: ([.fieldLink RX2 27 "CutYard$Stock" "room" "[B", .methodLink RX2 51 yX2_lengthOf, .instanceMethod yX2_lengthOf, .selects RX2 yX2_lengthOf yX2_lengthOf, .initialized RX2, .code yX2_lengthOf cX2_lengthOf 2 (some .int), .fieldLink RX2 15 "CutYard$Stock" "lengths" "[I", .methodLink RX2 47 yX2_has, .instanceMethod yX2_has, .selects RX2 yX2_has yX2_has, .code yX2_has cX2_has 2 (some .boolean), .fieldLink RX2 9 "CutYard$Stock" "uses" "[I"] ++ wsX20)
def wsX2_writeOut : List Cond := .code yX2_writeOut cX2_writeOut 5 (some .int) :: ([.fieldLink RX2 27 "CutYard$Stock" "room" "[B", .methodLink RX2 55 arraycopyName, .native arraycopyName, .static arraycopyName, .initialized "java/lang/System", .methodLink RX2 51 yX2_lengthOf, .instanceMethod yX2_lengthOf, .selects RX2 yX2_lengthOf yX2_lengthOf, .initialized RX2, .code yX2_lengthOf cX2_lengthOf 2 (some .int), .fieldLink RX2 15 "CutYard$Stock" "lengths" "[I", .methodLink RX2 47 yX2_has, .instanceMethod yX2_has, .selects RX2 yX2_has yX2_has, .code yX2_has cX2_has 2 (some .boolean), .fieldLink RX2 9 "CutYard$Stock" "uses" "[I"] ++ wsX20)
def wsX2_useAgain : List Cond := .code yX2_useAgain cX2_useAgain 2 none :: ([.fieldLink RX2 9 "CutYard$Stock" "uses" "[I", .methodLink RX2 47 yX2_has, .instanceMethod yX2_has, .selects RX2 yX2_has yX2_has, .initialized RX2, .code yX2_has cX2_has 2 (some .boolean)] ++ wsX20)
def wsX2_hashOf : List Cond := .code yX2_hashOf cX2_hashOf 5 (some .int) :: ([])
def wsX2_sameBytes : List Cond := .code yX2_sameBytes cX2_sameBytes 6 (some .boolean) :: ([.fieldLink RX2 15 "CutYard$Stock" "lengths" "[I", .fieldLink RX2 27 "CutYard$Stock" "room" "[B"] ++ wsX20)
def wsX2_find : List Cond := .code yX2_find cX2_find 7 (some .int) :: ([.fieldLink RX2 24 "CutYard$Stock" "heads" "[I", .fieldLink RX2 18 "CutYard$Stock" "hashes" "[I", .fieldLink RX2 15 "CutYard$Stock" "lengths" "[I", .fieldLink RX2 21 "CutYard$Stock" "next" "[I", .methodLink RX2 47 yX2_has, .instanceMethod yX2_has, .selects RX2 yX2_has yX2_has, .initialized RX2, .code yX2_has cX2_has 2 (some .boolean), .fieldLink RX2 9 "CutYard$Stock" "uses" "[I", .methodLink RX2 85 yX2_sameBytes, .instanceMethod yX2_sameBytes, .selects RX2 yX2_sameBytes yX2_sameBytes, .code yX2_sameBytes cX2_sameBytes 6 (some .boolean), .fieldLink RX2 27 "CutYard$Stock" "room" "[B"] ++ wsX20)
def wsX2_leastFree : List Cond := .code yX2_leastFree cX2_leastFree 1 (some .int) :: ([.fieldLink RX2 31 "CutYard$Stock" "lowest" "I", .fieldLink RX2 9 "CutYard$Stock" "uses" "[I"] ++ wsX20)
def wsJ7_copyOf_9075b : List Cond := .code yJ7_copyOf_9075b cJ7_copyOf_9075b 3 (some (.array .byte)) :: ([.methodLink RJ7 310 ⟨"[B", "clone", "()Ljava/lang/Object;"⟩, .sameMethod "[B" "java/lang/Object" "clone" "()Ljava/lang/Object;", .native ⟨"java/lang/Object", "clone", "()Ljava/lang/Object;"⟩, .instanceMethod ⟨"java/lang/Object", "clone", "()Ljava/lang/Object;"⟩, .selects "[B" ⟨"[B", "clone", "()Ljava/lang/Object;"⟩ ⟨"java/lang/Object", "clone", "()Ljava/lang/Object;"⟩, .classLink RJ7 311 "[B", .arrayClass .byte, .methodLink RJ7 304 Lib.Math.min.name, .static Lib.Math.min.name, .initialized "java/lang/Math", .code Lib.Math.min.name Lib.Math.min.code 2 (some .int), .methodLink RJ7 150 arraycopyName, .native arraycopyName, .static arraycopyName, .initialized "java/lang/System"])
def wsX2_makeRoomFor : List Cond := .code yX2_makeRoomFor cX2_makeRoomFor 3 none :: ([.fieldLink RX2 27 "CutYard$Stock" "room" "[B", .methodLink RX2 96 Lib.Math.max.name, .static Lib.Math.max.name, .initialized "java/lang/Math", .code Lib.Math.max.name Lib.Math.max.code 2 (some .int), .methodLink RX2 79 Lib.Math.min.name, .static Lib.Math.min.name, .code Lib.Math.min.name Lib.Math.min.code 2 (some .int), .methodLink RX2 99 yJ7_copyOf_9075b, .static yJ7_copyOf_9075b, .initialized RJ7, .code yJ7_copyOf_9075b cJ7_copyOf_9075b 3 (some (.array .byte)), .methodLink RJ7 310 ⟨"[B", "clone", "()Ljava/lang/Object;"⟩, .sameMethod "[B" "java/lang/Object" "clone" "()Ljava/lang/Object;", .native ⟨"java/lang/Object", "clone", "()Ljava/lang/Object;"⟩, .instanceMethod ⟨"java/lang/Object", "clone", "()Ljava/lang/Object;"⟩, .selects "[B" ⟨"[B", "clone", "()Ljava/lang/Object;"⟩ ⟨"java/lang/Object", "clone", "()Ljava/lang/Object;"⟩, .classLink RJ7 311 "[B", .arrayClass .byte, .methodLink RJ7 304 Lib.Math.min.name, .methodLink RJ7 150 arraycopyName, .native arraycopyName, .static arraycopyName, .initialized "java/lang/System"] ++ wsX20)
def wsX2_add_r1 : List Cond := [Cond.fieldLink RX2 27 "CutYard$Stock" "room" "[B", Cond.methodLink RX2 55 arraycopyName, Cond.native arraycopyName, Cond.static arraycopyName, Cond.initialized "java/lang/System", Cond.fieldLink RX2 9 "CutYard$Stock" "uses" "[I", Cond.fieldLink RX2 15 "CutYard$Stock" "lengths" "[I", Cond.fieldLink RX2 18 "CutYard$Stock" "hashes" "[I", Cond.fieldLink RX2 21 "CutYard$Stock" "next" "[I", Cond.fieldLink RX2 24 "CutYard$Stock" "heads" "[I", Cond.fieldLink RX2 35 "CutYard$Stock" "count" "I", Cond.fieldLink RX2 38 "CutYard$Stock" "bytes" "I", Cond.methodLink RX2 89 yX2_leastFree, Cond.instanceMethod yX2_leastFree, Cond.selects RX2 yX2_leastFree yX2_leastFree, Cond.initialized RX2, Cond.code yX2_leastFree cX2_leastFree 1 (some .int), Cond.fieldLink RX2 31 "CutYard$Stock" "lowest" "I", Cond.methodLink RX2 93 yX2_makeRoomFor, Cond.instanceMethod yX2_makeRoomFor, Cond.selects RX2 yX2_makeRoomFor yX2_makeRoomFor, Cond.code yX2_makeRoomFor cX2_makeRoomFor 3 none, Cond.methodLink RX2 96 Lib.Math.max.name, Cond.static Lib.Math.max.name]
def wsX2_add_r2 : List Cond := [Cond.initialized "java/lang/Math", Cond.code Lib.Math.max.name Lib.Math.max.code 2 (some .int), Cond.methodLink RX2 79 Lib.Math.min.name, Cond.static Lib.Math.min.name, Cond.code Lib.Math.min.name Lib.Math.min.code 2 (some .int), Cond.methodLink RX2 99 yJ7_copyOf_9075b, Cond.static yJ7_copyOf_9075b, Cond.initialized RJ7, Cond.code yJ7_copyOf_9075b cJ7_copyOf_9075b 3 (some (.array .byte)), Cond.methodLink RJ7 310 ⟨"[B", "clone", "()Ljava/lang/Object;"⟩, Cond.sameMethod "[B" "java/lang/Object" "clone" "()Ljava/lang/Object;", Cond.native ⟨"java/lang/Object", "clone", "()Ljava/lang/Object;"⟩, Cond.instanceMethod ⟨"java/lang/Object", "clone", "()Ljava/lang/Object;"⟩, Cond.selects "[B" ⟨"[B", "clone", "()Ljava/lang/Object;"⟩ ⟨"java/lang/Object", "clone", "()Ljava/lang/Object;"⟩, Cond.classLink RJ7 311 "[B", Cond.arrayClass .byte, Cond.methodLink RJ7 304 Lib.Math.min.name, Cond.methodLink RJ7 150 arraycopyName]
def wsX2_add : List Cond := .code yX2_add cX2_add 6 (some .int) :: ((wsX2_add_r1 ++ wsX2_add_r2) ++ wsX20)
def wsX2_take_r1 : List Cond := [Cond.methodLink RX2 61 yX2_hashOf, Cond.static yX2_hashOf, Cond.initialized RX2, Cond.code yX2_hashOf cX2_hashOf 5 (some .int), Cond.methodLink RX2 65 yX2_find, Cond.instanceMethod yX2_find, Cond.selects RX2 yX2_find yX2_find, Cond.code yX2_find cX2_find 7 (some .int), Cond.fieldLink RX2 24 "CutYard$Stock" "heads" "[I", Cond.fieldLink RX2 18 "CutYard$Stock" "hashes" "[I", Cond.fieldLink RX2 15 "CutYard$Stock" "lengths" "[I", Cond.fieldLink RX2 21 "CutYard$Stock" "next" "[I", Cond.methodLink RX2 47 yX2_has, Cond.instanceMethod yX2_has, Cond.selects RX2 yX2_has yX2_has, Cond.code yX2_has cX2_has 2 (some .boolean), Cond.fieldLink RX2 9 "CutYard$Stock" "uses" "[I", Cond.methodLink RX2 85 yX2_sameBytes, Cond.instanceMethod yX2_sameBytes, Cond.selects RX2 yX2_sameBytes yX2_sameBytes, Cond.code yX2_sameBytes cX2_sameBytes 6 (some .boolean), Cond.fieldLink RX2 27 "CutYard$Stock" "room" "[B", Cond.methodLink RX2 69 yX2_add, Cond.instanceMethod yX2_add]
def wsX2_take_r2 : List Cond := [Cond.selects RX2 yX2_add yX2_add, Cond.code yX2_add cX2_add 6 (some .int), Cond.methodLink RX2 55 arraycopyName, Cond.native arraycopyName, Cond.static arraycopyName, Cond.initialized "java/lang/System", Cond.fieldLink RX2 35 "CutYard$Stock" "count" "I", Cond.fieldLink RX2 38 "CutYard$Stock" "bytes" "I", Cond.methodLink RX2 89 yX2_leastFree, Cond.instanceMethod yX2_leastFree, Cond.selects RX2 yX2_leastFree yX2_leastFree, Cond.code yX2_leastFree cX2_leastFree 1 (some .int), Cond.fieldLink RX2 31 "CutYard$Stock" "lowest" "I", Cond.methodLink RX2 93 yX2_makeRoomFor, Cond.instanceMethod yX2_makeRoomFor, Cond.selects RX2 yX2_makeRoomFor yX2_makeRoomFor, Cond.code yX2_makeRoomFor cX2_makeRoomFor 3 none, Cond.methodLink RX2 96 Lib.Math.max.name, Cond.static Lib.Math.max.name, Cond.initialized "java/lang/Math", Cond.code Lib.Math.max.name Lib.Math.max.code 2 (some .int), Cond.methodLink RX2 79 Lib.Math.min.name, Cond.static Lib.Math.min.name, Cond.code Lib.Math.min.name Lib.Math.min.code 2 (some .int)]
def wsX2_take_r3 : List Cond := [Cond.methodLink RX2 99 yJ7_copyOf_9075b, Cond.static yJ7_copyOf_9075b, Cond.initialized RJ7, Cond.code yJ7_copyOf_9075b cJ7_copyOf_9075b 3 (some (.array .byte)), Cond.methodLink RJ7 310 ⟨"[B", "clone", "()Ljava/lang/Object;"⟩, Cond.sameMethod "[B" "java/lang/Object" "clone" "()Ljava/lang/Object;", Cond.native ⟨"java/lang/Object", "clone", "()Ljava/lang/Object;"⟩, Cond.instanceMethod ⟨"java/lang/Object", "clone", "()Ljava/lang/Object;"⟩, Cond.selects "[B" ⟨"[B", "clone", "()Ljava/lang/Object;"⟩ ⟨"java/lang/Object", "clone", "()Ljava/lang/Object;"⟩, Cond.classLink RJ7 311 "[B", Cond.arrayClass .byte, Cond.methodLink RJ7 304 Lib.Math.min.name, Cond.methodLink RJ7 150 arraycopyName, Cond.methodLink RX2 72 yX2_useAgain, Cond.instanceMethod yX2_useAgain, Cond.selects RX2 yX2_useAgain yX2_useAgain, Cond.code yX2_useAgain cX2_useAgain 2 none]
def wsX2_take : List Cond := .code yX2_take cX2_take 6 (some .int) :: ((wsX2_take_r1 ++ (wsX2_take_r2 ++ wsX2_take_r3)) ++ wsX20)
def wsX2_unchain : List Cond := .code yX2_unchain cX2_unchain 5 none :: ([.fieldLink RX2 18 "CutYard$Stock" "hashes" "[I", .fieldLink RX2 24 "CutYard$Stock" "heads" "[I", .fieldLink RX2 21 "CutYard$Stock" "next" "[I", .methodLink RX2 47 yX2_has, .instanceMethod yX2_has, .selects RX2 yX2_has yX2_has, .initialized RX2, .code yX2_has cX2_has 2 (some .boolean), .fieldLink RX2 9 "CutYard$Stock" "uses" "[I"] ++ wsX20)
def wsX2_giveBack : List Cond := .code yX2_giveBack cX2_giveBack 2 none :: ([.fieldLink RX2 9 "CutYard$Stock" "uses" "[I", .fieldLink RX2 31 "CutYard$Stock" "lowest" "I", .methodLink RX2 79 Lib.Math.min.name, .static Lib.Math.min.name, .initialized "java/lang/Math", .code Lib.Math.min.name Lib.Math.min.code 2 (some .int), .fieldLink RX2 35 "CutYard$Stock" "count" "I", .fieldLink RX2 38 "CutYard$Stock" "bytes" "I", .fieldLink RX2 15 "CutYard$Stock" "lengths" "[I", .methodLink RX2 47 yX2_has, .instanceMethod yX2_has, .selects RX2 yX2_has yX2_has, .initialized RX2, .code yX2_has cX2_has 2 (some .boolean), .methodLink RX2 76 yX2_unchain, .instanceMethod yX2_unchain, .selects RX2 yX2_unchain yX2_unchain, .code yX2_unchain cX2_unchain 5 none, .fieldLink RX2 18 "CutYard$Stock" "hashes" "[I", .fieldLink RX2 24 "CutYard$Stock" "heads" "[I", .fieldLink RX2 21 "CutYard$Stock" "next" "[I"] ++ wsX20)
def wsX3_init_r1 : List Cond := [Cond.methodLink RX3 1 objectInit, Cond.instanceMethod objectInit, Cond.code objectInit ⟨#[0xb1]⟩ 1 none, Cond.classLink RX3 7 RX1, Cond.instantiable RX1 3, Cond.initialized RX1, Cond.fieldLink RX3 10 "CutYard" "cutter" "LCutYard$Cutter;", Cond.classLink RX3 16 RX2, Cond.instantiable RX2 9, Cond.initialized RX2, Cond.fieldLink RX3 19 "CutYard" "stock" "LCutYard$Stock;", Cond.classLink RX3 23 RX0, Cond.fieldLink RX3 25 "CutYard" "files" "[LCutYard$Content;", Cond.arrayClass .byte, Cond.fieldLink RX3 29 "CutYard" "hand" "[B", Cond.fieldLink RX3 33 "CutYard" "inHand" "I", Cond.fieldLink RX3 37 "CutYard" "work" "[B", Cond.arrayClass .int, Cond.fieldLink RX3 40 "CutYard" "taken" "[I", Cond.fieldLink RX3 44 "CutYard" "seen" "[I", Cond.instantiable RX0 3, Cond.initialized RX0, Cond.instanceMethod yX1_init, Cond.code yX1_init cX1_init 1 none]
def wsX3_init_r2 : List Cond := [Cond.methodLink RX1 1 objectInit, Cond.fieldLink RX1 7 "CutYard$Cutter" "mask" "I", Cond.fieldLink RX1 13 "CutYard$Cutter" "least" "I", Cond.fieldLink RX1 16 "CutYard$Cutter" "most" "I", Cond.methodLink RX3 18 yX2_init, Cond.instanceMethod yX2_init, Cond.code yX2_init cX2_init 1 none, Cond.methodLink RX2 3 objectInit, Cond.fieldLink RX2 9 "CutYard$Stock" "uses" "[I", Cond.fieldLink RX2 15 "CutYard$Stock" "lengths" "[I", Cond.fieldLink RX2 18 "CutYard$Stock" "hashes" "[I", Cond.fieldLink RX2 21 "CutYard$Stock" "next" "[I", Cond.fieldLink RX2 24 "CutYard$Stock" "heads" "[I", Cond.fieldLink RX2 27 "CutYard$Stock" "room" "[B", Cond.fieldLink RX2 31 "CutYard$Stock" "lowest" "I", Cond.fieldLink RX2 35 "CutYard$Stock" "count" "I", Cond.fieldLink RX2 38 "CutYard$Stock" "bytes" "I", Cond.methodLink RX2 41 yJ7_fill_53178, Cond.static yJ7_fill_53178, Cond.initialized RJ7, Cond.code yJ7_fill_53178 cJ7_fill_53178 4 none, Cond.instanceMethod yX0_init, Cond.code yX0_init cX0_init 1 none, Cond.methodLink RX0 3 objectInit]
def wsX3_init_r3 : List Cond := [Cond.fieldLink RX0 11 "CutYard$Content" "numbers" "[I", Cond.fieldLink RX0 15 "CutYard$Content" "count" "I", Cond.fieldLink RX0 19 "CutYard$Content" "bytes" "I"]
def wsX3_init : List Cond := .code yX3_init cX3_init 2 none :: ((wsX3_init_r1 ++ (wsX3_init_r2 ++ wsX3_init_r3)) ++ wsX10 ++ wsX30 ++ wsX20 ++ wsX00)
def wsX3_begin_r1 : List Cond := [Cond.classLink RX3 48 "java/lang/IllegalArgumentException", Cond.initialized "java/lang/IllegalArgumentException", Cond.fieldLink RX3 10 "CutYard" "cutter" "LCutYard$Cutter;", Cond.fieldLink RX3 19 "CutYard" "stock" "LCutYard$Stock;", Cond.fieldLink RX3 25 "CutYard" "files" "[LCutYard$Content;", Cond.methodLink RX3 59 yX1_setRule, Cond.instanceMethod yX1_setRule, Cond.selects RX1 yX1_setRule yX1_setRule, Cond.initialized RX1, Cond.code yX1_setRule cX1_setRule 4 none, Cond.fieldLink RX1 7 "CutYard$Cutter" "mask" "I", Cond.fieldLink RX1 13 "CutYard$Cutter" "least" "I", Cond.fieldLink RX1 16 "CutYard$Cutter" "most" "I", Cond.methodLink RX3 63 yX2_empty, Cond.instanceMethod yX2_empty, Cond.selects RX2 yX2_empty yX2_empty, Cond.initialized RX2, Cond.code yX2_empty cX2_empty 1 none, Cond.fieldLink RX2 9 "CutYard$Stock" "uses" "[I", Cond.fieldLink RX2 24 "CutYard$Stock" "heads" "[I", Cond.fieldLink RX2 31 "CutYard$Stock" "lowest" "I", Cond.fieldLink RX2 35 "CutYard$Stock" "count" "I", Cond.fieldLink RX2 38 "CutYard$Stock" "bytes" "I", Cond.methodLink RX2 41 yJ7_fill_53178]
def wsX3_begin_r2 : List Cond := [Cond.static yJ7_fill_53178, Cond.initialized RJ7, Cond.code yJ7_fill_53178 cJ7_fill_53178 4 none, Cond.methodLink RX3 66 yX0_empty, Cond.instanceMethod yX0_empty, Cond.selects RX0 yX0_empty yX0_empty, Cond.initialized RX0, Cond.code yX0_empty cX0_empty 1 none, Cond.fieldLink RX0 15 "CutYard$Content" "count" "I", Cond.fieldLink RX0 19 "CutYard$Content" "bytes" "I"]
def wsX3_giveBack_r1 : List Cond := [Cond.fieldLink RX3 19 "CutYard" "stock" "LCutYard$Stock;", Cond.methodLink RX3 169 yX2_giveBack, Cond.instanceMethod yX2_giveBack, Cond.selects RX2 yX2_giveBack yX2_giveBack, Cond.initialized RX2, Cond.code yX2_giveBack cX2_giveBack 2 none, Cond.fieldLink RX2 9 "CutYard$Stock" "uses" "[I", Cond.fieldLink RX2 31 "CutYard$Stock" "lowest" "I", Cond.methodLink RX2 79 Lib.Math.min.name, Cond.static Lib.Math.min.name, Cond.initialized "java/lang/Math", Cond.code Lib.Math.min.name Lib.Math.min.code 2 (some .int), Cond.fieldLink RX2 35 "CutYard$Stock" "count" "I", Cond.fieldLink RX2 38 "CutYard$Stock" "bytes" "I", Cond.fieldLink RX2 15 "CutYard$Stock" "lengths" "[I", Cond.methodLink RX2 47 yX2_has, Cond.instanceMethod yX2_has, Cond.selects RX2 yX2_has yX2_has, Cond.code yX2_has cX2_has 2 (some .boolean), Cond.methodLink RX2 76 yX2_unchain, Cond.instanceMethod yX2_unchain, Cond.selects RX2 yX2_unchain yX2_unchain, Cond.code yX2_unchain cX2_unchain 5 none, Cond.fieldLink RX2 18 "CutYard$Stock" "hashes" "[I"]
def wsX3_giveBack_r2 : List Cond := [Cond.fieldLink RX2 24 "CutYard$Stock" "heads" "[I", Cond.fieldLink RX2 21 "CutYard$Stock" "next" "[I"]
def wsX3_giveBack : List Cond := .code yX3_giveBack cX3_giveBack 4 none :: ((wsX3_giveBack_r1 ++ wsX3_giveBack_r2) ++ wsX30 ++ wsX20)
def wsX3_takeParts_r1 : List Cond := [Cond.fieldLink RX3 10 "CutYard" "cutter" "LCutYard$Cutter;", Cond.fieldLink RX3 19 "CutYard" "stock" "LCutYard$Stock;", Cond.fieldLink RX3 40 "CutYard" "taken" "[I", Cond.methodLink RX3 162 yX1_endOfPart, Cond.instanceMethod yX1_endOfPart, Cond.selects RX1 yX1_endOfPart yX1_endOfPart, Cond.initialized RX1, Cond.code yX1_endOfPart cX1_endOfPart 7 (some .int), Cond.fieldLink RX1 16 "CutYard$Cutter" "most" "I", Cond.methodLink RX1 19 Lib.Math.min.name, Cond.static Lib.Math.min.name, Cond.initialized "java/lang/Math", Cond.code Lib.Math.min.name Lib.Math.min.code 2 (some .int), Cond.fieldLink RX1 13 "CutYard$Cutter" "least" "I", Cond.fieldLink RX1 7 "CutYard$Cutter" "mask" "I", Cond.methodLink RX1 25 yX1_turned, Cond.static yX1_turned, Cond.code yX1_turned cX1_turned 2 (some .int), Cond.methodLink RX1 28 yX1_mark, Cond.static yX1_mark, Cond.code yX1_mark cX1_mark 2 (some .int), Cond.constant RX1 32 (-1640531527), Cond.methodLink RX3 166 yX2_take, Cond.instanceMethod yX2_take]
def wsX3_takeParts_r2 : List Cond := [Cond.selects RX2 yX2_take yX2_take, Cond.initialized RX2, Cond.code yX2_take cX2_take 6 (some .int), Cond.methodLink RX2 61 yX2_hashOf, Cond.static yX2_hashOf, Cond.code yX2_hashOf cX2_hashOf 5 (some .int), Cond.methodLink RX2 65 yX2_find, Cond.instanceMethod yX2_find, Cond.selects RX2 yX2_find yX2_find, Cond.code yX2_find cX2_find 7 (some .int), Cond.fieldLink RX2 24 "CutYard$Stock" "heads" "[I", Cond.fieldLink RX2 18 "CutYard$Stock" "hashes" "[I", Cond.fieldLink RX2 15 "CutYard$Stock" "lengths" "[I", Cond.fieldLink RX2 21 "CutYard$Stock" "next" "[I", Cond.methodLink RX2 47 yX2_has, Cond.instanceMethod yX2_has, Cond.selects RX2 yX2_has yX2_has, Cond.code yX2_has cX2_has 2 (some .boolean), Cond.fieldLink RX2 9 "CutYard$Stock" "uses" "[I", Cond.methodLink RX2 85 yX2_sameBytes, Cond.instanceMethod yX2_sameBytes, Cond.selects RX2 yX2_sameBytes yX2_sameBytes, Cond.code yX2_sameBytes cX2_sameBytes 6 (some .boolean), Cond.fieldLink RX2 27 "CutYard$Stock" "room" "[B"]
def wsX3_takeParts_r3 : List Cond := [Cond.methodLink RX2 69 yX2_add, Cond.instanceMethod yX2_add, Cond.selects RX2 yX2_add yX2_add, Cond.code yX2_add cX2_add 6 (some .int), Cond.methodLink RX2 55 arraycopyName, Cond.native arraycopyName, Cond.static arraycopyName, Cond.initialized "java/lang/System", Cond.fieldLink RX2 35 "CutYard$Stock" "count" "I", Cond.fieldLink RX2 38 "CutYard$Stock" "bytes" "I", Cond.methodLink RX2 89 yX2_leastFree, Cond.instanceMethod yX2_leastFree, Cond.selects RX2 yX2_leastFree yX2_leastFree, Cond.code yX2_leastFree cX2_leastFree 1 (some .int), Cond.fieldLink RX2 31 "CutYard$Stock" "lowest" "I", Cond.methodLink RX2 93 yX2_makeRoomFor, Cond.instanceMethod yX2_makeRoomFor, Cond.selects RX2 yX2_makeRoomFor yX2_makeRoomFor, Cond.code yX2_makeRoomFor cX2_makeRoomFor 3 none, Cond.methodLink RX2 96 Lib.Math.max.name, Cond.static Lib.Math.max.name, Cond.code Lib.Math.max.name Lib.Math.max.code 2 (some .int), Cond.methodLink RX2 79 Lib.Math.min.name, Cond.methodLink RX2 99 yJ7_copyOf_9075b]
def wsX3_takeParts_r4 : List Cond := [Cond.static yJ7_copyOf_9075b, Cond.initialized RJ7, Cond.code yJ7_copyOf_9075b cJ7_copyOf_9075b 3 (some (.array .byte)), Cond.methodLink RJ7 310 ⟨"[B", "clone", "()Ljava/lang/Object;"⟩, Cond.sameMethod "[B" "java/lang/Object" "clone" "()Ljava/lang/Object;", Cond.native ⟨"java/lang/Object", "clone", "()Ljava/lang/Object;"⟩, Cond.instanceMethod ⟨"java/lang/Object", "clone", "()Ljava/lang/Object;"⟩, Cond.selects "[B" ⟨"[B", "clone", "()Ljava/lang/Object;"⟩ ⟨"java/lang/Object", "clone", "()Ljava/lang/Object;"⟩, Cond.classLink RJ7 311 "[B", Cond.arrayClass .byte, Cond.methodLink RJ7 304 Lib.Math.min.name, Cond.methodLink RJ7 150 arraycopyName, Cond.methodLink RX2 72 yX2_useAgain, Cond.instanceMethod yX2_useAgain, Cond.selects RX2 yX2_useAgain yX2_useAgain, Cond.code yX2_useAgain cX2_useAgain 2 none, Cond.methodLink RX3 109 yX3_giveBack, Cond.instanceMethod yX3_giveBack, Cond.selects RX3 yX3_giveBack yX3_giveBack, Cond.initialized RX3, Cond.code yX3_giveBack cX3_giveBack 4 none, Cond.methodLink RX3 169 yX2_giveBack, Cond.instanceMethod yX2_giveBack, Cond.selects RX2 yX2_giveBack yX2_giveBack]
def wsX3_takeParts_r5 : List Cond := [Cond.code yX2_giveBack cX2_giveBack 2 none, Cond.methodLink RX2 76 yX2_unchain, Cond.instanceMethod yX2_unchain, Cond.selects RX2 yX2_unchain yX2_unchain, Cond.code yX2_unchain cX2_unchain 5 none]
def wsX3_takeParts : List Cond := .code yX3_takeParts cX3_takeParts 7 (some .int) :: ((wsX3_takeParts_r1 ++ (wsX3_takeParts_r2 ++ (wsX3_takeParts_r3 ++ (wsX3_takeParts_r4 ++ wsX3_takeParts_r5)))) ++ wsX30 ++ wsX10 ++ wsX20)
def wsX3_fillFile_r1 : List Cond := [Cond.classLink RX3 69 "java/lang/UnsupportedOperationException", Cond.initialized "java/lang/UnsupportedOperationException", Cond.fieldLink RX3 19 "CutYard" "stock" "LCutYard$Stock;", Cond.fieldLink RX3 40 "CutYard" "taken" "[I", Cond.fieldLink RX3 33 "CutYard" "inHand" "I", Cond.methodLink RX3 156 yX3_takeParts, Cond.instanceMethod yX3_takeParts, Cond.selects RX3 yX3_takeParts yX3_takeParts, Cond.initialized RX3, Cond.code yX3_takeParts cX3_takeParts 7 (some .int), Cond.fieldLink RX3 10 "CutYard" "cutter" "LCutYard$Cutter;", Cond.methodLink RX3 162 yX1_endOfPart, Cond.instanceMethod yX1_endOfPart, Cond.selects RX1 yX1_endOfPart yX1_endOfPart, Cond.initialized RX1, Cond.code yX1_endOfPart cX1_endOfPart 7 (some .int), Cond.fieldLink RX1 16 "CutYard$Cutter" "most" "I", Cond.methodLink RX1 19 Lib.Math.min.name, Cond.static Lib.Math.min.name, Cond.initialized "java/lang/Math", Cond.code Lib.Math.min.name Lib.Math.min.code 2 (some .int), Cond.fieldLink RX1 13 "CutYard$Cutter" "least" "I", Cond.fieldLink RX1 7 "CutYard$Cutter" "mask" "I", Cond.methodLink RX1 25 yX1_turned]
def wsX3_fillFile_r2 : List Cond := [Cond.static yX1_turned, Cond.code yX1_turned cX1_turned 2 (some .int), Cond.methodLink RX1 28 yX1_mark, Cond.static yX1_mark, Cond.code yX1_mark cX1_mark 2 (some .int), Cond.constant RX1 32 (-1640531527), Cond.methodLink RX3 166 yX2_take, Cond.instanceMethod yX2_take, Cond.selects RX2 yX2_take yX2_take, Cond.initialized RX2, Cond.code yX2_take cX2_take 6 (some .int), Cond.methodLink RX2 61 yX2_hashOf, Cond.static yX2_hashOf, Cond.code yX2_hashOf cX2_hashOf 5 (some .int), Cond.methodLink RX2 65 yX2_find, Cond.instanceMethod yX2_find, Cond.selects RX2 yX2_find yX2_find, Cond.code yX2_find cX2_find 7 (some .int), Cond.fieldLink RX2 24 "CutYard$Stock" "heads" "[I", Cond.fieldLink RX2 18 "CutYard$Stock" "hashes" "[I", Cond.fieldLink RX2 15 "CutYard$Stock" "lengths" "[I", Cond.fieldLink RX2 21 "CutYard$Stock" "next" "[I", Cond.methodLink RX2 47 yX2_has, Cond.instanceMethod yX2_has]
def wsX3_fillFile_r3 : List Cond := [Cond.selects RX2 yX2_has yX2_has, Cond.code yX2_has cX2_has 2 (some .boolean), Cond.fieldLink RX2 9 "CutYard$Stock" "uses" "[I", Cond.methodLink RX2 85 yX2_sameBytes, Cond.instanceMethod yX2_sameBytes, Cond.selects RX2 yX2_sameBytes yX2_sameBytes, Cond.code yX2_sameBytes cX2_sameBytes 6 (some .boolean), Cond.fieldLink RX2 27 "CutYard$Stock" "room" "[B", Cond.methodLink RX2 69 yX2_add, Cond.instanceMethod yX2_add, Cond.selects RX2 yX2_add yX2_add, Cond.code yX2_add cX2_add 6 (some .int), Cond.methodLink RX2 55 arraycopyName, Cond.native arraycopyName, Cond.static arraycopyName, Cond.initialized "java/lang/System", Cond.fieldLink RX2 35 "CutYard$Stock" "count" "I", Cond.fieldLink RX2 38 "CutYard$Stock" "bytes" "I", Cond.methodLink RX2 89 yX2_leastFree, Cond.instanceMethod yX2_leastFree, Cond.selects RX2 yX2_leastFree yX2_leastFree, Cond.code yX2_leastFree cX2_leastFree 1 (some .int), Cond.fieldLink RX2 31 "CutYard$Stock" "lowest" "I", Cond.methodLink RX2 93 yX2_makeRoomFor]
def wsX3_fillFile_r4 : List Cond := [Cond.instanceMethod yX2_makeRoomFor, Cond.selects RX2 yX2_makeRoomFor yX2_makeRoomFor, Cond.code yX2_makeRoomFor cX2_makeRoomFor 3 none, Cond.methodLink RX2 96 Lib.Math.max.name, Cond.static Lib.Math.max.name, Cond.code Lib.Math.max.name Lib.Math.max.code 2 (some .int), Cond.methodLink RX2 79 Lib.Math.min.name, Cond.methodLink RX2 99 yJ7_copyOf_9075b, Cond.static yJ7_copyOf_9075b, Cond.initialized RJ7, Cond.code yJ7_copyOf_9075b cJ7_copyOf_9075b 3 (some (.array .byte)), Cond.methodLink RJ7 310 ⟨"[B", "clone", "()Ljava/lang/Object;"⟩, Cond.sameMethod "[B" "java/lang/Object" "clone" "()Ljava/lang/Object;", Cond.native ⟨"java/lang/Object", "clone", "()Ljava/lang/Object;"⟩, Cond.instanceMethod ⟨"java/lang/Object", "clone", "()Ljava/lang/Object;"⟩, Cond.selects "[B" ⟨"[B", "clone", "()Ljava/lang/Object;"⟩ ⟨"java/lang/Object", "clone", "()Ljava/lang/Object;"⟩, Cond.classLink RJ7 311 "[B", Cond.arrayClass .byte, Cond.methodLink RJ7 304 Lib.Math.min.name, Cond.methodLink RJ7 150 arraycopyName, Cond.methodLink RX2 72 yX2_useAgain, Cond.instanceMethod yX2_useAgain, Cond.selects RX2 yX2_useAgain yX2_useAgain, Cond.code yX2_useAgain cX2_useAgain 2 none]
def wsX3_fillFile_r5 : List Cond := [Cond.methodLink RX3 109 yX3_giveBack, Cond.instanceMethod yX3_giveBack, Cond.selects RX3 yX3_giveBack yX3_giveBack, Cond.code yX3_giveBack cX3_giveBack 4 none, Cond.methodLink RX3 169 yX2_giveBack, Cond.instanceMethod yX2_giveBack, Cond.selects RX2 yX2_giveBack yX2_giveBack, Cond.code yX2_giveBack cX2_giveBack 2 none, Cond.methodLink RX2 76 yX2_unchain, Cond.instanceMethod yX2_unchain, Cond.selects RX2 yX2_unchain yX2_unchain, Cond.code yX2_unchain cX2_unchain 5 none, Cond.methodLink RX3 113 yX0_become, Cond.instanceMethod yX0_become, Cond.selects RX0 yX0_become yX0_become, Cond.initialized RX0, Cond.code yX0_become cX0_become 4 none, Cond.fieldLink RX0 11 "CutYard$Content" "numbers" "[I", Cond.methodLink RX0 22 Lib.Math.max.name, Cond.methodLink RX0 28 Lib.Math.min.name, Cond.arrayClass .int, Cond.methodLink RX0 31 arraycopyName, Cond.fieldLink RX0 15 "CutYard$Content" "count" "I", Cond.fieldLink RX0 19 "CutYard$Content" "bytes" "I"]
def wsX3_store_r1 : List Cond := [Cond.fieldLink RX3 29 "CutYard" "hand" "[B", Cond.fieldLink RX3 33 "CutYard" "inHand" "I", Cond.methodLink RX3 74 yX3_fileAt, Cond.instanceMethod yX3_fileAt, Cond.selects RX3 yX3_fileAt yX3_fileAt, Cond.initialized RX3, Cond.code yX3_fileAt cX3_fileAt 2 (some (.object "CutYard$Content")), Cond.classLink RX3 117 "java/lang/IndexOutOfBoundsException", Cond.initialized "java/lang/IndexOutOfBoundsException", Cond.fieldLink RX3 25 "CutYard" "files" "[LCutYard$Content;", Cond.methodLink RX3 78 yX3_fillFile, Cond.instanceMethod yX3_fillFile, Cond.selects RX3 yX3_fillFile yX3_fillFile, Cond.code yX3_fillFile cX3_fillFile 7 (some .int), Cond.classLink RX3 69 "java/lang/UnsupportedOperationException", Cond.initialized "java/lang/UnsupportedOperationException", Cond.fieldLink RX3 19 "CutYard" "stock" "LCutYard$Stock;", Cond.fieldLink RX3 40 "CutYard" "taken" "[I", Cond.methodLink RX3 156 yX3_takeParts, Cond.instanceMethod yX3_takeParts, Cond.selects RX3 yX3_takeParts yX3_takeParts, Cond.code yX3_takeParts cX3_takeParts 7 (some .int), Cond.fieldLink RX3 10 "CutYard" "cutter" "LCutYard$Cutter;", Cond.methodLink RX3 162 yX1_endOfPart]
def wsX3_store_r2 : List Cond := [Cond.instanceMethod yX1_endOfPart, Cond.selects RX1 yX1_endOfPart yX1_endOfPart, Cond.initialized RX1, Cond.code yX1_endOfPart cX1_endOfPart 7 (some .int), Cond.fieldLink RX1 16 "CutYard$Cutter" "most" "I", Cond.methodLink RX1 19 Lib.Math.min.name, Cond.static Lib.Math.min.name, Cond.initialized "java/lang/Math", Cond.code Lib.Math.min.name Lib.Math.min.code 2 (some .int), Cond.fieldLink RX1 13 "CutYard$Cutter" "least" "I", Cond.fieldLink RX1 7 "CutYard$Cutter" "mask" "I", Cond.methodLink RX1 25 yX1_turned, Cond.static yX1_turned, Cond.code yX1_turned cX1_turned 2 (some .int), Cond.methodLink RX1 28 yX1_mark, Cond.static yX1_mark, Cond.code yX1_mark cX1_mark 2 (some .int), Cond.constant RX1 32 (-1640531527), Cond.methodLink RX3 166 yX2_take, Cond.instanceMethod yX2_take, Cond.selects RX2 yX2_take yX2_take, Cond.initialized RX2, Cond.code yX2_take cX2_take 6 (some .int), Cond.methodLink RX2 61 yX2_hashOf]
def wsX3_store_r3 : List Cond := [Cond.static yX2_hashOf, Cond.code yX2_hashOf cX2_hashOf 5 (some .int), Cond.methodLink RX2 65 yX2_find, Cond.instanceMethod yX2_find, Cond.selects RX2 yX2_find yX2_find, Cond.code yX2_find cX2_find 7 (some .int), Cond.fieldLink RX2 24 "CutYard$Stock" "heads" "[I", Cond.fieldLink RX2 18 "CutYard$Stock" "hashes" "[I", Cond.fieldLink RX2 15 "CutYard$Stock" "lengths" "[I", Cond.fieldLink RX2 21 "CutYard$Stock" "next" "[I", Cond.methodLink RX2 47 yX2_has, Cond.instanceMethod yX2_has, Cond.selects RX2 yX2_has yX2_has, Cond.code yX2_has cX2_has 2 (some .boolean), Cond.fieldLink RX2 9 "CutYard$Stock" "uses" "[I", Cond.methodLink RX2 85 yX2_sameBytes, Cond.instanceMethod yX2_sameBytes, Cond.selects RX2 yX2_sameBytes yX2_sameBytes, Cond.code yX2_sameBytes cX2_sameBytes 6 (some .boolean), Cond.fieldLink RX2 27 "CutYard$Stock" "room" "[B", Cond.methodLink RX2 69 yX2_add, Cond.instanceMethod yX2_add, Cond.selects RX2 yX2_add yX2_add, Cond.code yX2_add cX2_add 6 (some .int)]
def wsX3_store_r4 : List Cond := [Cond.methodLink RX2 55 arraycopyName, Cond.native arraycopyName, Cond.static arraycopyName, Cond.initialized "java/lang/System", Cond.fieldLink RX2 35 "CutYard$Stock" "count" "I", Cond.fieldLink RX2 38 "CutYard$Stock" "bytes" "I", Cond.methodLink RX2 89 yX2_leastFree, Cond.instanceMethod yX2_leastFree, Cond.selects RX2 yX2_leastFree yX2_leastFree, Cond.code yX2_leastFree cX2_leastFree 1 (some .int), Cond.fieldLink RX2 31 "CutYard$Stock" "lowest" "I", Cond.methodLink RX2 93 yX2_makeRoomFor, Cond.instanceMethod yX2_makeRoomFor, Cond.selects RX2 yX2_makeRoomFor yX2_makeRoomFor, Cond.code yX2_makeRoomFor cX2_makeRoomFor 3 none, Cond.methodLink RX2 96 Lib.Math.max.name, Cond.static Lib.Math.max.name, Cond.code Lib.Math.max.name Lib.Math.max.code 2 (some .int), Cond.methodLink RX2 79 Lib.Math.min.name, Cond.methodLink RX2 99 yJ7_copyOf_9075b, Cond.static yJ7_copyOf_9075b, Cond.initialized RJ7, Cond.code yJ7_copyOf_9075b cJ7_copyOf_9075b 3 (some (.array .byte)), Cond.methodLink RJ7 310 ⟨"[B", "clone", "()Ljava/lang/Object;"⟩]
def wsX3_store_r5 : List Cond := [Cond.sameMethod "[B" "java/lang/Object" "clone" "()Ljava/lang/Object;", Cond.native ⟨"java/lang/Object", "clone", "()Ljava/lang/Object;"⟩, Cond.instanceMethod ⟨"java/lang/Object", "clone", "()Ljava/lang/Object;"⟩, Cond.selects "[B" ⟨"[B", "clone", "()Ljava/lang/Object;"⟩ ⟨"java/lang/Object", "clone", "()Ljava/lang/Object;"⟩, Cond.classLink RJ7 311 "[B", Cond.arrayClass .byte, Cond.methodLink RJ7 304 Lib.Math.min.name, Cond.methodLink RJ7 150 arraycopyName, Cond.methodLink RX2 72 yX2_useAgain, Cond.instanceMethod yX2_useAgain, Cond.selects RX2 yX2_useAgain yX2_useAgain, Cond.code yX2_useAgain cX2_useAgain 2 none, Cond.methodLink RX3 109 yX3_giveBack, Cond.instanceMethod yX3_giveBack, Cond.selects RX3 yX3_giveBack yX3_giveBack, Cond.code yX3_giveBack cX3_giveBack 4 none, Cond.methodLink RX3 169 yX2_giveBack, Cond.instanceMethod yX2_giveBack, Cond.selects RX2 yX2_giveBack yX2_giveBack, Cond.code yX2_giveBack cX2_giveBack 2 none, Cond.methodLink RX2 76 yX2_unchain, Cond.instanceMethod yX2_unchain, Cond.selects RX2 yX2_unchain yX2_unchain, Cond.code yX2_unchain cX2_unchain 5 none]
def wsX3_store_r6 : List Cond := [Cond.methodLink RX3 113 yX0_become, Cond.instanceMethod yX0_become, Cond.selects RX0 yX0_become yX0_become, Cond.initialized RX0, Cond.code yX0_become cX0_become 4 none, Cond.fieldLink RX0 11 "CutYard$Content" "numbers" "[I", Cond.methodLink RX0 22 Lib.Math.max.name, Cond.methodLink RX0 28 Lib.Math.min.name, Cond.arrayClass .int, Cond.methodLink RX0 31 arraycopyName, Cond.fieldLink RX0 15 "CutYard$Content" "count" "I", Cond.fieldLink RX0 19 "CutYard$Content" "bytes" "I"]
def wsX3_layOut : List Cond := .code yX3_layOut cX3_layOut 4 none :: ([.fieldLink RX3 19 "CutYard" "stock" "LCutYard$Stock;", .fieldLink RX3 37 "CutYard" "work" "[B", .methodLink RX3 171 yX2_writeOut, .instanceMethod yX2_writeOut, .selects RX2 yX2_writeOut yX2_writeOut, .initialized RX2, .code yX2_writeOut cX2_writeOut 5 (some .int), .fieldLink RX2 27 "CutYard$Stock" "room" "[B", .methodLink RX2 55 arraycopyName, .native arraycopyName, .static arraycopyName, .initialized "java/lang/System", .methodLink RX2 51 yX2_lengthOf, .instanceMethod yX2_lengthOf, .selects RX2 yX2_lengthOf yX2_lengthOf, .code yX2_lengthOf cX2_lengthOf 2 (some .int), .fieldLink RX2 15 "CutYard$Stock" "lengths" "[I", .methodLink RX2 47 yX2_has, .instanceMethod yX2_has, .selects RX2 yX2_has yX2_has, .code yX2_has cX2_has 2 (some .boolean), .fieldLink RX2 9 "CutYard$Stock" "uses" "[I"] ++ wsX00 ++ wsX30 ++ wsX20)
def wsX3_edit_r1 : List Cond := [Cond.classLink RX3 48 "java/lang/IllegalArgumentException", Cond.initialized "java/lang/IllegalArgumentException", Cond.classLink RX3 69 "java/lang/UnsupportedOperationException", Cond.initialized "java/lang/UnsupportedOperationException", Cond.fieldLink RX3 33 "CutYard" "inHand" "I", Cond.fieldLink RX3 37 "CutYard" "work" "[B", Cond.methodLink RX3 93 arraycopyName, Cond.native arraycopyName, Cond.static arraycopyName, Cond.initialized "java/lang/System", Cond.fieldLink RX3 29 "CutYard" "hand" "[B", Cond.methodLink RX3 74 yX3_fileAt, Cond.instanceMethod yX3_fileAt, Cond.selects RX3 yX3_fileAt yX3_fileAt, Cond.initialized RX3, Cond.code yX3_fileAt cX3_fileAt 2 (some (.object "CutYard$Content")), Cond.classLink RX3 117 "java/lang/IndexOutOfBoundsException", Cond.initialized "java/lang/IndexOutOfBoundsException", Cond.fieldLink RX3 25 "CutYard" "files" "[LCutYard$Content;", Cond.methodLink RX3 89 yX3_layOut, Cond.instanceMethod yX3_layOut, Cond.selects RX3 yX3_layOut yX3_layOut, Cond.code yX3_layOut cX3_layOut 4 none, Cond.fieldLink RX3 19 "CutYard" "stock" "LCutYard$Stock;"]
def wsX3_edit_r2 : List Cond := [Cond.methodLink RX3 171 yX2_writeOut, Cond.instanceMethod yX2_writeOut, Cond.selects RX2 yX2_writeOut yX2_writeOut, Cond.initialized RX2, Cond.code yX2_writeOut cX2_writeOut 5 (some .int), Cond.fieldLink RX2 27 "CutYard$Stock" "room" "[B", Cond.methodLink RX2 55 arraycopyName, Cond.methodLink RX2 51 yX2_lengthOf, Cond.instanceMethod yX2_lengthOf, Cond.selects RX2 yX2_lengthOf yX2_lengthOf, Cond.code yX2_lengthOf cX2_lengthOf 2 (some .int), Cond.fieldLink RX2 15 "CutYard$Stock" "lengths" "[I", Cond.methodLink RX2 47 yX2_has, Cond.instanceMethod yX2_has, Cond.selects RX2 yX2_has yX2_has, Cond.code yX2_has cX2_has 2 (some .boolean), Cond.fieldLink RX2 9 "CutYard$Stock" "uses" "[I", Cond.methodLink RX3 78 yX3_fillFile, Cond.instanceMethod yX3_fillFile, Cond.selects RX3 yX3_fillFile yX3_fillFile, Cond.code yX3_fillFile cX3_fillFile 7 (some .int), Cond.fieldLink RX3 40 "CutYard" "taken" "[I", Cond.methodLink RX3 156 yX3_takeParts, Cond.instanceMethod yX3_takeParts]
def wsX3_edit_r3 : List Cond := [Cond.selects RX3 yX3_takeParts yX3_takeParts, Cond.code yX3_takeParts cX3_takeParts 7 (some .int), Cond.fieldLink RX3 10 "CutYard" "cutter" "LCutYard$Cutter;", Cond.methodLink RX3 162 yX1_endOfPart, Cond.instanceMethod yX1_endOfPart, Cond.selects RX1 yX1_endOfPart yX1_endOfPart, Cond.initialized RX1, Cond.code yX1_endOfPart cX1_endOfPart 7 (some .int), Cond.fieldLink RX1 16 "CutYard$Cutter" "most" "I", Cond.methodLink RX1 19 Lib.Math.min.name, Cond.static Lib.Math.min.name, Cond.initialized "java/lang/Math", Cond.code Lib.Math.min.name Lib.Math.min.code 2 (some .int), Cond.fieldLink RX1 13 "CutYard$Cutter" "least" "I", Cond.fieldLink RX1 7 "CutYard$Cutter" "mask" "I", Cond.methodLink RX1 25 yX1_turned, Cond.static yX1_turned, Cond.code yX1_turned cX1_turned 2 (some .int), Cond.methodLink RX1 28 yX1_mark, Cond.static yX1_mark, Cond.code yX1_mark cX1_mark 2 (some .int), Cond.constant RX1 32 (-1640531527), Cond.methodLink RX3 166 yX2_take, Cond.instanceMethod yX2_take]
def wsX3_edit_r4 : List Cond := [Cond.selects RX2 yX2_take yX2_take, Cond.code yX2_take cX2_take 6 (some .int), Cond.methodLink RX2 61 yX2_hashOf, Cond.static yX2_hashOf, Cond.code yX2_hashOf cX2_hashOf 5 (some .int), Cond.methodLink RX2 65 yX2_find, Cond.instanceMethod yX2_find, Cond.selects RX2 yX2_find yX2_find, Cond.code yX2_find cX2_find 7 (some .int), Cond.fieldLink RX2 24 "CutYard$Stock" "heads" "[I", Cond.fieldLink RX2 18 "CutYard$Stock" "hashes" "[I", Cond.fieldLink RX2 21 "CutYard$Stock" "next" "[I", Cond.methodLink RX2 85 yX2_sameBytes, Cond.instanceMethod yX2_sameBytes, Cond.selects RX2 yX2_sameBytes yX2_sameBytes, Cond.code yX2_sameBytes cX2_sameBytes 6 (some .boolean), Cond.methodLink RX2 69 yX2_add, Cond.instanceMethod yX2_add, Cond.selects RX2 yX2_add yX2_add, Cond.code yX2_add cX2_add 6 (some .int), Cond.fieldLink RX2 35 "CutYard$Stock" "count" "I", Cond.fieldLink RX2 38 "CutYard$Stock" "bytes" "I", Cond.methodLink RX2 89 yX2_leastFree, Cond.instanceMethod yX2_leastFree]
def wsX3_edit_r5 : List Cond := [Cond.selects RX2 yX2_leastFree yX2_leastFree, Cond.code yX2_leastFree cX2_leastFree 1 (some .int), Cond.fieldLink RX2 31 "CutYard$Stock" "lowest" "I", Cond.methodLink RX2 93 yX2_makeRoomFor, Cond.instanceMethod yX2_makeRoomFor, Cond.selects RX2 yX2_makeRoomFor yX2_makeRoomFor, Cond.code yX2_makeRoomFor cX2_makeRoomFor 3 none, Cond.methodLink RX2 96 Lib.Math.max.name, Cond.static Lib.Math.max.name, Cond.code Lib.Math.max.name Lib.Math.max.code 2 (some .int), Cond.methodLink RX2 79 Lib.Math.min.name, Cond.methodLink RX2 99 yJ7_copyOf_9075b, Cond.static yJ7_copyOf_9075b, Cond.initialized RJ7, Cond.code yJ7_copyOf_9075b cJ7_copyOf_9075b 3 (some (.array .byte)), Cond.methodLink RJ7 310 ⟨"[B", "clone", "()Ljava/lang/Object;"⟩, Cond.sameMethod "[B" "java/lang/Object" "clone" "()Ljava/lang/Object;", Cond.native ⟨"java/lang/Object", "clone", "()Ljava/lang/Object;"⟩, Cond.instanceMethod ⟨"java/lang/Object", "clone", "()Ljava/lang/Object;"⟩, Cond.selects "[B" ⟨"[B", "clone", "()Ljava/lang/Object;"⟩ ⟨"java/lang/Object", "clone", "()Ljava/lang/Object;"⟩, Cond.classLink RJ7 311 "[B", Cond.arrayClass .byte, Cond.methodLink RJ7 304 Lib.Math.min.name, Cond.methodLink RJ7 150 arraycopyName]
def wsX3_edit_r6 : List Cond := [Cond.methodLink RX2 72 yX2_useAgain, Cond.instanceMethod yX2_useAgain, Cond.selects RX2 yX2_useAgain yX2_useAgain, Cond.code yX2_useAgain cX2_useAgain 2 none, Cond.methodLink RX3 109 yX3_giveBack, Cond.instanceMethod yX3_giveBack, Cond.selects RX3 yX3_giveBack yX3_giveBack, Cond.code yX3_giveBack cX3_giveBack 4 none, Cond.methodLink RX3 169 yX2_giveBack, Cond.instanceMethod yX2_giveBack, Cond.selects RX2 yX2_giveBack yX2_giveBack, Cond.code yX2_giveBack cX2_giveBack 2 none, Cond.methodLink RX2 76 yX2_unchain, Cond.instanceMethod yX2_unchain, Cond.selects RX2 yX2_unchain yX2_unchain, Cond.code yX2_unchain cX2_unchain 5 none, Cond.methodLink RX3 113 yX0_become, Cond.instanceMethod yX0_become, Cond.selects RX0 yX0_become yX0_become, Cond.initialized RX0, Cond.code yX0_become cX0_become 4 none, Cond.fieldLink RX0 11 "CutYard$Content" "numbers" "[I", Cond.methodLink RX0 22 Lib.Math.max.name, Cond.methodLink RX0 28 Lib.Math.min.name]
def wsX3_edit_r7 : List Cond := [Cond.arrayClass .int, Cond.methodLink RX0 31 arraycopyName, Cond.fieldLink RX0 15 "CutYard$Content" "count" "I", Cond.fieldLink RX0 19 "CutYard$Content" "bytes" "I"]
def wsX3_copy_r1 : List Cond := [Cond.fieldLink RX3 19 "CutYard" "stock" "LCutYard$Stock;", Cond.methodLink RX3 74 yX3_fileAt, Cond.instanceMethod yX3_fileAt, Cond.selects RX3 yX3_fileAt yX3_fileAt, Cond.initialized RX3, Cond.code yX3_fileAt cX3_fileAt 2 (some (.object "CutYard$Content")), Cond.classLink RX3 117 "java/lang/IndexOutOfBoundsException", Cond.initialized "java/lang/IndexOutOfBoundsException", Cond.fieldLink RX3 25 "CutYard" "files" "[LCutYard$Content;", Cond.methodLink RX3 105 yX2_useAgain, Cond.instanceMethod yX2_useAgain, Cond.selects RX2 yX2_useAgain yX2_useAgain, Cond.initialized RX2, Cond.code yX2_useAgain cX2_useAgain 2 none, Cond.fieldLink RX2 9 "CutYard$Stock" "uses" "[I", Cond.methodLink RX2 47 yX2_has, Cond.instanceMethod yX2_has, Cond.selects RX2 yX2_has yX2_has, Cond.code yX2_has cX2_has 2 (some .boolean), Cond.methodLink RX3 109 yX3_giveBack, Cond.instanceMethod yX3_giveBack, Cond.selects RX3 yX3_giveBack yX3_giveBack, Cond.code yX3_giveBack cX3_giveBack 4 none, Cond.methodLink RX3 169 yX2_giveBack]
def wsX3_copy_r2 : List Cond := [Cond.instanceMethod yX2_giveBack, Cond.selects RX2 yX2_giveBack yX2_giveBack, Cond.code yX2_giveBack cX2_giveBack 2 none, Cond.fieldLink RX2 31 "CutYard$Stock" "lowest" "I", Cond.methodLink RX2 79 Lib.Math.min.name, Cond.static Lib.Math.min.name, Cond.initialized "java/lang/Math", Cond.code Lib.Math.min.name Lib.Math.min.code 2 (some .int), Cond.fieldLink RX2 35 "CutYard$Stock" "count" "I", Cond.fieldLink RX2 38 "CutYard$Stock" "bytes" "I", Cond.fieldLink RX2 15 "CutYard$Stock" "lengths" "[I", Cond.methodLink RX2 76 yX2_unchain, Cond.instanceMethod yX2_unchain, Cond.selects RX2 yX2_unchain yX2_unchain, Cond.code yX2_unchain cX2_unchain 5 none, Cond.fieldLink RX2 18 "CutYard$Stock" "hashes" "[I", Cond.fieldLink RX2 24 "CutYard$Stock" "heads" "[I", Cond.fieldLink RX2 21 "CutYard$Stock" "next" "[I", Cond.methodLink RX3 113 yX0_become, Cond.instanceMethod yX0_become, Cond.selects RX0 yX0_become yX0_become, Cond.initialized RX0, Cond.code yX0_become cX0_become 4 none, Cond.fieldLink RX0 11 "CutYard$Content" "numbers" "[I"]
def wsX3_copy_r3 : List Cond := [Cond.methodLink RX0 22 Lib.Math.max.name, Cond.static Lib.Math.max.name, Cond.code Lib.Math.max.name Lib.Math.max.code 2 (some .int), Cond.methodLink RX0 28 Lib.Math.min.name, Cond.arrayClass .int, Cond.methodLink RX0 31 arraycopyName, Cond.native arraycopyName, Cond.static arraycopyName, Cond.initialized "java/lang/System", Cond.fieldLink RX0 15 "CutYard$Content" "count" "I", Cond.fieldLink RX0 19 "CutYard$Content" "bytes" "I"]
def wsX3_get_r1 : List Cond := [Cond.classLink RX3 117 "java/lang/IndexOutOfBoundsException", Cond.initialized "java/lang/IndexOutOfBoundsException", Cond.fieldLink RX3 19 "CutYard" "stock" "LCutYard$Stock;", Cond.methodLink RX3 74 yX3_fileAt, Cond.instanceMethod yX3_fileAt, Cond.selects RX3 yX3_fileAt yX3_fileAt, Cond.initialized RX3, Cond.code yX3_fileAt cX3_fileAt 2 (some (.object "CutYard$Content")), Cond.fieldLink RX3 25 "CutYard" "files" "[LCutYard$Content;", Cond.methodLink RX3 122 yX2_lengthOf, Cond.instanceMethod yX2_lengthOf, Cond.selects RX2 yX2_lengthOf yX2_lengthOf, Cond.initialized RX2, Cond.code yX2_lengthOf cX2_lengthOf 2 (some .int), Cond.fieldLink RX2 15 "CutYard$Stock" "lengths" "[I", Cond.methodLink RX2 47 yX2_has, Cond.instanceMethod yX2_has, Cond.selects RX2 yX2_has yX2_has, Cond.code yX2_has cX2_has 2 (some .boolean), Cond.fieldLink RX2 9 "CutYard$Stock" "uses" "[I", Cond.methodLink RX3 126 yX2_byteOf, Cond.instanceMethod yX2_byteOf, Cond.selects RX2 yX2_byteOf yX2_byteOf, Cond.code yX2_byteOf cX2_byteOf 3 (some .int)]
def wsX3_get_r2 : List Cond := [Cond.fieldLink RX2 27 "CutYard$Stock" "room" "[B", Cond.methodLink RX2 51 yX2_lengthOf]
def wsX3_filesWith : List Cond := .code yX3_filesWith cX3_filesWith 4 (some .int) :: ([.fieldLink RX3 25 "CutYard" "files" "[LCutYard$Content;", .methodLink RX3 175 yX0_hasNumber, .instanceMethod yX0_hasNumber, .selects RX0 yX0_hasNumber yX0_hasNumber, .initialized RX0, .code yX0_hasNumber cX0_hasNumber 3 (some .boolean), .fieldLink RX0 15 "CutYard$Content" "count" "I", .fieldLink RX0 11 "CutYard$Content" "numbers" "[I"] ++ wsX30 ++ wsX00)
def wsX3_about_r1 : List Cond := [Cond.classLink RX3 136 "java/util/NoSuchElementException", Cond.initialized "java/util/NoSuchElementException", Cond.classLink RX3 48 "java/lang/IllegalArgumentException", Cond.initialized "java/lang/IllegalArgumentException", Cond.fieldLink RX3 19 "CutYard" "stock" "LCutYard$Stock;", Cond.methodLink RX3 132 yX2_has, Cond.instanceMethod yX2_has, Cond.selects RX2 yX2_has yX2_has, Cond.initialized RX2, Cond.code yX2_has cX2_has 2 (some .boolean), Cond.fieldLink RX2 9 "CutYard$Stock" "uses" "[I", Cond.methodLink RX3 122 yX2_lengthOf, Cond.instanceMethod yX2_lengthOf, Cond.selects RX2 yX2_lengthOf yX2_lengthOf, Cond.code yX2_lengthOf cX2_lengthOf 2 (some .int), Cond.fieldLink RX2 15 "CutYard$Stock" "lengths" "[I", Cond.methodLink RX2 47 yX2_has, Cond.methodLink RX3 139 yX2_usesOf, Cond.instanceMethod yX2_usesOf, Cond.selects RX2 yX2_usesOf yX2_usesOf, Cond.code yX2_usesOf cX2_usesOf 2 (some .int), Cond.methodLink RX3 142 yX3_filesWith, Cond.instanceMethod yX3_filesWith, Cond.selects RX3 yX3_filesWith yX3_filesWith]
def wsX3_about_r2 : List Cond := [Cond.initialized RX3, Cond.code yX3_filesWith cX3_filesWith 4 (some .int), Cond.fieldLink RX3 25 "CutYard" "files" "[LCutYard$Content;", Cond.methodLink RX3 175 yX0_hasNumber, Cond.instanceMethod yX0_hasNumber, Cond.selects RX0 yX0_hasNumber yX0_hasNumber, Cond.initialized RX0, Cond.code yX0_hasNumber cX0_hasNumber 3 (some .boolean), Cond.fieldLink RX0 15 "CutYard$Content" "count" "I", Cond.fieldLink RX0 11 "CutYard$Content" "numbers" "[I"]
def wsX3_common_r1 : List Cond := [Cond.fieldLink RX3 44 "CutYard" "seen" "[I", Cond.fieldLink RX3 19 "CutYard" "stock" "LCutYard$Stock;", Cond.methodLink RX3 74 yX3_fileAt, Cond.instanceMethod yX3_fileAt, Cond.selects RX3 yX3_fileAt yX3_fileAt, Cond.initialized RX3, Cond.code yX3_fileAt cX3_fileAt 2 (some (.object "CutYard$Content")), Cond.classLink RX3 117 "java/lang/IndexOutOfBoundsException", Cond.initialized "java/lang/IndexOutOfBoundsException", Cond.fieldLink RX3 25 "CutYard" "files" "[LCutYard$Content;", Cond.methodLink RX3 147 yJ7_fill_53178, Cond.static yJ7_fill_53178, Cond.initialized RJ7, Cond.code yJ7_fill_53178 cJ7_fill_53178 4 none, Cond.methodLink RX3 132 yX2_has, Cond.instanceMethod yX2_has, Cond.selects RX2 yX2_has yX2_has, Cond.initialized RX2, Cond.code yX2_has cX2_has 2 (some .boolean), Cond.fieldLink RX2 9 "CutYard$Stock" "uses" "[I", Cond.methodLink RX3 122 yX2_lengthOf, Cond.instanceMethod yX2_lengthOf, Cond.selects RX2 yX2_lengthOf yX2_lengthOf, Cond.code yX2_lengthOf cX2_lengthOf 2 (some .int)]
def wsX3_common_r2 : List Cond := [Cond.fieldLink RX2 15 "CutYard$Stock" "lengths" "[I", Cond.methodLink RX2 47 yX2_has]
def wsX4_init : List Cond := .code yX4_init cX4_init 1 none :: ([.methodLink RX4 1 objectInit, .instanceMethod objectInit, .code objectInit ⟨#[0xb1]⟩ 1 none, .fieldLink RX4 7 "CutYardModel" "bits" "I", .fieldLink RX4 13 "CutYardModel" "least" "I", .fieldLink RX4 16 "CutYardModel" "most" "I", .arrayClass .int, .fieldLink RX4 19 "CutYardModel" "hand" "[I", .fieldLink RX4 23 "CutYardModel" "row" "[I", .fieldLink RX4 26 "CutYardModel" "ends" "[I", .fieldLink RX4 29 "CutYardModel" "numbers" "[I", .arrayClass .boolean, .fieldLink RX4 32 "CutYardModel" "fresh" "[Z", .fieldLink RX4 36 "CutYardModel" "sizes" "[I", .fieldLink RX4 39 "CutYardModel" "bytes" "[I", .fieldLink RX4 42 "CutYardModel" "counts" "[I", .fieldLink RX4 45 "CutYardModel" "parts" "[I", .fieldLink RX4 48 "CutYardModel" "uses" "[I", .fieldLink RX4 51 "CutYardModel" "lengths" "[I", .fieldLink RX4 54 "CutYardModel" "contents" "[I"] ++ wsX40)
def wsX4_thrown : List Cond := .code yX4_thrown cX4_thrown 1 (some .int) :: ([.fieldLink RX4 57 "CutYardModel" "thrown" "I"] ++ wsX40)
def wsX4_refuse : List Cond := .code yX4_refuse cX4_refuse 4 (some .boolean) :: ([.fieldLink RX4 57 "CutYardModel" "thrown" "I"] ++ wsX40)
def wsX4_in : List Cond := .code yX4_in cX4_in 3 (some .boolean) :: ([])
def wsX4_isFile : List Cond := .code yX4_isFile cX4_isFile 1 (some .boolean) :: ([.methodLink RX4 60 yX4_in, .static yX4_in, .initialized RX4, .code yX4_in cX4_in 3 (some .boolean)])
def wsX4_begin : List Cond := .code yX4_begin cX4_begin 6 none :: ([.fieldLink RX4 7 "CutYardModel" "bits" "I", .fieldLink RX4 13 "CutYardModel" "least" "I", .fieldLink RX4 16 "CutYardModel" "most" "I", .fieldLink RX4 36 "CutYardModel" "sizes" "[I", .fieldLink RX4 42 "CutYardModel" "counts" "[I", .fieldLink RX4 48 "CutYardModel" "uses" "[I", .methodLink RX4 60 yX4_in, .static yX4_in, .initialized RX4, .code yX4_in cX4_in 3 (some .boolean), .methodLink RX4 64 yX4_refuse, .instanceMethod yX4_refuse, .selects RX4 yX4_refuse yX4_refuse, .code yX4_refuse cX4_refuse 4 (some .boolean), .fieldLink RX4 57 "CutYardModel" "thrown" "I"] ++ wsX40)
def wsX4_put : List Cond := .code yX4_put cX4_put 5 (some .int) :: ([.fieldLink RX4 68 "CutYardModel" "held" "I", .fieldLink RX4 19 "CutYardModel" "hand" "[I", .methodLink RX4 60 yX4_in, .static yX4_in, .initialized RX4, .code yX4_in cX4_in 3 (some .boolean), .methodLink RX4 64 yX4_refuse, .instanceMethod yX4_refuse, .selects RX4 yX4_refuse yX4_refuse, .code yX4_refuse cX4_refuse 4 (some .boolean), .fieldLink RX4 57 "CutYardModel" "thrown" "I"] ++ wsX40)
def wsX4_mark : List Cond := .code yX4_mark cX4_mark 2 (some .int) :: ([.constant RX4 71 (-1640531527)])
def wsX4_sum : List Cond := .code yX4_sum cX4_sum 6 (some .int) :: ([.fieldLink RX4 23 "CutYardModel" "row" "[I", .methodLink RX4 72 yX4_mark, .static yX4_mark, .initialized RX4, .code yX4_mark cX4_mark 2 (some .int), .constant RX4 71 (-1640531527)] ++ wsX40)
def wsX4_cut : List Cond := .code yX4_cut cX4_cut 5 none :: ([.fieldLink RX4 76 "CutYardModel" "cuts" "I", .fieldLink RX4 79 "CutYardModel" "size" "I", .fieldLink RX4 16 "CutYardModel" "most" "I", .fieldLink RX4 13 "CutYardModel" "least" "I", .fieldLink RX4 7 "CutYardModel" "bits" "I", .fieldLink RX4 26 "CutYardModel" "ends" "[I", .methodLink RX4 82 yX4_sum, .instanceMethod yX4_sum, .selects RX4 yX4_sum yX4_sum, .initialized RX4, .code yX4_sum cX4_sum 6 (some .int), .fieldLink RX4 23 "CutYardModel" "row" "[I", .methodLink RX4 72 yX4_mark, .static yX4_mark, .code yX4_mark cX4_mark 2 (some .int), .constant RX4 71 (-1640531527)] ++ wsX40)
def wsX4_beginOf : List Cond := .code yX4_beginOf cX4_beginOf 2 (some .int) :: ([.fieldLink RX4 26 "CutYardModel" "ends" "[I"] ++ wsX40)
def wsX4_isPart : List Cond := .code yX4_isPart cX4_isPart 6 (some .boolean) :: ([.fieldLink RX4 48 "CutYardModel" "uses" "[I", .fieldLink RX4 32 "CutYardModel" "fresh" "[Z", .fieldLink RX4 51 "CutYardModel" "lengths" "[I", .fieldLink RX4 54 "CutYardModel" "contents" "[I", .fieldLink RX4 23 "CutYardModel" "row" "[I"] ++ wsX40)
def wsX4_numberOf : List Cond := .code yX4_numberOf cX4_numberOf 5 (some .int) :: ([.fieldLink RX4 48 "CutYardModel" "uses" "[I", .fieldLink RX4 32 "CutYardModel" "fresh" "[Z", .fieldLink RX4 51 "CutYardModel" "lengths" "[I", .fieldLink RX4 54 "CutYardModel" "contents" "[I", .fieldLink RX4 23 "CutYardModel" "row" "[I", .methodLink RX4 86 yX4_isPart, .instanceMethod yX4_isPart, .selects RX4 yX4_isPart yX4_isPart, .initialized RX4, .code yX4_isPart cX4_isPart 6 (some .boolean)] ++ wsX40)
def wsX4_give_r1 : List Cond := [Cond.fieldLink RX4 32 "CutYardModel" "fresh" "[Z", Cond.fieldLink RX4 76 "CutYardModel" "cuts" "I", Cond.fieldLink RX4 29 "CutYardModel" "numbers" "[I", Cond.fieldLink RX4 26 "CutYardModel" "ends" "[I", Cond.methodLink RX4 89 yX4_cut, Cond.instanceMethod yX4_cut, Cond.selects RX4 yX4_cut yX4_cut, Cond.initialized RX4, Cond.code yX4_cut cX4_cut 5 none, Cond.fieldLink RX4 79 "CutYardModel" "size" "I", Cond.fieldLink RX4 16 "CutYardModel" "most" "I", Cond.fieldLink RX4 13 "CutYardModel" "least" "I", Cond.fieldLink RX4 7 "CutYardModel" "bits" "I", Cond.methodLink RX4 82 yX4_sum, Cond.instanceMethod yX4_sum, Cond.selects RX4 yX4_sum yX4_sum, Cond.code yX4_sum cX4_sum 6 (some .int), Cond.fieldLink RX4 23 "CutYardModel" "row" "[I", Cond.methodLink RX4 72 yX4_mark, Cond.static yX4_mark, Cond.code yX4_mark cX4_mark 2 (some .int), Cond.constant RX4 71 (-1640531527), Cond.methodLink RX4 92 yX4_beginOf, Cond.instanceMethod yX4_beginOf]
def wsX4_give_r2 : List Cond := [Cond.selects RX4 yX4_beginOf yX4_beginOf, Cond.code yX4_beginOf cX4_beginOf 2 (some .int), Cond.methodLink RX4 95 yX4_numberOf, Cond.instanceMethod yX4_numberOf, Cond.selects RX4 yX4_numberOf yX4_numberOf, Cond.code yX4_numberOf cX4_numberOf 5 (some .int), Cond.fieldLink RX4 48 "CutYardModel" "uses" "[I", Cond.fieldLink RX4 51 "CutYardModel" "lengths" "[I", Cond.fieldLink RX4 54 "CutYardModel" "contents" "[I", Cond.methodLink RX4 86 yX4_isPart, Cond.instanceMethod yX4_isPart, Cond.selects RX4 yX4_isPart yX4_isPart, Cond.code yX4_isPart cX4_isPart 6 (some .boolean)]
def wsX4_give : List Cond := .code yX4_give cX4_give 4 (some .int) :: ((wsX4_give_r1 ++ wsX4_give_r2) ++ wsX40)
def wsX4_take : List Cond := .code yX4_take cX4_take 3 none :: ([.fieldLink RX4 76 "CutYardModel" "cuts" "I", .fieldLink RX4 48 "CutYardModel" "uses" "[I", .fieldLink RX4 29 "CutYardModel" "numbers" "[I", .fieldLink RX4 42 "CutYardModel" "counts" "[I", .fieldLink RX4 45 "CutYardModel" "parts" "[I", .fieldLink RX4 36 "CutYardModel" "sizes" "[I", .fieldLink RX4 79 "CutYardModel" "size" "I", .fieldLink RX4 39 "CutYardModel" "bytes" "[I", .fieldLink RX4 23 "CutYardModel" "row" "[I"] ++ wsX40)
def wsX4_store_r1 : List Cond := [Cond.fieldLink RX4 68 "CutYardModel" "held" "I", Cond.fieldLink RX4 79 "CutYardModel" "size" "I", Cond.fieldLink RX4 23 "CutYardModel" "row" "[I", Cond.fieldLink RX4 19 "CutYardModel" "hand" "[I", Cond.methodLink RX4 98 yX4_isFile, Cond.static yX4_isFile, Cond.initialized RX4, Cond.code yX4_isFile cX4_isFile 1 (some .boolean), Cond.methodLink RX4 60 yX4_in, Cond.static yX4_in, Cond.code yX4_in cX4_in 3 (some .boolean), Cond.methodLink RX4 64 yX4_refuse, Cond.instanceMethod yX4_refuse, Cond.selects RX4 yX4_refuse yX4_refuse, Cond.code yX4_refuse cX4_refuse 4 (some .boolean), Cond.fieldLink RX4 57 "CutYardModel" "thrown" "I", Cond.methodLink RX4 102 yX4_give, Cond.instanceMethod yX4_give, Cond.selects RX4 yX4_give yX4_give, Cond.code yX4_give cX4_give 4 (some .int), Cond.fieldLink RX4 32 "CutYardModel" "fresh" "[Z", Cond.fieldLink RX4 76 "CutYardModel" "cuts" "I", Cond.fieldLink RX4 29 "CutYardModel" "numbers" "[I", Cond.fieldLink RX4 26 "CutYardModel" "ends" "[I"]
def wsX4_store_r2 : List Cond := [Cond.methodLink RX4 89 yX4_cut, Cond.instanceMethod yX4_cut, Cond.selects RX4 yX4_cut yX4_cut, Cond.code yX4_cut cX4_cut 5 none, Cond.fieldLink RX4 16 "CutYardModel" "most" "I", Cond.fieldLink RX4 13 "CutYardModel" "least" "I", Cond.fieldLink RX4 7 "CutYardModel" "bits" "I", Cond.methodLink RX4 82 yX4_sum, Cond.instanceMethod yX4_sum, Cond.selects RX4 yX4_sum yX4_sum, Cond.code yX4_sum cX4_sum 6 (some .int), Cond.methodLink RX4 72 yX4_mark, Cond.static yX4_mark, Cond.code yX4_mark cX4_mark 2 (some .int), Cond.constant RX4 71 (-1640531527), Cond.methodLink RX4 92 yX4_beginOf, Cond.instanceMethod yX4_beginOf, Cond.selects RX4 yX4_beginOf yX4_beginOf, Cond.code yX4_beginOf cX4_beginOf 2 (some .int), Cond.methodLink RX4 95 yX4_numberOf, Cond.instanceMethod yX4_numberOf, Cond.selects RX4 yX4_numberOf yX4_numberOf, Cond.code yX4_numberOf cX4_numberOf 5 (some .int), Cond.fieldLink RX4 48 "CutYardModel" "uses" "[I"]
def wsX4_store_r3 : List Cond := [Cond.fieldLink RX4 51 "CutYardModel" "lengths" "[I", Cond.fieldLink RX4 54 "CutYardModel" "contents" "[I", Cond.methodLink RX4 86 yX4_isPart, Cond.instanceMethod yX4_isPart, Cond.selects RX4 yX4_isPart yX4_isPart, Cond.code yX4_isPart cX4_isPart 6 (some .boolean), Cond.methodLink RX4 106 yX4_take, Cond.instanceMethod yX4_take, Cond.selects RX4 yX4_take yX4_take, Cond.code yX4_take cX4_take 3 none, Cond.fieldLink RX4 42 "CutYardModel" "counts" "[I", Cond.fieldLink RX4 45 "CutYardModel" "parts" "[I", Cond.fieldLink RX4 36 "CutYardModel" "sizes" "[I", Cond.fieldLink RX4 39 "CutYardModel" "bytes" "[I"]
def wsX4_store : List Cond := .code yX4_store cX4_store 3 (some .int) :: ((wsX4_store_r1 ++ (wsX4_store_r2 ++ wsX4_store_r3)) ++ wsX40)
def wsX4_edit_r1 : List Cond := [Cond.fieldLink RX4 36 "CutYardModel" "sizes" "[I", Cond.fieldLink RX4 68 "CutYardModel" "held" "I", Cond.fieldLink RX4 79 "CutYardModel" "size" "I", Cond.fieldLink RX4 23 "CutYardModel" "row" "[I", Cond.fieldLink RX4 39 "CutYardModel" "bytes" "[I", Cond.fieldLink RX4 19 "CutYardModel" "hand" "[I", Cond.methodLink RX4 98 yX4_isFile, Cond.static yX4_isFile, Cond.initialized RX4, Cond.code yX4_isFile cX4_isFile 1 (some .boolean), Cond.methodLink RX4 60 yX4_in, Cond.static yX4_in, Cond.code yX4_in cX4_in 3 (some .boolean), Cond.methodLink RX4 64 yX4_refuse, Cond.instanceMethod yX4_refuse, Cond.selects RX4 yX4_refuse yX4_refuse, Cond.code yX4_refuse cX4_refuse 4 (some .boolean), Cond.fieldLink RX4 57 "CutYardModel" "thrown" "I", Cond.methodLink RX4 102 yX4_give, Cond.instanceMethod yX4_give, Cond.selects RX4 yX4_give yX4_give, Cond.code yX4_give cX4_give 4 (some .int), Cond.fieldLink RX4 32 "CutYardModel" "fresh" "[Z", Cond.fieldLink RX4 76 "CutYardModel" "cuts" "I"]
def wsX4_edit_r2 : List Cond := [Cond.fieldLink RX4 29 "CutYardModel" "numbers" "[I", Cond.fieldLink RX4 26 "CutYardModel" "ends" "[I", Cond.methodLink RX4 89 yX4_cut, Cond.instanceMethod yX4_cut, Cond.selects RX4 yX4_cut yX4_cut, Cond.code yX4_cut cX4_cut 5 none, Cond.fieldLink RX4 16 "CutYardModel" "most" "I", Cond.fieldLink RX4 13 "CutYardModel" "least" "I", Cond.fieldLink RX4 7 "CutYardModel" "bits" "I", Cond.methodLink RX4 82 yX4_sum, Cond.instanceMethod yX4_sum, Cond.selects RX4 yX4_sum yX4_sum, Cond.code yX4_sum cX4_sum 6 (some .int), Cond.methodLink RX4 72 yX4_mark, Cond.static yX4_mark, Cond.code yX4_mark cX4_mark 2 (some .int), Cond.constant RX4 71 (-1640531527), Cond.methodLink RX4 92 yX4_beginOf, Cond.instanceMethod yX4_beginOf, Cond.selects RX4 yX4_beginOf yX4_beginOf, Cond.code yX4_beginOf cX4_beginOf 2 (some .int), Cond.methodLink RX4 95 yX4_numberOf, Cond.instanceMethod yX4_numberOf, Cond.selects RX4 yX4_numberOf yX4_numberOf]
def wsX4_edit_r3 : List Cond := [Cond.code yX4_numberOf cX4_numberOf 5 (some .int), Cond.fieldLink RX4 48 "CutYardModel" "uses" "[I", Cond.fieldLink RX4 51 "CutYardModel" "lengths" "[I", Cond.fieldLink RX4 54 "CutYardModel" "contents" "[I", Cond.methodLink RX4 86 yX4_isPart, Cond.instanceMethod yX4_isPart, Cond.selects RX4 yX4_isPart yX4_isPart, Cond.code yX4_isPart cX4_isPart 6 (some .boolean), Cond.methodLink RX4 106 yX4_take, Cond.instanceMethod yX4_take, Cond.selects RX4 yX4_take yX4_take, Cond.code yX4_take cX4_take 3 none, Cond.fieldLink RX4 42 "CutYardModel" "counts" "[I", Cond.fieldLink RX4 45 "CutYardModel" "parts" "[I"]
def wsX4_edit : List Cond := .code yX4_edit cX4_edit 8 (some .int) :: ((wsX4_edit_r1 ++ (wsX4_edit_r2 ++ wsX4_edit_r3)) ++ wsX40)
def wsX4_copy_r1 : List Cond := [Cond.fieldLink RX4 36 "CutYardModel" "sizes" "[I", Cond.fieldLink RX4 79 "CutYardModel" "size" "I", Cond.fieldLink RX4 42 "CutYardModel" "counts" "[I", Cond.fieldLink RX4 76 "CutYardModel" "cuts" "I", Cond.fieldLink RX4 23 "CutYardModel" "row" "[I", Cond.fieldLink RX4 39 "CutYardModel" "bytes" "[I", Cond.fieldLink RX4 29 "CutYardModel" "numbers" "[I", Cond.fieldLink RX4 45 "CutYardModel" "parts" "[I", Cond.methodLink RX4 98 yX4_isFile, Cond.static yX4_isFile, Cond.initialized RX4, Cond.code yX4_isFile cX4_isFile 1 (some .boolean), Cond.methodLink RX4 60 yX4_in, Cond.static yX4_in, Cond.code yX4_in cX4_in 3 (some .boolean), Cond.methodLink RX4 64 yX4_refuse, Cond.instanceMethod yX4_refuse, Cond.selects RX4 yX4_refuse yX4_refuse, Cond.code yX4_refuse cX4_refuse 4 (some .boolean), Cond.fieldLink RX4 57 "CutYardModel" "thrown" "I", Cond.methodLink RX4 106 yX4_take, Cond.instanceMethod yX4_take, Cond.selects RX4 yX4_take yX4_take, Cond.code yX4_take cX4_take 3 none]
def wsX4_copy_r2 : List Cond := [Cond.fieldLink RX4 48 "CutYardModel" "uses" "[I"]
def wsX4_copy : List Cond := .code yX4_copy cX4_copy 4 none :: ((wsX4_copy_r1 ++ wsX4_copy_r2) ++ wsX40)
def wsX4_size : List Cond := .code yX4_size cX4_size 2 (some .int) :: ([.fieldLink RX4 36 "CutYardModel" "sizes" "[I", .methodLink RX4 98 yX4_isFile, .static yX4_isFile, .initialized RX4, .code yX4_isFile cX4_isFile 1 (some .boolean), .methodLink RX4 60 yX4_in, .static yX4_in, .code yX4_in cX4_in 3 (some .boolean), .methodLink RX4 64 yX4_refuse, .instanceMethod yX4_refuse, .selects RX4 yX4_refuse yX4_refuse, .code yX4_refuse cX4_refuse 4 (some .boolean), .fieldLink RX4 57 "CutYardModel" "thrown" "I"] ++ wsX40)
def wsX4_get : List Cond := .code yX4_get cX4_get 4 (some .int) :: ([.fieldLink RX4 36 "CutYardModel" "sizes" "[I", .fieldLink RX4 39 "CutYardModel" "bytes" "[I", .methodLink RX4 98 yX4_isFile, .static yX4_isFile, .initialized RX4, .code yX4_isFile cX4_isFile 1 (some .boolean), .methodLink RX4 60 yX4_in, .static yX4_in, .code yX4_in cX4_in 3 (some .boolean), .methodLink RX4 64 yX4_refuse, .instanceMethod yX4_refuse, .selects RX4 yX4_refuse yX4_refuse, .code yX4_refuse cX4_refuse 4 (some .boolean), .fieldLink RX4 57 "CutYardModel" "thrown" "I"] ++ wsX40)
def wsX4_parts : List Cond := .code yX4_parts cX4_parts 2 (some .int) :: ([.fieldLink RX4 42 "CutYardModel" "counts" "[I", .methodLink RX4 98 yX4_isFile, .static yX4_isFile, .initialized RX4, .code yX4_isFile cX4_isFile 1 (some .boolean), .methodLink RX4 60 yX4_in, .static yX4_in, .code yX4_in cX4_in 3 (some .boolean), .methodLink RX4 64 yX4_refuse, .instanceMethod yX4_refuse, .selects RX4 yX4_refuse yX4_refuse, .code yX4_refuse cX4_refuse 4 (some .boolean), .fieldLink RX4 57 "CutYardModel" "thrown" "I"] ++ wsX40)
def wsX4_part : List Cond := .code yX4_part cX4_part 4 (some .int) :: ([.fieldLink RX4 42 "CutYardModel" "counts" "[I", .fieldLink RX4 45 "CutYardModel" "parts" "[I", .methodLink RX4 98 yX4_isFile, .static yX4_isFile, .initialized RX4, .code yX4_isFile cX4_isFile 1 (some .boolean), .methodLink RX4 60 yX4_in, .static yX4_in, .code yX4_in cX4_in 3 (some .boolean), .methodLink RX4 64 yX4_refuse, .instanceMethod yX4_refuse, .selects RX4 yX4_refuse yX4_refuse, .code yX4_refuse cX4_refuse 4 (some .boolean), .fieldLink RX4 57 "CutYardModel" "thrown" "I"] ++ wsX40)
def wsX4_has : List Cond := .code yX4_has cX4_has 5 (some .boolean) :: ([.fieldLink RX4 42 "CutYardModel" "counts" "[I", .fieldLink RX4 45 "CutYardModel" "parts" "[I"] ++ wsX40)
def wsX4_about : List Cond := .code yX4_about cX4_about 6 (some .int) :: ([.fieldLink RX4 48 "CutYardModel" "uses" "[I", .fieldLink RX4 51 "CutYardModel" "lengths" "[I", .methodLink RX4 60 yX4_in, .static yX4_in, .initialized RX4, .code yX4_in cX4_in 3 (some .boolean), .methodLink RX4 64 yX4_refuse, .instanceMethod yX4_refuse, .selects RX4 yX4_refuse yX4_refuse, .code yX4_refuse cX4_refuse 4 (some .boolean), .fieldLink RX4 57 "CutYardModel" "thrown" "I", .methodLink RX4 110 yX4_has, .instanceMethod yX4_has, .selects RX4 yX4_has yX4_has, .code yX4_has cX4_has 5 (some .boolean), .fieldLink RX4 42 "CutYardModel" "counts" "[I", .fieldLink RX4 45 "CutYardModel" "parts" "[I"] ++ wsX40)
def wsX4_common : List Cond := .code yX4_common cX4_common 6 (some .int) :: ([.fieldLink RX4 42 "CutYardModel" "counts" "[I", .fieldLink RX4 45 "CutYardModel" "parts" "[I", .fieldLink RX4 51 "CutYardModel" "lengths" "[I", .methodLink RX4 98 yX4_isFile, .static yX4_isFile, .initialized RX4, .code yX4_isFile cX4_isFile 1 (some .boolean), .methodLink RX4 60 yX4_in, .static yX4_in, .code yX4_in cX4_in 3 (some .boolean), .methodLink RX4 64 yX4_refuse, .instanceMethod yX4_refuse, .selects RX4 yX4_refuse yX4_refuse, .code yX4_refuse cX4_refuse 4 (some .boolean), .fieldLink RX4 57 "CutYardModel" "thrown" "I", .methodLink RX4 110 yX4_has, .instanceMethod yX4_has, .selects RX4 yX4_has yX4_has, .code yX4_has cX4_has 5 (some .boolean)] ++ wsX40)
def wsX4_all : List Cond := .code yX4_all cX4_all 5 (some .int) :: ([.fieldLink RX4 48 "CutYardModel" "uses" "[I", .fieldLink RX4 51 "CutYardModel" "lengths" "[I", .fieldLink RX4 68 "CutYardModel" "held" "I", .methodLink RX4 60 yX4_in, .static yX4_in, .initialized RX4, .code yX4_in cX4_in 3 (some .boolean), .methodLink RX4 64 yX4_refuse, .instanceMethod yX4_refuse, .selects RX4 yX4_refuse yX4_refuse, .code yX4_refuse cX4_refuse 4 (some .boolean), .fieldLink RX4 57 "CutYardModel" "thrown" "I"] ++ wsX40)
def wsJ9_max_7cf53 : List Cond := .code yJ9_max_7cf53 cJ9_max_7cf53 2 (some .int) :: ([])
def wsJ9_min_7cf53 : List Cond := .code yJ9_min_7cf53 cJ9_min_7cf53 2 (some .int) :: ([])
theorem inJx8e188 : ∀ w ∈ wsJx8e1880, w ∈ lw_tbl := by decide +kernel
theorem inJ9 : ∀ w ∈ wsJ90, w ∈ lw_tbl := by decide +kernel
theorem inJ0 : ∀ w ∈ wsJ00, w ∈ lw_tbl := by decide +kernel
theorem inJ10 : ∀ w ∈ wsJ100, w ∈ lw_tbl := by decide +kernel
theorem inJ7 : ∀ w ∈ wsJ70, w ∈ lw_tbl := by decide +kernel
set_option maxRecDepth 20000 in
theorem ggX1_endOfPart_X1_turned : GoodIn wsX1_endOfPart wsX1_turned := goodIn_r _ [11] (by decide +kernel) (by decide +kernel)
set_option maxRecDepth 20000 in
theorem gX1_endOfPart_X1_turned : GoodIn wsX1_endOfPart (va_wsS RX1 25 yX1_turned wsX1_turned) := goodIn_app (goodIn_of _ (by decide +kernel)) ggX1_endOfPart_X1_turned
set_option maxRecDepth 20000 in
theorem ggX1_endOfPart_X1_mark : GoodIn wsX1_endOfPart wsX1_mark := goodIn_r _ [14, 15] (by decide +kernel) (by decide +kernel)
set_option maxRecDepth 20000 in
theorem gX1_endOfPart_X1_mark : GoodIn wsX1_endOfPart (va_wsS RX1 28 yX1_mark wsX1_mark) := goodIn_app (goodIn_of _ (by decide +kernel)) ggX1_endOfPart_X1_mark
set_option maxRecDepth 20000 in
theorem ggX2_init_J7_fill_53178 : GoodIn wsX2_init wsJ7_fill_53178 := goodIn_r _ [18] (by decide +kernel) (by decide +kernel)
set_option maxRecDepth 20000 in
theorem gX2_init_J7_fill_53178 : GoodIn wsX2_init (va_wsS RX2 41 yJ7_fill_53178 wsJ7_fill_53178) := goodIn_app (goodIn_of _ (by decide +kernel)) ggX2_init_J7_fill_53178
set_option maxRecDepth 20000 in
theorem ggX2_empty_J7_fill_53178 : GoodIn wsX2_empty wsJ7_fill_53178 := goodIn_r _ [9] (by decide +kernel) (by decide +kernel)
set_option maxRecDepth 20000 in
theorem gX2_empty_J7_fill_53178 : GoodIn wsX2_empty (va_wsS RX2 41 yJ7_fill_53178 wsJ7_fill_53178) := goodIn_app (goodIn_of _ (by decide +kernel)) ggX2_empty_J7_fill_53178
set_option maxRecDepth 20000 in
theorem ggX2_usesOf_X2_has : GoodIn wsX2_usesOf wsX2_has := goodIn_r _ [6, 1, 7, 8, 9, 10, 11, 12, 13, 14, 15] (by decide +kernel) (by decide +kernel)
set_option maxRecDepth 20000 in
theorem gX2_usesOf_X2_has : GoodIn wsX2_usesOf (wsV RX2 47 RX2 yX2_has wsX2_has) := goodIn_app (goodIn_of _ (by decide +kernel)) ggX2_usesOf_X2_has
set_option maxRecDepth 20000 in
theorem ggX2_lengthOf_X2_has : GoodIn wsX2_lengthOf wsX2_has := goodIn_r _ [6, 7, 8, 9, 10, 11, 12, 13, 14, 15, 16] (by decide +kernel) (by decide +kernel)
set_option maxRecDepth 20000 in
theorem gX2_lengthOf_X2_has : GoodIn wsX2_lengthOf (wsV RX2 47 RX2 yX2_has wsX2_has) := goodIn_app (goodIn_of _ (by decide +kernel)) ggX2_lengthOf_X2_has
set_option maxRecDepth 20000 in
theorem ggX2_byteOf_X2_lengthOf : GoodIn wsX2_byteOf wsX2_lengthOf := goodIn_r _ [6, 7, 8, 9, 10, 5, 11, 12, 13, 14, 15, 16, 17, 18, 19, 20, 21] (by decide +kernel) (by decide +kernel)
set_option maxRecDepth 20000 in
theorem gX2_byteOf_X2_lengthOf : GoodIn wsX2_byteOf (wsV RX2 51 RX2 yX2_lengthOf wsX2_lengthOf) := goodIn_app (goodIn_of _ (by decide +kernel)) ggX2_byteOf_X2_lengthOf
set_option maxRecDepth 20000 in
theorem ggX2_writeOut_X2_lengthOf : GoodIn wsX2_writeOut wsX2_lengthOf := goodIn_r _ [10, 11, 12, 13, 14, 9, 15, 16, 17, 18, 19, 20, 21, 22, 23, 24, 25] (by decide +kernel) (by decide +kernel)
set_option maxRecDepth 20000 in
theorem gX2_writeOut_X2_lengthOf : GoodIn wsX2_writeOut (wsV RX2 51 RX2 yX2_lengthOf wsX2_lengthOf) := goodIn_app (goodIn_of _ (by decide +kernel)) ggX2_writeOut_X2_lengthOf
set_option maxRecDepth 20000 in
theorem ggX2_useAgain_X2_has : GoodIn wsX2_useAgain wsX2_has := goodIn_r _ [6, 1, 7, 8, 9, 10, 11, 12, 13, 14, 15] (by decide +kernel) (by decide +kernel)
set_option maxRecDepth 20000 in
theorem gX2_useAgain_X2_has : GoodIn wsX2_useAgain (wsV RX2 47 RX2 yX2_has wsX2_has) := goodIn_app (goodIn_of _ (by decide +kernel)) ggX2_useAgain_X2_has
set_option maxRecDepth 20000 in
theorem ggX2_take_X2_hashOf : GoodIn wsX2_take wsX2_hashOf := goodIn_r _ [4] (by decide +kernel) (by decide +kernel)
set_option maxRecDepth 20000 in
theorem gX2_take_X2_hashOf : GoodIn wsX2_take (va_wsS RX2 61 yX2_hashOf wsX2_hashOf) := goodIn_app (goodIn_of _ (by decide +kernel)) ggX2_take_X2_hashOf
set_option maxRecDepth 20000 in
theorem ggX2_take_X2_find : GoodIn wsX2_take wsX2_find := goodIn_r _ [8, 9, 10, 11, 12, 13, 14, 15, 3, 16, 17, 18, 19, 20, 21, 22, 66, 67, 68, 69, 70, 71, 72, 73, 74] (by decide +kernel) (by decide +kernel)
set_option maxRecDepth 20000 in
theorem gX2_take_X2_find : GoodIn wsX2_take (wsV RX2 65 RX2 yX2_find wsX2_find) := goodIn_app (goodIn_of _ (by decide +kernel)) ggX2_take_X2_find
set_option maxRecDepth 20000 in
theorem ggX2_take_X2_add : GoodIn wsX2_take wsX2_add := goodIn_r _ [26, 22, 27, 28, 29, 30, 17, 11, 10, 12, 9, 31, 32, 33, 34, 35, 3, 36, 37, 38, 39, 40, 41, 42, 43, 44, 45, 46, 47, 48, 49, 50, 51, 52, 53, 54, 55, 56, 57, 58, 59, 60, 61, 66, 67, 68, 69, 70, 71, 72, 73, 74] (by decide +kernel) (by decide +kernel)
set_option maxRecDepth 20000 in
theorem gX2_take_X2_add : GoodIn wsX2_take (wsV RX2 69 RX2 yX2_add wsX2_add) := goodIn_app (goodIn_of _ (by decide +kernel)) ggX2_take_X2_add
set_option maxRecDepth 20000 in
theorem ggX2_take_X2_useAgain : GoodIn wsX2_take wsX2_useAgain := goodIn_r _ [65, 17, 13, 14, 15, 3, 16, 66, 67, 68, 69, 70, 71, 72, 73, 74] (by decide +kernel) (by decide +kernel)
set_option maxRecDepth 20000 in
theorem gX2_take_X2_useAgain : GoodIn wsX2_take (wsV RX2 72 RX2 yX2_useAgain wsX2_useAgain) := goodIn_app (goodIn_of _ (by decide +kernel)) ggX2_take_X2_useAgain
set_option maxRecDepth 20000 in
theorem ggX2_giveBack_X2_has : GoodIn wsX2_giveBack wsX2_has := goodIn_r _ [14, 1, 22, 23, 24, 25, 26, 27, 28, 29, 30] (by decide +kernel) (by decide +kernel)
set_option maxRecDepth 20000 in
theorem gX2_giveBack_X2_has : GoodIn wsX2_giveBack (wsV RX2 47 RX2 yX2_has wsX2_has) := goodIn_app (goodIn_of _ (by decide +kernel)) ggX2_giveBack_X2_has
set_option maxRecDepth 20000 in
theorem ggX2_giveBack_X2_unchain : GoodIn wsX2_giveBack wsX2_unchain := goodIn_r _ [18, 19, 20, 21, 10, 11, 12, 13, 14, 1, 22, 23, 24, 25, 26, 27, 28, 29, 30] (by decide +kernel) (by decide +kernel)
set_option maxRecDepth 20000 in
theorem gX2_giveBack_X2_unchain : GoodIn wsX2_giveBack (wsV RX2 76 RX2 yX2_unchain wsX2_unchain) := goodIn_app (goodIn_of _ (by decide +kernel)) ggX2_giveBack_X2_unchain
set_option maxRecDepth 20000 in
theorem ggX2_find_X2_has : GoodIn wsX2_find wsX2_has := goodIn_r _ [9, 10, 16, 17, 18, 19, 20, 21, 22, 23, 24] (by decide +kernel) (by decide +kernel)
set_option maxRecDepth 20000 in
theorem gX2_find_X2_has : GoodIn wsX2_find (wsV RX2 47 RX2 yX2_has wsX2_has) := goodIn_app (goodIn_of _ (by decide +kernel)) ggX2_find_X2_has
set_option maxRecDepth 20000 in
theorem ggX2_find_X2_sameBytes : GoodIn wsX2_find wsX2_sameBytes := goodIn_r _ [14, 3, 15, 16, 17, 18, 19, 20, 21, 22, 23, 24] (by decide +kernel) (by decide +kernel)
set_option maxRecDepth 20000 in
theorem gX2_find_X2_sameBytes : GoodIn wsX2_find (wsV RX2 85 RX2 yX2_sameBytes wsX2_sameBytes) := goodIn_app (goodIn_of _ (by decide +kernel)) ggX2_find_X2_sameBytes
set_option maxRecDepth 20000 in
theorem ggX2_add_X2_leastFree : GoodIn wsX2_add wsX2_leastFree := goodIn_r _ [17, 18, 6, 43, 44, 45, 46, 47, 48, 49, 50, 51] (by decide +kernel) (by decide +kernel)
set_option maxRecDepth 20000 in
theorem gX2_add_X2_leastFree : GoodIn wsX2_add (wsV RX2 89 RX2 yX2_leastFree wsX2_leastFree) := goodIn_app (goodIn_of _ (by decide +kernel)) ggX2_add_X2_leastFree
set_option maxRecDepth 20000 in
theorem ggX2_add_X2_makeRoomFor : GoodIn wsX2_add wsX2_makeRoomFor := goodIn_r _ [22, 1, 23, 24, 25, 26, 27, 28, 29, 30, 31, 32, 33, 34, 35, 36, 37, 38, 39, 40, 41, 42, 3, 4, 5, 43, 44, 45, 46, 47, 48, 49, 50, 51] (by decide +kernel) (by decide +kernel)
set_option maxRecDepth 20000 in
theorem gX2_add_X2_makeRoomFor : GoodIn wsX2_add (wsV RX2 93 RX2 yX2_makeRoomFor wsX2_makeRoomFor) := goodIn_app (goodIn_of _ (by decide +kernel)) ggX2_add_X2_makeRoomFor
set_option maxRecDepth 20000 in
theorem ggX2_makeRoomFor_J7_copyOf_9075b : GoodIn wsX2_makeRoomFor wsJ7_copyOf_9075b := goodIn_r _ [12, 13, 14, 15, 16, 17, 18, 19, 20, 7, 4, 8, 21, 22, 23, 24] (by decide +kernel) (by decide +kernel)
set_option maxRecDepth 20000 in
theorem gX2_makeRoomFor_J7_copyOf_9075b : GoodIn wsX2_makeRoomFor (va_wsS RX2 99 yJ7_copyOf_9075b wsJ7_copyOf_9075b) := goodIn_app (goodIn_of _ (by decide +kernel)) ggX2_makeRoomFor_J7_copyOf_9075b
set_option maxRecDepth 20000 in
theorem ggX2_unchain_X2_has : GoodIn wsX2_unchain wsX2_has := goodIn_r _ [8, 9, 10, 11, 12, 13, 14, 15, 16, 17, 18] (by decide +kernel) (by decide +kernel)
set_option maxRecDepth 20000 in
theorem gX2_unchain_X2_has : GoodIn wsX2_unchain (wsV RX2 47 RX2 yX2_has wsX2_has) := goodIn_app (goodIn_of _ (by decide +kernel)) ggX2_unchain_X2_has
set_option maxRecDepth 20000 in
theorem ggX3_init_X1_init : GoodIn wsX3_init wsX1_init := goodIn_r _ [24, 25, 2, 3, 26, 27, 28, 52, 53, 54] (by decide +kernel) (by decide +kernel)
set_option maxRecDepth 20000 in
theorem gX3_init_X1_init_n9 : GoodIn wsX3_init (wsX1_init) := ggX3_init_X1_init
set_option maxRecDepth 20000 in
theorem ggX3_init_X2_init : GoodIn wsX3_init wsX2_init := goodIn_r _ [31, 32, 2, 3, 18, 33, 34, 35, 36, 37, 14, 38, 39, 40, 41, 42, 43, 44, 45, 63, 64, 65, 66, 67, 68, 69, 70, 71] (by decide +kernel) (by decide +kernel)
set_option maxRecDepth 20000 in
theorem gX3_init_X2_init : GoodIn wsX3_init (wsX2_init) := ggX3_init_X2_init
set_option maxRecDepth 20000 in
theorem ggX3_init_X0_init : GoodIn wsX3_init wsX0_init := goodIn_r _ [47, 48, 2, 3, 18, 49, 50, 51, 72, 73, 74] (by decide +kernel) (by decide +kernel)
set_option maxRecDepth 20000 in
theorem gX3_init_X0_init_n47 : GoodIn wsX3_init (wsX0_init) := ggX3_init_X0_init
set_option maxRecDepth 20000 in
theorem ggX3_takeParts_X1_endOfPart : GoodIn wsX3_takeParts wsX1_endOfPart := goodIn_r _ [8, 9, 10, 11, 12, 13, 14, 15, 16, 17, 7, 18, 19, 20, 21, 22, 110, 111, 112] (by decide +kernel) (by decide +kernel)
set_option maxRecDepth 20000 in
theorem gX3_takeParts_X1_endOfPart : GoodIn wsX3_takeParts (wsV RX3 162 RX1 yX1_endOfPart wsX1_endOfPart) := goodIn_app (goodIn_of _ (by decide +kernel)) ggX3_takeParts_X1_endOfPart
set_option maxRecDepth 20000 in
theorem ggX3_takeParts_X2_take : GoodIn wsX3_takeParts wsX2_take := goodIn_r _ [27, 28, 29, 26, 30, 31, 32, 33, 34, 35, 36, 37, 38, 39, 40, 41, 42, 43, 44, 45, 46, 47, 48, 49, 50, 51, 52, 53, 54, 55, 56, 57, 58, 59, 60, 61, 62, 63, 64, 65, 66, 67, 68, 69, 12, 70, 71, 11, 13, 72, 73, 74, 75, 76, 77, 78, 79, 80, 81, 82, 83, 84, 85, 86, 87, 88, 113, 114, 115, 116, 117, 118, 119, 120, 121] (by decide +kernel) (by decide +kernel)
set_option maxRecDepth 20000 in
theorem gX3_takeParts_X2_take : GoodIn wsX3_takeParts (wsV RX3 166 RX2 yX2_take wsX2_take) := goodIn_app (goodIn_of _ (by decide +kernel)) ggX3_takeParts_X2_take
set_option maxRecDepth 20000 in
theorem ggX3_takeParts_X3_giveBack : GoodIn wsX3_takeParts wsX3_giveBack := goodIn_r _ [93, 2, 94, 95, 96, 26, 97, 43, 63, 71, 11, 12, 13, 57, 58, 37, 39, 40, 41, 42, 98, 99, 100, 101, 36, 35, 38, 102, 103, 104, 105, 106, 107, 108, 109, 113, 114, 115, 116, 117, 118, 119, 120, 121] (by decide +kernel) (by decide +kernel)
set_option maxRecDepth 20000 in
theorem gX3_takeParts_X3_giveBack : GoodIn wsX3_takeParts (wsV RX3 109 RX3 yX3_giveBack wsX3_giveBack) := goodIn_app (goodIn_of _ (by decide +kernel)) ggX3_takeParts_X3_giveBack
set_option maxRecDepth 20000 in
theorem ggX3_giveBack_X2_giveBack : GoodIn wsX3_giveBack wsX2_giveBack := goodIn_r _ [6, 7, 8, 9, 10, 11, 12, 13, 14, 15, 16, 17, 18, 5, 19, 20, 21, 22, 23, 24, 25, 26, 35, 36, 37, 38, 39, 40, 41, 42, 43] (by decide +kernel) (by decide +kernel)
set_option maxRecDepth 20000 in
theorem gX3_giveBack_X2_giveBack : GoodIn wsX3_giveBack (wsV RX3 169 RX2 yX2_giveBack wsX2_giveBack) := goodIn_app (goodIn_of _ (by decide +kernel)) ggX3_giveBack_X2_giveBack
set_option maxRecDepth 20000 in
theorem ggX3_layOut_X2_writeOut : GoodIn wsX3_layOut wsX2_writeOut := goodIn_r _ [7, 8, 9, 10, 11, 12, 13, 14, 15, 6, 16, 17, 18, 19, 20, 21, 22, 34, 35, 36, 37, 38, 39, 40, 41, 42] (by decide +kernel) (by decide +kernel)
set_option maxRecDepth 20000 in
theorem gX3_layOut_X2_writeOut : GoodIn wsX3_layOut (wsV RX3 171 RX2 yX2_writeOut wsX2_writeOut) := goodIn_app (goodIn_of _ (by decide +kernel)) ggX3_layOut_X2_writeOut
set_option maxRecDepth 20000 in
theorem ggX3_filesWith_X0_hasNumber : GoodIn wsX3_filesWith wsX0_hasNumber := goodIn_r _ [6, 7, 8, 17, 18, 19] (by decide +kernel) (by decide +kernel)
set_option maxRecDepth 20000 in
theorem gX3_filesWith_X0_hasNumber : GoodIn wsX3_filesWith (wsV RX3 175 RX0 yX0_hasNumber wsX0_hasNumber) := goodIn_app (goodIn_of _ (by decide +kernel)) ggX3_filesWith_X0_hasNumber
set_option maxRecDepth 20000 in
theorem ggX4_isFile_X4_in : GoodIn wsX4_isFile wsX4_in := goodIn_r _ [4] (by decide +kernel) (by decide +kernel)
set_option maxRecDepth 20000 in
theorem gX4_isFile_X4_in : GoodIn wsX4_isFile (va_wsS RX4 60 yX4_in wsX4_in) := goodIn_app (goodIn_of _ (by decide +kernel)) ggX4_isFile_X4_in
set_option maxRecDepth 20000 in
theorem ggX4_begin_X4_in : GoodIn wsX4_begin wsX4_in := goodIn_r _ [10] (by decide +kernel) (by decide +kernel)
set_option maxRecDepth 20000 in
theorem gX4_begin_X4_in : GoodIn wsX4_begin (va_wsS RX4 60 yX4_in wsX4_in) := goodIn_app (goodIn_of _ (by decide +kernel)) ggX4_begin_X4_in
set_option maxRecDepth 20000 in
theorem ggX4_begin_X4_refuse : GoodIn wsX4_begin wsX4_refuse := goodIn_r _ [14, 15, 16, 17, 18, 19, 20, 21, 22, 23, 24, 25, 26, 27, 28, 29, 30, 31, 32, 33, 34] (by decide +kernel) (by decide +kernel)
set_option maxRecDepth 20000 in
theorem gX4_begin_X4_refuse : GoodIn wsX4_begin (wsV RX4 64 RX4 yX4_refuse wsX4_refuse) := goodIn_app (goodIn_of _ (by decide +kernel)) ggX4_begin_X4_refuse
set_option maxRecDepth 20000 in
theorem ggX4_put_X4_in : GoodIn wsX4_put wsX4_in := goodIn_r _ [6] (by decide +kernel) (by decide +kernel)
set_option maxRecDepth 20000 in
theorem gX4_put_X4_in : GoodIn wsX4_put (va_wsS RX4 60 yX4_in wsX4_in) := goodIn_app (goodIn_of _ (by decide +kernel)) ggX4_put_X4_in
set_option maxRecDepth 20000 in
theorem ggX4_put_X4_refuse : GoodIn wsX4_put wsX4_refuse := goodIn_r _ [10, 11, 12, 13, 14, 15, 16, 17, 18, 19, 20, 21, 22, 23, 24, 25, 26, 27, 28, 29, 30] (by decide +kernel) (by decide +kernel)
set_option maxRecDepth 20000 in
theorem gX4_put_X4_refuse : GoodIn wsX4_put (wsV RX4 64 RX4 yX4_refuse wsX4_refuse) := goodIn_app (goodIn_of _ (by decide +kernel)) ggX4_put_X4_refuse
set_option maxRecDepth 20000 in
theorem ggX4_sum_X4_mark : GoodIn wsX4_sum wsX4_mark := goodIn_r _ [5, 6] (by decide +kernel) (by decide +kernel)
set_option maxRecDepth 20000 in
theorem gX4_sum_X4_mark : GoodIn wsX4_sum (va_wsS RX4 72 yX4_mark wsX4_mark) := goodIn_app (goodIn_of _ (by decide +kernel)) ggX4_sum_X4_mark
set_option maxRecDepth 20000 in
theorem ggX4_cut_X4_sum : GoodIn wsX4_cut wsX4_sum := goodIn_r _ [11, 12, 13, 14, 10, 15, 16, 17, 18, 19, 20, 21, 22, 23, 24, 25, 26, 27, 28, 29, 30, 31, 32, 33, 34, 35] (by decide +kernel) (by decide +kernel)
set_option maxRecDepth 20000 in
theorem gX4_cut_X4_sum : GoodIn wsX4_cut (wsV RX4 82 RX4 yX4_sum wsX4_sum) := goodIn_app (goodIn_of _ (by decide +kernel)) ggX4_cut_X4_sum
set_option maxRecDepth 20000 in
theorem ggX4_numberOf_X4_isPart : GoodIn wsX4_numberOf wsX4_isPart := goodIn_r _ [10, 1, 2, 3, 4, 5, 11, 12, 13, 14, 15, 16, 17, 18, 19, 20, 21, 22, 23, 24, 25, 26, 27, 28, 29] (by decide +kernel) (by decide +kernel)
set_option maxRecDepth 20000 in
theorem gX4_numberOf_X4_isPart : GoodIn wsX4_numberOf (wsV RX4 86 RX4 yX4_isPart wsX4_isPart) := goodIn_app (goodIn_of _ (by decide +kernel)) ggX4_numberOf_X4_isPart
set_option maxRecDepth 20000 in
theorem ggX4_give_X4_cut : GoodIn wsX4_give wsX4_cut := goodIn_r _ [9, 2, 10, 11, 12, 13, 4, 14, 15, 16, 8, 17, 18, 19, 20, 21, 22, 38, 39, 40, 41, 42, 43, 44, 45, 46, 47, 48, 49, 50, 51, 52, 53, 54, 55, 56] (by decide +kernel) (by decide +kernel)
set_option maxRecDepth 20000 in
theorem gX4_give_X4_cut : GoodIn wsX4_give (wsV RX4 89 RX4 yX4_cut wsX4_cut) := goodIn_app (goodIn_of _ (by decide +kernel)) ggX4_give_X4_cut
set_option maxRecDepth 20000 in
theorem ggX4_give_X4_beginOf : GoodIn wsX4_give wsX4_beginOf := goodIn_r _ [26, 4, 38, 39, 40, 41, 42, 43, 44, 45, 46, 47, 48, 49, 50, 51, 52, 53, 54, 55, 56] (by decide +kernel) (by decide +kernel)
set_option maxRecDepth 20000 in
theorem gX4_give_X4_beginOf : GoodIn wsX4_give (wsV RX4 92 RX4 yX4_beginOf wsX4_beginOf) := goodIn_app (goodIn_of _ (by decide +kernel)) ggX4_give_X4_beginOf
set_option maxRecDepth 20000 in
theorem ggX4_give_X4_numberOf : GoodIn wsX4_give wsX4_numberOf := goodIn_r _ [30, 31, 1, 32, 33, 18, 34, 35, 36, 8, 37, 38, 39, 40, 41, 42, 43, 44, 45, 46, 47, 48, 49, 50, 51, 52, 53, 54, 55, 56] (by decide +kernel) (by decide +kernel)
set_option maxRecDepth 20000 in
theorem gX4_give_X4_numberOf : GoodIn wsX4_give (wsV RX4 95 RX4 yX4_numberOf wsX4_numberOf) := goodIn_app (goodIn_of _ (by decide +kernel)) ggX4_give_X4_numberOf
set_option maxRecDepth 20000 in
theorem ggX4_store_X4_isFile : GoodIn wsX4_store wsX4_isFile := goodIn_r _ [8, 9, 10, 7, 11] (by decide +kernel) (by decide +kernel)
set_option maxRecDepth 20000 in
theorem gX4_store_X4_isFile : GoodIn wsX4_store (va_wsS RX4 98 yX4_isFile wsX4_isFile) := goodIn_app (goodIn_of _ (by decide +kernel)) ggX4_store_X4_isFile
set_option maxRecDepth 20000 in
theorem ggX4_store_X4_refuse : GoodIn wsX4_store wsX4_refuse := goodIn_r _ [15, 16, 63, 64, 65, 66, 67, 68, 69, 70, 71, 72, 73, 74, 75, 76, 77, 78, 79, 80, 81] (by decide +kernel) (by decide +kernel)
set_option maxRecDepth 20000 in
theorem gX4_store_X4_refuse : GoodIn wsX4_store (wsV RX4 64 RX4 yX4_refuse wsX4_refuse) := goodIn_app (goodIn_of _ (by decide +kernel)) ggX4_store_X4_refuse
set_option maxRecDepth 20000 in
theorem ggX4_store_X4_give : GoodIn wsX4_store wsX4_give := goodIn_r _ [20, 21, 22, 23, 24, 25, 26, 27, 7, 28, 2, 29, 30, 31, 32, 33, 34, 35, 3, 36, 37, 38, 39, 40, 41, 42, 43, 44, 45, 46, 47, 48, 49, 50, 51, 52, 53, 54, 63, 64, 65, 66, 67, 68, 69, 70, 71, 72, 73, 74, 75, 76, 77, 78, 79, 80, 81] (by decide +kernel) (by decide +kernel)
set_option maxRecDepth 20000 in
theorem gX4_store_X4_give : GoodIn wsX4_store (wsV RX4 102 RX4 yX4_give wsX4_give) := goodIn_app (goodIn_of _ (by decide +kernel)) ggX4_store_X4_give
set_option maxRecDepth 20000 in
theorem ggX4_store_X4_take : GoodIn wsX4_store wsX4_take := goodIn_r _ [58, 22, 48, 23, 59, 60, 61, 2, 62, 3, 63, 64, 65, 66, 67, 68, 69, 70, 71, 72, 73, 74, 75, 76, 77, 78, 79, 80, 81] (by decide +kernel) (by decide +kernel)
set_option maxRecDepth 20000 in
theorem gX4_store_X4_take : GoodIn wsX4_store (wsV RX4 106 RX4 yX4_take wsX4_take) := goodIn_app (goodIn_of _ (by decide +kernel)) ggX4_store_X4_take
set_option maxRecDepth 20000 in
theorem ggX4_edit_X4_isFile : GoodIn wsX4_edit wsX4_isFile := goodIn_r _ [10, 11, 12, 9, 13] (by decide +kernel) (by decide +kernel)
set_option maxRecDepth 20000 in
theorem gX4_edit_X4_isFile : GoodIn wsX4_edit (va_wsS RX4 98 yX4_isFile wsX4_isFile) := goodIn_app (goodIn_of _ (by decide +kernel)) ggX4_edit_X4_isFile
set_option maxRecDepth 20000 in
theorem ggX4_edit_X4_in : GoodIn wsX4_edit wsX4_in := goodIn_r _ [13] (by decide +kernel) (by decide +kernel)
set_option maxRecDepth 20000 in
theorem gX4_edit_X4_in : GoodIn wsX4_edit (va_wsS RX4 60 yX4_in wsX4_in) := goodIn_app (goodIn_of _ (by decide +kernel)) ggX4_edit_X4_in
set_option maxRecDepth 20000 in
theorem ggX4_edit_X4_refuse : GoodIn wsX4_edit wsX4_refuse := goodIn_r _ [17, 18, 63, 64, 65, 66, 67, 68, 69, 70, 71, 72, 73, 74, 75, 76, 77, 78, 79, 80, 81] (by decide +kernel) (by decide +kernel)
set_option maxRecDepth 20000 in
theorem gX4_edit_X4_refuse : GoodIn wsX4_edit (wsV RX4 64 RX4 yX4_refuse wsX4_refuse) := goodIn_app (goodIn_of _ (by decide +kernel)) ggX4_edit_X4_refuse
set_option maxRecDepth 20000 in
theorem ggX4_edit_X4_give : GoodIn wsX4_edit wsX4_give := goodIn_r _ [22, 23, 24, 25, 26, 27, 28, 29, 9, 30, 3, 31, 32, 33, 34, 35, 36, 37, 4, 38, 39, 40, 41, 42, 43, 44, 45, 46, 47, 48, 49, 50, 51, 52, 53, 54, 55, 56, 63, 64, 65, 66, 67, 68, 69, 70, 71, 72, 73, 74, 75, 76, 77, 78, 79, 80, 81] (by decide +kernel) (by decide +kernel)
set_option maxRecDepth 20000 in
theorem gX4_edit_X4_give : GoodIn wsX4_edit (wsV RX4 102 RX4 yX4_give wsX4_give) := goodIn_app (goodIn_of _ (by decide +kernel)) ggX4_edit_X4_give
set_option maxRecDepth 20000 in
theorem ggX4_edit_X4_take : GoodIn wsX4_edit wsX4_take := goodIn_r _ [60, 24, 50, 25, 61, 62, 1, 3, 5, 4, 63, 64, 65, 66, 67, 68, 69, 70, 71, 72, 73, 74, 75, 76, 77, 78, 79, 80, 81] (by decide +kernel) (by decide +kernel)
set_option maxRecDepth 20000 in
theorem gX4_edit_X4_take : GoodIn wsX4_edit (wsV RX4 106 RX4 yX4_take wsX4_take) := goodIn_app (goodIn_of _ (by decide +kernel)) ggX4_edit_X4_take
set_option maxRecDepth 20000 in
theorem ggX4_copy_X4_isFile : GoodIn wsX4_copy wsX4_isFile := goodIn_r _ [12, 13, 14, 11, 15] (by decide +kernel) (by decide +kernel)
set_option maxRecDepth 20000 in
theorem gX4_copy_X4_isFile : GoodIn wsX4_copy (va_wsS RX4 98 yX4_isFile wsX4_isFile) := goodIn_app (goodIn_of _ (by decide +kernel)) ggX4_copy_X4_isFile
set_option maxRecDepth 20000 in
theorem ggX4_copy_X4_refuse : GoodIn wsX4_copy wsX4_refuse := goodIn_r _ [19, 20, 26, 27, 28, 29, 30, 31, 32, 33, 34, 35, 36, 37, 38, 39, 40, 41, 42, 43, 44] (by decide +kernel) (by decide +kernel)
set_option maxRecDepth 20000 in
theorem gX4_copy_X4_refuse : GoodIn wsX4_copy (wsV RX4 64 RX4 yX4_refuse wsX4_refuse) := goodIn_app (goodIn_of _ (by decide +kernel)) ggX4_copy_X4_refuse
set_option maxRecDepth 20000 in
theorem ggX4_copy_X4_take : GoodIn wsX4_copy wsX4_take := goodIn_r _ [24, 4, 25, 7, 3, 8, 1, 2, 6, 5, 26, 27, 28, 29, 30, 31, 32, 33, 34, 35, 36, 37, 38, 39, 40, 41, 42, 43, 44] (by decide +kernel) (by decide +kernel)
set_option maxRecDepth 20000 in
theorem gX4_copy_X4_take : GoodIn wsX4_copy (wsV RX4 106 RX4 yX4_take wsX4_take) := goodIn_app (goodIn_of _ (by decide +kernel)) ggX4_copy_X4_take
set_option maxRecDepth 20000 in
theorem ggX4_size_X4_isFile : GoodIn wsX4_size wsX4_isFile := goodIn_r _ [5, 6, 7, 4, 8] (by decide +kernel) (by decide +kernel)
set_option maxRecDepth 20000 in
theorem gX4_size_X4_isFile : GoodIn wsX4_size (va_wsS RX4 98 yX4_isFile wsX4_isFile) := goodIn_app (goodIn_of _ (by decide +kernel)) ggX4_size_X4_isFile
set_option maxRecDepth 20000 in
theorem ggX4_size_X4_refuse : GoodIn wsX4_size wsX4_refuse := goodIn_r _ [12, 13, 14, 15, 16, 17, 18, 19, 20, 21, 22, 23, 24, 25, 26, 27, 28, 29, 30, 31, 32] (by decide +kernel) (by decide +kernel)
set_option maxRecDepth 20000 in
theorem gX4_size_X4_refuse : GoodIn wsX4_size (wsV RX4 64 RX4 yX4_refuse wsX4_refuse) := goodIn_app (goodIn_of _ (by decide +kernel)) ggX4_size_X4_refuse
set_option maxRecDepth 20000 in
theorem ggX4_get_X4_isFile : GoodIn wsX4_get wsX4_isFile := goodIn_r _ [6, 7, 8, 5, 9] (by decide +kernel) (by decide +kernel)
set_option maxRecDepth 20000 in
theorem gX4_get_X4_isFile : GoodIn wsX4_get (va_wsS RX4 98 yX4_isFile wsX4_isFile) := goodIn_app (goodIn_of _ (by decide +kernel)) ggX4_get_X4_isFile
set_option maxRecDepth 20000 in
theorem ggX4_get_X4_in : GoodIn wsX4_get wsX4_in := goodIn_r _ [9] (by decide +kernel) (by decide +kernel)
set_option maxRecDepth 20000 in
theorem gX4_get_X4_in : GoodIn wsX4_get (va_wsS RX4 60 yX4_in wsX4_in) := goodIn_app (goodIn_of _ (by decide +kernel)) ggX4_get_X4_in
set_option maxRecDepth 20000 in
theorem ggX4_get_X4_refuse : GoodIn wsX4_get wsX4_refuse := goodIn_r _ [13, 14, 15, 16, 17, 18, 19, 20, 21, 22, 23, 24, 25, 26, 27, 28, 29, 30, 31, 32, 33] (by decide +kernel) (by decide +kernel)
set_option maxRecDepth 20000 in
theorem gX4_get_X4_refuse : GoodIn wsX4_get (wsV RX4 64 RX4 yX4_refuse wsX4_refuse) := goodIn_app (goodIn_of _ (by decide +kernel)) ggX4_get_X4_refuse
set_option maxRecDepth 20000 in
theorem ggX4_parts_X4_isFile : GoodIn wsX4_parts wsX4_isFile := goodIn_r _ [5, 6, 7, 4, 8] (by decide +kernel) (by decide +kernel)
set_option maxRecDepth 20000 in
theorem gX4_parts_X4_isFile : GoodIn wsX4_parts (va_wsS RX4 98 yX4_isFile wsX4_isFile) := goodIn_app (goodIn_of _ (by decide +kernel)) ggX4_parts_X4_isFile
set_option maxRecDepth 20000 in
theorem ggX4_parts_X4_refuse : GoodIn wsX4_parts wsX4_refuse := goodIn_r _ [12, 13, 14, 15, 16, 17, 18, 19, 20, 21, 22, 23, 24, 25, 26, 27, 28, 29, 30, 31, 32] (by decide +kernel) (by decide +kernel)
set_option maxRecDepth 20000 in
theorem gX4_parts_X4_refuse : GoodIn wsX4_parts (wsV RX4 64 RX4 yX4_refuse wsX4_refuse) := goodIn_app (goodIn_of _ (by decide +kernel)) ggX4_parts_X4_refuse
set_option maxRecDepth 20000 in
theorem ggX4_part_X4_isFile : GoodIn wsX4_part wsX4_isFile := goodIn_r _ [6, 7, 8, 5, 9] (by decide +kernel) (by decide +kernel)
set_option maxRecDepth 20000 in
theorem gX4_part_X4_isFile : GoodIn wsX4_part (va_wsS RX4 98 yX4_isFile wsX4_isFile) := goodIn_app (goodIn_of _ (by decide +kernel)) ggX4_part_X4_isFile
set_option maxRecDepth 20000 in
theorem ggX4_part_X4_in : GoodIn wsX4_part wsX4_in := goodIn_r _ [9] (by decide +kernel) (by decide +kernel)
set_option maxRecDepth 20000 in
theorem gX4_part_X4_in : GoodIn wsX4_part (va_wsS RX4 60 yX4_in wsX4_in) := goodIn_app (goodIn_of _ (by decide +kernel)) ggX4_part_X4_in
set_option maxRecDepth 20000 in
theorem ggX4_part_X4_refuse : GoodIn wsX4_part wsX4_refuse := goodIn_r _ [13, 14, 15, 16, 17, 18, 19, 20, 21, 22, 23, 24, 25, 26, 27, 28, 29, 30, 31, 32, 33] (by decide +kernel) (by decide +kernel)
set_option maxRecDepth 20000 in
theorem gX4_part_X4_refuse : GoodIn wsX4_part (wsV RX4 64 RX4 yX4_refuse wsX4_refuse) := goodIn_app (goodIn_of _ (by decide +kernel)) ggX4_part_X4_refuse
set_option maxRecDepth 20000 in
theorem ggX4_about_X4_in : GoodIn wsX4_about wsX4_in := goodIn_r _ [6] (by decide +kernel) (by decide +kernel)
set_option maxRecDepth 20000 in
theorem gX4_about_X4_in : GoodIn wsX4_about (va_wsS RX4 60 yX4_in wsX4_in) := goodIn_app (goodIn_of _ (by decide +kernel)) ggX4_about_X4_in
set_option maxRecDepth 20000 in
theorem ggX4_about_X4_refuse : GoodIn wsX4_about wsX4_refuse := goodIn_r _ [10, 11, 18, 19, 20, 21, 22, 23, 24, 25, 26, 27, 28, 29, 30, 31, 32, 33, 34, 35, 36] (by decide +kernel) (by decide +kernel)
set_option maxRecDepth 20000 in
theorem gX4_about_X4_refuse : GoodIn wsX4_about (wsV RX4 64 RX4 yX4_refuse wsX4_refuse) := goodIn_app (goodIn_of _ (by decide +kernel)) ggX4_about_X4_refuse
set_option maxRecDepth 20000 in
theorem ggX4_about_X4_has : GoodIn wsX4_about wsX4_has := goodIn_r _ [15, 16, 17, 18, 19, 20, 21, 22, 23, 24, 25, 26, 27, 28, 29, 30, 31, 32, 33, 34, 35, 36] (by decide +kernel) (by decide +kernel)
set_option maxRecDepth 20000 in
theorem gX4_about_X4_has : GoodIn wsX4_about (wsV RX4 110 RX4 yX4_has wsX4_has) := goodIn_app (goodIn_of _ (by decide +kernel)) ggX4_about_X4_has
set_option maxRecDepth 20000 in
theorem ggX4_common_X4_isFile : GoodIn wsX4_common wsX4_isFile := goodIn_r _ [7, 8, 9, 6, 10] (by decide +kernel) (by decide +kernel)
set_option maxRecDepth 20000 in
theorem gX4_common_X4_isFile : GoodIn wsX4_common (va_wsS RX4 98 yX4_isFile wsX4_isFile) := goodIn_app (goodIn_of _ (by decide +kernel)) ggX4_common_X4_isFile
set_option maxRecDepth 20000 in
theorem ggX4_common_X4_refuse : GoodIn wsX4_common wsX4_refuse := goodIn_r _ [14, 15, 20, 21, 22, 23, 24, 25, 26, 27, 28, 29, 30, 31, 32, 33, 34, 35, 36, 37, 38] (by decide +kernel) (by decide +kernel)
set_option maxRecDepth 20000 in
theorem gX4_common_X4_refuse : GoodIn wsX4_common (wsV RX4 64 RX4 yX4_refuse wsX4_refuse) := goodIn_app (goodIn_of _ (by decide +kernel)) ggX4_common_X4_refuse
set_option maxRecDepth 20000 in
theorem ggX4_common_X4_has : GoodIn wsX4_common wsX4_has := goodIn_r _ [19, 1, 2, 20, 21, 22, 23, 24, 25, 26, 27, 28, 29, 30, 31, 32, 33, 34, 35, 36, 37, 38] (by decide +kernel) (by decide +kernel)
set_option maxRecDepth 20000 in
theorem gX4_common_X4_has : GoodIn wsX4_common (wsV RX4 110 RX4 yX4_has wsX4_has) := goodIn_app (goodIn_of _ (by decide +kernel)) ggX4_common_X4_has
set_option maxRecDepth 20000 in
theorem ggX4_all_X4_in : GoodIn wsX4_all wsX4_in := goodIn_r _ [7] (by decide +kernel) (by decide +kernel)
set_option maxRecDepth 20000 in
theorem gX4_all_X4_in : GoodIn wsX4_all (va_wsS RX4 60 yX4_in wsX4_in) := goodIn_app (goodIn_of _ (by decide +kernel)) ggX4_all_X4_in
set_option maxRecDepth 20000 in
theorem ggX4_all_X4_refuse : GoodIn wsX4_all wsX4_refuse := goodIn_r _ [11, 12, 13, 14, 15, 16, 17, 18, 19, 20, 21, 22, 23, 24, 25, 26, 27, 28, 29, 30, 31] (by decide +kernel) (by decide +kernel)
set_option maxRecDepth 20000 in
theorem gX4_all_X4_refuse : GoodIn wsX4_all (wsV RX4 64 RX4 yX4_refuse wsX4_refuse) := goodIn_app (goodIn_of _ (by decide +kernel)) ggX4_all_X4_refuse
abbrev vwCl : List vw_C := [(RX0, TX0, 3), (RX1, TX1, 3), (RX2, TX2, 9), (RX3, TX3, 8), (RX4, TX4, 19)]
