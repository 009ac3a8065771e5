section
-- ===== PART A: goes FIRST, ahead of the names: the tables' words, and 'selects' of the private methods out of them =====
/-- a private method of a class that the tables say can be made, by its rows of tables_1 -/
def lw_okq (q : MethodName × Nat) : Prop := (q.1.cls ≠ "java/lang/invoke/MethodHandle" ∧ q.1.cls ≠ "java/lang/invoke/VarHandle") ∧ Cond.instantiable q.1.cls q.2 ∈ tables_1 ∧ Cond.privateMethod q.1 ∈ tables_1 ∧ Cond.instanceMethod q.1 ∈ tables_1
theorem lw_p0 : lw_okq (⟨"java/lang/Throwable", "fillInStackTrace", "(I)Ljava/lang/Throwable;"⟩, 6) := ⟨⟨by decide +kernel, by decide +kernel⟩, List.mem_of_getElem? (i := 174) (by decide +kernel), List.mem_of_getElem? (i := 172) (by decide +kernel), List.mem_of_getElem? (i := 173) (by decide +kernel)⟩
theorem lw_p1 : lw_okq (⟨"CutYard", "fileAt", "(I)LCutYard$Content;"⟩, 8) := ⟨⟨by decide +kernel, by decide +kernel⟩, List.mem_of_getElem? (i := 17) (by decide +kernel), List.mem_of_getElem? (i := 250) (by decide +kernel), List.mem_of_getElem? (i := 251) (by decide +kernel)⟩
theorem lw_p2 : lw_okq (⟨"CutYard", "fillFile", "(LCutYard$Content;[BI)I"⟩, 8) := ⟨⟨by decide +kernel, by decide +kernel⟩, List.mem_of_getElem? (i := 17) (by decide +kernel), List.mem_of_getElem? (i := 270) (by decide +kernel), List.mem_of_getElem? (i := 271) (by decide +kernel)⟩
theorem lw_p3 : lw_okq (⟨"CutYard", "takeParts", "([BI)I"⟩, 8) := ⟨⟨by decide +kernel, by decide +kernel⟩, List.mem_of_getElem? (i := 17) (by decide +kernel), List.mem_of_getElem? (i := 274) (by decide +kernel), List.mem_of_getElem? (i := 275) (by decide +kernel)⟩
theorem lw_p4 : lw_okq (⟨"CutYard$Stock", "find", "(I[BII)I"⟩, 9) := ⟨⟨by decide +kernel, by decide +kernel⟩, List.mem_of_getElem? (i := 41) (by decide +kernel), List.mem_of_getElem? (i := 299) (by decide +kernel), List.mem_of_getElem? (i := 300) (by decide +kernel)⟩
theorem lw_p5 : lw_okq (⟨"CutYard$Stock", "sameBytes", "(I[BI)Z"⟩, 9) := ⟨⟨by decide +kernel, by decide +kernel⟩, List.mem_of_getElem? (i := 41) (by decide +kernel), List.mem_of_getElem? (i := 307) (by decide +kernel), List.mem_of_getElem? (i := 308) (by decide +kernel)⟩
theorem lw_p6 : lw_okq (⟨"CutYard$Stock", "add", "(I[BII)I"⟩, 9) := ⟨⟨by decide +kernel, by decide +kernel⟩, List.mem_of_getElem? (i := 41) (by decide +kernel), List.mem_of_getElem? (i := 311) (by decide +kernel), List.mem_of_getElem? (i := 312) (by decide +kernel)⟩
theorem lw_p7 : lw_okq (⟨"CutYard$Stock", "leastFree", "()I"⟩, 9) := ⟨⟨by decide +kernel, by decide +kernel⟩, List.mem_of_getElem? (i := 41) (by decide +kernel), List.mem_of_getElem? (i := 315) (by decide +kernel), List.mem_of_getElem? (i := 316) (by decide +kernel)⟩
theorem lw_p8 : lw_okq (⟨"CutYard$Stock", "makeRoomFor", "(I)V"⟩, 9) := ⟨⟨by decide +kernel, by decide +kernel⟩, List.mem_of_getElem? (i := 41) (by decide +kernel), List.mem_of_getElem? (i := 319) (by decide +kernel), List.mem_of_getElem? (i := 320) (by decide +kernel)⟩
theorem lw_p9 : lw_okq (⟨"CutYard", "giveBack", "([II)V"⟩, 8) := ⟨⟨by decide +kernel, by decide +kernel⟩, List.mem_of_getElem? (i := 17) (by decide +kernel), List.mem_of_getElem? (i := 346) (by decide +kernel), List.mem_of_getElem? (i := 347) (by decide +kernel)⟩
theorem lw_p10 : lw_okq (⟨"CutYard$Stock", "unchain", "(I)V"⟩, 9) := ⟨⟨by decide +kernel, by decide +kernel⟩, List.mem_of_getElem? (i := 41) (by decide +kernel), List.mem_of_getElem? (i := 354) (by decide +kernel), List.mem_of_getElem? (i := 355) (by decide +kernel)⟩
theorem lw_p11 : lw_okq (⟨"CutYard", "layOut", "(LCutYard$Content;)V"⟩, 8) := ⟨⟨by decide +kernel, by decide +kernel⟩, List.mem_of_getElem? (i := 17) (by decide +kernel), List.mem_of_getElem? (i := 375) (by decide +kernel), List.mem_of_getElem? (i := 376) (by decide +kernel)⟩
theorem lw_p12 : lw_okq (⟨"CutYard", "filesWith", "(I)I"⟩, 8) := ⟨⟨by decide +kernel, by decide +kernel⟩, List.mem_of_getElem? (i := 17) (by decide +kernel), List.mem_of_getElem? (i := 459) (by decide +kernel), List.mem_of_getElem? (i := 460) (by decide +kernel)⟩
theorem lw_p13 : lw_okq (⟨"CutYardModel", "refuse", "(ZZZ)Z"⟩, 19) := ⟨⟨by decide +kernel, by decide +kernel⟩, List.mem_of_getElem? (i := 483) (by decide +kernel), List.mem_of_getElem? (i := 559) (by decide +kernel), List.mem_of_getElem? (i := 560) (by decide +kernel)⟩
theorem lw_p14 : lw_okq (⟨"CutYardModel", "give", "()I"⟩, 19) := ⟨⟨by decide +kernel, by decide +kernel⟩, List.mem_of_getElem? (i := 483) (by decide +kernel), List.mem_of_getElem? (i := 574) (by decide +kernel), List.mem_of_getElem? (i := 575) (by decide +kernel)⟩
theorem lw_p15 : lw_okq (⟨"CutYardModel", "cut", "()V"⟩, 19) := ⟨⟨by decide +kernel, by decide +kernel⟩, List.mem_of_getElem? (i := 483) (by decide +kernel), List.mem_of_getElem? (i := 578) (by decide +kernel), List.mem_of_getElem? (i := 579) (by decide +kernel)⟩
def lw_privs_1 : List (MethodName × Nat) := [(⟨"java/lang/Throwable", "fillInStackTrace", "(I)Ljava/lang/Throwable;"⟩, 6), (⟨"CutYard", "fileAt", "(I)LCutYard$Content;"⟩, 8), (⟨"CutYard", "fillFile", "(LCutYard$Content;[BI)I"⟩, 8), (⟨"CutYard", "takeParts", "([BI)I"⟩, 8), (⟨"CutYard$Stock", "find", "(I[BII)I"⟩, 9), (⟨"CutYard$Stock", "sameBytes", "(I[BI)Z"⟩, 9), (⟨"CutYard$Stock", "add", "(I[BII)I"⟩, 9), (⟨"CutYard$Stock", "leastFree", "()I"⟩, 9), (⟨"CutYard$Stock", "makeRoomFor", "(I)V"⟩, 9), (⟨"CutYard", "giveBack", "([II)V"⟩, 8), (⟨"CutYard$Stock", "unchain", "(I)V"⟩, 9), (⟨"CutYard", "layOut", "(LCutYard$Content;)V"⟩, 8), (⟨"CutYard", "filesWith", "(I)I"⟩, 8), (⟨"CutYardModel", "refuse", "(ZZZ)Z"⟩, 19), (⟨"CutYardModel", "give", "()I"⟩, 19), (⟨"CutYardModel", "cut", "()V"⟩, 19)]
theorem lw_r1 : ∀ q ∈ lw_privs_1, lw_okq q := List.forall_mem_cons.mpr ⟨lw_p0, List.forall_mem_cons.mpr ⟨lw_p1, List.forall_mem_cons.mpr ⟨lw_p2, List.forall_mem_cons.mpr ⟨lw_p3, List.forall_mem_cons.mpr ⟨lw_p4, List.forall_mem_cons.mpr ⟨lw_p5, List.forall_mem_cons.mpr ⟨lw_p6, List.forall_mem_cons.mpr ⟨lw_p7, List.forall_mem_cons.mpr ⟨lw_p8, List.forall_mem_cons.mpr ⟨lw_p9, List.forall_mem_cons.mpr ⟨lw_p10, List.forall_mem_cons.mpr ⟨lw_p11, List.forall_mem_cons.mpr ⟨lw_p12, List.forall_mem_cons.mpr ⟨lw_p13, List.forall_mem_cons.mpr ⟨lw_p14, List.forall_mem_cons.mpr ⟨lw_p15, fun _ h => absurd h List.not_mem_nil⟩⟩⟩⟩⟩⟩⟩⟩⟩⟩⟩⟩⟩⟩⟩⟩
theorem lw_p16 : lw_okq (⟨"CutYardModel", "sum", "(II)I"⟩, 19) := ⟨⟨by decide +kernel, by decide +kernel⟩, List.mem_of_getElem? (i := 483) (by decide +kernel), List.mem_of_getElem? (i := 582) (by decide +kernel), List.mem_of_getElem? (i := 583) (by decide +kernel)⟩
theorem lw_p17 : lw_okq (⟨"CutYardModel", "beginOf", "(I)I"⟩, 19) := ⟨⟨by decide +kernel, by decide +kernel⟩, List.mem_of_getElem? (i := 483) (by decide +kernel), List.mem_of_getElem? (i := 590) (by decide +kernel), List.mem_of_getElem? (i := 591) (by decide +kernel)⟩
theorem lw_p18 : lw_okq (⟨"CutYardModel", "numberOf", "(II)I"⟩, 19) := ⟨⟨by decide +kernel, by decide +kernel⟩, List.mem_of_getElem? (i := 483) (by decide +kernel), List.mem_of_getElem? (i := 594) (by decide +kernel), List.mem_of_getElem? (i := 595) (by decide +kernel)⟩
theorem lw_p19 : lw_okq (⟨"CutYardModel", "isPart", "(III)Z"⟩, 19) := ⟨⟨by decide +kernel, by decide +kernel⟩, List.mem_of_getElem? (i := 483) (by decide +kernel), List.mem_of_getElem? (i := 598) (by decide +kernel), List.mem_of_getElem? (i := 599) (by decide +kernel)⟩
theorem lw_p20 : lw_okq (⟨"CutYardModel", "take", "(I)V"⟩, 19) := ⟨⟨by decide +kernel, by decide +kernel⟩, List.mem_of_getElem? (i := 483) (by decide +kernel), List.mem_of_getElem? (i := 602) (by decide +kernel), List.mem_of_getElem? (i := 603) (by decide +kernel)⟩
theorem lw_p21 : lw_okq (⟨"CutYardModel", "has", "(II)Z"⟩, 19) := ⟨⟨by decide +kernel, by decide +kernel⟩, List.mem_of_getElem? (i := 483) (by decide +kernel), List.mem_of_getElem? (i := 634) (by decide +kernel), List.mem_of_getElem? (i := 635) (by decide +kernel)⟩
def lw_privs_2 : List (MethodName × Nat) := [(⟨"CutYardModel", "sum", "(II)I"⟩, 19), (⟨"CutYardModel", "beginOf", "(I)I"⟩, 19), (⟨"CutYardModel", "numberOf", "(II)I"⟩, 19), (⟨"CutYardModel", "isPart", "(III)Z"⟩, 19), (⟨"CutYardModel", "take", "(I)V"⟩, 19), (⟨"CutYardModel", "has", "(II)Z"⟩, 19)]
theorem lw_r2 : ∀ q ∈ lw_privs_2, lw_okq q := List.forall_mem_cons.mpr ⟨lw_p16, List.forall_mem_cons.mpr ⟨lw_p17, List.forall_mem_cons.mpr ⟨lw_p18, List.forall_mem_cons.mpr ⟨lw_p19, List.forall_mem_cons.mpr ⟨lw_p20, List.forall_mem_cons.mpr ⟨lw_p21, fun _ h => absurd h List.not_mem_nil⟩⟩⟩⟩⟩⟩
def lw_privs : List (MethodName × Nat) := lw_privs_1 ++ (lw_privs_2)
def lw_tbl : List Cond := k2_sels lw_privs ++ tables_1
theorem lw_privs_ok : ∀ q ∈ lw_privs, lw_okq q := by
  show ∀ q ∈ lw_privs_1 ++ (lw_privs_2), lw_okq q
  exact List.forall_mem_append.mpr ⟨lw_r1, lw_r2⟩
end
section
/-! ===== BEGIN words of one list among another's, by their places ===== -/
theorem goodIn_r {big : List Cond} (ws : List Cond) (ps : List Nat) (hp : ws = ps.filterMap (fun i => big[i]?)) (h : ws.all goodWord = true) : GoodIn big ws := by
  intro w hw
  have h1 := List.all_eq_true.mp h w hw
  rw [hp] at hw
  obtain ⟨i, -, hi⟩ := List.mem_filterMap.mp hw
  have hm : w ∈ big := by first | exact List.mem_of_getElem? hi | exact List.getElem?_mem hi
  exact ⟨hm, good_of_word h1⟩
theorem goodIn_app {big a b : List Cond} (ha : GoodIn big a) (hb : GoodIn big b) : GoodIn big (a ++ b) := fun w h => (List.mem_append.mp h).elim (ha w) (hb w)
theorem goodIn_ca {big a b : List Cond} {c : Cond} (ha : GoodIn big (c :: a)) (hb : GoodIn big b) : GoodIn big (c :: (a ++ b)) := fun w h => (List.mem_cons.mp h).elim (fun e => ha w (List.mem_cons.mpr (Or.inl e))) (fun h => (List.mem_append.mp h).elim (fun h => ha w (List.mem_cons.mpr (Or.inr h))) (hb w))
theorem goodIn_sub {big ws : List Cond} (hm : ∀ w ∈ ws, w ∈ big) (h : ws.all goodWord = true) : GoodIn big ws := fun w hw => ⟨hm w hw, good_of_word (List.all_eq_true.mp h w hw)⟩
/-! ===== END ===== -/
end
section
def RX0 : String := "CutYard$Content"
def TX0 : u_T := fun k => match k with
  | 0 => ("CutYard$Content", "numbers", "[I", false)
  | 1 => ("CutYard$Content", "count", "I", false)
  | _ => ("CutYard$Content", "bytes", "I", false)
def tyX0 : Nat → FieldType := fun k => match k with
  | 0 => .array .int
  | 1 => .int
  | _ => .int
abbrev wsX00 : List Cond := u_ws RX0 TX0 3
theorem nmX0 : ∀ a, a < 3 → ∀ b, b < 3 → a ≠ b → (TX0 a).2.1 ≠ (TX0 b).2.1 := by decide +kernel
theorem tyX0_ok : ∀ k, k < 3 → parseFieldDescriptor (TX0 k).2.2.1 = some (tyX0 k) := by decide +kernel
abbrev cX0_init : ByteArray := prog_2_method_1_code
def yX0_init : MethodName := ⟨RX0, "<init>", "()V"⟩
abbrev cX0_empty : ByteArray := prog_2_method_2_code
def yX0_empty : MethodName := ⟨RX0, "empty", "()V"⟩
abbrev cX0_become : ByteArray := prog_2_method_3_code
def yX0_become : MethodName := ⟨RX0, "become", "([III)V"⟩
abbrev cX0_hasNumber : ByteArray := prog_2_method_4_code
def yX0_hasNumber : MethodName := ⟨RX0, "hasNumber", "(I)Z"⟩
def RX1 : String := "CutYard$Cutter"
def TX1 : u_T := fun k => match k with
  | 0 => ("CutYard$Cutter", "mask", "I", false)
  | 1 => ("CutYard$Cutter", "least", "I", false)
  | _ => ("CutYard$Cutter", "most", "I", false)
def tyX1 : Nat → FieldType := fun k => match k with
  | 0 => .int
  | 1 => .int
  | _ => .int
abbrev wsX10 : List Cond := u_ws RX1 TX1 3
theorem nmX1 : ∀ a, a < 3 → ∀ b, b < 3 → a ≠ b → (TX1 a).2.1 ≠ (TX1 b).2.1 := by decide +kernel
theorem tyX1_ok : ∀ k, k < 3 → parseFieldDescriptor (TX1 k).2.2.1 = some (tyX1 k) := by decide +kernel
abbrev cX1_init : ByteArray := prog_3_method_1_code
def yX1_init : MethodName := ⟨RX1, "<init>", "()V"⟩
abbrev cX1_setRule : ByteArray := prog_3_method_2_code
def yX1_setRule : MethodName := ⟨RX1, "setRule", "(III)V"⟩
abbrev cX1_endOfPart : ByteArray := prog_3_method_3_code
def yX1_endOfPart : MethodName := ⟨RX1, "endOfPart", "([BII)I"⟩
abbrev cX1_mark : ByteArray := prog_3_method_4_code
def yX1_mark : MethodName := ⟨RX1, "mark", "(B)I"⟩
abbrev cX1_turned : ByteArray := prog_3_method_5_code
def yX1_turned : MethodName := ⟨RX1, "turned", "(II)I"⟩
def RX2 : String := "CutYard$Stock"
def TX2 : u_T := fun k => match k with
  | 0 => ("CutYard$Stock", "uses", "[I", true)
  | 1 => ("CutYard$Stock", "lengths", "[I", true)
  | 2 => ("CutYard$Stock", "hashes", "[I", true)
  | 3 => ("CutYard$Stock", "next", "[I", true)
  | 4 => ("CutYard$Stock", "heads", "[I", true)
  | 5 => ("CutYard$Stock", "room", "[B", false)
  | 6 => ("CutYard$Stock", "lowest", "I", false)
  | 7 => ("CutYard$Stock", "count", "I", false)
  | _ => ("CutYard$Stock", "bytes", "I", false)
def tyX2 : Nat → FieldType := fun k => match k with
  | 0 => .array .int
  | 1 => .array .int
  | 2 => .array .int
  | 3 => .array .int
  | 4 => .array .int
  | 5 => .array .byte
  | 6 => .int
  | 7 => .int
  | _ => .int
abbrev wsX20 : List Cond := u_ws RX2 TX2 9
theorem nmX2 : ∀ a, a < 9 → ∀ b, b < 9 → a ≠ b → (TX2 a).2.1 ≠ (TX2 b).2.1 := by decide +kernel
theorem tyX2_ok : ∀ k, k < 9 → parseFieldDescriptor (TX2 k).2.2.1 = some (tyX2 k) := by decide +kernel
abbrev cX2_init : ByteArray := prog_4_method_1_code
def yX2_init : MethodName := ⟨RX2, "<init>", "()V"⟩
abbrev cX2_empty : ByteArray := prog_4_method_2_code
def yX2_empty : MethodName := ⟨RX2, "empty", "()V"⟩
abbrev cX2_has : ByteArray := prog_4_method_3_code
def yX2_has : MethodName := ⟨RX2, "has", "(I)Z"⟩
abbrev cX2_usesOf : ByteArray := prog_4_method_4_code
def yX2_usesOf : MethodName := ⟨RX2, "usesOf", "(I)I"⟩
abbrev cX2_lengthOf : ByteArray := prog_4_method_5_code
def yX2_lengthOf : MethodName := ⟨RX2, "lengthOf", "(I)I"⟩
abbrev cX2_byteOf : ByteArray := prog_4_method_6_code
def yX2_byteOf : MethodName := ⟨RX2, "byteOf", "(II)I"⟩
abbrev cX2_writeOut : ByteArray := prog_4_method_7_code
def yX2_writeOut : MethodName := ⟨RX2, "writeOut", "(I[BI)I"⟩
abbrev cX2_useAgain : ByteArray := prog_4_method_8_code
def yX2_useAgain : MethodName := ⟨RX2, "useAgain", "(I)V"⟩
abbrev cX2_take : ByteArray := prog_4_method_9_code
def yX2_take : MethodName := ⟨RX2, "take", "([BII)I"⟩
abbrev cX2_giveBack : ByteArray := prog_4_method_10_code
def yX2_giveBack : MethodName := ⟨RX2, "giveBack", "(I)V"⟩
abbrev cX2_hashOf : ByteArray := prog_4_method_11_code
def yX2_hashOf : MethodName := ⟨RX2, "hashOf", "([BII)I"⟩
abbrev cX2_find : ByteArray := prog_4_method_12_code
def yX2_find : MethodName := ⟨RX2, "find", "(I[BII)I"⟩
abbrev cX2_sameBytes : ByteArray := prog_4_method_13_code
def yX2_sameBytes : MethodName := ⟨RX2, "sameBytes", "(I[BI)Z"⟩
abbrev cX2_add : ByteArray := prog_4_method_14_code
def yX2_add : MethodName := ⟨RX2, "add", "(I[BII)I"⟩
abbrev cX2_leastFree : ByteArray := prog_4_method_15_code
def yX2_leastFree : MethodName := ⟨RX2, "leastFree", "()I"⟩
abbrev cX2_makeRoomFor : ByteArray := prog_4_method_16_code
def yX2_makeRoomFor : MethodName := ⟨RX2, "makeRoomFor", "(I)V"⟩
abbrev cX2_unchain : ByteArray := prog_4_method_17_code
def yX2_unchain : MethodName := ⟨RX2, "unchain", "(I)V"⟩
def RX3 : String := "CutYard"
def TX3 : u_T := fun k => match k with
  | 0 => ("CutYard", "cutter", "LCutYard$Cutter;", true)
  | 1 => ("CutYard", "stock", "LCutYard$Stock;", true)
  | 2 => ("CutYard", "files", "[LCutYard$Content;", true)
  | 3 => ("CutYard", "hand", "[B", true)
  | 4 => ("CutYard", "inHand", "I", false)
  | 5 => ("CutYard", "work", "[B", true)
  | 6 => ("CutYard", "taken", "[I", true)
  | _ => ("CutYard", "seen", "[I", true)
def tyX3 : Nat → FieldType := fun k => match k with
  | 0 => .object "CutYard$Cutter"
  | 1 => .object "CutYard$Stock"
  | 2 => .array (.object "CutYard$Content")
  | 3 => .array .byte
  | 4 => .int
  | 5 => .array .byte
  | 6 => .array .int
  | _ => .array .int
abbrev wsX30 : List Cond := u_ws RX3 TX3 8
theorem nmX3 : ∀ a, a < 8 → ∀ b, b < 8 → a ≠ b → (TX3 a).2.1 ≠ (TX3 b).2.1 := by decide +kernel
theorem tyX3_ok : ∀ k, k < 8 → parseFieldDescriptor (TX3 k).2.2.1 = some (tyX3 k) := by decide +kernel
abbrev cX3_init : ByteArray := prog_1_method_1_code
def yX3_init : MethodName := ⟨RX3, "<init>", "()V"⟩
abbrev cX3_begin : ByteArray := prog_1_method_2_code
def yX3_begin : MethodName := ⟨RX3, "begin", "(III)V"⟩
abbrev cX3_put : ByteArray := prog_1_method_3_code
def yX3_put : MethodName := ⟨RX3, "put", "(II)I"⟩
abbrev cX3_store : ByteArray := prog_1_method_4_code
def yX3_store : MethodName := ⟨RX3, "store", "(I)I"⟩
abbrev cX3_edit : ByteArray := prog_1_method_5_code
def yX3_edit : MethodName := ⟨RX3, "edit", "(III)I"⟩
abbrev cX3_copy : ByteArray := prog_1_method_6_code
def yX3_copy : MethodName := ⟨RX3, "copy", "(II)V"⟩
abbrev cX3_size : ByteArray := prog_1_method_7_code
def yX3_size : MethodName := ⟨RX3, "size", "(I)I"⟩
abbrev cX3_get : ByteArray := prog_1_method_8_code
def yX3_get : MethodName := ⟨RX3, "get", "(II)I"⟩
abbrev cX3_parts : ByteArray := prog_1_method_9_code
def yX3_parts : MethodName := ⟨RX3, "parts", "(I)I"⟩
abbrev cX3_part : ByteArray := prog_1_method_10_code
def yX3_part : MethodName := ⟨RX3, "part", "(II)I"⟩
abbrev cX3_about : ByteArray := prog_1_method_11_code
def yX3_about : MethodName := ⟨RX3, "about", "(II)I"⟩
abbrev cX3_common : ByteArray := prog_1_method_12_code
def yX3_common : MethodName := ⟨RX3, "common", "(II)I"⟩
abbrev cX3_all : ByteArray := prog_1_method_13_code
def yX3_all : MethodName := ⟨RX3, "all", "(I)I"⟩
abbrev cX3_fileAt : ByteArray := prog_1_method_14_code
def yX3_fileAt : MethodName := ⟨RX3, "fileAt", "(I)LCutYard$Content;"⟩
abbrev cX3_fillFile : ByteArray := prog_1_method_15_code
def yX3_fillFile : MethodName := ⟨RX3, "fillFile", "(LCutYard$Content;[BI)I"⟩
abbrev cX3_takeParts : ByteArray := prog_1_method_16_code
def yX3_takeParts : MethodName := ⟨RX3, "takeParts", "([BI)I"⟩
abbrev cX3_giveBack : ByteArray := prog_1_method_17_code
def yX3_giveBack : MethodName := ⟨RX3, "giveBack", "([II)V"⟩
abbrev cX3_layOut : ByteArray := prog_1_method_18_code
def yX3_layOut : MethodName := ⟨RX3, "layOut", "(LCutYard$Content;)V"⟩
abbrev cX3_filesWith : ByteArray := prog_1_method_19_code
def yX3_filesWith : MethodName := ⟨RX3, "filesWith", "(I)I"⟩
def RX4 : String := "CutYardModel"
def TX4 : u_T := fun k => match k with
  | 0 => ("CutYardModel", "thrown", "I", false)
  | 1 => ("CutYardModel", "bits", "I", false)
  | 2 => ("CutYardModel", "least", "I", false)
  | 3 => ("CutYardModel", "most", "I", false)
  | 4 => ("CutYardModel", "held", "I", false)
  | 5 => ("CutYardModel", "hand", "[I", true)
  | 6 => ("CutYardModel", "size", "I", false)
  | 7 => ("CutYardModel", "row", "[I", true)
  | 8 => ("CutYardModel", "cuts", "I", false)
  | 9 => ("CutYardModel", "ends", "[I", true)
  | 10 => ("CutYardModel", "numbers", "[I", true)
  | 11 => ("CutYardModel", "fresh", "[Z", true)
  | 12 => ("CutYardModel", "sizes", "[I", true)
  | 13 => ("CutYardModel", "bytes", "[I", true)
  | 14 => ("CutYardModel", "counts", "[I", true)
  | 15 => ("CutYardModel", "parts", "[I", true)
  | 16 => ("CutYardModel", "uses", "[I", true)
  | 17 => ("CutYardModel", "lengths", "[I", true)
  | _ => ("CutYardModel", "contents", "[I", true)
def tyX4 : Nat → FieldType := fun k => match k with
  | 0 => .int
  | 1 => .int
  | 2 => .int
  | 3 => .int
  | 4 => .int
  | 5 => .array .int
  | 6 => .int
  | 7 => .array .int
  | 8 => .int
  | 9 => .array .int
  | 10 => .array .int
  | 11 => .array .boolean
  | 12 => .array .int
  | 13 => .array .int
  | 14 => .array .int
  | 15 => .array .int
  | 16 => .array .int
  | 17 => .array .int
  | _ => .array .int
abbrev wsX40 : List Cond := u_ws RX4 TX4 19
theorem nmX4 : ∀ a, a < 19 → ∀ b, b < 19 → a ≠ b → (TX4 a).2.1 ≠ (TX4 b).2.1 := by decide +kernel
theorem tyX4_ok : ∀ k, k < 19 → parseFieldDescriptor (TX4 k).2.2.1 = some (tyX4 k) := by decide +kernel
abbrev cX4_init : ByteArray := prog_6_method_1_code
def yX4_init : MethodName := ⟨RX4, "<init>", "()V"⟩
abbrev cX4_thrown : ByteArray := prog_6_method_2_code
def yX4_thrown : MethodName := ⟨RX4, "thrown", "()I"⟩
abbrev cX4_refuse : ByteArray := prog_6_method_3_code
def yX4_refuse : MethodName := ⟨RX4, "refuse", "(ZZZ)Z"⟩
abbrev cX4_in : ByteArray := prog_6_method_4_code
def yX4_in : MethodName := ⟨RX4, "in", "(III)Z"⟩
abbrev cX4_isFile : ByteArray := prog_6_method_5_code
def yX4_isFile : MethodName := ⟨RX4, "isFile", "(I)Z"⟩
abbrev cX4_begin : ByteArray := prog_6_method_6_code
def yX4_begin : MethodName := ⟨RX4, "begin", "(III)V"⟩
abbrev cX4_put : ByteArray := prog_6_method_7_code
def yX4_put : MethodName := ⟨RX4, "put", "(II)I"⟩
abbrev cX4_mark : ByteArray := prog_6_method_8_code
def yX4_mark : MethodName := ⟨RX4, "mark", "(I)I"⟩
abbrev cX4_sum : ByteArray := prog_6_method_9_code
def yX4_sum : MethodName := ⟨RX4, "sum", "(II)I"⟩
abbrev cX4_cut : ByteArray := prog_6_method_10_code
def yX4_cut : MethodName := ⟨RX4, "cut", "()V"⟩
abbrev cX4_beginOf : ByteArray := prog_6_method_11_code
def yX4_beginOf : MethodName := ⟨RX4, "beginOf", "(I)I"⟩
abbrev cX4_isPart : ByteArray := prog_6_method_12_code
def yX4_isPart : MethodName := ⟨RX4, "isPart", "(III)Z"⟩
abbrev cX4_numberOf : ByteArray := prog_6_method_13_code
def yX4_numberOf : MethodName := ⟨RX4, "numberOf", "(II)I"⟩
abbrev cX4_give : ByteArray := prog_6_method_14_code
def yX4_give : MethodName := ⟨RX4, "give", "()I"⟩
abbrev cX4_take : ByteArray := prog_6_method_15_code
def yX4_take : MethodName := ⟨RX4, "take", "(I)V"⟩
abbrev cX4_store : ByteArray := prog_6_method_16_code
def yX4_store : MethodName := ⟨RX4, "store", "(I)I"⟩
abbrev cX4_edit : ByteArray := prog_6_method_17_code
def yX4_edit : MethodName := ⟨RX4, "edit", "(III)I"⟩
abbrev cX4_copy : ByteArray := prog_6_method_18_code
def yX4_copy : MethodName := ⟨RX4, "copy", "(II)V"⟩
abbrev cX4_size : ByteArray := prog_6_method_19_code
def yX4_size : MethodName := ⟨RX4, "size", "(I)I"⟩
abbrev cX4_get : ByteArray := prog_6_method_20_code
def yX4_get : MethodName := ⟨RX4, "get", "(II)I"⟩
abbrev cX4_parts : ByteArray := prog_6_method_21_code
def yX4_parts : MethodName := ⟨RX4, "parts", "(I)I"⟩
abbrev cX4_part : ByteArray := prog_6_method_22_code
def yX4_part : MethodName := ⟨RX4, "part", "(II)I"⟩
abbrev cX4_has : ByteArray := prog_6_method_23_code
def yX4_has : MethodName := ⟨RX4, "has", "(II)Z"⟩
abbrev cX4_about : ByteArray := prog_6_method_24_code
def yX4_about : MethodName := ⟨RX4, "about", "(II)I"⟩
abbrev cX4_common : ByteArray := prog_6_method_25_code
def yX4_common : MethodName := ⟨RX4, "common", "(II)I"⟩
abbrev cX4_all : ByteArray := prog_6_method_26_code
def yX4_all : MethodName := ⟨RX4, "all", "(I)I"⟩
def RJx8e188 : String := "java/lang/Cloneable"
def TJx8e188 : u_T := fun k => match k with
  | _ => ("", "", "", false)
def tyJx8e188 : Nat → FieldType := fun k => match k with
  | _ => .int
abbrev wsJx8e1880 : List Cond := u_ws RJx8e188 TJx8e188 0
theorem nmJx8e188 : ∀ a, a < 0 → ∀ b, b < 0 → a ≠ b → (TJx8e188 a).2.1 ≠ (TJx8e188 b).2.1 := by decide +kernel
theorem tyJx8e188_ok : ∀ k, k < 0 → parseFieldDescriptor (TJx8e188 k).2.2.1 = some (tyJx8e188 k) := by decide +kernel
def RJ9 : String := "java/lang/Math"
def TJ9 : u_T := fun k => match k with
  | _ => ("", "", "", false)
def tyJ9 : Nat → FieldType := fun k => match k with
  | _ => .int
abbrev wsJ90 : List Cond := u_ws RJ9 TJ9 0
theorem nmJ9 : ∀ a, a < 0 → ∀ b, b < 0 → a ≠ b → (TJ9 a).2.1 ≠ (TJ9 b).2.1 := by decide +kernel
theorem tyJ9_ok : ∀ k, k < 0 → parseFieldDescriptor (TJ9 k).2.2.1 = some (tyJ9 k) := by decide +kernel
abbrev cJ9_max_7cf53 : ByteArray := prog_11_method_65_code
def yJ9_max_7cf53 : MethodName := ⟨RJ9, "max", "(II)I"⟩
abbrev cJ9_min_7cf53 : ByteArray := prog_11_method_69_code
def yJ9_min_7cf53 : MethodName := ⟨RJ9, "min", "(II)I"⟩
def RJ0 : String := "java/lang/String"
def TJ0 : u_T := fun k => match k with
  | _ => ("", "", "", false)
def tyJ0 : Nat → FieldType := fun k => match k with
  | _ => .int
abbrev wsJ00 : List Cond := u_ws RJ0 TJ0 0
theorem nmJ0 : ∀ a, a < 0 → ∀ b, b < 0 → a ≠ b → (TJ0 a).2.1 ≠ (TJ0 b).2.1 := by decide +kernel
theorem tyJ0_ok : ∀ k, k < 0 → parseFieldDescriptor (TJ0 k).2.2.1 = some (tyJ0 k) := by decide +kernel
def RJ10 : String := "java/lang/System"
def TJ10 : u_T := fun k => match k with
  | _ => ("", "", "", false)
def tyJ10 : Nat → FieldType := fun k => match k with
  | _ => .int
abbrev wsJ100 : List Cond := u_ws RJ10 TJ10 0
theorem nmJ10 : ∀ a, a < 0 → ∀ b, b < 0 → a ≠ b → (TJ10 a).2.1 ≠ (TJ10 b).2.1 := by decide +kernel
theorem tyJ10_ok : ∀ k, k < 0 → parseFieldDescriptor (TJ10 k).2.2.1 = some (tyJ10 k) := by decide +kernel
def RJ7 : String := "java/util/Arrays"
def TJ7 : u_T := fun k => match k with
  | _ => ("", "", "", false)
def tyJ7 : Nat → FieldType := fun k => match k with
  | _ => .int
abbrev wsJ70 : List Cond := u_ws RJ7 TJ7 0
theorem nmJ7 : ∀ a, a < 0 → ∀ b, b < 0 → a ≠ b → (TJ7 a).2.1 ≠ (TJ7 b).2.1 := by decide +kernel
theorem tyJ7_ok : ∀ k, k < 0 → parseFieldDescriptor (TJ7 k).2.2.1 = some (tyJ7 k) := by decide +kernel
abbrev cJ7_fill_53178 : ByteArray := prog_17_method_103_code
def yJ7_fill_53178 : MethodName := ⟨RJ7, "fill", "([II)V"⟩
abbrev cJ7_copyOf_9075b : ByteArray := prog_17_method_121_code
def yJ7_copyOf_9075b : MethodName := ⟨RJ7, "copyOf", "([BI)[B"⟩
def wsX0_init : List Cond := .code yX0_init cX0_init 1 none :: ([.methodLink RX0 3 objectInit, .instanceMethod objectInit, .code objectInit ⟨#[0xb1]⟩ 1 none, .arrayClass .int, .fieldLink RX0 11 "CutYard$Content" "numbers" "[I", .fieldLink RX0 15 "CutYard$Content" "count" "I", .fieldLink RX0 19 "CutYard$Content" "bytes" "I"] ++ wsX00)
def wsX0_empty : List Cond := .code yX0_empty cX0_empty 1 none :: ([.fieldLink RX0 15 "CutYard$Content" "count" "I", .fieldLink RX0 19 "CutYard$Content" "bytes" "I"] ++ wsX00)
def wsX0_become : List Cond := .code yX0_become cX0_become 4 none :: ([.fieldLink RX0 11 "CutYard$Content" "numbers" "[I", .methodLink RX0 22 Lib.Math.max.name, .static Lib.Math.max.name, .initialized "java/lang/Math", .code Lib.Math.max.name Lib.Math.max.code 2 (some .int), .methodLink RX0 28 Lib.Math.min.name, .static Lib.Math.min.name, .code Lib.Math.min.name Lib.Math.min.code 2 (some .int), .arrayClass .int, .methodLink RX0 31 arraycopyName, .native arraycopyName, .static arraycopyName, .initialized "java/lang/System", .fieldLink RX0 15 "CutYard$Content" "count" "I", .fieldLink RX0 19 "CutYard$Content" "bytes" "I"] ++ wsX00)
def wsX0_hasNumber : List Cond := .code yX0_hasNumber cX0_hasNumber 3 (some .boolean) :: ([.fieldLink RX0 15 "CutYard$Content" "count" "I", .fieldLink RX0 11 "CutYard$Content" "numbers" "[I"] ++ wsX00)
def wsX1_init : List Cond := .code yX1_init cX1_init 1 none :: ([.methodLink RX1 1 objectInit, .instanceMethod objectInit, .code objectInit ⟨#[0xb1]⟩ 1 none, .fieldLink RX1 7 "CutYard$Cutter" "mask" "I", .fieldLink RX1 13 "CutYard$Cutter" "least" "I", .fieldLink RX1 16 "CutYard$Cutter" "most" "I"] ++ wsX10)
def wsX1_setRule : List Cond := .code yX1_setRule cX1_setRule 4 none :: ([.fieldLink RX1 7 "CutYard$Cutter" "mask" "I", .fieldLink RX1 13 "CutYard$Cutter" "least" "I", .fieldLink RX1 16 "CutYard$Cutter" "most" "I"] ++ wsX10)
def wsX1_turned : List Cond := .code yX1_turned cX1_turned 2 (some .int) :: ([])
def wsX1_mark : List Cond := .code yX1_mark cX1_mark 2 (some .int) :: ([.constant RX1 32 (-1640531527)])
def wsX1_endOfPart : List Cond := .code yX1_endOfPart cX1_endOfPart 7 (some .int) :: ([.fieldLink RX1 16 "CutYard$Cutter" "most" "I", .methodLink RX1 19 Lib.Math.min.name, .static Lib.Math.min.name, .initialized "java/lang/Math", .code Lib.Math.min.name Lib.Math.min.code 2 (some .int), .fieldLink RX1 13 "CutYard$Cutter" "least" "I", .fieldLink RX1 7 "CutYard$Cutter" "mask" "I", .methodLink RX1 25 yX1_turned, .static yX1_turned, .initialized RX1, .code yX1_turned cX1_turned 2 (some .int), .methodLink RX1 28 yX1_mark, .static yX1_mark, .code yX1_mark cX1_mark 2 (some .int), .constant RX1 32 (-1640531527)] ++ wsX10)
def wsJ7_fill_53178 : List Cond := .code yJ7_fill_53178 cJ7_fill_53178 4 none :: ([])
def wsX2_init : List Cond := .code yX2_init cX2_init 1 none :: ([.methodLink RX2 3 objectInit, .instanceMethod objectInit, .code objectInit ⟨#[0xb1]⟩ 1 none, .arrayClass .int, .fieldLink RX2 9 "CutYard$Stock" "uses" "[I", .fieldLink RX2 15 "CutYard$Stock" "lengths" "[I", .fieldLink RX2 18 "CutYard$Stock" "hashes" "[I", .fieldLink RX2 21 "CutYard$Stock" "next" "[I", .fieldLink RX2 24 "CutYard$Stock" "heads" "[I", .arrayClass .byte, .fieldLink RX2 27 "CutYard$Stock" "room" "[B", .fieldLink RX2 31 "CutYard$Stock" "lowest" "I", .fieldLink RX2 35 "CutYard$Stock" "count" "I", .fieldLink RX2 38 "CutYard$Stock" "bytes" "I", .methodLink RX2 41 yJ7_fill_53178, .static yJ7_fill_53178, .initialized RJ7, .code yJ7_fill_53178 cJ7_fill_53178 4 none] ++ wsX20)
def wsX2_empty : List Cond := .code yX2_empty cX2_empty 1 none :: ([.fieldLink RX2 9 "CutYard$Stock" "uses" "[I", .fieldLink RX2 24 "CutYard$Stock" "heads" "[I", .fieldLink RX2 31 "CutYard$Stock" "lowest" "I", .fieldLink RX2 35 "CutYard$Stock" "count" "I", .fieldLink RX2 38 "CutYard$Stock" "bytes" "I", .methodLink RX2 41 yJ7_fill_53178, .static yJ7_fill_53178, .initialized RJ7, .code yJ7_fill_53178 cJ7_fill_53178 4 none] ++ wsX20)
def wsX2_has : List Cond := .code yX2_has cX2_has 2 (some .boolean) :: ([.fieldLink RX2 9 "CutYard$Stock" "uses" "[I"] ++ wsX20)
def wsX2_usesOf : List Cond := .code yX2_usesOf cX2_usesOf 2 (some .int) :: ([.fieldLink RX2 9 "CutYard$Stock" "uses" "[I", .methodLink RX2 47 yX2_has, .instanceMethod yX2_has, .selects RX2 yX2_has yX2_has, .initialized RX2, .code yX2_has cX2_has 2 (some .boolean)] ++ wsX20)
def wsX2_lengthOf : List Cond := .code yX2_lengthOf cX2_lengthOf 2 (some .int) :: ([.fieldLink RX2 15 "CutYard$Stock" "lengths" "[I", .methodLink RX2 47 yX2_has, .instanceMethod yX2_has, .selects RX2 yX2_has yX2_has, .initialized RX2, .code yX2_has cX2_has 2 (some .boolean), .fieldLink RX2 9 "CutYard$Stock" "uses" "[I"] ++ wsX20)
def wsX2_byteOf : List Cond := .code yX2_byteOf cX2_byteOf 3 (some .int) :: ([.fieldLink RX2 27 "CutYard$Stock" "room" "[B", .methodLink RX2 51 yX2_lengthOf, .instanceMethod yX2_lengthOf, .selects RX2 yX2_lengthOf yX2_lengthOf, .initialized RX2, .code yX2_lengthOf cX2_lengthOf 2 (some .int), .fieldLink RX2 15 "CutYard$Stock" "lengths" "[I", .methodLink RX2 47 yX2_has, .instanceMethod yX2_has, .selects RX2 yX2_has yX2_has, .code yX2_has cX2_has 2 (some .boolean), .fieldLink RX2 9 "CutYard$Stock" "uses" "[I"] ++ wsX20)
def wsX2_writeOut : List Cond := .code yX2_writeOut cX2_writeOut 5 (some .int) :: ([.fieldLink RX2 27 "CutYard$Stock" "room" "[B", .methodLink RX2 55 arraycopyName, .native arraycopyName, .static arraycopyName, .initialized "java/lang/System", .methodLink RX2 51 yX2_lengthOf, .instanceMethod yX2_lengthOf, .selects RX2 yX2_lengthOf yX2_lengthOf, .initialized RX2, .code yX2_lengthOf cX2_lengthOf 2 (some .int), .fieldLink RX2 15 "CutYard$Stock" "lengths" "[I", .methodLink RX2 47 yX2_has, .instanceMethod yX2_has, .selects RX2 yX2_has yX2_has, .code yX2_has cX2_has 2 (some .boolean), .fieldLink RX2 9 "CutYard$Stock" "uses" "[I"] ++ wsX20)
def wsX2_useAgain : List Cond := .code yX2_useAgain cX2_useAgain 2 none :: ([.fieldLink RX2 9 "CutYard$Stock" "uses" "[I", .methodLink RX2 47 yX2_has, .instanceMethod yX2_has, .selects RX2 yX2_has yX2_has, .initialized RX2, .code yX2_has cX2_has 2 (some .boolean)] ++ wsX20)
def wsX2_hashOf : List Cond := .code yX2_hashOf cX2_hashOf 5 (some .int) :: ([])
def wsX2_sameBytes : List Cond := .code yX2_sameBytes cX2_sameBytes 6 (some .boolean) :: ([.fieldLink RX2 15 "CutYard$Stock" "lengths" "[I", .fieldLink RX2 27 "CutYard$Stock" "room" "[B"] ++ wsX20)
def wsX2_find : List Cond := .code yX2_find cX2_find 7 (some .int) :: ([.fieldLink RX2 24 "CutYard$Stock" "heads" "[I", .fieldLink RX2 18 "CutYard$Stock" "hashes" "[I", .fieldLink RX2 15 "CutYard$Stock" "lengths" "[I", .fieldLink RX2 21 "CutYard$Stock" "next" "[I", .methodLink RX2 47 yX2_has, .instanceMethod yX2_has, .selects RX2 yX2_has yX2_has, .initialized RX2, .code yX2_has cX2_has 2 (some .boolean), .fieldLink RX2 9 "CutYard$Stock" "uses" "[I", .methodLink RX2 85 yX2_sameBytes, .instanceMethod yX2_sameBytes, .selects RX2 yX2_sameBytes yX2_sameBytes, .code yX2_sameBytes cX2_sameBytes 6 (some .boolean), .fieldLink RX2 27 "CutYard$Stock" "room" "[B"] ++ wsX20)
def wsX2_leastFree : List Cond := .code yX2_leastFree cX2_leastFree 1 (some .int) :: ([.fieldLink RX2 31 "CutYard$Stock" "lowest" "I", .fieldLink RX2 9 "CutYard$Stock" "uses" "[I"] ++ wsX20)
def wsJ7_copyOf_9075b : List Cond := .code yJ7_copyOf_9075b cJ7_copyOf_9075b 3 (some (.array .byte)) :: ([.methodLink RJ7 310 ⟨"[B", "clone", "()Ljava/lang/Object;"⟩, .sameMethod "[B" "java/lang/Object" "clone" "()Ljava/lang/Object;", .native ⟨"java/lang/Object", "clone", "()Ljava/lang/Object;"⟩, .instanceMethod ⟨"java/lang/Object", "clone", "()Ljava/lang/Object;"⟩, .selects "[B" ⟨"[B", "clone", "()Ljava/lang/Object;"⟩ ⟨"java/lang/Object", "clone", "()Ljava/lang/Object;"⟩, .classLink RJ7 311 "[B", .arrayClass .byte, .methodLink RJ7 304 Lib.Math.min.name, .static Lib.Math.min.name, .initialized "java/lang/Math", .code Lib.Math.min.name Lib.Math.min.code 2 (some .int), .methodLink RJ7 150 arraycopyName, .native arraycopyName, .static arraycopyName, .initialized "java/lang/System"])
def wsX2_makeRoomFor : List Cond := .code yX2_makeRoomFor cX2_makeRoomFor 3 none :: ([.fieldLink RX2 27 "CutYard$Stock" "room" "[B", .methodLink RX2 96 Lib.Math.max.name, .static Lib.Math.max.name, .initialized "java/lang/Math", .code Lib.Math.max.name Lib.Math.max.code 2 (some .int), .methodLink RX2 79 Lib.Math.min.name, .static Lib.Math.min.name, .code Lib.Math.min.name Lib.Math.min.code 2 (some .int), .methodLink RX2 99 yJ7_copyOf_9075b, .static yJ7_copyOf_9075b, .initialized RJ7, .code yJ7_copyOf_9075b cJ7_copyOf_9075b 3 (some (.array .byte)), .methodLink RJ7 310 ⟨"[B", "clone", "()Ljava/lang/Object;"⟩, .sameMethod "[B" "java/lang/Object" "clone" "()Ljava/lang/Object;", .native ⟨"java/lang/Object", "clone", "()Ljava/lang/Object;"⟩, .instanceMethod ⟨"java/lang/Object", "clone", "()Ljava/lang/Object;"⟩, .selects "[B" ⟨"[B", "clone", "()Ljava/lang/Object;"⟩ ⟨"java/lang/Object", "clone", "()Ljava/lang/Object;"⟩, .classLink RJ7 311 "[B", .arrayClass .byte, .methodLink RJ7 304 Lib.Math.min.name, .methodLink RJ7 150 arraycopyName, .native arraycopyName, .static arraycopyName, .initialized "java/lang/System"] ++ wsX20)
def wsX2_add_r1 : List Cond := [Cond.fieldLink RX2 27 "CutYard$Stock" "room" "[B", Cond.methodLink RX2 55 arraycopyName, Cond.native arraycopyName, Cond.static arraycopyName, Cond.initialized "java/lang/System", Cond.fieldLink RX2 9 "CutYard$Stock" "uses" "[I", Cond.fieldLink RX2 15 "CutYard$Stock" "lengths" "[I", Cond.fieldLink RX2 18 "CutYard$Stock" "hashes" "[I", Cond.fieldLink RX2 21 "CutYard$Stock" "next" "[I", Cond.fieldLink RX2 24 "CutYard$Stock" "heads" "[I", Cond.fieldLink RX2 35 "CutYard$Stock" "count" "I", Cond.fieldLink RX2 38 "CutYard$Stock" "bytes" "I", Cond.methodLink RX2 89 yX2_leastFree, Cond.instanceMethod yX2_leastFree, Cond.selects RX2 yX2_leastFree yX2_leastFree, Cond.initialized RX2, Cond.code yX2_leastFree cX2_leastFree 1 (some .int), Cond.fieldLink RX2 31 "CutYard$Stock" "lowest" "I", Cond.methodLink RX2 93 yX2_makeRoomFor, Cond.instanceMethod yX2_makeRoomFor, Cond.selects RX2 yX2_makeRoomFor yX2_makeRoomFor, Cond.code yX2_makeRoomFor cX2_makeRoomFor 3 none, Cond.methodLink RX2 96 Lib.Math.max.name, Cond.static Lib.Math.max.name]
def wsX2_add_r2 : List Cond := [Cond.initialized "java/lang/Math", Cond.code Lib.Math.max.name Lib.Math.max.code 2 (some .int), Cond.methodLink RX2 79 Lib.Math.min.name, Cond.static Lib.Math.min.name, Cond.code Lib.Math.min.name Lib.Math.min.code 2 (some .int), Cond.methodLink RX2 99 yJ7_copyOf_9075b, Cond.static yJ7_copyOf_9075b, Cond.initialized RJ7, Cond.code yJ7_copyOf_9075b cJ7_copyOf_9075b 3 (some (.array .byte)), Cond.methodLink RJ7 310 ⟨"[B", "clone", "()Ljava/lang/Object;"⟩, Cond.sameMethod "[B" "java/lang/Object" "clone" "()Ljava/lang/Object;", Cond.native ⟨"java/lang/Object", "clone", "()Ljava/lang/Object;"⟩, Cond.instanceMethod ⟨"java/lang/Object", "clone", "()Ljava/lang/Object;"⟩, Cond.selects "[B" ⟨"[B", "clone", "()Ljava/lang/Object;"⟩ ⟨"java/lang/Object", "clone", "()Ljava/lang/Object;"⟩, Cond.classLink RJ7 311 "[B", Cond.arrayClass .byte, Cond.methodLink RJ7 304 Lib.Math.min.name, Cond.methodLink RJ7 150 arraycopyName]
def wsX2_add : List Cond := .code yX2_add cX2_add 6 (some .int) :: ((wsX2_add_r1 ++ wsX2_add_r2) ++ wsX20)
def wsX2_take_r1 : List Cond := [Cond.methodLink RX2 61 yX2_hashOf, Cond.static yX2_hashOf, Cond.initialized RX2, Cond.code yX2_hashOf cX2_hashOf 5 (some .int), Cond.methodLink RX2 65 yX2_find, Cond.instanceMethod yX2_find, Cond.selects RX2 yX2_find yX2_find, Cond.code yX2_find cX2_find 7 (some .int), Cond.fieldLink RX2 24 "CutYard$Stock" "heads" "[I", Cond.fieldLink RX2 18 "CutYard$Stock" "hashes" "[I", Cond.fieldLink RX2 15 "CutYard$Stock" "lengths" "[I", Cond.fieldLink RX2 21 "CutYard$Stock" "next" "[I", Cond.methodLink RX2 47 yX2_has, Cond.instanceMethod yX2_has, Cond.selects RX2 yX2_has yX2_has, Cond.code yX2_has cX2_has 2 (some .boolean), Cond.fieldLink RX2 9 "CutYard$Stock" "uses" "[I", Cond.methodLink RX2 85 yX2_sameBytes, Cond.instanceMethod yX2_sameBytes, Cond.selects RX2 yX2_sameBytes yX2_sameBytes, Cond.code yX2_sameBytes cX2_sameBytes 6 (some .boolean), Cond.fieldLink RX2 27 "CutYard$Stock" "room" "[B", Cond.methodLink RX2 69 yX2_add, Cond.instanceMethod yX2_add]
def wsX2_take_r2 : List Cond := [Cond.selects RX2 yX2_add yX2_add, Cond.code yX2_add cX2_add 6 (some .int), Cond.methodLink RX2 55 arraycopyName, Cond.native arraycopyName, Cond.static arraycopyName, Cond.initialized "java/lang/System", Cond.fieldLink RX2 35 "CutYard$Stock" "count" "I", Cond.fieldLink RX2 38 "CutYard$Stock" "bytes" "I", Cond.methodLink RX2 89 yX2_leastFree, Cond.instanceMethod yX2_leastFree, Cond.selects RX2 yX2_leastFree yX2_leastFree, Cond.code yX2_leastFree cX2_leastFree 1 (some .int), Cond.fieldLink RX2 31 "CutYard$Stock" "lowest" "I", Cond.methodLink RX2 93 yX2_makeRoomFor, Cond.instanceMethod yX2_makeRoomFor, Cond.selects RX2 yX2_makeRoomFor yX2_makeRoomFor, Cond.code yX2_makeRoomFor cX2_makeRoomFor 3 none, Cond.methodLink RX2 96 Lib.Math.max.name, Cond.static Lib.Math.max.name, Cond.initialized "java/lang/Math", Cond.code Lib.Math.max.name Lib.Math.max.code 2 (some .int), Cond.methodLink RX2 79 Lib.Math.min.name, Cond.static Lib.Math.min.name, Cond.code Lib.Math.min.name Lib.Math.min.code 2 (some .int)]
def wsX2_take_r3 : List Cond := [Cond.methodLink RX2 99 yJ7_copyOf_9075b, Cond.static yJ7_copyOf_9075b, Cond.initialized RJ7, Cond.code yJ7_copyOf_9075b cJ7_copyOf_9075b 3 (some (.array .byte)), Cond.methodLink RJ7 310 ⟨"[B", "clone", "()Ljava/lang/Object;"⟩, Cond.sameMethod "[B" "java/lang/Object" "clone" "()Ljava/lang/Object;", Cond.native ⟨"java/lang/Object", "clone", "()Ljava/lang/Object;"⟩, Cond.instanceMethod ⟨"java/lang/Object", "clone", "()Ljava/lang/Object;"⟩, Cond.selects "[B" ⟨"[B", "clone", "()Ljava/lang/Object;"⟩ ⟨"java/lang/Object", "clone", "()Ljava/lang/Object;"⟩, Cond.classLink RJ7 311 "[B", Cond.arrayClass .byte, Cond.methodLink RJ7 304 Lib.Math.min.name, Cond.methodLink RJ7 150 arraycopyName, Cond.methodLink RX2 72 yX2_useAgain, Cond.instanceMethod yX2_useAgain, Cond.selects RX2 yX2_useAgain yX2_useAgain, Cond.code yX2_useAgain cX2_useAgain 2 none]
def wsX2_take : List Cond := .code yX2_take cX2_take 6 (some .int) :: ((wsX2_take_r1 ++ (wsX2_take_r2 ++ wsX2_take_r3)) ++ wsX20)
def wsX2_unchain : List Cond := .code yX2_unchain cX2_unchain 5 none :: ([.fieldLink RX2 18 "CutYard$Stock" "hashes" "[I", .fieldLink RX2 24 "CutYard$Stock" "heads" "[I", .fieldLink RX2 21 "CutYard$Stock" "next" "[I", .methodLink RX2 47 yX2_has, .instanceMethod yX2_has, .selects RX2 yX2_has yX2_has, .initialized RX2, .code yX2_has cX2_has 2 (some .boolean), .fieldLink RX2 9 "CutYard$Stock" "uses" "[I"] ++ wsX20)
def wsX2_giveBack : List Cond := .code yX2_giveBack cX2_giveBack 2 none :: ([.fieldLink RX2 9 "CutYard$Stock" "uses" "[I", .fieldLink RX2 31 "CutYard$Stock" "lowest" "I", .methodLink RX2 79 Lib.Math.min.name, .static Lib.Math.min.name, .initialized "java/lang/Math", .code Lib.Math.min.name Lib.Math.min.code 2 (some .int), .fieldLink RX2 35 "CutYard$Stock" "count" "I", .fieldLink RX2 38 "CutYard$Stock" "bytes" "I", .fieldLink RX2 15 "CutYard$Stock" "lengths" "[I", .methodLink RX2 47 yX2_has, .instanceMethod yX2_has, .selects RX2 yX2_has yX2_has, .initialized RX2, .code yX2_has cX2_has 2 (some .boolean), .methodLink RX2 76 yX2_unchain, .instanceMethod yX2_unchain, .selects RX2 yX2_unchain yX2_unchain, .code yX2_unchain cX2_unchain 5 none, .fieldLink RX2 18 "CutYard$Stock" "hashes" "[I", .fieldLink RX2 24 "CutYard$Stock" "heads" "[I", .fieldLink RX2 21 "CutYard$Stock" "next" "[I"] ++ wsX20)
def wsX3_init_r1 : List Cond := [Cond.methodLink RX3 1 objectInit, Cond.instanceMethod objectInit, Cond.code objectInit ⟨#[0xb1]⟩ 1 none, Cond.classLink RX3 7 RX1, Cond.instantiable RX1 3, Cond.initialized RX1, Cond.fieldLink RX3 10 "CutYard" "cutter" "LCutYard$Cutter;", Cond.classLink RX3 16 RX2, Cond.instantiable RX2 9, Cond.initialized RX2, Cond.fieldLink RX3 19 "CutYard" "stock" "LCutYard$Stock;", Cond.classLink RX3 23 RX0, Cond.fieldLink RX3 25 "CutYard" "files" "[LCutYard$Content;", Cond.arrayClass .byte, Cond.fieldLink RX3 29 "CutYard" "hand" "[B", Cond.fieldLink RX3 33 "CutYard" "inHand" "I", Cond.fieldLink RX3 37 "CutYard" "work" "[B", Cond.arrayClass .int, Cond.fieldLink RX3 40 "CutYard" "taken" "[I", Cond.fieldLink RX3 44 "CutYard" "seen" "[I", Cond.instantiable RX0 3, Cond.initialized RX0, Cond.instanceMethod yX1_init, Cond.code yX1_init cX1_init 1 none]
def wsX3_init_r2 : List Cond := [Cond.methodLink RX1 1 objectInit, Cond.fieldLink RX1 7 "CutYard$Cutter" "mask" "I", Cond.fieldLink RX1 13 "CutYard$Cutter" "least" "I", Cond.fieldLink RX1 16 "CutYard$Cutter" "most" "I", Cond.methodLink RX3 18 yX2_init, Cond.instanceMethod yX2_init, Cond.code yX2_init cX2_init 1 none, Cond.methodLink RX2 3 objectInit, Cond.fieldLink RX2 9 "CutYard$Stock" "uses" "[I", Cond.fieldLink RX2 15 "CutYard$Stock" "lengths" "[I", Cond.fieldLink RX2 18 "CutYard$Stock" "hashes" "[I", Cond.fieldLink RX2 21 "CutYard$Stock" "next" "[I", Cond.fieldLink RX2 24 "CutYard$Stock" "heads" "[I", Cond.fieldLink RX2 27 "CutYard$Stock" "room" "[B", Cond.fieldLink RX2 31 "CutYard$Stock" "lowest" "I", Cond.fieldLink RX2 35 "CutYard$Stock" "count" "I", Cond.fieldLink RX2 38 "CutYard$Stock" "bytes" "I", Cond.methodLink RX2 41 yJ7_fill_53178, Cond.static yJ7_fill_53178, Cond.initialized RJ7, Cond.code yJ7_fill_53178 cJ7_fill_53178 4 none, Cond.instanceMethod yX0_init, Cond.code yX0_init cX0_init 1 none, Cond.methodLink RX0 3 objectInit]
def wsX3_init_r3 : List Cond := [Cond.fieldLink RX0 11 "CutYard$Content" "numbers" "[I", Cond.fieldLink RX0 15 "CutYard$Content" "count" "I", Cond.fieldLink RX0 19 "CutYard$Content" "bytes" "I"]
def wsX3_init : List Cond := .code yX3_init cX3_init 2 none :: ((wsX3_init_r1 ++ (wsX3_init_r2 ++ wsX3_init_r3)) ++ wsX10 ++ wsX30 ++ wsX20 ++ wsX00)
def wsX3_begin_r1 : List Cond := [Cond.classLink RX3 48 "java/lang/IllegalArgumentException", Cond.initialized "java/lang/IllegalArgumentException", Cond.fieldLink RX3 10 "CutYard" "cutter" "LCutYard$Cutter;", Cond.fieldLink RX3 19 "CutYard" "stock" "LCutYard$Stock;", Cond.fieldLink RX3 25 "CutYard" "files" "[LCutYard$Content;", Cond.methodLink RX3 59 yX1_setRule, Cond.instanceMethod yX1_setRule, Cond.selects RX1 yX1_setRule yX1_setRule, Cond.initialized RX1, Cond.code yX1_setRule cX1_setRule 4 none, Cond.fieldLink RX1 7 "CutYard$Cutter" "mask" "I", Cond.fieldLink RX1 13 "CutYard$Cutter" "least" "I", Cond.fieldLink RX1 16 "CutYard$Cutter" "most" "I", Cond.methodLink RX3 63 yX2_empty, Cond.instanceMethod yX2_empty, Cond.selects RX2 yX2_empty yX2_empty, Cond.initialized RX2, Cond.code yX2_empty cX2_empty 1 none, Cond.fieldLink RX2 9 "CutYard$Stock" "uses" "[I", Cond.fieldLink RX2 24 "CutYard$Stock" "heads" "[I", Cond.fieldLink RX2 31 "CutYard$Stock" "lowest" "I", Cond.fieldLink RX2 35 "CutYard$Stock" "count" "I", Cond.fieldLink RX2 38 "CutYard$Stock" "bytes" "I", Cond.methodLink RX2 41 yJ7_fill_53178]
def wsX3_begin_r2 : List Cond := [Cond.static yJ7_fill_53178, Cond.initialized RJ7, Cond.code yJ7_fill_53178 cJ7_fill_53178 4 none, Cond.methodLink RX3 66 yX0_empty, Cond.instanceMethod yX0_empty, Cond.selects RX0 yX0_empty yX0_empty, Cond.initialized RX0, Cond.code yX0_empty cX0_empty 1 none, Cond.fieldLink RX0 15 "CutYard$Content" "count" "I", Cond.fieldLink RX0 19 "CutYard$Content" "bytes" "I"]
def wsX3_giveBack_r1 : List Cond := [Cond.fieldLink RX3 19 "CutYard" "stock" "LCutYard$Stock;", Cond.methodLink RX3 169 yX2_giveBack, Cond.instanceMethod yX2_giveBack, Cond.selects RX2 yX2_giveBack yX2_giveBack, Cond.initialized RX2, Cond.code yX2_giveBack cX2_giveBack 2 none, Cond.fieldLink RX2 9 "CutYard$Stock" "uses" "[I", Cond.fieldLink RX2 31 "CutYard$Stock" "lowest" "I", Cond.methodLink RX2 79 Lib.Math.min.name, Cond.static Lib.Math.min.name, Cond.initialized "java/lang/Math", Cond.code Lib.Math.min.name Lib.Math.min.code 2 (some .int), Cond.fieldLink RX2 35 "CutYard$Stock" "count" "I", Cond.fieldLink RX2 38 "CutYard$Stock" "bytes" "I", Cond.fieldLink RX2 15 "CutYard$Stock" "lengths" "[I", Cond.methodLink RX2 47 yX2_has, Cond.instanceMethod yX2_has, Cond.selects RX2 yX2_has yX2_has, Cond.code yX2_has cX2_has 2 (some .boolean), Cond.methodLink RX2 76 yX2_unchain, Cond.instanceMethod yX2_unchain, Cond.selects RX2 yX2_unchain yX2_unchain, Cond.code yX2_unchain cX2_unchain 5 none, Cond.fieldLink RX2 18 "CutYard$Stock" "hashes" "[I"]
def wsX3_giveBack_r2 : List Cond := [Cond.fieldLink RX2 24 "CutYard$Stock" "heads" "[I", Cond.fieldLink RX2 21 "CutYard$Stock" "next" "[I"]
def wsX3_giveBack : List Cond := .code yX3_giveBack cX3_giveBack 4 none :: ((wsX3_giveBack_r1 ++ wsX3_giveBack_r2) ++ wsX30 ++ wsX20)
def wsX3_takeParts_r1 : List Cond := [Cond.fieldLink RX3 10 "CutYard" "cutter" "LCutYard$Cutter;", Cond.fieldLink RX3 19 "CutYard" "stock" "LCutYard$Stock;", Cond.fieldLink RX3 40 "CutYard" "taken" "[I", Cond.methodLink RX3 162 yX1_endOfPart, Cond.instanceMethod yX1_endOfPart, Cond.selects RX1 yX1_endOfPart yX1_endOfPart, Cond.initialized RX1, Cond.code yX1_endOfPart cX1_endOfPart 7 (some .int), Cond.fieldLink RX1 16 "CutYard$Cutter" "most" "I", Cond.methodLink RX1 19 Lib.Math.min.name, Cond.static Lib.Math.min.name, Cond.initialized "java/lang/Math", Cond.code Lib.Math.min.name Lib.Math.min.code 2 (some .int), Cond.fieldLink RX1 13 "CutYard$Cutter" "least" "I", Cond.fieldLink RX1 7 "CutYard$Cutter" "mask" "I", Cond.methodLink RX1 25 yX1_turned, Cond.static yX1_turned, Cond.code yX1_turned cX1_turned 2 (some .int), Cond.methodLink RX1 28 yX1_mark, Cond.static yX1_mark, Cond.code yX1_mark cX1_mark 2 (some .int), Cond.constant RX1 32 (-1640531527), Cond.methodLink RX3 166 yX2_take, Cond.instanceMethod yX2_take]
def wsX3_takeParts_r2 : List Cond := [Cond.selects RX2 yX2_take yX2_take, Cond.initialized RX2, Cond.code yX2_take cX2_take 6 (some .int), Cond.methodLink RX2 61 yX2_hashOf, Cond.static yX2_hashOf, Cond.code yX2_hashOf cX2_hashOf 5 (some .int), Cond.methodLink RX2 65 yX2_find, Cond.instanceMethod yX2_find, Cond.selects RX2 yX2_find yX2_find, Cond.code yX2_find cX2_find 7 (some .int), Cond.fieldLink RX2 24 "CutYard$Stock" "heads" "[I", Cond.fieldLink RX2 18 "CutYard$Stock" "hashes" "[I", Cond.fieldLink RX2 15 "CutYard$Stock" "lengths" "[I", Cond.fieldLink RX2 21 "CutYard$Stock" "next" "[I", Cond.methodLink RX2 47 yX2_has, Cond.instanceMethod yX2_has, Cond.selects RX2 yX2_has yX2_has, Cond.code yX2_has cX2_has 2 (some .boolean), Cond.fieldLink RX2 9 "CutYard$Stock" "uses" "[I", Cond.methodLink RX2 85 yX2_sameBytes, Cond.instanceMethod yX2_sameBytes, Cond.selects RX2 yX2_sameBytes yX2_sameBytes, Cond.code yX2_sameBytes cX2_sameBytes 6 (some .boolean), Cond.fieldLink RX2 27 "CutYard$Stock" "room" "[B"]
def wsX3_takeParts_r3 : List Cond := [Cond.methodLink RX2 69 yX2_add, Cond.instanceMethod yX2_add, Cond.selects RX2 yX2_add yX2_add, Cond.code yX2_add cX2_add 6 (some .int), Cond.methodLink RX2 55 arraycopyName, Cond.native arraycopyName, Cond.static arraycopyName, Cond.initialized "java/lang/System", Cond.fieldLink RX2 35 "CutYard$Stock" "count" "I", Cond.fieldLink RX2 38 "CutYard$Stock" "bytes" "I", Cond.methodLink RX2 89 yX2_leastFree, Cond.instanceMethod yX2_leastFree, Cond.selects RX2 yX2_leastFree yX2_leastFree, Cond.code yX2_leastFree cX2_leastFree 1 (some .int), Cond.fieldLink RX2 31 "CutYard$Stock" "lowest" "I", Cond.methodLink RX2 93 yX2_makeRoomFor, Cond.instanceMethod yX2_makeRoomFor, Cond.selects RX2 yX2_makeRoomFor yX2_makeRoomFor, Cond.code yX2_makeRoomFor cX2_makeRoomFor 3 none, Cond.methodLink RX2 96 Lib.Math.max.name, Cond.static Lib.Math.max.name, Cond.code Lib.Math.max.name Lib.Math.max.code 2 (some .int), Cond.methodLink RX2 79 Lib.Math.min.name, Cond.methodLink RX2 99 yJ7_copyOf_9075b]
def wsX3_takeParts_r4 : List Cond := [Cond.static yJ7_copyOf_9075b, Cond.initialized RJ7, Cond.code yJ7_copyOf_9075b cJ7_copyOf_9075b 3 (some (.array .byte)), Cond.methodLink RJ7 310 ⟨"[B", "clone", "()Ljava/lang/Object;"⟩, Cond.sameMethod "[B" "java/lang/Object" "clone" "()Ljava/lang/Object;", Cond.native ⟨"java/lang/Object", "clone", "()Ljava/lang/Object;"⟩, Cond.instanceMethod ⟨"java/lang/Object", "clone", "()Ljava/lang/Object;"⟩, Cond.selects "[B" ⟨"[B", "clone", "()Ljava/lang/Object;"⟩ ⟨"java/lang/Object", "clone", "()Ljava/lang/Object;"⟩, Cond.classLink RJ7 311 "[B", Cond.arrayClass .byte, Cond.methodLink RJ7 304 Lib.Math.min.name, Cond.methodLink RJ7 150 arraycopyName, Cond.methodLink RX2 72 yX2_useAgain, Cond.instanceMethod yX2_useAgain, Cond.selects RX2 yX2_useAgain yX2_useAgain, Cond.code yX2_useAgain cX2_useAgain 2 none, Cond.methodLink RX3 109 yX3_giveBack, Cond.instanceMethod yX3_giveBack, Cond.selects RX3 yX3_giveBack yX3_giveBack, Cond.initialized RX3, Cond.code yX3_giveBack cX3_giveBack 4 none, Cond.methodLink RX3 169 yX2_giveBack, Cond.instanceMethod yX2_giveBack, Cond.selects RX2 yX2_giveBack yX2_giveBack]
def wsX3_takeParts_r5 : List Cond := [Cond.code yX2_giveBack cX2_giveBack 2 none, Cond.methodLink RX2 76 yX2_unchain, Cond.instanceMethod yX2_unchain, Cond.selects RX2 yX2_unchain yX2_unchain, Cond.code yX2_unchain cX2_unchain 5 none]
def wsX3_takeParts : List Cond := .code yX3_takeParts cX3_takeParts 7 (some .int) :: ((wsX3_takeParts_r1 ++ (wsX3_takeParts_r2 ++ (wsX3_takeParts_r3 ++ (wsX3_takeParts_r4 ++ wsX3_takeParts_r5)))) ++ wsX30 ++ wsX10 ++ wsX20)
def wsX3_fillFile_r1 : List Cond := [Cond.classLink RX3 69 "java/lang/UnsupportedOperationException", Cond.initialized "java/lang/UnsupportedOperationException", Cond.fieldLink RX3 19 "CutYard" "stock" "LCutYard$Stock;", Cond.fieldLink RX3 40 "CutYard" "taken" "[I", Cond.fieldLink RX3 33 "CutYard" "inHand" "I", Cond.methodLink RX3 156 yX3_takeParts, Cond.instanceMethod yX3_takeParts, Cond.selects RX3 yX3_takeParts yX3_takeParts, Cond.initialized RX3, Cond.code yX3_takeParts cX3_takeParts 7 (some .int), Cond.fieldLink RX3 10 "CutYard" "cutter" "LCutYard$Cutter;", Cond.methodLink RX3 162 yX1_endOfPart, Cond.instanceMethod yX1_endOfPart, Cond.selects RX1 yX1_endOfPart yX1_endOfPart, Cond.initialized RX1, Cond.code yX1_endOfPart cX1_endOfPart 7 (some .int), Cond.fieldLink RX1 16 "CutYard$Cutter" "most" "I", Cond.methodLink RX1 19 Lib.Math.min.name, Cond.static Lib.Math.min.name, Cond.initialized "java/lang/Math", Cond.code Lib.Math.min.name Lib.Math.min.code 2 (some .int), Cond.fieldLink RX1 13 "CutYard$Cutter" "least" "I", Cond.fieldLink RX1 7 "CutYard$Cutter" "mask" "I", Cond.methodLink RX1 25 yX1_turned]
def wsX3_fillFile_r2 : List Cond := [Cond.static yX1_turned, Cond.code yX1_turned cX1_turned 2 (some .int), Cond.methodLink RX1 28 yX1_mark, Cond.static yX1_mark, Cond.code yX1_mark cX1_mark 2 (some .int), Cond.constant RX1 32 (-1640531527), Cond.methodLink RX3 166 yX2_take, Cond.instanceMethod yX2_take, Cond.selects RX2 yX2_take yX2_take, Cond.initialized RX2, Cond.code yX2_take cX2_take 6 (some .int), Cond.methodLink RX2 61 yX2_hashOf, Cond.static yX2_hashOf, Cond.code yX2_hashOf cX2_hashOf 5 (some .int), Cond.methodLink RX2 65 yX2_find, Cond.instanceMethod yX2_find, Cond.selects RX2 yX2_find yX2_find, Cond.code yX2_find cX2_find 7 (some .int), Cond.fieldLink RX2 24 "CutYard$Stock" "heads" "[I", Cond.fieldLink RX2 18 "CutYard$Stock" "hashes" "[I", Cond.fieldLink RX2 15 "CutYard$Stock" "lengths" "[I", Cond.fieldLink RX2 21 "CutYard$Stock" "next" "[I", Cond.methodLink RX2 47 yX2_has, Cond.instanceMethod yX2_has]
def wsX3_fillFile_r3 : List Cond := [Cond.selects RX2 yX2_has yX2_has, Cond.code yX2_has cX2_has 2 (some .boolean), Cond.fieldLink RX2 9 "CutYard$Stock" "uses" "[I", Cond.methodLink RX2 85 yX2_sameBytes, Cond.instanceMethod yX2_sameBytes, Cond.selects RX2 yX2_sameBytes yX2_sameBytes, Cond.code yX2_sameBytes cX2_sameBytes 6 (some .boolean), Cond.fieldLink RX2 27 "CutYard$Stock" "room" "[B", Cond.methodLink RX2 69 yX2_add, Cond.instanceMethod yX2_add, Cond.selects RX2 yX2_add yX2_add, Cond.code yX2_add cX2_add 6 (some .int), Cond.methodLink RX2 55 arraycopyName, Cond.native arraycopyName, Cond.static arraycopyName, Cond.initialized "java/lang/System", Cond.fieldLink RX2 35 "CutYard$Stock" "count" "I", Cond.fieldLink RX2 38 "CutYard$Stock" "bytes" "I", Cond.methodLink RX2 89 yX2_leastFree, Cond.instanceMethod yX2_leastFree, Cond.selects RX2 yX2_leastFree yX2_leastFree, Cond.code yX2_leastFree cX2_leastFree 1 (some .int), Cond.fieldLink RX2 31 "CutYard$Stock" "lowest" "I", Cond.methodLink RX2 93 yX2_makeRoomFor]
def wsX3_fillFile_r4 : List Cond := [Cond.instanceMethod yX2_makeRoomFor, Cond.selects RX2 yX2_makeRoomFor yX2_makeRoomFor, Cond.code yX2_makeRoomFor cX2_makeRoomFor 3 none, Cond.methodLink RX2 96 Lib.Math.max.name, Cond.static Lib.Math.max.name, Cond.code Lib.Math.max.name Lib.Math.max.code 2 (some .int), Cond.methodLink RX2 79 Lib.Math.min.name, Cond.methodLink RX2 99 yJ7_copyOf_9075b, Cond.static yJ7_copyOf_9075b, Cond.initialized RJ7, Cond.code yJ7_copyOf_9075b cJ7_copyOf_9075b 3 (some (.array .byte)), Cond.methodLink RJ7 310 ⟨"[B", "clone", "()Ljava/lang/Object;"⟩, Cond.sameMethod "[B" "java/lang/Object" "clone" "()Ljava/lang/Object;", Cond.native ⟨"java/lang/Object", "clone", "()Ljava/lang/Object;"⟩, Cond.instanceMethod ⟨"java/lang/Object", "clone", "()Ljava/lang/Object;"⟩, Cond.selects "[B" ⟨"[B", "clone", "()Ljava/lang/Object;"⟩ ⟨"java/lang/Object", "clone", "()Ljava/lang/Object;"⟩, Cond.classLink RJ7 311 "[B", Cond.arrayClass .byte, Cond.methodLink RJ7 304 Lib.Math.min.name, Cond.methodLink RJ7 150 arraycopyName, Cond.methodLink RX2 72 yX2_useAgain, Cond.instanceMethod yX2_useAgain, Cond.selects RX2 yX2_useAgain yX2_useAgain, Cond.code yX2_useAgain cX2_useAgain 2 none]
def wsX3_fillFile_r5 : List Cond := [Cond.methodLink RX3 109 yX3_giveBack, Cond.instanceMethod yX3_giveBack, Cond.selects RX3 yX3_giveBack yX3_giveBack, Cond.code yX3_giveBack cX3_giveBack 4 none, Cond.methodLink RX3 169 yX2_giveBack, Cond.instanceMethod yX2_giveBack, Cond.selects RX2 yX2_giveBack yX2_giveBack, Cond.code yX2_giveBack cX2_giveBack 2 none, Cond.methodLink RX2 76 yX2_unchain, Cond.instanceMethod yX2_unchain, Cond.selects RX2 yX2_unchain yX2_unchain, Cond.code yX2_unchain cX2_unchain 5 none, Cond.methodLink RX3 113 yX0_become, Cond.instanceMethod yX0_become, Cond.selects RX0 yX0_become yX0_become, Cond.initialized RX0, Cond.code yX0_become cX0_become 4 none, Cond.fieldLink RX0 11 "CutYard$Content" "numbers" "[I", Cond.methodLink RX0 22 Lib.Math.max.name, Cond.methodLink RX0 28 Lib.Math.min.name, Cond.arrayClass .int, Cond.methodLink RX0 31 arraycopyName, Cond.fieldLink RX0 15 "CutYard$Content" "count" "I", Cond.fieldLink RX0 19 "CutYard$Content" "bytes" "I"]
def wsX3_store_r1 : List Cond := [Cond.fieldLink RX3 29 "CutYard" "hand" "[B", Cond.fieldLink RX3 33 "CutYard" "inHand" "I", Cond.methodLink RX3 74 yX3_fileAt, Cond.instanceMethod yX3_fileAt, Cond.selects RX3 yX3_fileAt yX3_fileAt, Cond.initialized RX3, Cond.code yX3_fileAt cX3_fileAt 2 (some (.object "CutYard$Content")), Cond.classLink RX3 117 "java/lang/IndexOutOfBoundsException", Cond.initialized "java/lang/IndexOutOfBoundsException", Cond.fieldLink RX3 25 "CutYard" "files" "[LCutYard$Content;", Cond.methodLink RX3 78 yX3_fillFile, Cond.instanceMethod yX3_fillFile, Cond.selects RX3 yX3_fillFile yX3_fillFile, Cond.code yX3_fillFile cX3_fillFile 7 (some .int), Cond.classLink RX3 69 "java/lang/UnsupportedOperationException", Cond.initialized "java/lang/UnsupportedOperationException", Cond.fieldLink RX3 19 "CutYard" "stock" "LCutYard$Stock;", Cond.fieldLink RX3 40 "CutYard" "taken" "[I", Cond.methodLink RX3 156 yX3_takeParts, Cond.instanceMethod yX3_takeParts, Cond.selects RX3 yX3_takeParts yX3_takeParts, Cond.code yX3_takeParts cX3_takeParts 7 (some .int), Cond.fieldLink RX3 10 "CutYard" "cutter" "LCutYard$Cutter;", Cond.methodLink RX3 162 yX1_endOfPart]
def wsX3_store_r2 : List Cond := [Cond.instanceMethod yX1_endOfPart, Cond.selects RX1 yX1_endOfPart yX1_endOfPart, Cond.initialized RX1, Cond.code yX1_endOfPart cX1_endOfPart 7 (some .int), Cond.fieldLink RX1 16 "CutYard$Cutter" "most" "I", Cond.methodLink RX1 19 Lib.Math.min.name, Cond.static Lib.Math.min.name, Cond.initialized "java/lang/Math", Cond.code Lib.Math.min.name Lib.Math.min.code 2 (some .int), Cond.fieldLink RX1 13 "CutYard$Cutter" "least" "I", Cond.fieldLink RX1 7 "CutYard$Cutter" "mask" "I", Cond.methodLink RX1 25 yX1_turned, Cond.static yX1_turned, Cond.code yX1_turned cX1_turned 2 (some .int), Cond.methodLink RX1 28 yX1_mark, Cond.static yX1_mark, Cond.code yX1_mark cX1_mark 2 (some .int), Cond.constant RX1 32 (-1640531527), Cond.methodLink RX3 166 yX2_take, Cond.instanceMethod yX2_take, Cond.selects RX2 yX2_take yX2_take, Cond.initialized RX2, Cond.code yX2_take cX2_take 6 (some .int), Cond.methodLink RX2 61 yX2_hashOf]
def wsX3_store_r3 : List Cond := [Cond.static yX2_hashOf, Cond.code yX2_hashOf cX2_hashOf 5 (some .int), Cond.methodLink RX2 65 yX2_find, Cond.instanceMethod yX2_find, Cond.selects RX2 yX2_find yX2_find, Cond.code yX2_find cX2_find 7 (some .int), Cond.fieldLink RX2 24 "CutYard$Stock" "heads" "[I", Cond.fieldLink RX2 18 "CutYard$Stock" "hashes" "[I", Cond.fieldLink RX2 15 "CutYard$Stock" "lengths" "[I", Cond.fieldLink RX2 21 "CutYard$Stock" "next" "[I", Cond.methodLink RX2 47 yX2_has, Cond.instanceMethod yX2_has, Cond.selects RX2 yX2_has yX2_has, Cond.code yX2_has cX2_has 2 (some .boolean), Cond.fieldLink RX2 9 "CutYard$Stock" "uses" "[I", Cond.methodLink RX2 85 yX2_sameBytes, Cond.instanceMethod yX2_sameBytes, Cond.selects RX2 yX2_sameBytes yX2_sameBytes, Cond.code yX2_sameBytes cX2_sameBytes 6 (some .boolean), Cond.fieldLink RX2 27 "CutYard$Stock" "room" "[B", Cond.methodLink RX2 69 yX2_add, Cond.instanceMethod yX2_add, Cond.selects RX2 yX2_add yX2_add, Cond.code yX2_add cX2_add 6 (some .int)]
def wsX3_store_r4 : List Cond := [Cond.methodLink RX2 55 arraycopyName, Cond.native arraycopyName, Cond.static arraycopyName, Cond.initialized "java/lang/System", Cond.fieldLink RX2 35 "CutYard$Stock" "count" "I", Cond.fieldLink RX2 38 "CutYard$Stock" "bytes" "I", Cond.methodLink RX2 89 yX2_leastFree, Cond.instanceMethod yX2_leastFree, Cond.selects RX2 yX2_leastFree yX2_leastFree, Cond.code yX2_leastFree cX2_leastFree 1 (some .int), Cond.fieldLink RX2 31 "CutYard$Stock" "lowest" "I", Cond.methodLink RX2 93 yX2_makeRoomFor, Cond.instanceMethod yX2_makeRoomFor, Cond.selects RX2 yX2_makeRoomFor yX2_makeRoomFor, Cond.code yX2_makeRoomFor cX2_makeRoomFor 3 none, Cond.methodLink RX2 96 Lib.Math.max.name, Cond.static Lib.Math.max.name, Cond.code Lib.Math.max.name Lib.Math.max.code 2 (some .int), Cond.methodLink RX2 79 Lib.Math.min.name, Cond.methodLink RX2 99 yJ7_copyOf_9075b, Cond.static yJ7_copyOf_9075b, Cond.initialized RJ7, Cond.code yJ7_copyOf_9075b cJ7_copyOf_9075b 3 (some (.array .byte)), Cond.methodLink RJ7 310 ⟨"[B", "clone", "()Ljava/lang/Object;"⟩]
def wsX3_store_r5 : List Cond := [Cond.sameMethod "[B" "java/lang/Object" "clone" "()Ljava/lang/Object;", Cond.native ⟨"java/lang/Object", "clone", "()Ljava/lang/Object;"⟩, Cond.instanceMethod ⟨"java/lang/Object", "clone", "()Ljava/lang/Object;"⟩, Cond.selects "[B" ⟨"[B", "clone", "()Ljava/lang/Object;"⟩ ⟨"java/lang/Object", "clone", "()Ljava/lang/Object;"⟩, Cond.classLink RJ7 311 "[B", Cond.arrayClass .byte, Cond.methodLink RJ7 304 Lib.Math.min.name, Cond.methodLink RJ7 150 arraycopyName, Cond.methodLink RX2 72 yX2_useAgain, Cond.instanceMethod yX2_useAgain, Cond.selects RX2 yX2_useAgain yX2_useAgain, Cond.code yX2_useAgain cX2_useAgain 2 none, Cond.methodLink RX3 109 yX3_giveBack, Cond.instanceMethod yX3_giveBack, Cond.selects RX3 yX3_giveBack yX3_giveBack, Cond.code yX3_giveBack cX3_giveBack 4 none, Cond.methodLink RX3 169 yX2_giveBack, Cond.instanceMethod yX2_giveBack, Cond.selects RX2 yX2_giveBack yX2_giveBack, Cond.code yX2_giveBack cX2_giveBack 2 none, Cond.methodLink RX2 76 yX2_unchain, Cond.instanceMethod yX2_unchain, Cond.selects RX2 yX2_unchain yX2_unchain, Cond.code yX2_unchain cX2_unchain 5 none]
def wsX3_store_r6 : List Cond := [Cond.methodLink RX3 113 yX0_become, Cond.instanceMethod yX0_become, Cond.selects RX0 yX0_become yX0_become, Cond.initialized RX0, Cond.code yX0_become cX0_become 4 none, Cond.fieldLink RX0 11 "CutYard$Content" "numbers" "[I", Cond.methodLink RX0 22 Lib.Math.max.name, Cond.methodLink RX0 28 Lib.Math.min.name, Cond.arrayClass .int, Cond.methodLink RX0 31 arraycopyName, Cond.fieldLink RX0 15 "CutYard$Content" "count" "I", Cond.fieldLink RX0 19 "CutYard$Content" "bytes" "I"]
def wsX3_layOut : List Cond := .code yX3_layOut cX3_layOut 4 none :: ([.fieldLink RX3 19 "CutYard" "stock" "LCutYard$Stock;", .fieldLink RX3 37 "CutYard" "work" "[B", .methodLink RX3 171 yX2_writeOut, .instanceMethod yX2_writeOut, .selects RX2 yX2_writeOut yX2_writeOut, .initialized RX2, .code yX2_writeOut cX2_writeOut 5 (some .int), .fieldLink RX2 27 "CutYard$Stock" "room" "[B", .methodLink RX2 55 arraycopyName, .native arraycopyName, .static arraycopyName, .initialized "java/lang/System", .methodLink RX2 51 yX2_lengthOf, .instanceMethod yX2_lengthOf, .selects RX2 yX2_lengthOf yX2_lengthOf, .code yX2_lengthOf cX2_lengthOf 2 (some .int), .fieldLink RX2 15 "CutYard$Stock" "lengths" "[I", .methodLink RX2 47 yX2_has, .instanceMethod yX2_has, .selects RX2 yX2_has yX2_has, .code yX2_has cX2_has 2 (some .boolean), .fieldLink RX2 9 "CutYard$Stock" "uses" "[I"] ++ wsX00 ++ wsX30 ++ wsX20)
def wsX3_edit_r1 : List Cond := [Cond.classLink RX3 48 "java/lang/IllegalArgumentException", Cond.initialized "java/lang/IllegalArgumentException", Cond.classLink RX3 69 "java/lang/UnsupportedOperationException", Cond.initialized "java/lang/UnsupportedOperationException", Cond.fieldLink RX3 33 "CutYard" "inHand" "I", Cond.fieldLink RX3 37 "CutYard" "work" "[B", Cond.methodLink RX3 93 arraycopyName, Cond.native arraycopyName, Cond.static arraycopyName, Cond.initialized "java/lang/System", Cond.fieldLink RX3 29 "CutYard" "hand" "[B", Cond.methodLink RX3 74 yX3_fileAt, Cond.instanceMethod yX3_fileAt, Cond.selects RX3 yX3_fileAt yX3_fileAt, Cond.initialized RX3, Cond.code yX3_fileAt cX3_fileAt 2 (some (.object "CutYard$Content")), Cond.classLink RX3 117 "java/lang/IndexOutOfBoundsException", Cond.initialized "java/lang/IndexOutOfBoundsException", Cond.fieldLink RX3 25 "CutYard" "files" "[LCutYard$Content;", Cond.methodLink RX3 89 yX3_layOut, Cond.instanceMethod yX3_layOut, Cond.selects RX3 yX3_layOut yX3_layOut, Cond.code yX3_layOut cX3_layOut 4 none, Cond.fieldLink RX3 19 "CutYard" "stock" "LCutYard$Stock;"]
def wsX3_edit_r2 : List Cond := [Cond.methodLink RX3 171 yX2_writeOut, Cond.instanceMethod yX2_writeOut, Cond.selects RX2 yX2_writeOut yX2_writeOut, Cond.initialized RX2, Cond.code yX2_writeOut cX2_writeOut 5 (some .int), Cond.fieldLink RX2 27 "CutYard$Stock" "room" "[B", Cond.methodLink RX2 55 arraycopyName, Cond.methodLink RX2 51 yX2_lengthOf, Cond.instanceMethod yX2_lengthOf, Cond.selects RX2 yX2_lengthOf yX2_lengthOf, Cond.code yX2_lengthOf cX2_lengthOf 2 (some .int), Cond.fieldLink RX2 15 "CutYard$Stock" "lengths" "[I", Cond.methodLink RX2 47 yX2_has, Cond.instanceMethod yX2_has, Cond.selects RX2 yX2_has yX2_has, Cond.code yX2_has cX2_has 2 (some .boolean), Cond.fieldLink RX2 9 "CutYard$Stock" "uses" "[I", Cond.methodLink RX3 78 yX3_fillFile, Cond.instanceMethod yX3_fillFile, Cond.selects RX3 yX3_fillFile yX3_fillFile, Cond.code yX3_fillFile cX3_fillFile 7 (some .int), Cond.fieldLink RX3 40 "CutYard" "taken" "[I", Cond.methodLink RX3 156 yX3_takeParts, Cond.instanceMethod yX3_takeParts]
def wsX3_edit_r3 : List Cond := [Cond.selects RX3 yX3_takeParts yX3_takeParts, Cond.code yX3_takeParts cX3_takeParts 7 (some .int), Cond.fieldLink RX3 10 "CutYard" "cutter" "LCutYard$Cutter;", Cond.methodLink RX3 162 yX1_endOfPart, Cond.instanceMethod yX1_endOfPart, Cond.selects RX1 yX1_endOfPart yX1_endOfPart, Cond.initialized RX1, Cond.code yX1_endOfPart cX1_endOfPart 7 (some .int), Cond.fieldLink RX1 16 "CutYard$Cutter" "most" "I", Cond.methodLink RX1 19 Lib.Math.min.name, Cond.static Lib.Math.min.name, Cond.initialized "java/lang/Math", Cond.code Lib.Math.min.name Lib.Math.min.code 2 (some .int), Cond.fieldLink RX1 13 "CutYard$Cutter" "least" "I", Cond.fieldLink RX1 7 "CutYard$Cutter" "mask" "I", Cond.methodLink RX1 25 yX1_turned, Cond.static yX1_turned, Cond.code yX1_turned cX1_turned 2 (some .int), Cond.methodLink RX1 28 yX1_mark, Cond.static yX1_mark, Cond.code yX1_mark cX1_mark 2 (some .int), Cond.constant RX1 32 (-1640531527), Cond.methodLink RX3 166 yX2_take, Cond.instanceMethod yX2_take]
def wsX3_edit_r4 : List Cond := [Cond.selects RX2 yX2_take yX2_take, Cond.code yX2_take cX2_take 6 (some .int), Cond.methodLink RX2 61 yX2_hashOf, Cond.static yX2_hashOf, Cond.code yX2_hashOf cX2_hashOf 5 (some .int), Cond.methodLink RX2 65 yX2_find, Cond.instanceMethod yX2_find, Cond.selects RX2 yX2_find yX2_find, Cond.code yX2_find cX2_find 7 (some .int), Cond.fieldLink RX2 24 "CutYard$Stock" "heads" "[I", Cond.fieldLink RX2 18 "CutYard$Stock" "hashes" "[I", Cond.fieldLink RX2 21 "CutYard$Stock" "next" "[I", Cond.methodLink RX2 85 yX2_sameBytes, Cond.instanceMethod yX2_sameBytes, Cond.selects RX2 yX2_sameBytes yX2_sameBytes, Cond.code yX2_sameBytes cX2_sameBytes 6 (some .boolean), Cond.methodLink RX2 69 yX2_add, Cond.instanceMethod yX2_add, Cond.selects RX2 yX2_add yX2_add, Cond.code yX2_add cX2_add 6 (some .int), Cond.fieldLink RX2 35 "CutYard$Stock" "count" "I", Cond.fieldLink RX2 38 "CutYard$Stock" "bytes" "I", Cond.methodLink RX2 89 yX2_leastFree, Cond.instanceMethod yX2_leastFree]
def wsX3_edit_r5 : List Cond := [Cond.selects RX2 yX2_leastFree yX2_leastFree, Cond.code yX2_leastFree cX2_leastFree 1 (some .int), Cond.fieldLink RX2 31 "CutYard$Stock" "lowest" "I", Cond.methodLink RX2 93 yX2_makeRoomFor, Cond.instanceMethod yX2_makeRoomFor, Cond.selects RX2 yX2_makeRoomFor yX2_makeRoomFor, Cond.code yX2_makeRoomFor cX2_makeRoomFor 3 none, Cond.methodLink RX2 96 Lib.Math.max.name, Cond.static Lib.Math.max.name, Cond.code Lib.Math.max.name Lib.Math.max.code 2 (some .int), Cond.methodLink RX2 79 Lib.Math.min.name, Cond.methodLink RX2 99 yJ7_copyOf_9075b, Cond.static yJ7_copyOf_9075b, Cond.initialized RJ7, Cond.code yJ7_copyOf_9075b cJ7_copyOf_9075b 3 (some (.array .byte)), Cond.methodLink RJ7 310 ⟨"[B", "clone", "()Ljava/lang/Object;"⟩, Cond.sameMethod "[B" "java/lang/Object" "clone" "()Ljava/lang/Object;", Cond.native ⟨"java/lang/Object", "clone", "()Ljava/lang/Object;"⟩, Cond.instanceMethod ⟨"java/lang/Object", "clone", "()Ljava/lang/Object;"⟩, Cond.selects "[B" ⟨"[B", "clone", "()Ljava/lang/Object;"⟩ ⟨"java/lang/Object", "clone", "()Ljava/lang/Object;"⟩, Cond.classLink RJ7 311 "[B", Cond.arrayClass .byte, Cond.methodLink RJ7 304 Lib.Math.min.name, Cond.methodLink RJ7 150 arraycopyName]
def wsX3_edit_r6 : List Cond := [Cond.methodLink RX2 72 yX2_useAgain, Cond.instanceMethod yX2_useAgain, Cond.selects RX2 yX2_useAgain yX2_useAgain, Cond.code yX2_useAgain cX2_useAgain 2 none, Cond.methodLink RX3 109 yX3_giveBack, Cond.instanceMethod yX3_giveBack, Cond.selects RX3 yX3_giveBack yX3_giveBack, Cond.code yX3_giveBack cX3_giveBack 4 none, Cond.methodLink RX3 169 yX2_giveBack, Cond.instanceMethod yX2_giveBack, Cond.selects RX2 yX2_giveBack yX2_giveBack, Cond.code yX2_giveBack cX2_giveBack 2 none, Cond.methodLink RX2 76 yX2_unchain, Cond.instanceMethod yX2_unchain, Cond.selects RX2 yX2_unchain yX2_unchain, Cond.code yX2_unchain cX2_unchain 5 none, Cond.methodLink RX3 113 yX0_become, Cond.instanceMethod yX0_become, Cond.selects RX0 yX0_become yX0_become, Cond.initialized RX0, Cond.code yX0_become cX0_become 4 none, Cond.fieldLink RX0 11 "CutYard$Content" "numbers" "[I", Cond.methodLink RX0 22 Lib.Math.max.name, Cond.methodLink RX0 28 Lib.Math.min.name]
def wsX3_edit_r7 : List Cond := [Cond.arrayClass .int, Cond.methodLink RX0 31 arraycopyName, Cond.fieldLink RX0 15 "CutYard$Content" "count" "I", Cond.fieldLink RX0 19 "CutYard$Content" "bytes" "I"]
def wsX3_copy_r1 : List Cond := [Cond.fieldLink RX3 19 "CutYard" "stock" "LCutYard$Stock;", Cond.methodLink RX3 74 yX3_fileAt, Cond.instanceMethod yX3_fileAt, Cond.selects RX3 yX3_fileAt yX3_fileAt, Cond.initialized RX3, Cond.code yX3_fileAt cX3_fileAt 2 (some (.object "CutYard$Content")), Cond.classLink RX3 117 "java/lang/IndexOutOfBoundsException", Cond.initialized "java/lang/IndexOutOfBoundsException", Cond.fieldLink RX3 25 "CutYard" "files" "[LCutYard$Content;", Cond.methodLink RX3 105 yX2_useAgain, Cond.instanceMethod yX2_useAgain, Cond.selects RX2 yX2_useAgain yX2_useAgain, Cond.initialized RX2, Cond.code yX2_useAgain cX2_useAgain 2 none, Cond.fieldLink RX2 9 "CutYard$Stock" "uses" "[I", Cond.methodLink RX2 47 yX2_has, Cond.instanceMethod yX2_has, Cond.selects RX2 yX2_has yX2_has, Cond.code yX2_has cX2_has 2 (some .boolean), Cond.methodLink RX3 109 yX3_giveBack, Cond.instanceMethod yX3_giveBack, Cond.selects RX3 yX3_giveBack yX3_giveBack, Cond.code yX3_giveBack cX3_giveBack 4 none, Cond.methodLink RX3 169 yX2_giveBack]
def wsX3_copy_r2 : List Cond := [Cond.instanceMethod yX2_giveBack, Cond.selects RX2 yX2_giveBack yX2_giveBack, Cond.code yX2_giveBack cX2_giveBack 2 none, Cond.fieldLink RX2 31 "CutYard$Stock" "lowest" "I", Cond.methodLink RX2 79 Lib.Math.min.name, Cond.static Lib.Math.min.name, Cond.initialized "java/lang/Math", Cond.code Lib.Math.min.name Lib.Math.min.code 2 (some .int), Cond.fieldLink RX2 35 "CutYard$Stock" "count" "I", Cond.fieldLink RX2 38 "CutYard$Stock" "bytes" "I", Cond.fieldLink RX2 15 "CutYard$Stock" "lengths" "[I", Cond.methodLink RX2 76 yX2_unchain, Cond.instanceMethod yX2_unchain, Cond.selects RX2 yX2_unchain yX2_unchain, Cond.code yX2_unchain cX2_unchain 5 none, Cond.fieldLink RX2 18 "CutYard$Stock" "hashes" "[I", Cond.fieldLink RX2 24 "CutYard$Stock" "heads" "[I", Cond.fieldLink RX2 21 "CutYard$Stock" "next" "[I", Cond.methodLink RX3 113 yX0_become, Cond.instanceMethod yX0_become, Cond.selects RX0 yX0_become yX0_become, Cond.initialized RX0, Cond.code yX0_become cX0_become 4 none, Cond.fieldLink RX0 11 "CutYard$Content" "numbers" "[I"]
def wsX3_copy_r3 : List Cond := [Cond.methodLink RX0 22 Lib.Math.max.name, Cond.static Lib.Math.max.name, Cond.code Lib.Math.max.name Lib.Math.max.code 2 (some .int), Cond.methodLink RX0 28 Lib.Math.min.name, Cond.arrayClass .int, Cond.methodLink RX0 31 arraycopyName, Cond.native arraycopyName, Cond.static arraycopyName, Cond.initialized "java/lang/System", Cond.fieldLink RX0 15 "CutYard$Content" "count" "I", Cond.fieldLink RX0 19 "CutYard$Content" "bytes" "I"]
def wsX3_get_r1 : List Cond := [Cond.classLink RX3 117 "java/lang/IndexOutOfBoundsException", Cond.initialized "java/lang/IndexOutOfBoundsException", Cond.fieldLink RX3 19 "CutYard" "stock" "LCutYard$Stock;", Cond.methodLink RX3 74 yX3_fileAt, Cond.instanceMethod yX3_fileAt, Cond.selects RX3 yX3_fileAt yX3_fileAt, Cond.initialized RX3, Cond.code yX3_fileAt cX3_fileAt 2 (some (.object "CutYard$Content")), Cond.fieldLink RX3 25 "CutYard" "files" "[LCutYard$Content;", Cond.methodLink RX3 122 yX2_lengthOf, Cond.instanceMethod yX2_lengthOf, Cond.selects RX2 yX2_lengthOf yX2_lengthOf, Cond.initialized RX2, Cond.code yX2_lengthOf cX2_lengthOf 2 (some .int), Cond.fieldLink RX2 15 "CutYard$Stock" "lengths" "[I", Cond.methodLink RX2 47 yX2_has, Cond.instanceMethod yX2_has, Cond.selects RX2 yX2_has yX2_has, Cond.code yX2_has cX2_has 2 (some .boolean), Cond.fieldLink RX2 9 "CutYard$Stock" "uses" "[I", Cond.methodLink RX3 126 yX2_byteOf, Cond.instanceMethod yX2_byteOf, Cond.selects RX2 yX2_byteOf yX2_byteOf, Cond.code yX2_byteOf cX2_byteOf 3 (some .int)]
def wsX3_get_r2 : List Cond := [Cond.fieldLink RX2 27 "CutYard$Stock" "room" "[B", Cond.methodLink RX2 51 yX2_lengthOf]
def wsX3_filesWith : List Cond := .code yX3_filesWith cX3_filesWith 4 (some .int) :: ([.fieldLink RX3 25 "CutYard" "files" "[LCutYard$Content;", .methodLink RX3 175 yX0_hasNumber, .instanceMethod yX0_hasNumber, .selects RX0 yX0_hasNumber yX0_hasNumber, .initialized RX0, .code yX0_hasNumber cX0_hasNumber 3 (some .boolean), .fieldLink RX0 15 "CutYard$Content" "count" "I", .fieldLink RX0 11 "CutYard$Content" "numbers" "[I"] ++ wsX30 ++ wsX00)
def wsX3_about_r1 : List Cond := [Cond.classLink RX3 136 "java/util/NoSuchElementException", Cond.initialized "java/util/NoSuchElementException", Cond.classLink RX3 48 "java/lang/IllegalArgumentException", Cond.initialized "java/lang/IllegalArgumentException", Cond.fieldLink RX3 19 "CutYard" "stock" "LCutYard$Stock;", Cond.methodLink RX3 132 yX2_has, Cond.instanceMethod yX2_has, Cond.selects RX2 yX2_has yX2_has, Cond.initialized RX2, Cond.code yX2_has cX2_has 2 (some .boolean), Cond.fieldLink RX2 9 "CutYard$Stock" "uses" "[I", Cond.methodLink RX3 122 yX2_lengthOf, Cond.instanceMethod yX2_lengthOf, Cond.selects RX2 yX2_lengthOf yX2_lengthOf, Cond.code yX2_lengthOf cX2_lengthOf 2 (some .int), Cond.fieldLink RX2 15 "CutYard$Stock" "lengths" "[I", Cond.methodLink RX2 47 yX2_has, Cond.methodLink RX3 139 yX2_usesOf, Cond.instanceMethod yX2_usesOf, Cond.selects RX2 yX2_usesOf yX2_usesOf, Cond.code yX2_usesOf cX2_usesOf 2 (some .int), Cond.methodLink RX3 142 yX3_filesWith, Cond.instanceMethod yX3_filesWith, Cond.selects RX3 yX3_filesWith yX3_filesWith]
def wsX3_about_r2 : List Cond := [Cond.initialized RX3, Cond.code yX3_filesWith cX3_filesWith 4 (some .int), Cond.fieldLink RX3 25 "CutYard" "files" "[LCutYard$Content;", Cond.methodLink RX3 175 yX0_hasNumber, Cond.instanceMethod yX0_hasNumber, Cond.selects RX0 yX0_hasNumber yX0_hasNumber, Cond.initialized RX0, Cond.code yX0_hasNumber cX0_hasNumber 3 (some .boolean), Cond.fieldLink RX0 15 "CutYard$Content" "count" "I", Cond.fieldLink RX0 11 "CutYard$Content" "numbers" "[I"]
def wsX3_common_r1 : List Cond := [Cond.fieldLink RX3 44 "CutYard" "seen" "[I", Cond.fieldLink RX3 19 "CutYard" "stock" "LCutYard$Stock;", Cond.methodLink RX3 74 yX3_fileAt, Cond.instanceMethod yX3_fileAt, Cond.selects RX3 yX3_fileAt yX3_fileAt, Cond.initialized RX3, Cond.code yX3_fileAt cX3_fileAt 2 (some (.object "CutYard$Content")), Cond.classLink RX3 117 "java/lang/IndexOutOfBoundsException", Cond.initialized "java/lang/IndexOutOfBoundsException", Cond.fieldLink RX3 25 "CutYard" "files" "[LCutYard$Content;", Cond.methodLink RX3 147 yJ7_fill_53178, Cond.static yJ7_fill_53178, Cond.initialized RJ7, Cond.code yJ7_fill_53178 cJ7_fill_53178 4 none, Cond.methodLink RX3 132 yX2_has, Cond.instanceMethod yX2_has, Cond.selects RX2 yX2_has yX2_has, Cond.initialized RX2, Cond.code yX2_has cX2_has 2 (some .boolean), Cond.fieldLink RX2 9 "CutYard$Stock" "uses" "[I", Cond.methodLink RX3 122 yX2_lengthOf, Cond.instanceMethod yX2_lengthOf, Cond.selects RX2 yX2_lengthOf yX2_lengthOf, Cond.code yX2_lengthOf cX2_lengthOf 2 (some .int)]
def wsX3_common_r2 : List Cond := [Cond.fieldLink RX2 15 "CutYard$Stock" "lengths" "[I", Cond.methodLink RX2 47 yX2_has]
def wsX4_init : List Cond := .code yX4_init cX4_init 1 none :: ([.methodLink RX4 1 objectInit, .instanceMethod objectInit, .code objectInit ⟨#[0xb1]⟩ 1 none, .fieldLink RX4 7 "CutYardModel" "bits" "I", .fieldLink RX4 13 "CutYardModel" "least" "I", .fieldLink RX4 16 "CutYardModel" "most" "I", .arrayClass .int, .fieldLink RX4 19 "CutYardModel" "hand" "[I", .fieldLink RX4 23 "CutYardModel" "row" "[I", .fieldLink RX4 26 "CutYardModel" "ends" "[I", .fieldLink RX4 29 "CutYardModel" "numbers" "[I", .arrayClass .boolean, .fieldLink RX4 32 "CutYardModel" "fresh" "[Z", .fieldLink RX4 36 "CutYardModel" "sizes" "[I", .fieldLink RX4 39 "CutYardModel" "bytes" "[I", .fieldLink RX4 42 "CutYardModel" "counts" "[I", .fieldLink RX4 45 "CutYardModel" "parts" "[I", .fieldLink RX4 48 "CutYardModel" "uses" "[I", .fieldLink RX4 51 "CutYardModel" "lengths" "[I", .fieldLink RX4 54 "CutYardModel" "contents" "[I"] ++ wsX40)
def wsX4_thrown : List Cond := .code yX4_thrown cX4_thrown 1 (some .int) :: ([.fieldLink RX4 57 "CutYardModel" "thrown" "I"] ++ wsX40)
def wsX4_refuse : List Cond := .code yX4_refuse cX4_refuse 4 (some .boolean) :: ([.fieldLink RX4 57 "CutYardModel" "thrown" "I"] ++ wsX40)
def wsX4_in : List Cond := .code yX4_in cX4_in 3 (some .boolean) :: ([])
def wsX4_isFile : List Cond := .code yX4_isFile cX4_isFile 1 (some .boolean) :: ([.methodLink RX4 60 yX4_in, .static yX4_in, .initialized RX4, .code yX4_in cX4_in 3 (some .boolean)])
def wsX4_begin : List Cond := .code yX4_begin cX4_begin 6 none :: ([.fieldLink RX4 7 "CutYardModel" "bits" "I", .fieldLink RX4 13 "CutYardModel" "least" "I", .fieldLink RX4 16 "CutYardModel" "most" "I", .fieldLink RX4 36 "CutYardModel" "sizes" "[I", .fieldLink RX4 42 "CutYardModel" "counts" "[I", .fieldLink RX4 48 "CutYardModel" "uses" "[I", .methodLink RX4 60 yX4_in, .static yX4_in, .initialized RX4, .code yX4_in cX4_in 3 (some .boolean), .methodLink RX4 64 yX4_refuse, .instanceMethod yX4_refuse, .selects RX4 yX4_refuse yX4_refuse, .code yX4_refuse cX4_refuse 4 (some .boolean), .fieldLink RX4 57 "CutYardModel" "thrown" "I"] ++ wsX40)
def wsX4_put : List Cond := .code yX4_put cX4_put 5 (some .int) :: ([.fieldLink RX4 68 "CutYardModel" "held" "I", .fieldLink RX4 19 "CutYardModel" "hand" "[I", .methodLink RX4 60 yX4_in, .static yX4_in, .initialized RX4, .code yX4_in cX4_in 3 (some .boolean), .methodLink RX4 64 yX4_refuse, .instanceMethod yX4_refuse, .selects RX4 yX4_refuse yX4_refuse, .code yX4_refuse cX4_refuse 4 (some .boolean), .fieldLink RX4 57 "CutYardModel" "thrown" "I"] ++ wsX40)
def wsX4_mark : List Cond := .code yX4_mark cX4_mark 2 (some .int) :: ([.constant RX4 71 (-1640531527)])
def wsX4_sum : List Cond := .code yX4_sum cX4_sum 6 (some .int) :: ([.fieldLink RX4 23 "CutYardModel" "row" "[I", .methodLink RX4 72 yX4_mark, .static yX4_mark, .initialized RX4, .code yX4_mark cX4_mark 2 (some .int), .constant RX4 71 (-1640531527)] ++ wsX40)
def wsX4_cut : List Cond := .code yX4_cut cX4_cut 5 none :: ([.fieldLink RX4 76 "CutYardModel" "cuts" "I", .fieldLink RX4 79 "CutYardModel" "size" "I", .fieldLink RX4 16 "CutYardModel" "most" "I", .fieldLink RX4 13 "CutYardModel" "least" "I", .fieldLink RX4 7 "CutYardModel" "bits" "I", .fieldLink RX4 26 "CutYardModel" "ends" "[I", .methodLink RX4 82 yX4_sum, .instanceMethod yX4_sum, .selects RX4 yX4_sum yX4_sum, .initialized RX4, .code yX4_sum cX4_sum 6 (some .int), .fieldLink RX4 23 "CutYardModel" "row" "[I", .methodLink RX4 72 yX4_mark, .static yX4_mark, .code yX4_mark cX4_mark 2 (some .int), .constant RX4 71 (-1640531527)] ++ wsX40)
def wsX4_beginOf : List Cond := .code yX4_beginOf cX4_beginOf 2 (some .int) :: ([.fieldLink RX4 26 "CutYardModel" "ends" "[I"] ++ wsX40)
def wsX4_isPart : List Cond := .code yX4_isPart cX4_isPart 6 (some .boolean) :: ([.fieldLink RX4 48 "CutYardModel" "uses" "[I", .fieldLink RX4 32 "CutYardModel" "fresh" "[Z", .fieldLink RX4 51 "CutYardModel" "lengths" "[I", .fieldLink RX4 54 "CutYardModel" "contents" "[I", .fieldLink RX4 23 "CutYardModel" "row" "[I"] ++ wsX40)
def wsX4_numberOf : List Cond := .code yX4_numberOf cX4_numberOf 5 (some .int) :: ([.fieldLink RX4 48 "CutYardModel" "uses" "[I", .fieldLink RX4 32 "CutYardModel" "fresh" "[Z", .fieldLink RX4 51 "CutYardModel" "lengths" "[I", .fieldLink RX4 54 "CutYardModel" "contents" "[I", .fieldLink RX4 23 "CutYardModel" "row" "[I", .methodLink RX4 86 yX4_isPart, .instanceMethod yX4_isPart, .selects RX4 yX4_isPart yX4_isPart, .initialized RX4, .code yX4_isPart cX4_isPart 6 (some .boolean)] ++ wsX40)
def wsX4_give_r1 : List Cond := [Cond.fieldLink RX4 32 "CutYardModel" "fresh" "[Z", Cond.fieldLink RX4 76 "CutYardModel" "cuts" "I", Cond.fieldLink RX4 29 "CutYardModel" "numbers" "[I", Cond.fieldLink RX4 26 "CutYardModel" "ends" "[I", Cond.methodLink RX4 89 yX4_cut, Cond.instanceMethod yX4_cut, Cond.selects RX4 yX4_cut yX4_cut, Cond.initialized RX4, Cond.code yX4_cut cX4_cut 5 none, Cond.fieldLink RX4 79 "CutYardModel" "size" "I", Cond.fieldLink RX4 16 "CutYardModel" "most" "I", Cond.fieldLink RX4 13 "CutYardModel" "least" "I", Cond.fieldLink RX4 7 "CutYardModel" "bits" "I", Cond.methodLink RX4 82 yX4_sum, Cond.instanceMethod yX4_sum, Cond.selects RX4 yX4_sum yX4_sum, Cond.code yX4_sum cX4_sum 6 (some .int), Cond.fieldLink RX4 23 "CutYardModel" "row" "[I", Cond.methodLink RX4 72 yX4_mark, Cond.static yX4_mark, Cond.code yX4_mark cX4_mark 2 (some .int), Cond.constant RX4 71 (-1640531527), Cond.methodLink RX4 92 yX4_beginOf, Cond.instanceMethod yX4_beginOf]
def wsX4_give_r2 : List Cond := [Cond.selects RX4 yX4_beginOf yX4_beginOf, Cond.code yX4_beginOf cX4_beginOf 2 (some .int), Cond.methodLink RX4 95 yX4_numberOf, Cond.instanceMethod yX4_numberOf, Cond.selects RX4 yX4_numberOf yX4_numberOf, Cond.code yX4_numberOf cX4_numberOf 5 (some .int), Cond.fieldLink RX4 48 "CutYardModel" "uses" "[I", Cond.fieldLink RX4 51 "CutYardModel" "lengths" "[I", Cond.fieldLink RX4 54 "CutYardModel" "contents" "[I", Cond.methodLink RX4 86 yX4_isPart, Cond.instanceMethod yX4_isPart, Cond.selects RX4 yX4_isPart yX4_isPart, Cond.code yX4_isPart cX4_isPart 6 (some .boolean)]
def wsX4_give : List Cond := .code yX4_give cX4_give 4 (some .int) :: ((wsX4_give_r1 ++ wsX4_give_r2) ++ wsX40)
def wsX4_take : List Cond := .code yX4_take cX4_take 3 none :: ([.fieldLink RX4 76 "CutYardModel" "cuts" "I", .fieldLink RX4 48 "CutYardModel" "uses" "[I", .fieldLink RX4 29 "CutYardModel" "numbers" "[I", .fieldLink RX4 42 "CutYardModel" "counts" "[I", .fieldLink RX4 45 "CutYardModel" "parts" "[I", .fieldLink RX4 36 "CutYardModel" "sizes" "[I", .fieldLink RX4 79 "CutYardModel" "size" "I", .fieldLink RX4 39 "CutYardModel" "bytes" "[I", .fieldLink RX4 23 "CutYardModel" "row" "[I"] ++ wsX40)
def wsX4_store_r1 : List Cond := [Cond.fieldLink RX4 68 "CutYardModel" "held" "I", Cond.fieldLink RX4 79 "CutYardModel" "size" "I", Cond.fieldLink RX4 23 "CutYardModel" "row" "[I", Cond.fieldLink RX4 19 "CutYardModel" "hand" "[I", Cond.methodLink RX4 98 yX4_isFile, Cond.static yX4_isFile, Cond.initialized RX4, Cond.code yX4_isFile cX4_isFile 1 (some .boolean), Cond.methodLink RX4 60 yX4_in, Cond.static yX4_in, Cond.code yX4_in cX4_in 3 (some .boolean), Cond.methodLink RX4 64 yX4_refuse, Cond.instanceMethod yX4_refuse, Cond.selects RX4 yX4_refuse yX4_refuse, Cond.code yX4_refuse cX4_refuse 4 (some .boolean), Cond.fieldLink RX4 57 "CutYardModel" "thrown" "I", Cond.methodLink RX4 102 yX4_give, Cond.instanceMethod yX4_give, Cond.selects RX4 yX4_give yX4_give, Cond.code yX4_give cX4_give 4 (some .int), Cond.fieldLink RX4 32 "CutYardModel" "fresh" "[Z", Cond.fieldLink RX4 76 "CutYardModel" "cuts" "I", Cond.fieldLink RX4 29 "CutYardModel" "numbers" "[I", Cond.fieldLink RX4 26 "CutYardModel" "ends" "[I"]
def wsX4_store_r2 : List Cond := [Cond.methodLink RX4 89 yX4_cut, Cond.instanceMethod yX4_cut, Cond.selects RX4 yX4_cut yX4_cut, Cond.code yX4_cut cX4_cut 5 none, Cond.fieldLink RX4 16 "CutYardModel" "most" "I", Cond.fieldLink RX4 13 "CutYardModel" "least" "I", Cond.fieldLink RX4 7 "CutYardModel" "bits" "I", Cond.methodLink RX4 82 yX4_sum, Cond.instanceMethod yX4_sum, Cond.selects RX4 yX4_sum yX4_sum, Cond.code yX4_sum cX4_sum 6 (some .int), Cond.methodLink RX4 72 yX4_mark, Cond.static yX4_mark, Cond.code yX4_mark cX4_mark 2 (some .int), Cond.constant RX4 71 (-1640531527), Cond.methodLink RX4 92 yX4_beginOf, Cond.instanceMethod yX4_beginOf, Cond.selects RX4 yX4_beginOf yX4_beginOf, Cond.code yX4_beginOf cX4_beginOf 2 (some .int), Cond.methodLink RX4 95 yX4_numberOf, Cond.instanceMethod yX4_numberOf, Cond.selects RX4 yX4_numberOf yX4_numberOf, Cond.code yX4_numberOf cX4_numberOf 5 (some .int), Cond.fieldLink RX4 48 "CutYardModel" "uses" "[I"]
def wsX4_store_r3 : List Cond := [Cond.fieldLink RX4 51 "CutYardModel" "lengths" "[I", Cond.fieldLink RX4 54 "CutYardModel" "contents" "[I", Cond.methodLink RX4 86 yX4_isPart, Cond.instanceMethod yX4_isPart, Cond.selects RX4 yX4_isPart yX4_isPart, Cond.code yX4_isPart cX4_isPart 6 (some .boolean), Cond.methodLink RX4 106 yX4_take, Cond.instanceMethod yX4_take, Cond.selects RX4 yX4_take yX4_take, Cond.code yX4_take cX4_take 3 none, Cond.fieldLink RX4 42 "CutYardModel" "counts" "[I", Cond.fieldLink RX4 45 "CutYardModel" "parts" "[I", Cond.fieldLink RX4 36 "CutYardModel" "sizes" "[I", Cond.fieldLink RX4 39 "CutYardModel" "bytes" "[I"]
def wsX4_store : List Cond := .code yX4_store cX4_store 3 (some .int) :: ((wsX4_store_r1 ++ (wsX4_store_r2 ++ wsX4_store_r3)) ++ wsX40)
def wsX4_edit_r1 : List Cond := [Cond.fieldLink RX4 36 "CutYardModel" "sizes" "[I", Cond.fieldLink RX4 68 "CutYardModel" "held" "I", Cond.fieldLink RX4 79 "CutYardModel" "size" "I", Cond.fieldLink RX4 23 "CutYardModel" "row" "[I", Cond.fieldLink RX4 39 "CutYardModel" "bytes" "[I", Cond.fieldLink RX4 19 "CutYardModel" "hand" "[I", Cond.methodLink RX4 98 yX4_isFile, Cond.static yX4_isFile, Cond.initialized RX4, Cond.code yX4_isFile cX4_isFile 1 (some .boolean), Cond.methodLink RX4 60 yX4_in, Cond.static yX4_in, Cond.code yX4_in cX4_in 3 (some .boolean), Cond.methodLink RX4 64 yX4_refuse, Cond.instanceMethod yX4_refuse, Cond.selects RX4 yX4_refuse yX4_refuse, Cond.code yX4_refuse cX4_refuse 4 (some .boolean), Cond.fieldLink RX4 57 "CutYardModel" "thrown" "I", Cond.methodLink RX4 102 yX4_give, Cond.instanceMethod yX4_give, Cond.selects RX4 yX4_give yX4_give, Cond.code yX4_give cX4_give 4 (some .int), Cond.fieldLink RX4 32 "CutYardModel" "fresh" "[Z", Cond.fieldLink RX4 76 "CutYardModel" "cuts" "I"]
def wsX4_edit_r2 : List Cond := [Cond.fieldLink RX4 29 "CutYardModel" "numbers" "[I", Cond.fieldLink RX4 26 "CutYardModel" "ends" "[I", Cond.methodLink RX4 89 yX4_cut, Cond.instanceMethod yX4_cut, Cond.selects RX4 yX4_cut yX4_cut, Cond.code yX4_cut cX4_cut 5 none, Cond.fieldLink RX4 16 "CutYardModel" "most" "I", Cond.fieldLink RX4 13 "CutYardModel" "least" "I", Cond.fieldLink RX4 7 "CutYardModel" "bits" "I", Cond.methodLink RX4 82 yX4_sum, Cond.instanceMethod yX4_sum, Cond.selects RX4 yX4_sum yX4_sum, Cond.code yX4_sum cX4_sum 6 (some .int), Cond.methodLink RX4 72 yX4_mark, Cond.static yX4_mark, Cond.code yX4_mark cX4_mark 2 (some .int), Cond.constant RX4 71 (-1640531527), Cond.methodLink RX4 92 yX4_beginOf, Cond.instanceMethod yX4_beginOf, Cond.selects RX4 yX4_beginOf yX4_beginOf, Cond.code yX4_beginOf cX4_beginOf 2 (some .int), Cond.methodLink RX4 95 yX4_numberOf, Cond.instanceMethod yX4_numberOf, Cond.selects RX4 yX4_numberOf yX4_numberOf]
def wsX4_edit_r3 : List Cond := [Cond.code yX4_numberOf cX4_numberOf 5 (some .int), Cond.fieldLink RX4 48 "CutYardModel" "uses" "[I", Cond.fieldLink RX4 51 "CutYardModel" "lengths" "[I", Cond.fieldLink RX4 54 "CutYardModel" "contents" "[I", Cond.methodLink RX4 86 yX4_isPart, Cond.instanceMethod yX4_isPart, Cond.selects RX4 yX4_isPart yX4_isPart, Cond.code yX4_isPart cX4_isPart 6 (some .boolean), Cond.methodLink RX4 106 yX4_take, Cond.instanceMethod yX4_take, Cond.selects RX4 yX4_take yX4_take, Cond.code yX4_take cX4_take 3 none, Cond.fieldLink RX4 42 "CutYardModel" "counts" "[I", Cond.fieldLink RX4 45 "CutYardModel" "parts" "[I"]
def wsX4_edit : List Cond := .code yX4_edit cX4_edit 8 (some .int) :: ((wsX4_edit_r1 ++ (wsX4_edit_r2 ++ wsX4_edit_r3)) ++ wsX40)
def wsX4_copy_r1 : List Cond := [Cond.fieldLink RX4 36 "CutYardModel" "sizes" "[I", Cond.fieldLink RX4 79 "CutYardModel" "size" "I", Cond.fieldLink RX4 42 "CutYardModel" "counts" "[I", Cond.fieldLink RX4 76 "CutYardModel" "cuts" "I", Cond.fieldLink RX4 23 "CutYardModel" "row" "[I", Cond.fieldLink RX4 39 "CutYardModel" "bytes" "[I", Cond.fieldLink RX4 29 "CutYardModel" "numbers" "[I", Cond.fieldLink RX4 45 "CutYardModel" "parts" "[I", Cond.methodLink RX4 98 yX4_isFile, Cond.static yX4_isFile, Cond.initialized RX4, Cond.code yX4_isFile cX4_isFile 1 (some .boolean), Cond.methodLink RX4 60 yX4_in, Cond.static yX4_in, Cond.code yX4_in cX4_in 3 (some .boolean), Cond.methodLink RX4 64 yX4_refuse, Cond.instanceMethod yX4_refuse, Cond.selects RX4 yX4_refuse yX4_refuse, Cond.code yX4_refuse cX4_refuse 4 (some .boolean), Cond.fieldLink RX4 57 "CutYardModel" "thrown" "I", Cond.methodLink RX4 106 yX4_take, Cond.instanceMethod yX4_take, Cond.selects RX4 yX4_take yX4_take, Cond.code yX4_take cX4_take 3 none]
def wsX4_copy_r2 : List Cond := [Cond.fieldLink RX4 48 "CutYardModel" "uses" "[I"]
def wsX4_copy : List Cond := .code yX4_copy cX4_copy 4 none :: ((wsX4_copy_r1 ++ wsX4_copy_r2) ++ wsX40)
def wsX4_size : List Cond := .code yX4_size cX4_size 2 (some .int) :: ([.fieldLink RX4 36 "CutYardModel" "sizes" "[I", .methodLink RX4 98 yX4_isFile, .static yX4_isFile, .initialized RX4, .code yX4_isFile cX4_isFile 1 (some .boolean), .methodLink RX4 60 yX4_in, .static yX4_in, .code yX4_in cX4_in 3 (some .boolean), .methodLink RX4 64 yX4_refuse, .instanceMethod yX4_refuse, .selects RX4 yX4_refuse yX4_refuse, .code yX4_refuse cX4_refuse 4 (some .boolean), .fieldLink RX4 57 "CutYardModel" "thrown" "I"] ++ wsX40)
def wsX4_get : List Cond := .code yX4_get cX4_get 4 (some .int) :: ([.fieldLink RX4 36 "CutYardModel" "sizes" "[I", .fieldLink RX4 39 "CutYardModel" "bytes" "[I", .methodLink RX4 98 yX4_isFile, .static yX4_isFile, .initialized RX4, .code yX4_isFile cX4_isFile 1 (some .boolean), .methodLink RX4 60 yX4_in, .static yX4_in, .code yX4_in cX4_in 3 (some .boolean), .methodLink RX4 64 yX4_refuse, .instanceMethod yX4_refuse, .selects RX4 yX4_refuse yX4_refuse, .code yX4_refuse cX4_refuse 4 (some .boolean), .fieldLink RX4 57 "CutYardModel" "thrown" "I"] ++ wsX40)
def wsX4_parts : List Cond := .code yX4_parts cX4_parts 2 (some .int) :: ([.fieldLink RX4 42 "CutYardModel" "counts" "[I", .methodLink RX4 98 yX4_isFile, .static yX4_isFile, .initialized RX4, .code yX4_isFile cX4_isFile 1 (some .boolean), .methodLink RX4 60 yX4_in, .static yX4_in, .code yX4_in cX4_in 3 (some .boolean), .methodLink RX4 64 yX4_refuse, .instanceMethod yX4_refuse, .selects RX4 yX4_refuse yX4_refuse, .code yX4_refuse cX4_refuse 4 (some .boolean), .fieldLink RX4 57 "CutYardModel" "thrown" "I"] ++ wsX40)
def wsX4_part : List Cond := .code yX4_part cX4_part 4 (some .int) :: ([.fieldLink RX4 42 "CutYardModel" "counts" "[I", .fieldLink RX4 45 "CutYardModel" "parts" "[I", .methodLink RX4 98 yX4_isFile, .static yX4_isFile, .initialized RX4, .code yX4_isFile cX4_isFile 1 (some .boolean), .methodLink RX4 60 yX4_in, .static yX4_in, .code yX4_in cX4_in 3 (some .boolean), .methodLink RX4 64 yX4_refuse, .instanceMethod yX4_refuse, .selects RX4 yX4_refuse yX4_refuse, .code yX4_refuse cX4_refuse 4 (some .boolean), .fieldLink RX4 57 "CutYardModel" "thrown" "I"] ++ wsX40)
def wsX4_has : List Cond := .code yX4_has cX4_has 5 (some .boolean) :: ([.fieldLink RX4 42 "CutYardModel" "counts" "[I", .fieldLink RX4 45 "CutYardModel" "parts" "[I"] ++ wsX40)
def wsX4_about : List Cond := .code yX4_about cX4_about 6 (some .int) :: ([.fieldLink RX4 48 "CutYardModel" "uses" "[I", .fieldLink RX4 51 "CutYardModel" "lengths" "[I", .methodLink RX4 60 yX4_in, .static yX4_in, .initialized RX4, .code yX4_in cX4_in 3 (some .boolean), .methodLink RX4 64 yX4_refuse, .instanceMethod yX4_refuse, .selects RX4 yX4_refuse yX4_refuse, .code yX4_refuse cX4_refuse 4 (some .boolean), .fieldLink RX4 57 "CutYardModel" "thrown" "I", .methodLink RX4 110 yX4_has, .instanceMethod yX4_has, .selects RX4 yX4_has yX4_has, .code yX4_has cX4_has 5 (some .boolean), .fieldLink RX4 42 "CutYardModel" "counts" "[I", .fieldLink RX4 45 "CutYardModel" "parts" "[I"] ++ wsX40)
def wsX4_common : List Cond := .code yX4_common cX4_common 6 (some .int) :: ([.fieldLink RX4 42 "CutYardModel" "counts" "[I", .fieldLink RX4 45 "CutYardModel" "parts" "[I", .fieldLink RX4 51 "CutYardModel" "lengths" "[I", .methodLink RX4 98 yX4_isFile, .static yX4_isFile, .initialized RX4, .code yX4_isFile cX4_isFile 1 (some .boolean), .methodLink RX4 60 yX4_in, .static yX4_in, .code yX4_in cX4_in 3 (some .boolean), .methodLink RX4 64 yX4_refuse, .instanceMethod yX4_refuse, .selects RX4 yX4_refuse yX4_refuse, .code yX4_refuse cX4_refuse 4 (some .boolean), .fieldLink RX4 57 "CutYardModel" "thrown" "I", .methodLink RX4 110 yX4_has, .instanceMethod yX4_has, .selects RX4 yX4_has yX4_has, .code yX4_has cX4_has 5 (some .boolean)] ++ wsX40)
def wsX4_all : List Cond := .code yX4_all cX4_all 5 (some .int) :: ([.fieldLink RX4 48 "CutYardModel" "uses" "[I", .fieldLink RX4 51 "CutYardModel" "lengths" "[I", .fieldLink RX4 68 "CutYardModel" "held" "I", .methodLink RX4 60 yX4_in, .static yX4_in, .initialized RX4, .code yX4_in cX4_in 3 (some .boolean), .methodLink RX4 64 yX4_refuse, .instanceMethod yX4_refuse, .selects RX4 yX4_refuse yX4_refuse, .code yX4_refuse cX4_refuse 4 (some .boolean), .fieldLink RX4 57 "CutYardModel" "thrown" "I"] ++ wsX40)
def wsJ9_max_7cf53 : List Cond := .code yJ9_max_7cf53 cJ9_max_7cf53 2 (some .int) :: ([])
def wsJ9_min_7cf53 : List Cond := .code yJ9_min_7cf53 cJ9_min_7cf53 2 (some .int) :: ([])
theorem inJx8e188 : ∀ w ∈ wsJx8e1880, w ∈ lw_tbl := by decide +kernel
theorem inJ9 : ∀ w ∈ wsJ90, w ∈ lw_tbl := by decide +kernel
theorem inJ0 : ∀ w ∈ wsJ00, w ∈ lw_tbl := by decide +kernel
theorem inJ10 : ∀ w ∈ wsJ100, w ∈ lw_tbl := by decide +kernel
theorem inJ7 : ∀ w ∈ wsJ70, w ∈ lw_tbl := by decide +kernel
set_option maxRecDepth 20000 in
theorem ggX1_endOfPart_X1_turned : GoodIn wsX1_endOfPart wsX1_turned := goodIn_r _ [11] (by decide +kernel) (by decide +kernel)
set_option maxRecDepth 20000 in
theorem gX1_endOfPart_X1_turned : GoodIn wsX1_endOfPart (va_wsS RX1 25 yX1_turned wsX1_turned) := goodIn_app (goodIn_of _ (by decide +kernel)) ggX1_endOfPart_X1_turned
set_option maxRecDepth 20000 in
theorem ggX1_endOfPart_X1_mark : GoodIn wsX1_endOfPart wsX1_mark := goodIn_r _ [14, 15] (by decide +kernel) (by decide +kernel)
set_option maxRecDepth 20000 in
theorem gX1_endOfPart_X1_mark : GoodIn wsX1_endOfPart (va_wsS RX1 28 yX1_mark wsX1_mark) := goodIn_app (goodIn_of _ (by decide +kernel)) ggX1_endOfPart_X1_mark
set_option maxRecDepth 20000 in
theorem ggX2_init_J7_fill_53178 : GoodIn wsX2_init wsJ7_fill_53178 := goodIn_r _ [18] (by decide +kernel) (by decide +kernel)
set_option maxRecDepth 20000 in
theorem gX2_init_J7_fill_53178 : GoodIn wsX2_init (va_wsS RX2 41 yJ7_fill_53178 wsJ7_fill_53178) := goodIn_app (goodIn_of _ (by decide +kernel)) ggX2_init_J7_fill_53178
set_option maxRecDepth 20000 in
theorem ggX2_empty_J7_fill_53178 : GoodIn wsX2_empty wsJ7_fill_53178 := goodIn_r _ [9] (by decide +kernel) (by decide +kernel)
set_option maxRecDepth 20000 in
theorem gX2_empty_J7_fill_53178 : GoodIn wsX2_empty (va_wsS RX2 41 yJ7_fill_53178 wsJ7_fill_53178) := goodIn_app (goodIn_of _ (by decide +kernel)) ggX2_empty_J7_fill_53178
set_option maxRecDepth 20000 in
theorem ggX2_usesOf_X2_has : GoodIn wsX2_usesOf wsX2_has := goodIn_r _ [6, 1, 7, 8, 9, 10, 11, 12, 13, 14, 15] (by decide +kernel) (by decide +kernel)
set_option maxRecDepth 20000 in
theorem gX2_usesOf_X2_has : GoodIn wsX2_usesOf (wsV RX2 47 RX2 yX2_has wsX2_has) := goodIn_app (goodIn_of _ (by decide +kernel)) ggX2_usesOf_X2_has
set_option maxRecDepth 20000 in
theorem ggX2_lengthOf_X2_has : GoodIn wsX2_lengthOf wsX2_has := goodIn_r _ [6, 7, 8, 9, 10, 11, 12, 13, 14, 15, 16] (by decide +kernel) (by decide +kernel)
set_option maxRecDepth 20000 in
theorem gX2_lengthOf_X2_has : GoodIn wsX2_lengthOf (wsV RX2 47 RX2 yX2_has wsX2_has) := goodIn_app (goodIn_of _ (by decide +kernel)) ggX2_lengthOf_X2_has
set_option maxRecDepth 20000 in
theorem ggX2_byteOf_X2_lengthOf : GoodIn wsX2_byteOf wsX2_lengthOf := goodIn_r _ [6, 7, 8, 9, 10, 5, 11, 12, 13, 14, 15, 16, 17, 18, 19, 20, 21] (by decide +kernel) (by decide +kernel)
set_option maxRecDepth 20000 in
theorem gX2_byteOf_X2_lengthOf : GoodIn wsX2_byteOf (wsV RX2 51 RX2 yX2_lengthOf wsX2_lengthOf) := goodIn_app (goodIn_of _ (by decide +kernel)) ggX2_byteOf_X2_lengthOf
set_option maxRecDepth 20000 in
theorem ggX2_writeOut_X2_lengthOf : GoodIn wsX2_writeOut wsX2_lengthOf := goodIn_r _ [10, 11, 12, 13, 14, 9, 15, 16, 17, 18, 19, 20, 21, 22, 23, 24, 25] (by decide +kernel) (by decide +kernel)
set_option maxRecDepth 20000 in
theorem gX2_writeOut_X2_lengthOf : GoodIn wsX2_writeOut (wsV RX2 51 RX2 yX2_lengthOf wsX2_lengthOf) := goodIn_app (goodIn_of _ (by decide +kernel)) ggX2_writeOut_X2_lengthOf
set_option maxRecDepth 20000 in
theorem ggX2_useAgain_X2_has : GoodIn wsX2_useAgain wsX2_has := goodIn_r _ [6, 1, 7, 8, 9, 10, 11, 12, 13, 14, 15] (by decide +kernel) (by decide +kernel)
set_option maxRecDepth 20000 in
theorem gX2_useAgain_X2_has : GoodIn wsX2_useAgain (wsV RX2 47 RX2 yX2_has wsX2_has) := goodIn_app (goodIn_of _ (by decide +kernel)) ggX2_useAgain_X2_has
set_option maxRecDepth 20000 in
theorem ggX2_take_X2_hashOf : GoodIn wsX2_take wsX2_hashOf := goodIn_r _ [4] (by decide +kernel) (by decide +kernel)
set_option maxRecDepth 20000 in
theorem gX2_take_X2_hashOf : GoodIn wsX2_take (va_wsS RX2 61 yX2_hashOf wsX2_hashOf) := goodIn_app (goodIn_of _ (by decide +kernel)) ggX2_take_X2_hashOf
set_option maxRecDepth 20000 in
theorem ggX2_take_X2_find : GoodIn wsX2_take wsX2_find := goodIn_r _ [8, 9, 10, 11, 12, 13, 14, 15, 3, 16, 17, 18, 19, 20, 21, 22, 66, 67, 68, 69, 70, 71, 72, 73, 74] (by decide +kernel) (by decide +kernel)
set_option maxRecDepth 20000 in
theorem gX2_take_X2_find : GoodIn wsX2_take (wsV RX2 65 RX2 yX2_find wsX2_find) := goodIn_app (goodIn_of _ (by decide +kernel)) ggX2_take_X2_find
set_option maxRecDepth 20000 in
theorem ggX2_take_X2_add : GoodIn wsX2_take wsX2_add := goodIn_r _ [26, 22, 27, 28, 29, 30, 17, 11, 10, 12, 9, 31, 32, 33, 34, 35, 3, 36, 37, 38, 39, 40, 41, 42, 43, 44, 45, 46, 47, 48, 49, 50, 51, 52, 53, 54, 55, 56, 57, 58, 59, 60, 61, 66, 67, 68, 69, 70, 71, 72, 73, 74] (by decide +kernel) (by decide +kernel)
set_option maxRecDepth 20000 in
theorem gX2_take_X2_add : GoodIn wsX2_take (wsV RX2 69 RX2 yX2_add wsX2_add) := goodIn_app (goodIn_of _ (by decide +kernel)) ggX2_take_X2_add
set_option maxRecDepth 20000 in
theorem ggX2_take_X2_useAgain : GoodIn wsX2_take wsX2_useAgain := goodIn_r _ [65, 17, 13, 14, 15, 3, 16, 66, 67, 68, 69, 70, 71, 72, 73, 74] (by decide +kernel) (by decide +kernel)
set_option maxRecDepth 20000 in
theorem gX2_take_X2_useAgain : GoodIn wsX2_take (wsV RX2 72 RX2 yX2_useAgain wsX2_useAgain) := goodIn_app (goodIn_of _ (by decide +kernel)) ggX2_take_X2_useAgain
set_option maxRecDepth 20000 in
theorem ggX2_giveBack_X2_has : GoodIn wsX2_giveBack wsX2_has := goodIn_r _ [14, 1, 22, 23, 24, 25, 26, 27, 28, 29, 30] (by decide +kernel) (by decide +kernel)
set_option maxRecDepth 20000 in
theorem gX2_giveBack_X2_has : GoodIn wsX2_giveBack (wsV RX2 47 RX2 yX2_has wsX2_has) := goodIn_app (goodIn_of _ (by decide +kernel)) ggX2_giveBack_X2_has
set_option maxRecDepth 20000 in
theorem ggX2_giveBack_X2_unchain : GoodIn wsX2_giveBack wsX2_unchain := goodIn_r _ [18, 19, 20, 21, 10, 11, 12, 13, 14, 1, 22, 23, 24, 25, 26, 27, 28, 29, 30] (by decide +kernel) (by decide +kernel)
set_option maxRecDepth 20000 in
theorem gX2_giveBack_X2_unchain : GoodIn wsX2_giveBack (wsV RX2 76 RX2 yX2_unchain wsX2_unchain) := goodIn_app (goodIn_of _ (by decide +kernel)) ggX2_giveBack_X2_unchain
set_option maxRecDepth 20000 in
theorem ggX2_find_X2_has : GoodIn wsX2_find wsX2_has := goodIn_r _ [9, 10, 16, 17, 18, 19, 20, 21, 22, 23, 24] (by decide +kernel) (by decide +kernel)
set_option maxRecDepth 20000 in
theorem gX2_find_X2_has : GoodIn wsX2_find (wsV RX2 47 RX2 yX2_has wsX2_has) := goodIn_app (goodIn_of _ (by decide +kernel)) ggX2_find_X2_has
set_option maxRecDepth 20000 in
theorem ggX2_find_X2_sameBytes : GoodIn wsX2_find wsX2_sameBytes := goodIn_r _ [14, 3, 15, 16, 17, 18, 19, 20, 21, 22, 23, 24] (by decide +kernel) (by decide +kernel)
set_option maxRecDepth 20000 in
theorem gX2_find_X2_sameBytes : GoodIn wsX2_find (wsV RX2 85 RX2 yX2_sameBytes wsX2_sameBytes) := goodIn_app (goodIn_of _ (by decide +kernel)) ggX2_find_X2_sameBytes
set_option maxRecDepth 20000 in
theorem ggX2_add_X2_leastFree : GoodIn wsX2_add wsX2_leastFree := goodIn_r _ [17, 18, 6, 43, 44, 45, 46, 47, 48, 49, 50, 51] (by decide +kernel) (by decide +kernel)
set_option maxRecDepth 20000 in
theorem gX2_add_X2_leastFree : GoodIn wsX2_add (wsV RX2 89 RX2 yX2_leastFree wsX2_leastFree) := goodIn_app (goodIn_of _ (by decide +kernel)) ggX2_add_X2_leastFree
set_option maxRecDepth 20000 in
theorem ggX2_add_X2_makeRoomFor : GoodIn wsX2_add wsX2_makeRoomFor := goodIn_r _ [22, 1, 23, 24, 25, 26, 27, 28, 29, 30, 31, 32, 33, 34, 35, 36, 37, 38, 39, 40, 41, 42, 3, 4, 5, 43, 44, 45, 46, 47, 48, 49, 50, 51] (by decide +kernel) (by decide +kernel)
set_option maxRecDepth 20000 in
theorem gX2_add_X2_makeRoomFor : GoodIn wsX2_add (wsV RX2 93 RX2 yX2_makeRoomFor wsX2_makeRoomFor) := goodIn_app (goodIn_of _ (by decide +kernel)) ggX2_add_X2_makeRoomFor
set_option maxRecDepth 20000 in
theorem ggX2_makeRoomFor_J7_copyOf_9075b : GoodIn wsX2_makeRoomFor wsJ7_copyOf_9075b := goodIn_r _ [12, 13, 14, 15, 16, 17, 18, 19, 20, 7, 4, 8, 21, 22, 23, 24] (by decide +kernel) (by decide +kernel)
set_option maxRecDepth 20000 in
theorem gX2_makeRoomFor_J7_copyOf_9075b : GoodIn wsX2_makeRoomFor (va_wsS RX2 99 yJ7_copyOf_9075b wsJ7_copyOf_9075b) := goodIn_app (goodIn_of _ (by decide +kernel)) ggX2_makeRoomFor_J7_copyOf_9075b
set_option maxRecDepth 20000 in
theorem ggX2_unchain_X2_has : GoodIn wsX2_unchain wsX2_has := goodIn_r _ [8, 9, 10, 11, 12, 13, 14, 15, 16, 17, 18] (by decide +kernel) (by decide +kernel)
set_option maxRecDepth 20000 in
theorem gX2_unchain_X2_has : GoodIn wsX2_unchain (wsV RX2 47 RX2 yX2_has wsX2_has) := goodIn_app (goodIn_of _ (by decide +kernel)) ggX2_unchain_X2_has
set_option maxRecDepth 20000 in
theorem ggX3_init_X1_init : GoodIn wsX3_init wsX1_init := goodIn_r _ [24, 25, 2, 3, 26, 27, 28, 52, 53, 54] (by decide +kernel) (by decide +kernel)
set_option maxRecDepth 20000 in
theorem gX3_init_X1_init_n9 : GoodIn wsX3_init (wsX1_init) := ggX3_init_X1_init
set_option maxRecDepth 20000 in
theorem ggX3_init_X2_init : GoodIn wsX3_init wsX2_init := goodIn_r _ [31, 32, 2, 3, 18, 33, 34, 35, 36, 37, 14, 38, 39, 40, 41, 42, 43, 44, 45, 63, 64, 65, 66, 67, 68, 69, 70, 71] (by decide +kernel) (by decide +kernel)
set_option maxRecDepth 20000 in
theorem gX3_init_X2_init : GoodIn wsX3_init (wsX2_init) := ggX3_init_X2_init
set_option maxRecDepth 20000 in
theorem ggX3_init_X0_init : GoodIn wsX3_init wsX0_init := goodIn_r _ [47, 48, 2, 3, 18, 49, 50, 51, 72, 73, 74] (by decide +kernel) (by decide +kernel)
set_option maxRecDepth 20000 in
theorem gX3_init_X0_init_n47 : GoodIn wsX3_init (wsX0_init) := ggX3_init_X0_init
set_option maxRecDepth 20000 in
theorem ggX3_takeParts_X1_endOfPart : GoodIn wsX3_takeParts wsX1_endOfPart := goodIn_r _ [8, 9, 10, 11, 12, 13, 14, 15, 16, 17, 7, 18, 19, 20, 21, 22, 110, 111, 112] (by decide +kernel) (by decide +kernel)
set_option maxRecDepth 20000 in
theorem gX3_takeParts_X1_endOfPart : GoodIn wsX3_takeParts (wsV RX3 162 RX1 yX1_endOfPart wsX1_endOfPart) := goodIn_app (goodIn_of _ (by decide +kernel)) ggX3_takeParts_X1_endOfPart
set_option maxRecDepth 20000 in
theorem ggX3_takeParts_X2_take : GoodIn wsX3_takeParts wsX2_take := goodIn_r _ [27, 28, 29, 26, 30, 31, 32, 33, 34, 35, 36, 37, 38, 39, 40, 41, 42, 43, 44, 45, 46, 47, 48, 49, 50, 51, 52, 53, 54, 55, 56, 57, 58, 59, 60, 61, 62, 63, 64, 65, 66, 67, 68, 69, 12, 70, 71, 11, 13, 72, 73, 74, 75, 76, 77, 78, 79, 80, 81, 82, 83, 84, 85, 86, 87, 88, 113, 114, 115, 116, 117, 118, 119, 120, 121] (by decide +kernel) (by decide +kernel)
set_option maxRecDepth 20000 in
theorem gX3_takeParts_X2_take : GoodIn wsX3_takeParts (wsV RX3 166 RX2 yX2_take wsX2_take) := goodIn_app (goodIn_of _ (by decide +kernel)) ggX3_takeParts_X2_take
set_option maxRecDepth 20000 in
theorem ggX3_takeParts_X3_giveBack : GoodIn wsX3_takeParts wsX3_giveBack := goodIn_r _ [93, 2, 94, 95, 96, 26, 97, 43, 63, 71, 11, 12, 13, 57, 58, 37, 39, 40, 41, 42, 98, 99, 100, 101, 36, 35, 38, 102, 103, 104, 105, 106, 107, 108, 109, 113, 114, 115, 116, 117, 118, 119, 120, 121] (by decide +kernel) (by decide +kernel)
set_option maxRecDepth 20000 in
theorem gX3_takeParts_X3_giveBack : GoodIn wsX3_takeParts (wsV RX3 109 RX3 yX3_giveBack wsX3_giveBack) := goodIn_app (goodIn_of _ (by decide +kernel)) ggX3_takeParts_X3_giveBack
set_option maxRecDepth 20000 in
theorem ggX3_giveBack_X2_giveBack : GoodIn wsX3_giveBack wsX2_giveBack := goodIn_r _ [6, 7, 8, 9, 10, 11, 12, 13, 14, 15, 16, 17, 18, 5, 19, 20, 21, 22, 23, 24, 25, 26, 35, 36, 37, 38, 39, 40, 41, 42, 43] (by decide +kernel) (by decide +kernel)
set_option maxRecDepth 20000 in
theorem gX3_giveBack_X2_giveBack : GoodIn wsX3_giveBack (wsV RX3 169 RX2 yX2_giveBack wsX2_giveBack) := goodIn_app (goodIn_of _ (by decide +kernel)) ggX3_giveBack_X2_giveBack
set_option maxRecDepth 20000 in
theorem ggX3_layOut_X2_writeOut : GoodIn wsX3_layOut wsX2_writeOut := goodIn_r _ [7, 8, 9, 10, 11, 12, 13, 14, 15, 6, 16, 17, 18, 19, 20, 21, 22, 34, 35, 36, 37, 38, 39, 40, 41, 42] (by decide +kernel) (by decide +kernel)
set_option maxRecDepth 20000 in
theorem gX3_layOut_X2_writeOut : GoodIn wsX3_layOut (wsV RX3 171 RX2 yX2_writeOut wsX2_writeOut) := goodIn_app (goodIn_of _ (by decide +kernel)) ggX3_layOut_X2_writeOut
set_option maxRecDepth 20000 in
theorem ggX3_filesWith_X0_hasNumber : GoodIn wsX3_filesWith wsX0_hasNumber := goodIn_r _ [6, 7, 8, 17, 18, 19] (by decide +kernel) (by decide +kernel)
set_option maxRecDepth 20000 in
theorem gX3_filesWith_X0_hasNumber : GoodIn wsX3_filesWith (wsV RX3 175 RX0 yX0_hasNumber wsX0_hasNumber) := goodIn_app (goodIn_of _ (by decide +kernel)) ggX3_filesWith_X0_hasNumber
set_option maxRecDepth 20000 in
theorem ggX4_isFile_X4_in : GoodIn wsX4_isFile wsX4_in := goodIn_r _ [4] (by decide +kernel) (by decide +kernel)
set_option maxRecDepth 20000 in
theorem gX4_isFile_X4_in : GoodIn wsX4_isFile (va_wsS RX4 60 yX4_in wsX4_in) := goodIn_app (goodIn_of _ (by decide +kernel)) ggX4_isFile_X4_in
set_option maxRecDepth 20000 in
theorem ggX4_begin_X4_in : GoodIn wsX4_begin wsX4_in := goodIn_r _ [10] (by decide +kernel) (by decide +kernel)
set_option maxRecDepth 20000 in
theorem gX4_begin_X4_in : GoodIn wsX4_begin (va_wsS RX4 60 yX4_in wsX4_in) := goodIn_app (goodIn_of _ (by decide +kernel)) ggX4_begin_X4_in
set_option maxRecDepth 20000 in
theorem ggX4_begin_X4_refuse : GoodIn wsX4_begin wsX4_refuse := goodIn_r _ [14, 15, 16, 17, 18, 19, 20, 21, 22, 23, 24, 25, 26, 27, 28, 29, 30, 31, 32, 33, 34] (by decide +kernel) (by decide +kernel)
set_option maxRecDepth 20000 in
theorem gX4_begin_X4_refuse : GoodIn wsX4_begin (wsV RX4 64 RX4 yX4_refuse wsX4_refuse) := goodIn_app (goodIn_of _ (by decide +kernel)) ggX4_begin_X4_refuse
set_option maxRecDepth 20000 in
theorem ggX4_put_X4_in : GoodIn wsX4_put wsX4_in := goodIn_r _ [6] (by decide +kernel) (by decide +kernel)
set_option maxRecDepth 20000 in
theorem gX4_put_X4_in : GoodIn wsX4_put (va_wsS RX4 60 yX4_in wsX4_in) := goodIn_app (goodIn_of _ (by decide +kernel)) ggX4_put_X4_in
set_option maxRecDepth 20000 in
theorem ggX4_put_X4_refuse : GoodIn wsX4_put wsX4_refuse := goodIn_r _ [10, 11, 12, 13, 14, 15, 16, 17, 18, 19, 20, 21, 22, 23, 24, 25, 26, 27, 28, 29, 30] (by decide +kernel) (by decide +kernel)
set_option maxRecDepth 20000 in
theorem gX4_put_X4_refuse : GoodIn wsX4_put (wsV RX4 64 RX4 yX4_refuse wsX4_refuse) := goodIn_app (goodIn_of _ (by decide +kernel)) ggX4_put_X4_refuse
set_option maxRecDepth 20000 in
theorem ggX4_sum_X4_mark : GoodIn wsX4_sum wsX4_mark := goodIn_r _ [5, 6] (by decide +kernel) (by decide +kernel)
set_option maxRecDepth 20000 in
theorem gX4_sum_X4_mark : GoodIn wsX4_sum (va_wsS RX4 72 yX4_mark wsX4_mark) := goodIn_app (goodIn_of _ (by decide +kernel)) ggX4_sum_X4_mark
set_option maxRecDepth 20000 in
theorem ggX4_cut_X4_sum : GoodIn wsX4_cut wsX4_sum := goodIn_r _ [11, 12, 13, 14, 10, 15, 16, 17, 18, 19, 20, 21, 22, 23, 24, 25, 26, 27, 28, 29, 30, 31, 32, 33, 34, 35] (by decide +kernel) (by decide +kernel)
set_option maxRecDepth 20000 in
theorem gX4_cut_X4_sum : GoodIn wsX4_cut (wsV RX4 82 RX4 yX4_sum wsX4_sum) := goodIn_app (goodIn_of _ (by decide +kernel)) ggX4_cut_X4_sum
set_option maxRecDepth 20000 in
theorem ggX4_numberOf_X4_isPart : GoodIn wsX4_numberOf wsX4_isPart := goodIn_r _ [10, 1, 2, 3, 4, 5, 11, 12, 13, 14, 15, 16, 17, 18, 19, 20, 21, 22, 23, 24, 25, 26, 27, 28, 29] (by decide +kernel) (by decide +kernel)
set_option maxRecDepth 20000 in
theorem gX4_numberOf_X4_isPart : GoodIn wsX4_numberOf (wsV RX4 86 RX4 yX4_isPart wsX4_isPart) := goodIn_app (goodIn_of _ (by decide +kernel)) ggX4_numberOf_X4_isPart
set_option maxRecDepth 20000 in
theorem ggX4_give_X4_cut : GoodIn wsX4_give wsX4_cut := goodIn_r _ [9, 2, 10, 11, 12, 13, 4, 14, 15, 16, 8, 17, 18, 19, 20, 21, 22, 38, 39, 40, 41, 42, 43, 44, 45, 46, 47, 48, 49, 50, 51, 52, 53, 54, 55, 56] (by decide +kernel) (by decide +kernel)
set_option maxRecDepth 20000 in
theorem gX4_give_X4_cut : GoodIn wsX4_give (wsV RX4 89 RX4 yX4_cut wsX4_cut) := goodIn_app (goodIn_of _ (by decide +kernel)) ggX4_give_X4_cut
set_option maxRecDepth 20000 in
theorem ggX4_give_X4_beginOf : GoodIn wsX4_give wsX4_beginOf := goodIn_r _ [26, 4, 38, 39, 40, 41, 42, 43, 44, 45, 46, 47, 48, 49, 50, 51, 52, 53, 54, 55, 56] (by decide +kernel) (by decide +kernel)
set_option maxRecDepth 20000 in
theorem gX4_give_X4_beginOf : GoodIn wsX4_give (wsV RX4 92 RX4 yX4_beginOf wsX4_beginOf) := goodIn_app (goodIn_of _ (by decide +kernel)) ggX4_give_X4_beginOf
set_option maxRecDepth 20000 in
theorem ggX4_give_X4_numberOf : GoodIn wsX4_give wsX4_numberOf := goodIn_r _ [30, 31, 1, 32, 33, 18, 34, 35, 36, 8, 37, 38, 39, 40, 41, 42, 43, 44, 45, 46, 47, 48, 49, 50, 51, 52, 53, 54, 55, 56] (by decide +kernel) (by decide +kernel)
set_option maxRecDepth 20000 in
theorem gX4_give_X4_numberOf : GoodIn wsX4_give (wsV RX4 95 RX4 yX4_numberOf wsX4_numberOf) := goodIn_app (goodIn_of _ (by decide +kernel)) ggX4_give_X4_numberOf
set_option maxRecDepth 20000 in
theorem ggX4_store_X4_isFile : GoodIn wsX4_store wsX4_isFile := goodIn_r _ [8, 9, 10, 7, 11] (by decide +kernel) (by decide +kernel)
set_option maxRecDepth 20000 in
theorem gX4_store_X4_isFile : GoodIn wsX4_store (va_wsS RX4 98 yX4_isFile wsX4_isFile) := goodIn_app (goodIn_of _ (by decide +kernel)) ggX4_store_X4_isFile
set_option maxRecDepth 20000 in
theorem ggX4_store_X4_refuse : GoodIn wsX4_store wsX4_refuse := goodIn_r _ [15, 16, 63, 64, 65, 66, 67, 68, 69, 70, 71, 72, 73, 74, 75, 76, 77, 78, 79, 80, 81] (by decide +kernel) (by decide +kernel)
set_option maxRecDepth 20000 in
theorem gX4_store_X4_refuse : GoodIn wsX4_store (wsV RX4 64 RX4 yX4_refuse wsX4_refuse) := goodIn_app (goodIn_of _ (by decide +kernel)) ggX4_store_X4_refuse
set_option maxRecDepth 20000 in
theorem ggX4_store_X4_give : GoodIn wsX4_store wsX4_give := goodIn_r _ [20, 21, 22, 23, 24, 25, 26, 27, 7, 28, 2, 29, 30, 31, 32, 33, 34, 35, 3, 36, 37, 38, 39, 40, 41, 42, 43, 44, 45, 46, 47, 48, 49, 50, 51, 52, 53, 54, 63, 64, 65, 66, 67, 68, 69, 70, 71, 72, 73, 74, 75, 76, 77, 78, 79, 80, 81] (by decide +kernel) (by decide +kernel)
set_option maxRecDepth 20000 in
theorem gX4_store_X4_give : GoodIn wsX4_store (wsV RX4 102 RX4 yX4_give wsX4_give) := goodIn_app (goodIn_of _ (by decide +kernel)) ggX4_store_X4_give
set_option maxRecDepth 20000 in
theorem ggX4_store_X4_take : GoodIn wsX4_store wsX4_take := goodIn_r _ [58, 22, 48, 23, 59, 60, 61, 2, 62, 3, 63, 64, 65, 66, 67, 68, 69, 70, 71, 72, 73, 74, 75, 76, 77, 78, 79, 80, 81] (by decide +kernel) (by decide +kernel)
set_option maxRecDepth 20000 in
theorem gX4_store_X4_take : GoodIn wsX4_store (wsV RX4 106 RX4 yX4_take wsX4_take) := goodIn_app (goodIn_of _ (by decide +kernel)) ggX4_store_X4_take
set_option maxRecDepth 20000 in
theorem ggX4_edit_X4_isFile : GoodIn wsX4_edit wsX4_isFile := goodIn_r _ [10, 11, 12, 9, 13] (by decide +kernel) (by decide +kernel)
set_option maxRecDepth 20000 in
theorem gX4_edit_X4_isFile : GoodIn wsX4_edit (va_wsS RX4 98 yX4_isFile wsX4_isFile) := goodIn_app (goodIn_of _ (by decide +kernel)) ggX4_edit_X4_isFile
set_option maxRecDepth 20000 in
theorem ggX4_edit_X4_in : GoodIn wsX4_edit wsX4_in := goodIn_r _ [13] (by decide +kernel) (by decide +kernel)
set_option maxRecDepth 20000 in
theorem gX4_edit_X4_in : GoodIn wsX4_edit (va_wsS RX4 60 yX4_in wsX4_in) := goodIn_app (goodIn_of _ (by decide +kernel)) ggX4_edit_X4_in
set_option maxRecDepth 20000 in
theorem ggX4_edit_X4_refuse : GoodIn wsX4_edit wsX4_refuse := goodIn_r _ [17, 18, 63, 64, 65, 66, 67, 68, 69, 70, 71, 72, 73, 74, 75, 76, 77, 78, 79, 80, 81] (by decide +kernel) (by decide +kernel)
set_option maxRecDepth 20000 in
theorem gX4_edit_X4_refuse : GoodIn wsX4_edit (wsV RX4 64 RX4 yX4_refuse wsX4_refuse) := goodIn_app (goodIn_of _ (by decide +kernel)) ggX4_edit_X4_refuse
set_option maxRecDepth 20000 in
theorem ggX4_edit_X4_give : GoodIn wsX4_edit wsX4_give := goodIn_r _ [22, 23, 24, 25, 26, 27, 28, 29, 9, 30, 3, 31, 32, 33, 34, 35, 36, 37, 4, 38, 39, 40, 41, 42, 43, 44, 45, 46, 47, 48, 49, 50, 51, 52, 53, 54, 55, 56, 63, 64, 65, 66, 67, 68, 69, 70, 71, 72, 73, 74, 75, 76, 77, 78, 79, 80, 81] (by decide +kernel) (by decide +kernel)
set_option maxRecDepth 20000 in
theorem gX4_edit_X4_give : GoodIn wsX4_edit (wsV RX4 102 RX4 yX4_give wsX4_give) := goodIn_app (goodIn_of _ (by decide +kernel)) ggX4_edit_X4_give
set_option maxRecDepth 20000 in
theorem ggX4_edit_X4_take : GoodIn wsX4_edit wsX4_take := goodIn_r _ [60, 24, 50, 25, 61, 62, 1, 3, 5, 4, 63, 64, 65, 66, 67, 68, 69, 70, 71, 72, 73, 74, 75, 76, 77, 78, 79, 80, 81] (by decide +kernel) (by decide +kernel)
set_option maxRecDepth 20000 in
theorem gX4_edit_X4_take : GoodIn wsX4_edit (wsV RX4 106 RX4 yX4_take wsX4_take) := goodIn_app (goodIn_of _ (by decide +kernel)) ggX4_edit_X4_take
set_option maxRecDepth 20000 in
theorem ggX4_copy_X4_isFile : GoodIn wsX4_copy wsX4_isFile := goodIn_r _ [12, 13, 14, 11, 15] (by decide +kernel) (by decide +kernel)
set_option maxRecDepth 20000 in
theorem gX4_copy_X4_isFile : GoodIn wsX4_copy (va_wsS RX4 98 yX4_isFile wsX4_isFile) := goodIn_app (goodIn_of _ (by decide +kernel)) ggX4_copy_X4_isFile
set_option maxRecDepth 20000 in
theorem ggX4_copy_X4_refuse : GoodIn wsX4_copy wsX4_refuse := goodIn_r _ [19, 20, 26, 27, 28, 29, 30, 31, 32, 33, 34, 35, 36, 37, 38, 39, 40, 41, 42, 43, 44] (by decide +kernel) (by decide +kernel)
set_option maxRecDepth 20000 in
theorem gX4_copy_X4_refuse : GoodIn wsX4_copy (wsV RX4 64 RX4 yX4_refuse wsX4_refuse) := goodIn_app (goodIn_of _ (by decide +kernel)) ggX4_copy_X4_refuse
set_option maxRecDepth 20000 in
theorem ggX4_copy_X4_take : GoodIn wsX4_copy wsX4_take := goodIn_r _ [24, 4, 25, 7, 3, 8, 1, 2, 6, 5, 26, 27, 28, 29, 30, 31, 32, 33, 34, 35, 36, 37, 38, 39, 40, 41, 42, 43, 44] (by decide +kernel) (by decide +kernel)
set_option maxRecDepth 20000 in
theorem gX4_copy_X4_take : GoodIn wsX4_copy (wsV RX4 106 RX4 yX4_take wsX4_take) := goodIn_app (goodIn_of _ (by decide +kernel)) ggX4_copy_X4_take
set_option maxRecDepth 20000 in
theorem ggX4_size_X4_isFile : GoodIn wsX4_size wsX4_isFile := goodIn_r _ [5, 6, 7, 4, 8] (by decide +kernel) (by decide +kernel)
set_option maxRecDepth 20000 in
theorem gX4_size_X4_isFile : GoodIn wsX4_size (va_wsS RX4 98 yX4_isFile wsX4_isFile) := goodIn_app (goodIn_of _ (by decide +kernel)) ggX4_size_X4_isFile
set_option maxRecDepth 20000 in
theorem ggX4_size_X4_refuse : GoodIn wsX4_size wsX4_refuse := goodIn_r _ [12, 13, 14, 15, 16, 17, 18, 19, 20, 21, 22, 23, 24, 25, 26, 27, 28, 29, 30, 31, 32] (by decide +kernel) (by decide +kernel)
set_option maxRecDepth 20000 in
theorem gX4_size_X4_refuse : GoodIn wsX4_size (wsV RX4 64 RX4 yX4_refuse wsX4_refuse) := goodIn_app (goodIn_of _ (by decide +kernel)) ggX4_size_X4_refuse
set_option maxRecDepth 20000 in
theorem ggX4_get_X4_isFile : GoodIn wsX4_get wsX4_isFile := goodIn_r _ [6, 7, 8, 5, 9] (by decide +kernel) (by decide +kernel)
set_option maxRecDepth 20000 in
theorem gX4_get_X4_isFile : GoodIn wsX4_get (va_wsS RX4 98 yX4_isFile wsX4_isFile) := goodIn_app (goodIn_of _ (by decide +kernel)) ggX4_get_X4_isFile
set_option maxRecDepth 20000 in
theorem ggX4_get_X4_in : GoodIn wsX4_get wsX4_in := goodIn_r _ [9] (by decide +kernel) (by decide +kernel)
set_option maxRecDepth 20000 in
theorem gX4_get_X4_in : GoodIn wsX4_get (va_wsS RX4 60 yX4_in wsX4_in) := goodIn_app (goodIn_of _ (by decide +kernel)) ggX4_get_X4_in
set_option maxRecDepth 20000 in
theorem ggX4_get_X4_refuse : GoodIn wsX4_get wsX4_refuse := goodIn_r _ [13, 14, 15, 16, 17, 18, 19, 20, 21, 22, 23, 24, 25, 26, 27, 28, 29, 30, 31, 32, 33] (by decide +kernel) (by decide +kernel)
set_option maxRecDepth 20000 in
theorem gX4_get_X4_refuse : GoodIn wsX4_get (wsV RX4 64 RX4 yX4_refuse wsX4_refuse) := goodIn_app (goodIn_of _ (by decide +kernel)) ggX4_get_X4_refuse
set_option maxRecDepth 20000 in
theorem ggX4_parts_X4_isFile : GoodIn wsX4_parts wsX4_isFile := goodIn_r _ [5, 6, 7, 4, 8] (by decide +kernel) (by decide +kernel)
set_option maxRecDepth 20000 in
theorem gX4_parts_X4_isFile : GoodIn wsX4_parts (va_wsS RX4 98 yX4_isFile wsX4_isFile) := goodIn_app (goodIn_of _ (by decide +kernel)) ggX4_parts_X4_isFile
set_option maxRecDepth 20000 in
theorem ggX4_parts_X4_refuse : GoodIn wsX4_parts wsX4_refuse := goodIn_r _ [12, 13, 14, 15, 16, 17, 18, 19, 20, 21, 22, 23, 24, 25, 26, 27, 28, 29, 30, 31, 32] (by decide +kernel) (by decide +kernel)
set_option maxRecDepth 20000 in
theorem gX4_parts_X4_refuse : GoodIn wsX4_parts (wsV RX4 64 RX4 yX4_refuse wsX4_refuse) := goodIn_app (goodIn_of _ (by decide +kernel)) ggX4_parts_X4_refuse
set_option maxRecDepth 20000 in
theorem ggX4_part_X4_isFile : GoodIn wsX4_part wsX4_isFile := goodIn_r _ [6, 7, 8, 5, 9] (by decide +kernel) (by decide +kernel)
set_option maxRecDepth 20000 in
theorem gX4_part_X4_isFile : GoodIn wsX4_part (va_wsS RX4 98 yX4_isFile wsX4_isFile) := goodIn_app (goodIn_of _ (by decide +kernel)) ggX4_part_X4_isFile
set_option maxRecDepth 20000 in
theorem ggX4_part_X4_in : GoodIn wsX4_part wsX4_in := goodIn_r _ [9] (by decide +kernel) (by decide +kernel)
set_option maxRecDepth 20000 in
theorem gX4_part_X4_in : GoodIn wsX4_part (va_wsS RX4 60 yX4_in wsX4_in) := goodIn_app (goodIn_of _ (by decide +kernel)) ggX4_part_X4_in
set_option maxRecDepth 20000 in
theorem ggX4_part_X4_refuse : GoodIn wsX4_part wsX4_refuse := goodIn_r _ [13, 14, 15, 16, 17, 18, 19, 20, 21, 22, 23, 24, 25, 26, 27, 28, 29, 30, 31, 32, 33] (by decide +kernel) (by decide +kernel)
set_option maxRecDepth 20000 in
theorem gX4_part_X4_refuse : GoodIn wsX4_part (wsV RX4 64 RX4 yX4_refuse wsX4_refuse) := goodIn_app (goodIn_of _ (by decide +kernel)) ggX4_part_X4_refuse
set_option maxRecDepth 20000 in
theorem ggX4_about_X4_in : GoodIn wsX4_about wsX4_in := goodIn_r _ [6] (by decide +kernel) (by decide +kernel)
set_option maxRecDepth 20000 in
theorem gX4_about_X4_in : GoodIn wsX4_about (va_wsS RX4 60 yX4_in wsX4_in) := goodIn_app (goodIn_of _ (by decide +kernel)) ggX4_about_X4_in
set_option maxRecDepth 20000 in
theorem ggX4_about_X4_refuse : GoodIn wsX4_about wsX4_refuse := goodIn_r _ [10, 11, 18, 19, 20, 21, 22, 23, 24, 25, 26, 27, 28, 29, 30, 31, 32, 33, 34, 35, 36] (by decide +kernel) (by decide +kernel)
set_option maxRecDepth 20000 in
theorem gX4_about_X4_refuse : GoodIn wsX4_about (wsV RX4 64 RX4 yX4_refuse wsX4_refuse) := goodIn_app (goodIn_of _ (by decide +kernel)) ggX4_about_X4_refuse
set_option maxRecDepth 20000 in
theorem ggX4_about_X4_has : GoodIn wsX4_about wsX4_has := goodIn_r _ [15, 16, 17, 18, 19, 20, 21, 22, 23, 24, 25, 26, 27, 28, 29, 30, 31, 32, 33, 34, 35, 36] (by decide +kernel) (by decide +kernel)
set_option maxRecDepth 20000 in
theorem gX4_about_X4_has : GoodIn wsX4_about (wsV RX4 110 RX4 yX4_has wsX4_has) := goodIn_app (goodIn_of _ (by decide +kernel)) ggX4_about_X4_has
set_option maxRecDepth 20000 in
theorem ggX4_common_X4_isFile : GoodIn wsX4_common wsX4_isFile := goodIn_r _ [7, 8, 9, 6, 10] (by decide +kernel) (by decide +kernel)
set_option maxRecDepth 20000 in
theorem gX4_common_X4_isFile : GoodIn wsX4_common (va_wsS RX4 98 yX4_isFile wsX4_isFile) := goodIn_app (goodIn_of _ (by decide +kernel)) ggX4_common_X4_isFile
set_option maxRecDepth 20000 in
theorem ggX4_common_X4_refuse : GoodIn wsX4_common wsX4_refuse := goodIn_r _ [14, 15, 20, 21, 22, 23, 24, 25, 26, 27, 28, 29, 30, 31, 32, 33, 34, 35, 36, 37, 38] (by decide +kernel) (by decide +kernel)
set_option maxRecDepth 20000 in
theorem gX4_common_X4_refuse : GoodIn wsX4_common (wsV RX4 64 RX4 yX4_refuse wsX4_refuse) := goodIn_app (goodIn_of _ (by decide +kernel)) ggX4_common_X4_refuse
set_option maxRecDepth 20000 in
theorem ggX4_common_X4_has : GoodIn wsX4_common wsX4_has := goodIn_r _ [19, 1, 2, 20, 21, 22, 23, 24, 25, 26, 27, 28, 29, 30, 31, 32, 33, 34, 35, 36, 37, 38] (by decide +kernel) (by decide +kernel)
set_option maxRecDepth 20000 in
theorem gX4_common_X4_has : GoodIn wsX4_common (wsV RX4 110 RX4 yX4_has wsX4_has) := goodIn_app (goodIn_of _ (by decide +kernel)) ggX4_common_X4_has
set_option maxRecDepth 20000 in
theorem ggX4_all_X4_in : GoodIn wsX4_all wsX4_in := goodIn_r _ [7] (by decide +kernel) (by decide +kernel)
set_option maxRecDepth 20000 in
theorem gX4_all_X4_in : GoodIn wsX4_all (va_wsS RX4 60 yX4_in wsX4_in) := goodIn_app (goodIn_of _ (by decide +kernel)) ggX4_all_X4_in
set_option maxRecDepth 20000 in
theorem ggX4_all_X4_refuse : GoodIn wsX4_all wsX4_refuse := goodIn_r _ [11, 12, 13, 14, 15, 16, 17, 18, 19, 20, 21, 22, 23, 24, 25, 26, 27, 28, 29, 30, 31] (by decide +kernel) (by decide +kernel)
set_option maxRecDepth 20000 in
theorem gX4_all_X4_refuse : GoodIn wsX4_all (wsV RX4 64 RX4 yX4_refuse wsX4_refuse) := goodIn_app (goodIn_of _ (by decide +kernel)) ggX4_all_X4_refuse
abbrev vwCl : List vw_C := [(RX0, TX0, 3), (RX1, TX1, 3), (RX2, TX2, 9), (RX3, TX3, 8), (RX4, TX4, 19)]
end
section
theorem dX0_init_0 : decode cX0_init 0 = .ok (.aload_n 0, 1) := by decide +kernel
theorem dX0_init_1 : decode cX0_init 1 = .ok (.invokespecial 3, 3) := by decide +kernel
theorem dX0_init_4 : decode cX0_init 4 = .ok (.aload_n 0, 1) := by decide +kernel
theorem dX0_init_5 : decode cX0_init 5 = .ok (.bipush 16, 2) := by decide +kernel
theorem dX0_init_7 : decode cX0_init 7 = .ok (.newarray .int, 2) := by decide +kernel
theorem dX0_init_9 : decode cX0_init 9 = .ok (.putfield 11, 3) := by decide +kernel
theorem dX0_init_12 : decode cX0_init 12 = .ok (.aload_n 0, 1) := by decide +kernel
theorem dX0_init_13 : decode cX0_init 13 = .ok (.iconst 0, 1) := by decide +kernel
theorem dX0_init_14 : decode cX0_init 14 = .ok (.putfield 15, 3) := by decide +kernel
theorem dX0_init_17 : decode cX0_init 17 = .ok (.aload_n 0, 1) := by decide +kernel
theorem dX0_init_18 : decode cX0_init 18 = .ok (.iconst 0, 1) := by decide +kernel
theorem dX0_init_19 : decode cX0_init 19 = .ok (.putfield 19, 3) := by decide +kernel
theorem dX0_init_22 : decode cX0_init 22 = .ok (.return_, 1) := by decide +kernel
theorem dX0_empty_0 : decode cX0_empty 0 = .ok (.aload_n 0, 1) := by decide +kernel
theorem dX0_empty_1 : decode cX0_empty 1 = .ok (.iconst 0, 1) := by decide +kernel
theorem dX0_empty_2 : decode cX0_empty 2 = .ok (.putfield 15, 3) := by decide +kernel
theorem dX0_empty_5 : decode cX0_empty 5 = .ok (.aload_n 0, 1) := by decide +kernel
theorem dX0_empty_6 : decode cX0_empty 6 = .ok (.iconst 0, 1) := by decide +kernel
theorem dX0_empty_7 : decode cX0_empty 7 = .ok (.putfield 19, 3) := by decide +kernel
theorem dX0_empty_10 : decode cX0_empty 10 = .ok (.return_, 1) := by decide +kernel
theorem dX0_become_0 : decode cX0_become 0 = .ok (.iload_n 2, 1) := by decide +kernel
theorem dX0_become_1 : decode cX0_become 1 = .ok (.aload_n 0, 1) := by decide +kernel
theorem dX0_become_2 : decode cX0_become 2 = .ok (.getfield 11, 3) := by decide +kernel
theorem dX0_become_5 : decode cX0_become 5 = .ok (.arraylength, 1) := by decide +kernel
theorem dX0_become_6 : decode cX0_become 6 = .ok (.if_icmp .le 26, 3) := by decide +kernel
theorem dX0_become_9 : decode cX0_become 9 = .ok (.aload_n 0, 1) := by decide +kernel
theorem dX0_become_10 : decode cX0_become 10 = .ok (.sipush 1500, 3) := by decide +kernel
theorem dX0_become_13 : decode cX0_become 13 = .ok (.iload_n 2, 1) := by decide +kernel
theorem dX0_become_14 : decode cX0_become 14 = .ok (.iconst 2, 1) := by decide +kernel
theorem dX0_become_15 : decode cX0_become 15 = .ok (.aload_n 0, 1) := by decide +kernel
theorem dX0_become_16 : decode cX0_become 16 = .ok (.getfield 11, 3) := by decide +kernel
theorem dX0_become_19 : decode cX0_become 19 = .ok (.arraylength, 1) := by decide +kernel
theorem dX0_become_20 : decode cX0_become 20 = .ok (.imul, 1) := by decide +kernel
theorem dX0_become_21 : decode cX0_become 21 = .ok (.invokestatic 22, 3) := by decide +kernel
theorem dX0_become_24 : decode cX0_become 24 = .ok (.invokestatic 28, 3) := by decide +kernel
theorem dX0_become_27 : decode cX0_become 27 = .ok (.newarray .int, 2) := by decide +kernel
theorem dX0_become_29 : decode cX0_become 29 = .ok (.putfield 11, 3) := by decide +kernel
theorem dX0_become_32 : decode cX0_become 32 = .ok (.aload_n 1, 1) := by decide +kernel
theorem dX0_become_33 : decode cX0_become 33 = .ok (.iconst 0, 1) := by decide +kernel
theorem dX0_become_34 : decode cX0_become 34 = .ok (.aload_n 0, 1) := by decide +kernel
theorem dX0_become_35 : decode cX0_become 35 = .ok (.getfield 11, 3) := by decide +kernel
theorem dX0_become_38 : decode cX0_become 38 = .ok (.iconst 0, 1) := by decide +kernel
theorem dX0_become_39 : decode cX0_become 39 = .ok (.iload_n 2, 1) := by decide +kernel
theorem dX0_become_40 : decode cX0_become 40 = .ok (.invokestatic 31, 3) := by decide +kernel
theorem dX0_become_43 : decode cX0_become 43 = .ok (.aload_n 0, 1) := by decide +kernel
theorem dX0_become_44 : decode cX0_become 44 = .ok (.iload_n 2, 1) := by decide +kernel
theorem dX0_become_45 : decode cX0_become 45 = .ok (.putfield 15, 3) := by decide +kernel
theorem dX0_become_48 : decode cX0_become 48 = .ok (.aload_n 0, 1) := by decide +kernel
theorem dX0_become_49 : decode cX0_become 49 = .ok (.iload_n 3, 1) := by decide +kernel
theorem dX0_become_50 : decode cX0_become 50 = .ok (.putfield 19, 3) := by decide +kernel
theorem dX0_become_53 : decode cX0_become 53 = .ok (.return_, 1) := by decide +kernel
theorem dX0_hasNumber_0 : decode cX0_hasNumber 0 = .ok (.iconst 0, 1) := by decide +kernel
theorem dX0_hasNumber_1 : decode cX0_hasNumber 1 = .ok (.istore_n 2, 1) := by decide +kernel
theorem dX0_hasNumber_2 : decode cX0_hasNumber 2 = .ok (.iload_n 2, 1) := by decide +kernel
theorem dX0_hasNumber_3 : decode cX0_hasNumber 3 = .ok (.aload_n 0, 1) := by decide +kernel
theorem dX0_hasNumber_4 : decode cX0_hasNumber 4 = .ok (.getfield 15, 3) := by decide +kernel
theorem dX0_hasNumber_7 : decode cX0_hasNumber 7 = .ok (.if_icmp .ge 21, 3) := by decide +kernel
theorem dX0_hasNumber_10 : decode cX0_hasNumber 10 = .ok (.aload_n 0, 1) := by decide +kernel
theorem dX0_hasNumber_11 : decode cX0_hasNumber 11 = .ok (.getfield 11, 3) := by decide +kernel
theorem dX0_hasNumber_14 : decode cX0_hasNumber 14 = .ok (.iload_n 2, 1) := by decide +kernel
theorem dX0_hasNumber_15 : decode cX0_hasNumber 15 = .ok (.iaload, 1) := by decide +kernel
theorem dX0_hasNumber_16 : decode cX0_hasNumber 16 = .ok (.iload_n 1, 1) := by decide +kernel
theorem dX0_hasNumber_17 : decode cX0_hasNumber 17 = .ok (.if_icmp .ne 5, 3) := by decide +kernel
theorem dX0_hasNumber_20 : decode cX0_hasNumber 20 = .ok (.iconst 1, 1) := by decide +kernel
theorem dX0_hasNumber_21 : decode cX0_hasNumber 21 = .ok (.ireturn, 1) := by decide +kernel
theorem dX0_hasNumber_22 : decode cX0_hasNumber 22 = .ok (.iinc 2 1, 3) := by decide +kernel
theorem dX0_hasNumber_25 : decode cX0_hasNumber 25 = .ok (.goto (-23), 3) := by decide +kernel
theorem dX0_hasNumber_28 : decode cX0_hasNumber 28 = .ok (.iconst 0, 1) := by decide +kernel
theorem dX0_hasNumber_29 : decode cX0_hasNumber 29 = .ok (.ireturn, 1) := by decide +kernel
theorem dX1_init_0 : decode cX1_init 0 = .ok (.aload_n 0, 1) := by decide +kernel
theorem dX1_init_1 : decode cX1_init 1 = .ok (.invokespecial 1, 3) := by decide +kernel
theorem dX1_init_4 : decode cX1_init 4 = .ok (.aload_n 0, 1) := by decide +kernel
theorem dX1_init_5 : decode cX1_init 5 = .ok (.bipush 15, 2) := by decide +kernel
theorem dX1_init_7 : decode cX1_init 7 = .ok (.putfield 7, 3) := by decide +kernel
theorem dX1_init_10 : decode cX1_init 10 = .ok (.aload_n 0, 1) := by decide +kernel
theorem dX1_init_11 : decode cX1_init 11 = .ok (.iconst 4, 1) := by decide +kernel
theorem dX1_init_12 : decode cX1_init 12 = .ok (.putfield 13, 3) := by decide +kernel
theorem dX1_init_15 : decode cX1_init 15 = .ok (.aload_n 0, 1) := by decide +kernel
theorem dX1_init_16 : decode cX1_init 16 = .ok (.bipush 32, 2) := by decide +kernel
theorem dX1_init_18 : decode cX1_init 18 = .ok (.putfield 16, 3) := by decide +kernel
theorem dX1_init_21 : decode cX1_init 21 = .ok (.return_, 1) := by decide +kernel
theorem dX1_setRule_0 : decode cX1_setRule 0 = .ok (.aload_n 0, 1) := by decide +kernel
theorem dX1_setRule_1 : decode cX1_setRule 1 = .ok (.iconst 1, 1) := by decide +kernel
theorem dX1_setRule_2 : decode cX1_setRule 2 = .ok (.iload_n 1, 1) := by decide +kernel
theorem dX1_setRule_3 : decode cX1_setRule 3 = .ok (.ishl, 1) := by decide +kernel
theorem dX1_setRule_4 : decode cX1_setRule 4 = .ok (.iconst 1, 1) := by decide +kernel
theorem dX1_setRule_5 : decode cX1_setRule 5 = .ok (.isub, 1) := by decide +kernel
theorem dX1_setRule_6 : decode cX1_setRule 6 = .ok (.putfield 7, 3) := by decide +kernel
theorem dX1_setRule_9 : decode cX1_setRule 9 = .ok (.aload_n 0, 1) := by decide +kernel
theorem dX1_setRule_10 : decode cX1_setRule 10 = .ok (.iload_n 2, 1) := by decide +kernel
theorem dX1_setRule_11 : decode cX1_setRule 11 = .ok (.putfield 13, 3) := by decide +kernel
theorem dX1_setRule_14 : decode cX1_setRule 14 = .ok (.aload_n 0, 1) := by decide +kernel
theorem dX1_setRule_15 : decode cX1_setRule 15 = .ok (.iload_n 3, 1) := by decide +kernel
theorem dX1_setRule_16 : decode cX1_setRule 16 = .ok (.putfield 16, 3) := by decide +kernel
theorem dX1_setRule_19 : decode cX1_setRule 19 = .ok (.return_, 1) := by decide +kernel
theorem dX1_endOfPart_0 : decode cX1_endOfPart 0 = .ok (.iload_n 3, 1) := by decide +kernel
theorem dX1_endOfPart_1 : decode cX1_endOfPart 1 = .ok (.iload_n 2, 1) := by decide +kernel
theorem dX1_endOfPart_2 : decode cX1_endOfPart 2 = .ok (.aload_n 0, 1) := by decide +kernel
theorem dX1_endOfPart_3 : decode cX1_endOfPart 3 = .ok (.getfield 16, 3) := by decide +kernel
theorem dX1_endOfPart_6 : decode cX1_endOfPart 6 = .ok (.iadd, 1) := by decide +kernel
theorem dX1_endOfPart_7 : decode cX1_endOfPart 7 = .ok (.invokestatic 19, 3) := by decide +kernel
theorem dX1_endOfPart_10 : decode cX1_endOfPart 10 = .ok (.istore 4, 2) := by decide +kernel
theorem dX1_endOfPart_12 : decode cX1_endOfPart 12 = .ok (.iconst 0, 1) := by decide +kernel
theorem dX1_endOfPart_13 : decode cX1_endOfPart 13 = .ok (.istore 5, 2) := by decide +kernel
theorem dX1_endOfPart_15 : decode cX1_endOfPart 15 = .ok (.iload_n 2, 1) := by decide +kernel
theorem dX1_endOfPart_16 : decode cX1_endOfPart 16 = .ok (.istore 6, 2) := by decide +kernel
theorem dX1_endOfPart_18 : decode cX1_endOfPart 18 = .ok (.iload 6, 2) := by decide +kernel
theorem dX1_endOfPart_20 : decode cX1_endOfPart 20 = .ok (.iload 4, 2) := by decide +kernel
theorem dX1_endOfPart_22 : decode cX1_endOfPart 22 = .ok (.if_icmp .ge 82, 3) := by decide +kernel
theorem dX1_endOfPart_25 : decode cX1_endOfPart 25 = .ok (.iload 5, 2) := by decide +kernel
theorem dX1_endOfPart_27 : decode cX1_endOfPart 27 = .ok (.iconst 1, 1) := by decide +kernel
theorem dX1_endOfPart_28 : decode cX1_endOfPart 28 = .ok (.invokestatic 25, 3) := by decide +kernel
theorem dX1_endOfPart_31 : decode cX1_endOfPart 31 = .ok (.aload_n 1, 1) := by decide +kernel
theorem dX1_endOfPart_32 : decode cX1_endOfPart 32 = .ok (.iload 6, 2) := by decide +kernel
theorem dX1_endOfPart_34 : decode cX1_endOfPart 34 = .ok (.baload, 1) := by decide +kernel
theorem dX1_endOfPart_35 : decode cX1_endOfPart 35 = .ok (.invokestatic 28, 3) := by decide +kernel
theorem dX1_endOfPart_38 : decode cX1_endOfPart 38 = .ok (.ixor, 1) := by decide +kernel
theorem dX1_endOfPart_39 : decode cX1_endOfPart 39 = .ok (.istore 5, 2) := by decide +kernel
theorem dX1_endOfPart_41 : decode cX1_endOfPart 41 = .ok (.iload 6, 2) := by decide +kernel
theorem dX1_endOfPart_43 : decode cX1_endOfPart 43 = .ok (.iload_n 2, 1) := by decide +kernel
theorem dX1_endOfPart_44 : decode cX1_endOfPart 44 = .ok (.isub, 1) := by decide +kernel
theorem dX1_endOfPart_45 : decode cX1_endOfPart 45 = .ok (.bipush 8, 2) := by decide +kernel
theorem dX1_endOfPart_47 : decode cX1_endOfPart 47 = .ok (.if_icmp .lt 23, 3) := by decide +kernel
theorem dX1_endOfPart_50 : decode cX1_endOfPart 50 = .ok (.iload 5, 2) := by decide +kernel
theorem dX1_endOfPart_52 : decode cX1_endOfPart 52 = .ok (.aload_n 1, 1) := by decide +kernel
theorem dX1_endOfPart_53 : decode cX1_endOfPart 53 = .ok (.iload 6, 2) := by decide +kernel
theorem dX1_endOfPart_55 : decode cX1_endOfPart 55 = .ok (.bipush 8, 2) := by decide +kernel
theorem dX1_endOfPart_57 : decode cX1_endOfPart 57 = .ok (.isub, 1) := by decide +kernel
theorem dX1_endOfPart_58 : decode cX1_endOfPart 58 = .ok (.baload, 1) := by decide +kernel
theorem dX1_endOfPart_59 : decode cX1_endOfPart 59 = .ok (.invokestatic 28, 3) := by decide +kernel
theorem dX1_endOfPart_62 : decode cX1_endOfPart 62 = .ok (.bipush 8, 2) := by decide +kernel
theorem dX1_endOfPart_64 : decode cX1_endOfPart 64 = .ok (.invokestatic 25, 3) := by decide +kernel
theorem dX1_endOfPart_67 : decode cX1_endOfPart 67 = .ok (.ixor, 1) := by decide +kernel
theorem dX1_endOfPart_68 : decode cX1_endOfPart 68 = .ok (.istore 5, 2) := by decide +kernel
theorem dX1_endOfPart_70 : decode cX1_endOfPart 70 = .ok (.iload 6, 2) := by decide +kernel
theorem dX1_endOfPart_72 : decode cX1_endOfPart 72 = .ok (.iload_n 2, 1) := by decide +kernel
theorem dX1_endOfPart_73 : decode cX1_endOfPart 73 = .ok (.isub, 1) := by decide +kernel
theorem dX1_endOfPart_74 : decode cX1_endOfPart 74 = .ok (.iconst 1, 1) := by decide +kernel
theorem dX1_endOfPart_75 : decode cX1_endOfPart 75 = .ok (.iadd, 1) := by decide +kernel
theorem dX1_endOfPart_76 : decode cX1_endOfPart 76 = .ok (.aload_n 0, 1) := by decide +kernel
theorem dX1_endOfPart_77 : decode cX1_endOfPart 77 = .ok (.getfield 13, 3) := by decide +kernel
theorem dX1_endOfPart_80 : decode cX1_endOfPart 80 = .ok (.if_icmp .lt 18, 3) := by decide +kernel
theorem dX1_endOfPart_83 : decode cX1_endOfPart 83 = .ok (.iload 5, 2) := by decide +kernel
theorem dX1_endOfPart_85 : decode cX1_endOfPart 85 = .ok (.aload_n 0, 1) := by decide +kernel
theorem dX1_endOfPart_86 : decode cX1_endOfPart 86 = .ok (.getfield 7, 3) := by decide +kernel
theorem dX1_endOfPart_89 : decode cX1_endOfPart 89 = .ok (.iand, 1) := by decide +kernel
theorem dX1_endOfPart_90 : decode cX1_endOfPart 90 = .ok (.ifCond .ne 8, 3) := by decide +kernel
theorem dX1_endOfPart_93 : decode cX1_endOfPart 93 = .ok (.iload 6, 2) := by decide +kernel
theorem dX1_endOfPart_95 : decode cX1_endOfPart 95 = .ok (.iconst 1, 1) := by decide +kernel
theorem dX1_endOfPart_96 : decode cX1_endOfPart 96 = .ok (.iadd, 1) := by decide +kernel
theorem dX1_endOfPart_97 : decode cX1_endOfPart 97 = .ok (.ireturn, 1) := by decide +kernel
theorem dX1_endOfPart_98 : decode cX1_endOfPart 98 = .ok (.iinc 6 1, 3) := by decide +kernel
theorem dX1_endOfPart_101 : decode cX1_endOfPart 101 = .ok (.goto (-83), 3) := by decide +kernel
theorem dX1_endOfPart_104 : decode cX1_endOfPart 104 = .ok (.iload 4, 2) := by decide +kernel
theorem dX1_endOfPart_106 : decode cX1_endOfPart 106 = .ok (.ireturn, 1) := by decide +kernel
theorem dX1_mark_0 : decode cX1_mark 0 = .ok (.iload_n 0, 1) := by decide +kernel
theorem dX1_mark_1 : decode cX1_mark 1 = .ok (.sipush 255, 3) := by decide +kernel
theorem dX1_mark_4 : decode cX1_mark 4 = .ok (.iand, 1) := by decide +kernel
theorem dX1_mark_5 : decode cX1_mark 5 = .ok (.iconst 1, 1) := by decide +kernel
theorem dX1_mark_6 : decode cX1_mark 6 = .ok (.iadd, 1) := by decide +kernel
theorem dX1_mark_7 : decode cX1_mark 7 = .ok (.ldc 32, 2) := by decide +kernel
theorem dX1_mark_9 : decode cX1_mark 9 = .ok (.imul, 1) := by decide +kernel
theorem dX1_mark_10 : decode cX1_mark 10 = .ok (.istore_n 1, 1) := by decide +kernel
theorem dX1_mark_11 : decode cX1_mark 11 = .ok (.iload_n 1, 1) := by decide +kernel
theorem dX1_mark_12 : decode cX1_mark 12 = .ok (.iload_n 1, 1) := by decide +kernel
theorem dX1_mark_13 : decode cX1_mark 13 = .ok (.bipush 15, 2) := by decide +kernel
theorem dX1_mark_15 : decode cX1_mark 15 = .ok (.iushr, 1) := by decide +kernel
theorem dX1_mark_16 : decode cX1_mark 16 = .ok (.ixor, 1) := by decide +kernel
theorem dX1_mark_17 : decode cX1_mark 17 = .ok (.ireturn, 1) := by decide +kernel
theorem dX1_turned_0 : decode cX1_turned 0 = .ok (.iload_n 0, 1) := by decide +kernel
theorem dX1_turned_1 : decode cX1_turned 1 = .ok (.iload_n 1, 1) := by decide +kernel
theorem dX1_turned_2 : decode cX1_turned 2 = .ok (.ishl, 1) := by decide +kernel
theorem dX1_turned_3 : decode cX1_turned 3 = .ok (.iload_n 0, 1) := by decide +kernel
theorem dX1_turned_4 : decode cX1_turned 4 = .ok (.bipush 32, 2) := by decide +kernel
theorem dX1_turned_6 : decode cX1_turned 6 = .ok (.iload_n 1, 1) := by decide +kernel
theorem dX1_turned_7 : decode cX1_turned 7 = .ok (.isub, 1) := by decide +kernel
theorem dX1_turned_8 : decode cX1_turned 8 = .ok (.iushr, 1) := by decide +kernel
theorem dX1_turned_9 : decode cX1_turned 9 = .ok (.ior, 1) := by decide +kernel
theorem dX1_turned_10 : decode cX1_turned 10 = .ok (.ireturn, 1) := by decide +kernel
theorem dX2_init_0 : decode cX2_init 0 = .ok (.aload_n 0, 1) := by decide +kernel
theorem dX2_init_1 : decode cX2_init 1 = .ok (.invokespecial 3, 3) := by decide +kernel
theorem dX2_init_4 : decode cX2_init 4 = .ok (.aload_n 0, 1) := by decide +kernel
theorem dX2_init_5 : decode cX2_init 5 = .ok (.sipush 400, 3) := by decide +kernel
theorem dX2_init_8 : decode cX2_init 8 = .ok (.newarray .int, 2) := by decide +kernel
theorem dX2_init_10 : decode cX2_init 10 = .ok (.putfield 9, 3) := by decide +kernel
theorem dX2_init_13 : decode cX2_init 13 = .ok (.aload_n 0, 1) := by decide +kernel
theorem dX2_init_14 : decode cX2_init 14 = .ok (.sipush 400, 3) := by decide +kernel
theorem dX2_init_17 : decode cX2_init 17 = .ok (.newarray .int, 2) := by decide +kernel
theorem dX2_init_19 : decode cX2_init 19 = .ok (.putfield 15, 3) := by decide +kernel
theorem dX2_init_22 : decode cX2_init 22 = .ok (.aload_n 0, 1) := by decide +kernel
theorem dX2_init_23 : decode cX2_init 23 = .ok (.sipush 400, 3) := by decide +kernel
theorem dX2_init_26 : decode cX2_init 26 = .ok (.newarray .int, 2) := by decide +kernel
theorem dX2_init_28 : decode cX2_init 28 = .ok (.putfield 18, 3) := by decide +kernel
theorem dX2_init_31 : decode cX2_init 31 = .ok (.aload_n 0, 1) := by decide +kernel
theorem dX2_init_32 : decode cX2_init 32 = .ok (.sipush 400, 3) := by decide +kernel
theorem dX2_init_35 : decode cX2_init 35 = .ok (.newarray .int, 2) := by decide +kernel
theorem dX2_init_37 : decode cX2_init 37 = .ok (.putfield 21, 3) := by decide +kernel
theorem dX2_init_40 : decode cX2_init 40 = .ok (.aload_n 0, 1) := by decide +kernel
theorem dX2_init_41 : decode cX2_init 41 = .ok (.sipush 512, 3) := by decide +kernel
theorem dX2_init_44 : decode cX2_init 44 = .ok (.newarray .int, 2) := by decide +kernel
theorem dX2_init_46 : decode cX2_init 46 = .ok (.putfield 24, 3) := by decide +kernel
theorem dX2_init_49 : decode cX2_init 49 = .ok (.aload_n 0, 1) := by decide +kernel
theorem dX2_init_50 : decode cX2_init 50 = .ok (.sipush 1024, 3) := by decide +kernel
theorem dX2_init_53 : decode cX2_init 53 = .ok (.newarray .byte, 2) := by decide +kernel
theorem dX2_init_55 : decode cX2_init 55 = .ok (.putfield 27, 3) := by decide +kernel
theorem dX2_init_58 : decode cX2_init 58 = .ok (.aload_n 0, 1) := by decide +kernel
theorem dX2_init_59 : decode cX2_init 59 = .ok (.iconst 0, 1) := by decide +kernel
theorem dX2_init_60 : decode cX2_init 60 = .ok (.putfield 31, 3) := by decide +kernel
theorem dX2_init_63 : decode cX2_init 63 = .ok (.aload_n 0, 1) := by decide +kernel
theorem dX2_init_64 : decode cX2_init 64 = .ok (.iconst 0, 1) := by decide +kernel
theorem dX2_init_65 : decode cX2_init 65 = .ok (.putfield 35, 3) := by decide +kernel
theorem dX2_init_68 : decode cX2_init 68 = .ok (.aload_n 0, 1) := by decide +kernel
theorem dX2_init_69 : decode cX2_init 69 = .ok (.iconst 0, 1) := by decide +kernel
theorem dX2_init_70 : decode cX2_init 70 = .ok (.putfield 38, 3) := by decide +kernel
theorem dX2_init_73 : decode cX2_init 73 = .ok (.aload_n 0, 1) := by decide +kernel
theorem dX2_init_74 : decode cX2_init 74 = .ok (.getfield 24, 3) := by decide +kernel
theorem dX2_init_77 : decode cX2_init 77 = .ok (.iconst (-1), 1) := by decide +kernel
theorem dX2_init_78 : decode cX2_init 78 = .ok (.invokestatic 41, 3) := by decide +kernel
theorem dX2_init_81 : decode cX2_init 81 = .ok (.return_, 1) := by decide +kernel
theorem dX2_empty_0 : decode cX2_empty 0 = .ok (.aload_n 0, 1) := by decide +kernel
theorem dX2_empty_1 : decode cX2_empty 1 = .ok (.getfield 9, 3) := by decide +kernel
theorem dX2_empty_4 : decode cX2_empty 4 = .ok (.iconst 0, 1) := by decide +kernel
theorem dX2_empty_5 : decode cX2_empty 5 = .ok (.invokestatic 41, 3) := by decide +kernel
theorem dX2_empty_8 : decode cX2_empty 8 = .ok (.aload_n 0, 1) := by decide +kernel
theorem dX2_empty_9 : decode cX2_empty 9 = .ok (.getfield 24, 3) := by decide +kernel
theorem dX2_empty_12 : decode cX2_empty 12 = .ok (.iconst (-1), 1) := by decide +kernel
theorem dX2_empty_13 : decode cX2_empty 13 = .ok (.invokestatic 41, 3) := by decide +kernel
theorem dX2_empty_16 : decode cX2_empty 16 = .ok (.aload_n 0, 1) := by decide +kernel
theorem dX2_empty_17 : decode cX2_empty 17 = .ok (.iconst 0, 1) := by decide +kernel
theorem dX2_empty_18 : decode cX2_empty 18 = .ok (.putfield 31, 3) := by decide +kernel
theorem dX2_empty_21 : decode cX2_empty 21 = .ok (.aload_n 0, 1) := by decide +kernel
theorem dX2_empty_22 : decode cX2_empty 22 = .ok (.iconst 0, 1) := by decide +kernel
theorem dX2_empty_23 : decode cX2_empty 23 = .ok (.putfield 35, 3) := by decide +kernel
theorem dX2_empty_26 : decode cX2_empty 26 = .ok (.aload_n 0, 1) := by decide +kernel
theorem dX2_empty_27 : decode cX2_empty 27 = .ok (.iconst 0, 1) := by decide +kernel
theorem dX2_empty_28 : decode cX2_empty 28 = .ok (.putfield 38, 3) := by decide +kernel
theorem dX2_empty_31 : decode cX2_empty 31 = .ok (.return_, 1) := by decide +kernel
theorem dX2_has_0 : decode cX2_has 0 = .ok (.iload_n 1, 1) := by decide +kernel
theorem dX2_has_1 : decode cX2_has 1 = .ok (.ifCond .lt 23, 3) := by decide +kernel
theorem dX2_has_4 : decode cX2_has 4 = .ok (.iload_n 1, 1) := by decide +kernel
theorem dX2_has_5 : decode cX2_has 5 = .ok (.sipush 400, 3) := by decide +kernel
theorem dX2_has_8 : decode cX2_has 8 = .ok (.if_icmp .ge 16, 3) := by decide +kernel
theorem dX2_has_11 : decode cX2_has 11 = .ok (.aload_n 0, 1) := by decide +kernel
theorem dX2_has_12 : decode cX2_has 12 = .ok (.getfield 9, 3) := by decide +kernel
theorem dX2_has_15 : decode cX2_has 15 = .ok (.iload_n 1, 1) := by decide +kernel
theorem dX2_has_16 : decode cX2_has 16 = .ok (.iaload, 1) := by decide +kernel
theorem dX2_has_17 : decode cX2_has 17 = .ok (.ifCond .le 7, 3) := by decide +kernel
theorem dX2_has_20 : decode cX2_has 20 = .ok (.iconst 1, 1) := by decide +kernel
theorem dX2_has_21 : decode cX2_has 21 = .ok (.goto 4, 3) := by decide +kernel
theorem dX2_has_24 : decode cX2_has 24 = .ok (.iconst 0, 1) := by decide +kernel
theorem dX2_has_25 : decode cX2_has 25 = .ok (.ireturn, 1) := by decide +kernel
theorem dX2_usesOf_0 : decode cX2_usesOf 0 = .ok (.aload_n 0, 1) := by decide +kernel
theorem dX2_usesOf_1 : decode cX2_usesOf 1 = .ok (.iload_n 1, 1) := by decide +kernel
theorem dX2_usesOf_2 : decode cX2_usesOf 2 = .ok (.invokevirtual 47, 3) := by decide +kernel
theorem dX2_usesOf_5 : decode cX2_usesOf 5 = .ok (.ifCond .eq 12, 3) := by decide +kernel
theorem dX2_usesOf_8 : decode cX2_usesOf 8 = .ok (.aload_n 0, 1) := by decide +kernel
theorem dX2_usesOf_9 : decode cX2_usesOf 9 = .ok (.getfield 9, 3) := by decide +kernel
theorem dX2_usesOf_12 : decode cX2_usesOf 12 = .ok (.iload_n 1, 1) := by decide +kernel
theorem dX2_usesOf_13 : decode cX2_usesOf 13 = .ok (.iaload, 1) := by decide +kernel
theorem dX2_usesOf_14 : decode cX2_usesOf 14 = .ok (.goto 4, 3) := by decide +kernel
theorem dX2_usesOf_17 : decode cX2_usesOf 17 = .ok (.iconst 0, 1) := by decide +kernel
theorem dX2_usesOf_18 : decode cX2_usesOf 18 = .ok (.ireturn, 1) := by decide +kernel
theorem dX2_lengthOf_0 : decode cX2_lengthOf 0 = .ok (.aload_n 0, 1) := by decide +kernel
theorem dX2_lengthOf_1 : decode cX2_lengthOf 1 = .ok (.iload_n 1, 1) := by decide +kernel
theorem dX2_lengthOf_2 : decode cX2_lengthOf 2 = .ok (.invokevirtual 47, 3) := by decide +kernel
theorem dX2_lengthOf_5 : decode cX2_lengthOf 5 = .ok (.ifCond .eq 12, 3) := by decide +kernel
theorem dX2_lengthOf_8 : decode cX2_lengthOf 8 = .ok (.aload_n 0, 1) := by decide +kernel
theorem dX2_lengthOf_9 : decode cX2_lengthOf 9 = .ok (.getfield 15, 3) := by decide +kernel
theorem dX2_lengthOf_12 : decode cX2_lengthOf 12 = .ok (.iload_n 1, 1) := by decide +kernel
theorem dX2_lengthOf_13 : decode cX2_lengthOf 13 = .ok (.iaload, 1) := by decide +kernel
theorem dX2_lengthOf_14 : decode cX2_lengthOf 14 = .ok (.goto 4, 3) := by decide +kernel
theorem dX2_lengthOf_17 : decode cX2_lengthOf 17 = .ok (.iconst 0, 1) := by decide +kernel
theorem dX2_lengthOf_18 : decode cX2_lengthOf 18 = .ok (.ireturn, 1) := by decide +kernel
theorem dX2_byteOf_0 : decode cX2_byteOf 0 = .ok (.iload_n 2, 1) := by decide +kernel
theorem dX2_byteOf_1 : decode cX2_byteOf 1 = .ok (.ifCond .lt 12, 3) := by decide +kernel
theorem dX2_byteOf_4 : decode cX2_byteOf 4 = .ok (.iload_n 2, 1) := by decide +kernel
theorem dX2_byteOf_5 : decode cX2_byteOf 5 = .ok (.aload_n 0, 1) := by decide +kernel
theorem dX2_byteOf_6 : decode cX2_byteOf 6 = .ok (.iload_n 1, 1) := by decide +kernel
theorem dX2_byteOf_7 : decode cX2_byteOf 7 = .ok (.invokevirtual 51, 3) := by decide +kernel
theorem dX2_byteOf_10 : decode cX2_byteOf 10 = .ok (.if_icmp .lt 5, 3) := by decide +kernel
theorem dX2_byteOf_13 : decode cX2_byteOf 13 = .ok (.iconst (-1), 1) := by decide +kernel
theorem dX2_byteOf_14 : decode cX2_byteOf 14 = .ok (.ireturn, 1) := by decide +kernel
theorem dX2_byteOf_15 : decode cX2_byteOf 15 = .ok (.aload_n 0, 1) := by decide +kernel
theorem dX2_byteOf_16 : decode cX2_byteOf 16 = .ok (.getfield 27, 3) := by decide +kernel
theorem dX2_byteOf_19 : decode cX2_byteOf 19 = .ok (.iload_n 1, 1) := by decide +kernel
theorem dX2_byteOf_20 : decode cX2_byteOf 20 = .ok (.bipush 64, 2) := by decide +kernel
theorem dX2_byteOf_22 : decode cX2_byteOf 22 = .ok (.imul, 1) := by decide +kernel
theorem dX2_byteOf_23 : decode cX2_byteOf 23 = .ok (.iload_n 2, 1) := by decide +kernel
theorem dX2_byteOf_24 : decode cX2_byteOf 24 = .ok (.iadd, 1) := by decide +kernel
theorem dX2_byteOf_25 : decode cX2_byteOf 25 = .ok (.baload, 1) := by decide +kernel
theorem dX2_byteOf_26 : decode cX2_byteOf 26 = .ok (.sipush 255, 3) := by decide +kernel
theorem dX2_byteOf_29 : decode cX2_byteOf 29 = .ok (.iand, 1) := by decide +kernel
theorem dX2_byteOf_30 : decode cX2_byteOf 30 = .ok (.ireturn, 1) := by decide +kernel
theorem dX2_writeOut_0 : decode cX2_writeOut 0 = .ok (.aload_n 0, 1) := by decide +kernel
theorem dX2_writeOut_1 : decode cX2_writeOut 1 = .ok (.iload_n 1, 1) := by decide +kernel
theorem dX2_writeOut_2 : decode cX2_writeOut 2 = .ok (.invokevirtual 51, 3) := by decide +kernel
theorem dX2_writeOut_5 : decode cX2_writeOut 5 = .ok (.istore 4, 2) := by decide +kernel
theorem dX2_writeOut_7 : decode cX2_writeOut 7 = .ok (.iload 4, 2) := by decide +kernel
theorem dX2_writeOut_9 : decode cX2_writeOut 9 = .ok (.ifCond .eq 16, 3) := by decide +kernel
theorem dX2_writeOut_12 : decode cX2_writeOut 12 = .ok (.iload_n 3, 1) := by decide +kernel
theorem dX2_writeOut_13 : decode cX2_writeOut 13 = .ok (.ifCond .lt 12, 3) := by decide +kernel
theorem dX2_writeOut_16 : decode cX2_writeOut 16 = .ok (.iload 4, 2) := by decide +kernel
theorem dX2_writeOut_18 : decode cX2_writeOut 18 = .ok (.aload_n 2, 1) := by decide +kernel
theorem dX2_writeOut_19 : decode cX2_writeOut 19 = .ok (.arraylength, 1) := by decide +kernel
theorem dX2_writeOut_20 : decode cX2_writeOut 20 = .ok (.iload_n 3, 1) := by decide +kernel
theorem dX2_writeOut_21 : decode cX2_writeOut 21 = .ok (.isub, 1) := by decide +kernel
theorem dX2_writeOut_22 : decode cX2_writeOut 22 = .ok (.if_icmp .le 5, 3) := by decide +kernel
theorem dX2_writeOut_25 : decode cX2_writeOut 25 = .ok (.iconst 0, 1) := by decide +kernel
theorem dX2_writeOut_26 : decode cX2_writeOut 26 = .ok (.ireturn, 1) := by decide +kernel
theorem dX2_writeOut_27 : decode cX2_writeOut 27 = .ok (.aload_n 0, 1) := by decide +kernel
theorem dX2_writeOut_28 : decode cX2_writeOut 28 = .ok (.getfield 27, 3) := by decide +kernel
theorem dX2_writeOut_31 : decode cX2_writeOut 31 = .ok (.iload_n 1, 1) := by decide +kernel
theorem dX2_writeOut_32 : decode cX2_writeOut 32 = .ok (.bipush 64, 2) := by decide +kernel
theorem dX2_writeOut_34 : decode cX2_writeOut 34 = .ok (.imul, 1) := by decide +kernel
theorem dX2_writeOut_35 : decode cX2_writeOut 35 = .ok (.aload_n 2, 1) := by decide +kernel
theorem dX2_writeOut_36 : decode cX2_writeOut 36 = .ok (.iload_n 3, 1) := by decide +kernel
theorem dX2_writeOut_37 : decode cX2_writeOut 37 = .ok (.iload 4, 2) := by decide +kernel
theorem dX2_writeOut_39 : decode cX2_writeOut 39 = .ok (.invokestatic 55, 3) := by decide +kernel
theorem dX2_writeOut_42 : decode cX2_writeOut 42 = .ok (.iload 4, 2) := by decide +kernel
theorem dX2_writeOut_44 : decode cX2_writeOut 44 = .ok (.ireturn, 1) := by decide +kernel
theorem dX2_useAgain_0 : decode cX2_useAgain 0 = .ok (.aload_n 0, 1) := by decide +kernel
theorem dX2_useAgain_1 : decode cX2_useAgain 1 = .ok (.iload_n 1, 1) := by decide +kernel
theorem dX2_useAgain_2 : decode cX2_useAgain 2 = .ok (.invokevirtual 47, 3) := by decide +kernel
theorem dX2_useAgain_5 : decode cX2_useAgain 5 = .ok (.ifCond .eq 13, 3) := by decide +kernel
theorem dX2_useAgain_8 : decode cX2_useAgain 8 = .ok (.aload_n 0, 1) := by decide +kernel
theorem dX2_useAgain_9 : decode cX2_useAgain 9 = .ok (.getfield 9, 3) := by decide +kernel
theorem dX2_useAgain_12 : decode cX2_useAgain 12 = .ok (.iload_n 1, 1) := by decide +kernel
theorem dX2_useAgain_13 : decode cX2_useAgain 13 = .ok (.dup2, 1) := by decide +kernel
theorem dX2_useAgain_14 : decode cX2_useAgain 14 = .ok (.iaload, 1) := by decide +kernel
theorem dX2_useAgain_15 : decode cX2_useAgain 15 = .ok (.iconst 1, 1) := by decide +kernel
theorem dX2_useAgain_16 : decode cX2_useAgain 16 = .ok (.iadd, 1) := by decide +kernel
theorem dX2_useAgain_17 : decode cX2_useAgain 17 = .ok (.iastore, 1) := by decide +kernel
theorem dX2_useAgain_18 : decode cX2_useAgain 18 = .ok (.return_, 1) := by decide +kernel
theorem dX2_take_0 : decode cX2_take 0 = .ok (.aload_n 1, 1) := by decide +kernel
theorem dX2_take_1 : decode cX2_take 1 = .ok (.iload_n 2, 1) := by decide +kernel
theorem dX2_take_2 : decode cX2_take 2 = .ok (.iload_n 3, 1) := by decide +kernel
theorem dX2_take_3 : decode cX2_take 3 = .ok (.invokestatic 61, 3) := by decide +kernel
theorem dX2_take_6 : decode cX2_take 6 = .ok (.istore 4, 2) := by decide +kernel
theorem dX2_take_8 : decode cX2_take 8 = .ok (.aload_n 0, 1) := by decide +kernel
theorem dX2_take_9 : decode cX2_take 9 = .ok (.iload 4, 2) := by decide +kernel
theorem dX2_take_11 : decode cX2_take 11 = .ok (.aload_n 1, 1) := by decide +kernel
theorem dX2_take_12 : decode cX2_take 12 = .ok (.iload_n 2, 1) := by decide +kernel
theorem dX2_take_13 : decode cX2_take 13 = .ok (.iload_n 3, 1) := by decide +kernel
theorem dX2_take_14 : decode cX2_take 14 = .ok (.iload_n 2, 1) := by decide +kernel
theorem dX2_take_15 : decode cX2_take 15 = .ok (.isub, 1) := by decide +kernel
theorem dX2_take_16 : decode cX2_take 16 = .ok (.invokevirtual 65, 3) := by decide +kernel
theorem dX2_take_19 : decode cX2_take 19 = .ok (.istore 5, 2) := by decide +kernel
theorem dX2_take_21 : decode cX2_take 21 = .ok (.iload 5, 2) := by decide +kernel
theorem dX2_take_23 : decode cX2_take 23 = .ok (.iconst (-1), 1) := by decide +kernel
theorem dX2_take_24 : decode cX2_take 24 = .ok (.if_icmp .ne 15, 3) := by decide +kernel
theorem dX2_take_27 : decode cX2_take 27 = .ok (.aload_n 0, 1) := by decide +kernel
theorem dX2_take_28 : decode cX2_take 28 = .ok (.iload 4, 2) := by decide +kernel
theorem dX2_take_30 : decode cX2_take 30 = .ok (.aload_n 1, 1) := by decide +kernel
theorem dX2_take_31 : decode cX2_take 31 = .ok (.iload_n 2, 1) := by decide +kernel
theorem dX2_take_32 : decode cX2_take 32 = .ok (.iload_n 3, 1) := by decide +kernel
theorem dX2_take_33 : decode cX2_take 33 = .ok (.iload_n 2, 1) := by decide +kernel
theorem dX2_take_34 : decode cX2_take 34 = .ok (.isub, 1) := by decide +kernel
theorem dX2_take_35 : decode cX2_take 35 = .ok (.invokevirtual 69, 3) := by decide +kernel
theorem dX2_take_38 : decode cX2_take 38 = .ok (.ireturn, 1) := by decide +kernel
theorem dX2_take_39 : decode cX2_take 39 = .ok (.aload_n 0, 1) := by decide +kernel
theorem dX2_take_40 : decode cX2_take 40 = .ok (.iload 5, 2) := by decide +kernel
theorem dX2_take_42 : decode cX2_take 42 = .ok (.invokevirtual 72, 3) := by decide +kernel
theorem dX2_take_45 : decode cX2_take 45 = .ok (.iload 5, 2) := by decide +kernel
theorem dX2_take_47 : decode cX2_take 47 = .ok (.ireturn, 1) := by decide +kernel
theorem dX2_giveBack_0 : decode cX2_giveBack 0 = .ok (.aload_n 0, 1) := by decide +kernel
theorem dX2_giveBack_1 : decode cX2_giveBack 1 = .ok (.iload_n 1, 1) := by decide +kernel
theorem dX2_giveBack_2 : decode cX2_giveBack 2 = .ok (.invokevirtual 47, 3) := by decide +kernel
theorem dX2_giveBack_5 : decode cX2_giveBack 5 = .ok (.ifCond .ne 4, 3) := by decide +kernel
theorem dX2_giveBack_8 : decode cX2_giveBack 8 = .ok (.return_, 1) := by decide +kernel
theorem dX2_giveBack_9 : decode cX2_giveBack 9 = .ok (.aload_n 0, 1) := by decide +kernel
theorem dX2_giveBack_10 : decode cX2_giveBack 10 = .ok (.getfield 9, 3) := by decide +kernel
theorem dX2_giveBack_13 : decode cX2_giveBack 13 = .ok (.iload_n 1, 1) := by decide +kernel
theorem dX2_giveBack_14 : decode cX2_giveBack 14 = .ok (.dup2, 1) := by decide +kernel
theorem dX2_giveBack_15 : decode cX2_giveBack 15 = .ok (.iaload, 1) := by decide +kernel
theorem dX2_giveBack_16 : decode cX2_giveBack 16 = .ok (.iconst 1, 1) := by decide +kernel
theorem dX2_giveBack_17 : decode cX2_giveBack 17 = .ok (.isub, 1) := by decide +kernel
theorem dX2_giveBack_18 : decode cX2_giveBack 18 = .ok (.iastore, 1) := by decide +kernel
theorem dX2_giveBack_19 : decode cX2_giveBack 19 = .ok (.aload_n 0, 1) := by decide +kernel
theorem dX2_giveBack_20 : decode cX2_giveBack 20 = .ok (.getfield 9, 3) := by decide +kernel
theorem dX2_giveBack_23 : decode cX2_giveBack 23 = .ok (.iload_n 1, 1) := by decide +kernel
theorem dX2_giveBack_24 : decode cX2_giveBack 24 = .ok (.iaload, 1) := by decide +kernel
theorem dX2_giveBack_25 : decode cX2_giveBack 25 = .ok (.ifCond .ne 45, 3) := by decide +kernel
theorem dX2_giveBack_28 : decode cX2_giveBack 28 = .ok (.aload_n 0, 1) := by decide +kernel
theorem dX2_giveBack_29 : decode cX2_giveBack 29 = .ok (.iload_n 1, 1) := by decide +kernel
theorem dX2_giveBack_30 : decode cX2_giveBack 30 = .ok (.invokevirtual 76, 3) := by decide +kernel
theorem dX2_giveBack_33 : decode cX2_giveBack 33 = .ok (.aload_n 0, 1) := by decide +kernel
theorem dX2_giveBack_34 : decode cX2_giveBack 34 = .ok (.aload_n 0, 1) := by decide +kernel
theorem dX2_giveBack_35 : decode cX2_giveBack 35 = .ok (.getfield 31, 3) := by decide +kernel
theorem dX2_giveBack_38 : decode cX2_giveBack 38 = .ok (.iload_n 1, 1) := by decide +kernel
theorem dX2_giveBack_39 : decode cX2_giveBack 39 = .ok (.invokestatic 79, 3) := by decide +kernel
theorem dX2_giveBack_42 : decode cX2_giveBack 42 = .ok (.putfield 31, 3) := by decide +kernel
theorem dX2_giveBack_45 : decode cX2_giveBack 45 = .ok (.aload_n 0, 1) := by decide +kernel
theorem dX2_giveBack_46 : decode cX2_giveBack 46 = .ok (.dup, 1) := by decide +kernel
theorem dX2_giveBack_47 : decode cX2_giveBack 47 = .ok (.getfield 35, 3) := by decide +kernel
theorem dX2_giveBack_50 : decode cX2_giveBack 50 = .ok (.iconst 1, 1) := by decide +kernel
theorem dX2_giveBack_51 : decode cX2_giveBack 51 = .ok (.isub, 1) := by decide +kernel
theorem dX2_giveBack_52 : decode cX2_giveBack 52 = .ok (.putfield 35, 3) := by decide +kernel
theorem dX2_giveBack_55 : decode cX2_giveBack 55 = .ok (.aload_n 0, 1) := by decide +kernel
theorem dX2_giveBack_56 : decode cX2_giveBack 56 = .ok (.dup, 1) := by decide +kernel
theorem dX2_giveBack_57 : decode cX2_giveBack 57 = .ok (.getfield 38, 3) := by decide +kernel
theorem dX2_giveBack_60 : decode cX2_giveBack 60 = .ok (.aload_n 0, 1) := by decide +kernel
theorem dX2_giveBack_61 : decode cX2_giveBack 61 = .ok (.getfield 15, 3) := by decide +kernel
theorem dX2_giveBack_64 : decode cX2_giveBack 64 = .ok (.iload_n 1, 1) := by decide +kernel
theorem dX2_giveBack_65 : decode cX2_giveBack 65 = .ok (.iaload, 1) := by decide +kernel
theorem dX2_giveBack_66 : decode cX2_giveBack 66 = .ok (.isub, 1) := by decide +kernel
theorem dX2_giveBack_67 : decode cX2_giveBack 67 = .ok (.putfield 38, 3) := by decide +kernel
theorem dX2_giveBack_70 : decode cX2_giveBack 70 = .ok (.return_, 1) := by decide +kernel
theorem dX2_hashOf_0 : decode cX2_hashOf 0 = .ok (.iconst 0, 1) := by decide +kernel
theorem dX2_hashOf_1 : decode cX2_hashOf 1 = .ok (.istore_n 3, 1) := by decide +kernel
theorem dX2_hashOf_2 : decode cX2_hashOf 2 = .ok (.iload_n 1, 1) := by decide +kernel
theorem dX2_hashOf_3 : decode cX2_hashOf 3 = .ok (.istore 4, 2) := by decide +kernel
theorem dX2_hashOf_5 : decode cX2_hashOf 5 = .ok (.iload 4, 2) := by decide +kernel
theorem dX2_hashOf_7 : decode cX2_hashOf 7 = .ok (.iload_n 2, 1) := by decide +kernel
theorem dX2_hashOf_8 : decode cX2_hashOf 8 = .ok (.if_icmp .ge 19, 3) := by decide +kernel
theorem dX2_hashOf_11 : decode cX2_hashOf 11 = .ok (.iload_n 3, 1) := by decide +kernel
theorem dX2_hashOf_12 : decode cX2_hashOf 12 = .ok (.bipush 31, 2) := by decide +kernel
theorem dX2_hashOf_14 : decode cX2_hashOf 14 = .ok (.imul, 1) := by decide +kernel
theorem dX2_hashOf_15 : decode cX2_hashOf 15 = .ok (.aload_n 0, 1) := by decide +kernel
theorem dX2_hashOf_16 : decode cX2_hashOf 16 = .ok (.iload 4, 2) := by decide +kernel
theorem dX2_hashOf_18 : decode cX2_hashOf 18 = .ok (.baload, 1) := by decide +kernel
theorem dX2_hashOf_19 : decode cX2_hashOf 19 = .ok (.iadd, 1) := by decide +kernel
theorem dX2_hashOf_20 : decode cX2_hashOf 20 = .ok (.istore_n 3, 1) := by decide +kernel
theorem dX2_hashOf_21 : decode cX2_hashOf 21 = .ok (.iinc 4 1, 3) := by decide +kernel
theorem dX2_hashOf_24 : decode cX2_hashOf 24 = .ok (.goto (-19), 3) := by decide +kernel
theorem dX2_hashOf_27 : decode cX2_hashOf 27 = .ok (.iload_n 3, 1) := by decide +kernel
theorem dX2_hashOf_28 : decode cX2_hashOf 28 = .ok (.iload_n 3, 1) := by decide +kernel
theorem dX2_hashOf_29 : decode cX2_hashOf 29 = .ok (.bipush 9, 2) := by decide +kernel
theorem dX2_hashOf_31 : decode cX2_hashOf 31 = .ok (.iushr, 1) := by decide +kernel
theorem dX2_hashOf_32 : decode cX2_hashOf 32 = .ok (.ixor, 1) := by decide +kernel
theorem dX2_hashOf_33 : decode cX2_hashOf 33 = .ok (.ireturn, 1) := by decide +kernel
theorem dX2_find_0 : decode cX2_find 0 = .ok (.aload_n 0, 1) := by decide +kernel
theorem dX2_find_1 : decode cX2_find 1 = .ok (.getfield 24, 3) := by decide +kernel
theorem dX2_find_4 : decode cX2_find 4 = .ok (.iload_n 1, 1) := by decide +kernel
theorem dX2_find_5 : decode cX2_find 5 = .ok (.sipush 511, 3) := by decide +kernel
theorem dX2_find_8 : decode cX2_find 8 = .ok (.iand, 1) := by decide +kernel
theorem dX2_find_9 : decode cX2_find 9 = .ok (.iaload, 1) := by decide +kernel
theorem dX2_find_10 : decode cX2_find 10 = .ok (.istore 5, 2) := by decide +kernel
theorem dX2_find_12 : decode cX2_find 12 = .ok (.iconst 0, 1) := by decide +kernel
theorem dX2_find_13 : decode cX2_find 13 = .ok (.istore 6, 2) := by decide +kernel
theorem dX2_find_15 : decode cX2_find 15 = .ok (.iload 6, 2) := by decide +kernel
theorem dX2_find_17 : decode cX2_find 17 = .ok (.sipush 400, 3) := by decide +kernel
theorem dX2_find_20 : decode cX2_find 20 = .ok (.if_icmp .ge 64, 3) := by decide +kernel
theorem dX2_find_23 : decode cX2_find 23 = .ok (.aload_n 0, 1) := by decide +kernel
theorem dX2_find_24 : decode cX2_find 24 = .ok (.iload 5, 2) := by decide +kernel
theorem dX2_find_26 : decode cX2_find 26 = .ok (.invokevirtual 47, 3) := by decide +kernel
theorem dX2_find_29 : decode cX2_find 29 = .ok (.ifCond .eq 55, 3) := by decide +kernel
theorem dX2_find_32 : decode cX2_find 32 = .ok (.aload_n 0, 1) := by decide +kernel
theorem dX2_find_33 : decode cX2_find 33 = .ok (.getfield 18, 3) := by decide +kernel
theorem dX2_find_36 : decode cX2_find 36 = .ok (.iload 5, 2) := by decide +kernel
theorem dX2_find_38 : decode cX2_find 38 = .ok (.iaload, 1) := by decide +kernel
theorem dX2_find_39 : decode cX2_find 39 = .ok (.iload_n 1, 1) := by decide +kernel
theorem dX2_find_40 : decode cX2_find 40 = .ok (.if_icmp .ne 29, 3) := by decide +kernel
theorem dX2_find_43 : decode cX2_find 43 = .ok (.aload_n 0, 1) := by decide +kernel
theorem dX2_find_44 : decode cX2_find 44 = .ok (.getfield 15, 3) := by decide +kernel
theorem dX2_find_47 : decode cX2_find 47 = .ok (.iload 5, 2) := by decide +kernel
theorem dX2_find_49 : decode cX2_find 49 = .ok (.iaload, 1) := by decide +kernel
theorem dX2_find_50 : decode cX2_find 50 = .ok (.iload 4, 2) := by decide +kernel
theorem dX2_find_52 : decode cX2_find 52 = .ok (.if_icmp .ne 17, 3) := by decide +kernel
theorem dX2_find_55 : decode cX2_find 55 = .ok (.aload_n 0, 1) := by decide +kernel
theorem dX2_find_56 : decode cX2_find 56 = .ok (.iload 5, 2) := by decide +kernel
theorem dX2_find_58 : decode cX2_find 58 = .ok (.aload_n 2, 1) := by decide +kernel
theorem dX2_find_59 : decode cX2_find 59 = .ok (.iload_n 3, 1) := by decide +kernel
theorem dX2_find_60 : decode cX2_find 60 = .ok (.invokevirtual 85, 3) := by decide +kernel
theorem dX2_find_63 : decode cX2_find 63 = .ok (.ifCond .eq 6, 3) := by decide +kernel
theorem dX2_find_66 : decode cX2_find 66 = .ok (.iload 5, 2) := by decide +kernel
theorem dX2_find_68 : decode cX2_find 68 = .ok (.ireturn, 1) := by decide +kernel
theorem dX2_find_69 : decode cX2_find 69 = .ok (.aload_n 0, 1) := by decide +kernel
theorem dX2_find_70 : decode cX2_find 70 = .ok (.getfield 21, 3) := by decide +kernel
theorem dX2_find_73 : decode cX2_find 73 = .ok (.iload 5, 2) := by decide +kernel
theorem dX2_find_75 : decode cX2_find 75 = .ok (.iaload, 1) := by decide +kernel
theorem dX2_find_76 : decode cX2_find 76 = .ok (.istore 5, 2) := by decide +kernel
theorem dX2_find_78 : decode cX2_find 78 = .ok (.iinc 6 1, 3) := by decide +kernel
theorem dX2_find_81 : decode cX2_find 81 = .ok (.goto (-66), 3) := by decide +kernel
theorem dX2_find_84 : decode cX2_find 84 = .ok (.iconst (-1), 1) := by decide +kernel
theorem dX2_find_85 : decode cX2_find 85 = .ok (.ireturn, 1) := by decide +kernel
theorem dX2_sameBytes_0 : decode cX2_sameBytes 0 = .ok (.iload_n 1, 1) := by decide +kernel
theorem dX2_sameBytes_1 : decode cX2_sameBytes 1 = .ok (.bipush 64, 2) := by decide +kernel
theorem dX2_sameBytes_3 : decode cX2_sameBytes 3 = .ok (.imul, 1) := by decide +kernel
theorem dX2_sameBytes_4 : decode cX2_sameBytes 4 = .ok (.istore 4, 2) := by decide +kernel
theorem dX2_sameBytes_6 : decode cX2_sameBytes 6 = .ok (.iconst 0, 1) := by decide +kernel
theorem dX2_sameBytes_7 : decode cX2_sameBytes 7 = .ok (.istore 5, 2) := by decide +kernel
theorem dX2_sameBytes_9 : decode cX2_sameBytes 9 = .ok (.iload 5, 2) := by decide +kernel
theorem dX2_sameBytes_11 : decode cX2_sameBytes 11 = .ok (.aload_n 0, 1) := by decide +kernel
theorem dX2_sameBytes_12 : decode cX2_sameBytes 12 = .ok (.getfield 15, 3) := by decide +kernel
theorem dX2_sameBytes_15 : decode cX2_sameBytes 15 = .ok (.iload_n 1, 1) := by decide +kernel
theorem dX2_sameBytes_16 : decode cX2_sameBytes 16 = .ok (.iaload, 1) := by decide +kernel
theorem dX2_sameBytes_17 : decode cX2_sameBytes 17 = .ok (.if_icmp .ge 30, 3) := by decide +kernel
theorem dX2_sameBytes_20 : decode cX2_sameBytes 20 = .ok (.aload_n 0, 1) := by decide +kernel
theorem dX2_sameBytes_21 : decode cX2_sameBytes 21 = .ok (.getfield 27, 3) := by decide +kernel
theorem dX2_sameBytes_24 : decode cX2_sameBytes 24 = .ok (.iload 4, 2) := by decide +kernel
theorem dX2_sameBytes_26 : decode cX2_sameBytes 26 = .ok (.iload 5, 2) := by decide +kernel
theorem dX2_sameBytes_28 : decode cX2_sameBytes 28 = .ok (.iadd, 1) := by decide +kernel
theorem dX2_sameBytes_29 : decode cX2_sameBytes 29 = .ok (.baload, 1) := by decide +kernel
theorem dX2_sameBytes_30 : decode cX2_sameBytes 30 = .ok (.aload_n 2, 1) := by decide +kernel
theorem dX2_sameBytes_31 : decode cX2_sameBytes 31 = .ok (.iload_n 3, 1) := by decide +kernel
theorem dX2_sameBytes_32 : decode cX2_sameBytes 32 = .ok (.iload 5, 2) := by decide +kernel
theorem dX2_sameBytes_34 : decode cX2_sameBytes 34 = .ok (.iadd, 1) := by decide +kernel
theorem dX2_sameBytes_35 : decode cX2_sameBytes 35 = .ok (.baload, 1) := by decide +kernel
theorem dX2_sameBytes_36 : decode cX2_sameBytes 36 = .ok (.if_icmp .eq 5, 3) := by decide +kernel
theorem dX2_sameBytes_39 : decode cX2_sameBytes 39 = .ok (.iconst 0, 1) := by decide +kernel
theorem dX2_sameBytes_40 : decode cX2_sameBytes 40 = .ok (.ireturn, 1) := by decide +kernel
theorem dX2_sameBytes_41 : decode cX2_sameBytes 41 = .ok (.iinc 5 1, 3) := by decide +kernel
theorem dX2_sameBytes_44 : decode cX2_sameBytes 44 = .ok (.goto (-35), 3) := by decide +kernel
theorem dX2_sameBytes_47 : decode cX2_sameBytes 47 = .ok (.iconst 1, 1) := by decide +kernel
theorem dX2_sameBytes_48 : decode cX2_sameBytes 48 = .ok (.ireturn, 1) := by decide +kernel
theorem dX2_add_0 : decode cX2_add 0 = .ok (.aload_n 0, 1) := by decide +kernel
theorem dX2_add_1 : decode cX2_add 1 = .ok (.invokevirtual 89, 3) := by decide +kernel
theorem dX2_add_4 : decode cX2_add 4 = .ok (.istore 5, 2) := by decide +kernel
theorem dX2_add_6 : decode cX2_add 6 = .ok (.iload 5, 2) := by decide +kernel
theorem dX2_add_8 : decode cX2_add 8 = .ok (.iconst (-1), 1) := by decide +kernel
theorem dX2_add_9 : decode cX2_add 9 = .ok (.if_icmp .ne 5, 3) := by decide +kernel
theorem dX2_add_12 : decode cX2_add 12 = .ok (.iconst (-1), 1) := by decide +kernel
theorem dX2_add_13 : decode cX2_add 13 = .ok (.ireturn, 1) := by decide +kernel
theorem dX2_add_14 : decode cX2_add 14 = .ok (.aload_n 0, 1) := by decide +kernel
theorem dX2_add_15 : decode cX2_add 15 = .ok (.iload 5, 2) := by decide +kernel
theorem dX2_add_17 : decode cX2_add 17 = .ok (.invokevirtual 93, 3) := by decide +kernel
theorem dX2_add_20 : decode cX2_add 20 = .ok (.aload_n 2, 1) := by decide +kernel
theorem dX2_add_21 : decode cX2_add 21 = .ok (.iload_n 3, 1) := by decide +kernel
theorem dX2_add_22 : decode cX2_add 22 = .ok (.aload_n 0, 1) := by decide +kernel
theorem dX2_add_23 : decode cX2_add 23 = .ok (.getfield 27, 3) := by decide +kernel
theorem dX2_add_26 : decode cX2_add 26 = .ok (.iload 5, 2) := by decide +kernel
theorem dX2_add_28 : decode cX2_add 28 = .ok (.bipush 64, 2) := by decide +kernel
theorem dX2_add_30 : decode cX2_add 30 = .ok (.imul, 1) := by decide +kernel
theorem dX2_add_31 : decode cX2_add 31 = .ok (.iload 4, 2) := by decide +kernel
theorem dX2_add_33 : decode cX2_add 33 = .ok (.invokestatic 55, 3) := by decide +kernel
theorem dX2_add_36 : decode cX2_add 36 = .ok (.aload_n 0, 1) := by decide +kernel
theorem dX2_add_37 : decode cX2_add 37 = .ok (.getfield 9, 3) := by decide +kernel
theorem dX2_add_40 : decode cX2_add 40 = .ok (.iload 5, 2) := by decide +kernel
theorem dX2_add_42 : decode cX2_add 42 = .ok (.iconst 1, 1) := by decide +kernel
theorem dX2_add_43 : decode cX2_add 43 = .ok (.iastore, 1) := by decide +kernel
theorem dX2_add_44 : decode cX2_add 44 = .ok (.aload_n 0, 1) := by decide +kernel
theorem dX2_add_45 : decode cX2_add 45 = .ok (.getfield 15, 3) := by decide +kernel
theorem dX2_add_48 : decode cX2_add 48 = .ok (.iload 5, 2) := by decide +kernel
theorem dX2_add_50 : decode cX2_add 50 = .ok (.iload 4, 2) := by decide +kernel
theorem dX2_add_52 : decode cX2_add 52 = .ok (.iastore, 1) := by decide +kernel
theorem dX2_add_53 : decode cX2_add 53 = .ok (.aload_n 0, 1) := by decide +kernel
theorem dX2_add_54 : decode cX2_add 54 = .ok (.getfield 18, 3) := by decide +kernel
theorem dX2_add_57 : decode cX2_add 57 = .ok (.iload 5, 2) := by decide +kernel
theorem dX2_add_59 : decode cX2_add 59 = .ok (.iload_n 1, 1) := by decide +kernel
theorem dX2_add_60 : decode cX2_add 60 = .ok (.iastore, 1) := by decide +kernel
theorem dX2_add_61 : decode cX2_add 61 = .ok (.aload_n 0, 1) := by decide +kernel
theorem dX2_add_62 : decode cX2_add 62 = .ok (.getfield 21, 3) := by decide +kernel
theorem dX2_add_65 : decode cX2_add 65 = .ok (.iload 5, 2) := by decide +kernel
theorem dX2_add_67 : decode cX2_add 67 = .ok (.aload_n 0, 1) := by decide +kernel
theorem dX2_add_68 : decode cX2_add 68 = .ok (.getfield 24, 3) := by decide +kernel
theorem dX2_add_71 : decode cX2_add 71 = .ok (.iload_n 1, 1) := by decide +kernel
theorem dX2_add_72 : decode cX2_add 72 = .ok (.sipush 511, 3) := by decide +kernel
theorem dX2_add_75 : decode cX2_add 75 = .ok (.iand, 1) := by decide +kernel
theorem dX2_add_76 : decode cX2_add 76 = .ok (.iaload, 1) := by decide +kernel
theorem dX2_add_77 : decode cX2_add 77 = .ok (.iastore, 1) := by decide +kernel
theorem dX2_add_78 : decode cX2_add 78 = .ok (.aload_n 0, 1) := by decide +kernel
theorem dX2_add_79 : decode cX2_add 79 = .ok (.getfield 24, 3) := by decide +kernel
theorem dX2_add_82 : decode cX2_add 82 = .ok (.iload_n 1, 1) := by decide +kernel
theorem dX2_add_83 : decode cX2_add 83 = .ok (.sipush 511, 3) := by decide +kernel
theorem dX2_add_86 : decode cX2_add 86 = .ok (.iand, 1) := by decide +kernel
theorem dX2_add_87 : decode cX2_add 87 = .ok (.iload 5, 2) := by decide +kernel
theorem dX2_add_89 : decode cX2_add 89 = .ok (.iastore, 1) := by decide +kernel
theorem dX2_add_90 : decode cX2_add 90 = .ok (.aload_n 0, 1) := by decide +kernel
theorem dX2_add_91 : decode cX2_add 91 = .ok (.dup, 1) := by decide +kernel
theorem dX2_add_92 : decode cX2_add 92 = .ok (.getfield 35, 3) := by decide +kernel
theorem dX2_add_95 : decode cX2_add 95 = .ok (.iconst 1, 1) := by decide +kernel
theorem dX2_add_96 : decode cX2_add 96 = .ok (.iadd, 1) := by decide +kernel
theorem dX2_add_97 : decode cX2_add 97 = .ok (.putfield 35, 3) := by decide +kernel
theorem dX2_add_100 : decode cX2_add 100 = .ok (.aload_n 0, 1) := by decide +kernel
theorem dX2_add_101 : decode cX2_add 101 = .ok (.dup, 1) := by decide +kernel
theorem dX2_add_102 : decode cX2_add 102 = .ok (.getfield 38, 3) := by decide +kernel
theorem dX2_add_105 : decode cX2_add 105 = .ok (.iload 4, 2) := by decide +kernel
theorem dX2_add_107 : decode cX2_add 107 = .ok (.iadd, 1) := by decide +kernel
theorem dX2_add_108 : decode cX2_add 108 = .ok (.putfield 38, 3) := by decide +kernel
theorem dX2_add_111 : decode cX2_add 111 = .ok (.iload 5, 2) := by decide +kernel
theorem dX2_add_113 : decode cX2_add 113 = .ok (.ireturn, 1) := by decide +kernel
theorem dX2_leastFree_0 : decode cX2_leastFree 0 = .ok (.aload_n 0, 1) := by decide +kernel
theorem dX2_leastFree_1 : decode cX2_leastFree 1 = .ok (.getfield 31, 3) := by decide +kernel
theorem dX2_leastFree_4 : decode cX2_leastFree 4 = .ok (.sipush 400, 3) := by decide +kernel
theorem dX2_leastFree_7 : decode cX2_leastFree 7 = .ok (.if_icmp .ge 28, 3) := by decide +kernel
theorem dX2_leastFree_10 : decode cX2_leastFree 10 = .ok (.aload_n 0, 1) := by decide +kernel
theorem dX2_leastFree_11 : decode cX2_leastFree 11 = .ok (.getfield 9, 3) := by decide +kernel
theorem dX2_leastFree_14 : decode cX2_leastFree 14 = .ok (.aload_n 0, 1) := by decide +kernel
theorem dX2_leastFree_15 : decode cX2_leastFree 15 = .ok (.getfield 31, 3) := by decide +kernel
theorem dX2_leastFree_18 : decode cX2_leastFree 18 = .ok (.iaload, 1) := by decide +kernel
theorem dX2_leastFree_19 : decode cX2_leastFree 19 = .ok (.ifCond .le 16, 3) := by decide +kernel
theorem dX2_leastFree_22 : decode cX2_leastFree 22 = .ok (.aload_n 0, 1) := by decide +kernel
theorem dX2_leastFree_23 : decode cX2_leastFree 23 = .ok (.dup, 1) := by decide +kernel
theorem dX2_leastFree_24 : decode cX2_leastFree 24 = .ok (.getfield 31, 3) := by decide +kernel
theorem dX2_leastFree_27 : decode cX2_leastFree 27 = .ok (.iconst 1, 1) := by decide +kernel
theorem dX2_leastFree_28 : decode cX2_leastFree 28 = .ok (.iadd, 1) := by decide +kernel
theorem dX2_leastFree_29 : decode cX2_leastFree 29 = .ok (.putfield 31, 3) := by decide +kernel
theorem dX2_leastFree_32 : decode cX2_leastFree 32 = .ok (.goto (-32), 3) := by decide +kernel
theorem dX2_leastFree_35 : decode cX2_leastFree 35 = .ok (.aload_n 0, 1) := by decide +kernel
theorem dX2_leastFree_36 : decode cX2_leastFree 36 = .ok (.getfield 31, 3) := by decide +kernel
theorem dX2_leastFree_39 : decode cX2_leastFree 39 = .ok (.sipush 400, 3) := by decide +kernel
theorem dX2_leastFree_42 : decode cX2_leastFree 42 = .ok (.if_icmp .ge 10, 3) := by decide +kernel
theorem dX2_leastFree_45 : decode cX2_leastFree 45 = .ok (.aload_n 0, 1) := by decide +kernel
theorem dX2_leastFree_46 : decode cX2_leastFree 46 = .ok (.getfield 31, 3) := by decide +kernel
theorem dX2_leastFree_49 : decode cX2_leastFree 49 = .ok (.goto 4, 3) := by decide +kernel
theorem dX2_leastFree_52 : decode cX2_leastFree 52 = .ok (.iconst (-1), 1) := by decide +kernel
theorem dX2_leastFree_53 : decode cX2_leastFree 53 = .ok (.ireturn, 1) := by decide +kernel
theorem dX2_makeRoomFor_0 : decode cX2_makeRoomFor 0 = .ok (.iload_n 1, 1) := by decide +kernel
theorem dX2_makeRoomFor_1 : decode cX2_makeRoomFor 1 = .ok (.iconst 1, 1) := by decide +kernel
theorem dX2_makeRoomFor_2 : decode cX2_makeRoomFor 2 = .ok (.iadd, 1) := by decide +kernel
theorem dX2_makeRoomFor_3 : decode cX2_makeRoomFor 3 = .ok (.bipush 64, 2) := by decide +kernel
theorem dX2_makeRoomFor_5 : decode cX2_makeRoomFor 5 = .ok (.imul, 1) := by decide +kernel
theorem dX2_makeRoomFor_6 : decode cX2_makeRoomFor 6 = .ok (.istore_n 2, 1) := by decide +kernel
theorem dX2_makeRoomFor_7 : decode cX2_makeRoomFor 7 = .ok (.iload_n 2, 1) := by decide +kernel
theorem dX2_makeRoomFor_8 : decode cX2_makeRoomFor 8 = .ok (.aload_n 0, 1) := by decide +kernel
theorem dX2_makeRoomFor_9 : decode cX2_makeRoomFor 9 = .ok (.getfield 27, 3) := by decide +kernel
theorem dX2_makeRoomFor_12 : decode cX2_makeRoomFor 12 = .ok (.arraylength, 1) := by decide +kernel
theorem dX2_makeRoomFor_13 : decode cX2_makeRoomFor 13 = .ok (.if_icmp .le 31, 3) := by decide +kernel
theorem dX2_makeRoomFor_16 : decode cX2_makeRoomFor 16 = .ok (.aload_n 0, 1) := by decide +kernel
theorem dX2_makeRoomFor_17 : decode cX2_makeRoomFor 17 = .ok (.aload_n 0, 1) := by decide +kernel
theorem dX2_makeRoomFor_18 : decode cX2_makeRoomFor 18 = .ok (.getfield 27, 3) := by decide +kernel
theorem dX2_makeRoomFor_21 : decode cX2_makeRoomFor 21 = .ok (.sipush 25600, 3) := by decide +kernel
theorem dX2_makeRoomFor_24 : decode cX2_makeRoomFor 24 = .ok (.iload_n 2, 1) := by decide +kernel
theorem dX2_makeRoomFor_25 : decode cX2_makeRoomFor 25 = .ok (.iconst 2, 1) := by decide +kernel
theorem dX2_makeRoomFor_26 : decode cX2_makeRoomFor 26 = .ok (.aload_n 0, 1) := by decide +kernel
theorem dX2_makeRoomFor_27 : decode cX2_makeRoomFor 27 = .ok (.getfield 27, 3) := by decide +kernel
theorem dX2_makeRoomFor_30 : decode cX2_makeRoomFor 30 = .ok (.arraylength, 1) := by decide +kernel
theorem dX2_makeRoomFor_31 : decode cX2_makeRoomFor 31 = .ok (.imul, 1) := by decide +kernel
theorem dX2_makeRoomFor_32 : decode cX2_makeRoomFor 32 = .ok (.invokestatic 96, 3) := by decide +kernel
theorem dX2_makeRoomFor_35 : decode cX2_makeRoomFor 35 = .ok (.invokestatic 79, 3) := by decide +kernel
theorem dX2_makeRoomFor_38 : decode cX2_makeRoomFor 38 = .ok (.invokestatic 99, 3) := by decide +kernel
theorem dX2_makeRoomFor_41 : decode cX2_makeRoomFor 41 = .ok (.putfield 27, 3) := by decide +kernel
theorem dX2_makeRoomFor_44 : decode cX2_makeRoomFor 44 = .ok (.return_, 1) := by decide +kernel
theorem dX2_unchain_0 : decode cX2_unchain 0 = .ok (.aload_n 0, 1) := by decide +kernel
theorem dX2_unchain_1 : decode cX2_unchain 1 = .ok (.getfield 18, 3) := by decide +kernel
theorem dX2_unchain_4 : decode cX2_unchain 4 = .ok (.iload_n 1, 1) := by decide +kernel
theorem dX2_unchain_5 : decode cX2_unchain 5 = .ok (.iaload, 1) := by decide +kernel
theorem dX2_unchain_6 : decode cX2_unchain 6 = .ok (.sipush 511, 3) := by decide +kernel
theorem dX2_unchain_9 : decode cX2_unchain 9 = .ok (.iand, 1) := by decide +kernel
theorem dX2_unchain_10 : decode cX2_unchain 10 = .ok (.istore_n 2, 1) := by decide +kernel
theorem dX2_unchain_11 : decode cX2_unchain 11 = .ok (.aload_n 0, 1) := by decide +kernel
theorem dX2_unchain_12 : decode cX2_unchain 12 = .ok (.getfield 24, 3) := by decide +kernel
theorem dX2_unchain_15 : decode cX2_unchain 15 = .ok (.iload_n 2, 1) := by decide +kernel
theorem dX2_unchain_16 : decode cX2_unchain 16 = .ok (.iaload, 1) := by decide +kernel
theorem dX2_unchain_17 : decode cX2_unchain 17 = .ok (.iload_n 1, 1) := by decide +kernel
theorem dX2_unchain_18 : decode cX2_unchain 18 = .ok (.if_icmp .ne 16, 3) := by decide +kernel
theorem dX2_unchain_21 : decode cX2_unchain 21 = .ok (.aload_n 0, 1) := by decide +kernel
theorem dX2_unchain_22 : decode cX2_unchain 22 = .ok (.getfield 24, 3) := by decide +kernel
theorem dX2_unchain_25 : decode cX2_unchain 25 = .ok (.iload_n 2, 1) := by decide +kernel
theorem dX2_unchain_26 : decode cX2_unchain 26 = .ok (.aload_n 0, 1) := by decide +kernel
theorem dX2_unchain_27 : decode cX2_unchain 27 = .ok (.getfield 21, 3) := by decide +kernel
theorem dX2_unchain_30 : decode cX2_unchain 30 = .ok (.iload_n 1, 1) := by decide +kernel
theorem dX2_unchain_31 : decode cX2_unchain 31 = .ok (.iaload, 1) := by decide +kernel
theorem dX2_unchain_32 : decode cX2_unchain 32 = .ok (.iastore, 1) := by decide +kernel
theorem dX2_unchain_33 : decode cX2_unchain 33 = .ok (.return_, 1) := by decide +kernel
theorem dX2_unchain_34 : decode cX2_unchain 34 = .ok (.aload_n 0, 1) := by decide +kernel
theorem dX2_unchain_35 : decode cX2_unchain 35 = .ok (.getfield 24, 3) := by decide +kernel
theorem dX2_unchain_38 : decode cX2_unchain 38 = .ok (.iload_n 2, 1) := by decide +kernel
theorem dX2_unchain_39 : decode cX2_unchain 39 = .ok (.iaload, 1) := by decide +kernel
theorem dX2_unchain_40 : decode cX2_unchain 40 = .ok (.istore_n 3, 1) := by decide +kernel
theorem dX2_unchain_41 : decode cX2_unchain 41 = .ok (.iconst 0, 1) := by decide +kernel
theorem dX2_unchain_42 : decode cX2_unchain 42 = .ok (.istore 4, 2) := by decide +kernel
theorem dX2_unchain_44 : decode cX2_unchain 44 = .ok (.iload 4, 2) := by decide +kernel
theorem dX2_unchain_46 : decode cX2_unchain 46 = .ok (.sipush 400, 3) := by decide +kernel
theorem dX2_unchain_49 : decode cX2_unchain 49 = .ok (.if_icmp .ge 47, 3) := by decide +kernel
theorem dX2_unchain_52 : decode cX2_unchain 52 = .ok (.aload_n 0, 1) := by decide +kernel
theorem dX2_unchain_53 : decode cX2_unchain 53 = .ok (.iload_n 3, 1) := by decide +kernel
theorem dX2_unchain_54 : decode cX2_unchain 54 = .ok (.invokevirtual 47, 3) := by decide +kernel
theorem dX2_unchain_57 : decode cX2_unchain 57 = .ok (.ifCond .eq 39, 3) := by decide +kernel
theorem dX2_unchain_60 : decode cX2_unchain 60 = .ok (.aload_n 0, 1) := by decide +kernel
theorem dX2_unchain_61 : decode cX2_unchain 61 = .ok (.getfield 21, 3) := by decide +kernel
theorem dX2_unchain_64 : decode cX2_unchain 64 = .ok (.iload_n 3, 1) := by decide +kernel
theorem dX2_unchain_65 : decode cX2_unchain 65 = .ok (.iaload, 1) := by decide +kernel
theorem dX2_unchain_66 : decode cX2_unchain 66 = .ok (.iload_n 1, 1) := by decide +kernel
theorem dX2_unchain_67 : decode cX2_unchain 67 = .ok (.if_icmp .ne 16, 3) := by decide +kernel
theorem dX2_unchain_70 : decode cX2_unchain 70 = .ok (.aload_n 0, 1) := by decide +kernel
theorem dX2_unchain_71 : decode cX2_unchain 71 = .ok (.getfield 21, 3) := by decide +kernel
theorem dX2_unchain_74 : decode cX2_unchain 74 = .ok (.iload_n 3, 1) := by decide +kernel
theorem dX2_unchain_75 : decode cX2_unchain 75 = .ok (.aload_n 0, 1) := by decide +kernel
theorem dX2_unchain_76 : decode cX2_unchain 76 = .ok (.getfield 21, 3) := by decide +kernel
theorem dX2_unchain_79 : decode cX2_unchain 79 = .ok (.iload_n 1, 1) := by decide +kernel
theorem dX2_unchain_80 : decode cX2_unchain 80 = .ok (.iaload, 1) := by decide +kernel
theorem dX2_unchain_81 : decode cX2_unchain 81 = .ok (.iastore, 1) := by decide +kernel
theorem dX2_unchain_82 : decode cX2_unchain 82 = .ok (.return_, 1) := by decide +kernel
theorem dX2_unchain_83 : decode cX2_unchain 83 = .ok (.aload_n 0, 1) := by decide +kernel
theorem dX2_unchain_84 : decode cX2_unchain 84 = .ok (.getfield 21, 3) := by decide +kernel
theorem dX2_unchain_87 : decode cX2_unchain 87 = .ok (.iload_n 3, 1) := by decide +kernel
theorem dX2_unchain_88 : decode cX2_unchain 88 = .ok (.iaload, 1) := by decide +kernel
theorem dX2_unchain_89 : decode cX2_unchain 89 = .ok (.istore_n 3, 1) := by decide +kernel
theorem dX2_unchain_90 : decode cX2_unchain 90 = .ok (.iinc 4 1, 3) := by decide +kernel
theorem dX2_unchain_93 : decode cX2_unchain 93 = .ok (.goto (-49), 3) := by decide +kernel
theorem dX2_unchain_96 : decode cX2_unchain 96 = .ok (.return_, 1) := by decide +kernel
theorem dX3_init_0 : decode cX3_init 0 = .ok (.aload_n 0, 1) := by decide +kernel
theorem dX3_init_1 : decode cX3_init 1 = .ok (.invokespecial 1, 3) := by decide +kernel
theorem dX3_init_4 : decode cX3_init 4 = .ok (.aload_n 0, 1) := by decide +kernel
theorem dX3_init_5 : decode cX3_init 5 = .ok (.new 7, 3) := by decide +kernel
theorem dX3_init_8 : decode cX3_init 8 = .ok (.dup, 1) := by decide +kernel
theorem dX3_init_9 : decode cX3_init 9 = .ok (.invokespecial 9, 3) := by decide +kernel
theorem dX3_init_12 : decode cX3_init 12 = .ok (.putfield 10, 3) := by decide +kernel
theorem dX3_init_15 : decode cX3_init 15 = .ok (.aload_n 0, 1) := by decide +kernel
theorem dX3_init_16 : decode cX3_init 16 = .ok (.new 16, 3) := by decide +kernel
theorem dX3_init_19 : decode cX3_init 19 = .ok (.dup, 1) := by decide +kernel
theorem dX3_init_20 : decode cX3_init 20 = .ok (.invokespecial 18, 3) := by decide +kernel
theorem dX3_init_23 : decode cX3_init 23 = .ok (.putfield 19, 3) := by decide +kernel
theorem dX3_init_26 : decode cX3_init 26 = .ok (.aload_n 0, 1) := by decide +kernel
theorem dX3_init_27 : decode cX3_init 27 = .ok (.bipush 16, 2) := by decide +kernel
theorem dX3_init_29 : decode cX3_init 29 = .ok (.anewarray 23, 3) := by decide +kernel
theorem dX3_init_32 : decode cX3_init 32 = .ok (.putfield 25, 3) := by decide +kernel
theorem dX3_init_35 : decode cX3_init 35 = .ok (.aload_n 0, 1) := by decide +kernel
theorem dX3_init_36 : decode cX3_init 36 = .ok (.sipush 1500, 3) := by decide +kernel
theorem dX3_init_39 : decode cX3_init 39 = .ok (.newarray .byte, 2) := by decide +kernel
theorem dX3_init_41 : decode cX3_init 41 = .ok (.putfield 29, 3) := by decide +kernel
theorem dX3_init_44 : decode cX3_init 44 = .ok (.aload_n 0, 1) := by decide +kernel
theorem dX3_init_45 : decode cX3_init 45 = .ok (.iconst 0, 1) := by decide +kernel
theorem dX3_init_46 : decode cX3_init 46 = .ok (.putfield 33, 3) := by decide +kernel
theorem dX3_init_49 : decode cX3_init 49 = .ok (.aload_n 0, 1) := by decide +kernel
theorem dX3_init_50 : decode cX3_init 50 = .ok (.sipush 1500, 3) := by decide +kernel
theorem dX3_init_53 : decode cX3_init 53 = .ok (.newarray .byte, 2) := by decide +kernel
theorem dX3_init_55 : decode cX3_init 55 = .ok (.putfield 37, 3) := by decide +kernel
theorem dX3_init_58 : decode cX3_init 58 = .ok (.aload_n 0, 1) := by decide +kernel
theorem dX3_init_59 : decode cX3_init 59 = .ok (.sipush 1500, 3) := by decide +kernel
theorem dX3_init_62 : decode cX3_init 62 = .ok (.newarray .int, 2) := by decide +kernel
theorem dX3_init_64 : decode cX3_init 64 = .ok (.putfield 40, 3) := by decide +kernel
theorem dX3_init_67 : decode cX3_init 67 = .ok (.aload_n 0, 1) := by decide +kernel
theorem dX3_init_68 : decode cX3_init 68 = .ok (.sipush 400, 3) := by decide +kernel
theorem dX3_init_71 : decode cX3_init 71 = .ok (.newarray .int, 2) := by decide +kernel
theorem dX3_init_73 : decode cX3_init 73 = .ok (.putfield 44, 3) := by decide +kernel
theorem dX3_init_76 : decode cX3_init 76 = .ok (.iconst 0, 1) := by decide +kernel
theorem dX3_init_77 : decode cX3_init 77 = .ok (.istore_n 1, 1) := by decide +kernel
theorem dX3_init_78 : decode cX3_init 78 = .ok (.iload_n 1, 1) := by decide +kernel
theorem dX3_init_79 : decode cX3_init 79 = .ok (.bipush 16, 2) := by decide +kernel
theorem dX3_init_81 : decode cX3_init 81 = .ok (.if_icmp .ge 22, 3) := by decide +kernel
theorem dX3_init_84 : decode cX3_init 84 = .ok (.aload_n 0, 1) := by decide +kernel
theorem dX3_init_85 : decode cX3_init 85 = .ok (.getfield 25, 3) := by decide +kernel
theorem dX3_init_88 : decode cX3_init 88 = .ok (.iload_n 1, 1) := by decide +kernel
theorem dX3_init_89 : decode cX3_init 89 = .ok (.new 23, 3) := by decide +kernel
theorem dX3_init_92 : decode cX3_init 92 = .ok (.dup, 1) := by decide +kernel
theorem dX3_init_93 : decode cX3_init 93 = .ok (.invokespecial 47, 3) := by decide +kernel
theorem dX3_init_96 : decode cX3_init 96 = .ok (.aastore, 1) := by decide +kernel
theorem dX3_init_97 : decode cX3_init 97 = .ok (.iinc 1 1, 3) := by decide +kernel
theorem dX3_init_100 : decode cX3_init 100 = .ok (.goto (-22), 3) := by decide +kernel
theorem dX3_init_103 : decode cX3_init 103 = .ok (.return_, 1) := by decide +kernel
theorem dX3_begin_0 : decode cX3_begin 0 = .ok (.iload_n 1, 1) := by decide +kernel
theorem dX3_begin_1 : decode cX3_begin 1 = .ok (.iconst 1, 1) := by decide +kernel
theorem dX3_begin_2 : decode cX3_begin 2 = .ok (.if_icmp .lt 9, 3) := by decide +kernel
theorem dX3_begin_5 : decode cX3_begin 5 = .ok (.iload_n 1, 1) := by decide +kernel
theorem dX3_begin_6 : decode cX3_begin 6 = .ok (.bipush 8, 2) := by decide +kernel
theorem dX3_begin_8 : decode cX3_begin 8 = .ok (.if_icmp .le 13, 3) := by decide +kernel
theorem dX3_begin_11 : decode cX3_begin 11 = .ok (.new 48, 3) := by decide +kernel
theorem dX3_begin_14 : decode cX3_begin 14 = .ok (.dup, 1) := by decide +kernel
theorem dX3_begin_15 : decode cX3_begin 15 = .ok (.ldc 50, 2) := by decide +kernel
theorem dX3_begin_17 : decode cX3_begin 17 = .ok (.invokespecial 52, 3) := by decide +kernel
theorem dX3_begin_20 : decode cX3_begin 20 = .ok (.athrow, 1) := by decide +kernel
theorem dX3_begin_21 : decode cX3_begin 21 = .ok (.iload_n 2, 1) := by decide +kernel
theorem dX3_begin_22 : decode cX3_begin 22 = .ok (.iconst 1, 1) := by decide +kernel
theorem dX3_begin_23 : decode cX3_begin 23 = .ok (.if_icmp .lt 9, 3) := by decide +kernel
theorem dX3_begin_26 : decode cX3_begin 26 = .ok (.iload_n 2, 1) := by decide +kernel
theorem dX3_begin_27 : decode cX3_begin 27 = .ok (.bipush 32, 2) := by decide +kernel
theorem dX3_begin_29 : decode cX3_begin 29 = .ok (.if_icmp .le 13, 3) := by decide +kernel
theorem dX3_begin_32 : decode cX3_begin 32 = .ok (.new 48, 3) := by decide +kernel
theorem dX3_begin_35 : decode cX3_begin 35 = .ok (.dup, 1) := by decide +kernel
theorem dX3_begin_36 : decode cX3_begin 36 = .ok (.ldc 55, 2) := by decide +kernel
theorem dX3_begin_38 : decode cX3_begin 38 = .ok (.invokespecial 52, 3) := by decide +kernel
theorem dX3_begin_41 : decode cX3_begin 41 = .ok (.athrow, 1) := by decide +kernel
theorem dX3_begin_42 : decode cX3_begin 42 = .ok (.iload_n 3, 1) := by decide +kernel
theorem dX3_begin_43 : decode cX3_begin 43 = .ok (.iload_n 2, 1) := by decide +kernel
theorem dX3_begin_44 : decode cX3_begin 44 = .ok (.if_icmp .lt 9, 3) := by decide +kernel
theorem dX3_begin_47 : decode cX3_begin 47 = .ok (.iload_n 3, 1) := by decide +kernel
theorem dX3_begin_48 : decode cX3_begin 48 = .ok (.bipush 64, 2) := by decide +kernel
theorem dX3_begin_50 : decode cX3_begin 50 = .ok (.if_icmp .le 13, 3) := by decide +kernel
theorem dX3_begin_53 : decode cX3_begin 53 = .ok (.new 48, 3) := by decide +kernel
theorem dX3_begin_56 : decode cX3_begin 56 = .ok (.dup, 1) := by decide +kernel
theorem dX3_begin_57 : decode cX3_begin 57 = .ok (.ldc 57, 2) := by decide +kernel
theorem dX3_begin_59 : decode cX3_begin 59 = .ok (.invokespecial 52, 3) := by decide +kernel
theorem dX3_begin_62 : decode cX3_begin 62 = .ok (.athrow, 1) := by decide +kernel
theorem dX3_begin_63 : decode cX3_begin 63 = .ok (.aload_n 0, 1) := by decide +kernel
theorem dX3_begin_64 : decode cX3_begin 64 = .ok (.getfield 10, 3) := by decide +kernel
theorem dX3_begin_67 : decode cX3_begin 67 = .ok (.iload_n 1, 1) := by decide +kernel
theorem dX3_begin_68 : decode cX3_begin 68 = .ok (.iload_n 2, 1) := by decide +kernel
theorem dX3_begin_69 : decode cX3_begin 69 = .ok (.iload_n 3, 1) := by decide +kernel
theorem dX3_begin_70 : decode cX3_begin 70 = .ok (.invokevirtual 59, 3) := by decide +kernel
theorem dX3_begin_73 : decode cX3_begin 73 = .ok (.aload_n 0, 1) := by decide +kernel
theorem dX3_begin_74 : decode cX3_begin 74 = .ok (.getfield 19, 3) := by decide +kernel
theorem dX3_begin_77 : decode cX3_begin 77 = .ok (.invokevirtual 63, 3) := by decide +kernel
theorem dX3_begin_80 : decode cX3_begin 80 = .ok (.iconst 0, 1) := by decide +kernel
theorem dX3_begin_81 : decode cX3_begin 81 = .ok (.istore 4, 2) := by decide +kernel
theorem dX3_begin_83 : decode cX3_begin 83 = .ok (.iload 4, 2) := by decide +kernel
theorem dX3_begin_85 : decode cX3_begin 85 = .ok (.bipush 16, 2) := by decide +kernel
theorem dX3_begin_87 : decode cX3_begin 87 = .ok (.if_icmp .ge 19, 3) := by decide +kernel
theorem dX3_begin_90 : decode cX3_begin 90 = .ok (.aload_n 0, 1) := by decide +kernel
theorem dX3_begin_91 : decode cX3_begin 91 = .ok (.getfield 25, 3) := by decide +kernel
theorem dX3_begin_94 : decode cX3_begin 94 = .ok (.iload 4, 2) := by decide +kernel
theorem dX3_begin_96 : decode cX3_begin 96 = .ok (.aaload, 1) := by decide +kernel
theorem dX3_begin_97 : decode cX3_begin 97 = .ok (.invokevirtual 66, 3) := by decide +kernel
theorem dX3_begin_100 : decode cX3_begin 100 = .ok (.iinc 4 1, 3) := by decide +kernel
theorem dX3_begin_103 : decode cX3_begin 103 = .ok (.goto (-20), 3) := by decide +kernel
theorem dX3_begin_106 : decode cX3_begin 106 = .ok (.return_, 1) := by decide +kernel
theorem dX3_put_0 : decode cX3_put 0 = .ok (.iload_n 1, 1) := by decide +kernel
theorem dX3_put_1 : decode cX3_put 1 = .ok (.iconst 1, 1) := by decide +kernel
theorem dX3_put_2 : decode cX3_put 2 = .ok (.if_icmp .lt 8, 3) := by decide +kernel
theorem dX3_put_5 : decode cX3_put 5 = .ok (.iload_n 1, 1) := by decide +kernel
theorem dX3_put_6 : decode cX3_put 6 = .ok (.iconst 4, 1) := by decide +kernel
theorem dX3_put_7 : decode cX3_put 7 = .ok (.if_icmp .le 13, 3) := by decide +kernel
theorem dX3_put_10 : decode cX3_put 10 = .ok (.new 48, 3) := by decide +kernel
theorem dX3_put_13 : decode cX3_put 13 = .ok (.dup, 1) := by decide +kernel
theorem dX3_put_14 : decode cX3_put 14 = .ok (.ldc 67, 2) := by decide +kernel
theorem dX3_put_16 : decode cX3_put 16 = .ok (.invokespecial 52, 3) := by decide +kernel
theorem dX3_put_19 : decode cX3_put 19 = .ok (.athrow, 1) := by decide +kernel
theorem dX3_put_20 : decode cX3_put 20 = .ok (.aload_n 0, 1) := by decide +kernel
theorem dX3_put_21 : decode cX3_put 21 = .ok (.getfield 33, 3) := by decide +kernel
theorem dX3_put_24 : decode cX3_put 24 = .ok (.iload_n 1, 1) := by decide +kernel
theorem dX3_put_25 : decode cX3_put 25 = .ok (.iadd, 1) := by decide +kernel
theorem dX3_put_26 : decode cX3_put 26 = .ok (.sipush 1500, 3) := by decide +kernel
theorem dX3_put_29 : decode cX3_put 29 = .ok (.if_icmp .le 13, 3) := by decide +kernel
theorem dX3_put_32 : decode cX3_put 32 = .ok (.new 69, 3) := by decide +kernel
theorem dX3_put_35 : decode cX3_put 35 = .ok (.dup, 1) := by decide +kernel
theorem dX3_put_36 : decode cX3_put 36 = .ok (.ldc 71, 2) := by decide +kernel
theorem dX3_put_38 : decode cX3_put 38 = .ok (.invokespecial 73, 3) := by decide +kernel
theorem dX3_put_41 : decode cX3_put 41 = .ok (.athrow, 1) := by decide +kernel
theorem dX3_put_42 : decode cX3_put 42 = .ok (.iconst 0, 1) := by decide +kernel
theorem dX3_put_43 : decode cX3_put 43 = .ok (.istore_n 3, 1) := by decide +kernel
theorem dX3_put_44 : decode cX3_put 44 = .ok (.iload_n 3, 1) := by decide +kernel
theorem dX3_put_45 : decode cX3_put 45 = .ok (.iload_n 1, 1) := by decide +kernel
theorem dX3_put_46 : decode cX3_put 46 = .ok (.if_icmp .ge 27, 3) := by decide +kernel
theorem dX3_put_49 : decode cX3_put 49 = .ok (.aload_n 0, 1) := by decide +kernel
theorem dX3_put_50 : decode cX3_put 50 = .ok (.getfield 29, 3) := by decide +kernel
theorem dX3_put_53 : decode cX3_put 53 = .ok (.aload_n 0, 1) := by decide +kernel
theorem dX3_put_54 : decode cX3_put 54 = .ok (.getfield 33, 3) := by decide +kernel
theorem dX3_put_57 : decode cX3_put 57 = .ok (.iload_n 3, 1) := by decide +kernel
theorem dX3_put_58 : decode cX3_put 58 = .ok (.iadd, 1) := by decide +kernel
theorem dX3_put_59 : decode cX3_put 59 = .ok (.iload_n 2, 1) := by decide +kernel
theorem dX3_put_60 : decode cX3_put 60 = .ok (.bipush 8, 2) := by decide +kernel
theorem dX3_put_62 : decode cX3_put 62 = .ok (.iload_n 3, 1) := by decide +kernel
theorem dX3_put_63 : decode cX3_put 63 = .ok (.imul, 1) := by decide +kernel
theorem dX3_put_64 : decode cX3_put 64 = .ok (.iushr, 1) := by decide +kernel
theorem dX3_put_65 : decode cX3_put 65 = .ok (.i2b, 1) := by decide +kernel
theorem dX3_put_66 : decode cX3_put 66 = .ok (.bastore, 1) := by decide +kernel
theorem dX3_put_67 : decode cX3_put 67 = .ok (.iinc 3 1, 3) := by decide +kernel
theorem dX3_put_70 : decode cX3_put 70 = .ok (.goto (-26), 3) := by decide +kernel
theorem dX3_put_73 : decode cX3_put 73 = .ok (.aload_n 0, 1) := by decide +kernel
theorem dX3_put_74 : decode cX3_put 74 = .ok (.dup, 1) := by decide +kernel
theorem dX3_put_75 : decode cX3_put 75 = .ok (.getfield 33, 3) := by decide +kernel
theorem dX3_put_78 : decode cX3_put 78 = .ok (.iload_n 1, 1) := by decide +kernel
theorem dX3_put_79 : decode cX3_put 79 = .ok (.iadd, 1) := by decide +kernel
theorem dX3_put_80 : decode cX3_put 80 = .ok (.putfield 33, 3) := by decide +kernel
theorem dX3_put_83 : decode cX3_put 83 = .ok (.aload_n 0, 1) := by decide +kernel
theorem dX3_put_84 : decode cX3_put 84 = .ok (.getfield 33, 3) := by decide +kernel
theorem dX3_put_87 : decode cX3_put 87 = .ok (.ireturn, 1) := by decide +kernel
theorem dX3_store_0 : decode cX3_store 0 = .ok (.aload_n 0, 1) := by decide +kernel
theorem dX3_store_1 : decode cX3_store 1 = .ok (.aload_n 0, 1) := by decide +kernel
theorem dX3_store_2 : decode cX3_store 2 = .ok (.iload_n 1, 1) := by decide +kernel
theorem dX3_store_3 : decode cX3_store 3 = .ok (.invokevirtual 74, 3) := by decide +kernel
theorem dX3_store_6 : decode cX3_store 6 = .ok (.aload_n 0, 1) := by decide +kernel
theorem dX3_store_7 : decode cX3_store 7 = .ok (.getfield 29, 3) := by decide +kernel
theorem dX3_store_10 : decode cX3_store 10 = .ok (.aload_n 0, 1) := by decide +kernel
theorem dX3_store_11 : decode cX3_store 11 = .ok (.getfield 33, 3) := by decide +kernel
theorem dX3_store_14 : decode cX3_store 14 = .ok (.invokevirtual 78, 3) := by decide +kernel
theorem dX3_store_17 : decode cX3_store 17 = .ok (.ireturn, 1) := by decide +kernel
theorem dX3_edit_0 : decode cX3_edit 0 = .ok (.aload_n 0, 1) := by decide +kernel
theorem dX3_edit_1 : decode cX3_edit 1 = .ok (.iload_n 1, 1) := by decide +kernel
theorem dX3_edit_2 : decode cX3_edit 2 = .ok (.invokevirtual 74, 3) := by decide +kernel
theorem dX3_edit_5 : decode cX3_edit 5 = .ok (.astore 4, 2) := by decide +kernel
theorem dX3_edit_7 : decode cX3_edit 7 = .ok (.iload_n 2, 1) := by decide +kernel
theorem dX3_edit_8 : decode cX3_edit 8 = .ok (.ifCond .lt 27, 3) := by decide +kernel
theorem dX3_edit_11 : decode cX3_edit 11 = .ok (.iload_n 2, 1) := by decide +kernel
theorem dX3_edit_12 : decode cX3_edit 12 = .ok (.aload 4, 2) := by decide +kernel
theorem dX3_edit_14 : decode cX3_edit 14 = .ok (.getfield 82, 3) := by decide +kernel
theorem dX3_edit_17 : decode cX3_edit 17 = .ok (.if_icmp .gt 18, 3) := by decide +kernel
theorem dX3_edit_20 : decode cX3_edit 20 = .ok (.iload_n 3, 1) := by decide +kernel
theorem dX3_edit_21 : decode cX3_edit 21 = .ok (.ifCond .lt 14, 3) := by decide +kernel
theorem dX3_edit_24 : decode cX3_edit 24 = .ok (.iload_n 3, 1) := by decide +kernel
theorem dX3_edit_25 : decode cX3_edit 25 = .ok (.aload 4, 2) := by decide +kernel
theorem dX3_edit_27 : decode cX3_edit 27 = .ok (.getfield 82, 3) := by decide +kernel
theorem dX3_edit_30 : decode cX3_edit 30 = .ok (.iload_n 2, 1) := by decide +kernel
theorem dX3_edit_31 : decode cX3_edit 31 = .ok (.isub, 1) := by decide +kernel
theorem dX3_edit_32 : decode cX3_edit 32 = .ok (.if_icmp .le 13, 3) := by decide +kernel
theorem dX3_edit_35 : decode cX3_edit 35 = .ok (.new 48, 3) := by decide +kernel
theorem dX3_edit_38 : decode cX3_edit 38 = .ok (.dup, 1) := by decide +kernel
theorem dX3_edit_39 : decode cX3_edit 39 = .ok (.ldc 85, 2) := by decide +kernel
theorem dX3_edit_41 : decode cX3_edit 41 = .ok (.invokespecial 52, 3) := by decide +kernel
theorem dX3_edit_44 : decode cX3_edit 44 = .ok (.athrow, 1) := by decide +kernel
theorem dX3_edit_45 : decode cX3_edit 45 = .ok (.aload 4, 2) := by decide +kernel
theorem dX3_edit_47 : decode cX3_edit 47 = .ok (.getfield 82, 3) := by decide +kernel
theorem dX3_edit_50 : decode cX3_edit 50 = .ok (.iload_n 3, 1) := by decide +kernel
theorem dX3_edit_51 : decode cX3_edit 51 = .ok (.isub, 1) := by decide +kernel
theorem dX3_edit_52 : decode cX3_edit 52 = .ok (.aload_n 0, 1) := by decide +kernel
theorem dX3_edit_53 : decode cX3_edit 53 = .ok (.getfield 33, 3) := by decide +kernel
theorem dX3_edit_56 : decode cX3_edit 56 = .ok (.iadd, 1) := by decide +kernel
theorem dX3_edit_57 : decode cX3_edit 57 = .ok (.istore 5, 2) := by decide +kernel
theorem dX3_edit_59 : decode cX3_edit 59 = .ok (.iload 5, 2) := by decide +kernel
theorem dX3_edit_61 : decode cX3_edit 61 = .ok (.sipush 1500, 3) := by decide +kernel
theorem dX3_edit_64 : decode cX3_edit 64 = .ok (.if_icmp .le 13, 3) := by decide +kernel
theorem dX3_edit_67 : decode cX3_edit 67 = .ok (.new 69, 3) := by decide +kernel
theorem dX3_edit_70 : decode cX3_edit 70 = .ok (.dup, 1) := by decide +kernel
theorem dX3_edit_71 : decode cX3_edit 71 = .ok (.ldc 87, 2) := by decide +kernel
theorem dX3_edit_73 : decode cX3_edit 73 = .ok (.invokespecial 73, 3) := by decide +kernel
theorem dX3_edit_76 : decode cX3_edit 76 = .ok (.athrow, 1) := by decide +kernel
theorem dX3_edit_77 : decode cX3_edit 77 = .ok (.aload_n 0, 1) := by decide +kernel
theorem dX3_edit_78 : decode cX3_edit 78 = .ok (.aload 4, 2) := by decide +kernel
theorem dX3_edit_80 : decode cX3_edit 80 = .ok (.invokevirtual 89, 3) := by decide +kernel
theorem dX3_edit_83 : decode cX3_edit 83 = .ok (.aload_n 0, 1) := by decide +kernel
theorem dX3_edit_84 : decode cX3_edit 84 = .ok (.getfield 37, 3) := by decide +kernel
theorem dX3_edit_87 : decode cX3_edit 87 = .ok (.iload_n 2, 1) := by decide +kernel
theorem dX3_edit_88 : decode cX3_edit 88 = .ok (.iload_n 3, 1) := by decide +kernel
theorem dX3_edit_89 : decode cX3_edit 89 = .ok (.iadd, 1) := by decide +kernel
theorem dX3_edit_90 : decode cX3_edit 90 = .ok (.aload_n 0, 1) := by decide +kernel
theorem dX3_edit_91 : decode cX3_edit 91 = .ok (.getfield 37, 3) := by decide +kernel
theorem dX3_edit_94 : decode cX3_edit 94 = .ok (.iload_n 2, 1) := by decide +kernel
theorem dX3_edit_95 : decode cX3_edit 95 = .ok (.aload_n 0, 1) := by decide +kernel
theorem dX3_edit_96 : decode cX3_edit 96 = .ok (.getfield 33, 3) := by decide +kernel
theorem dX3_edit_99 : decode cX3_edit 99 = .ok (.iadd, 1) := by decide +kernel
theorem dX3_edit_100 : decode cX3_edit 100 = .ok (.aload 4, 2) := by decide +kernel
theorem dX3_edit_102 : decode cX3_edit 102 = .ok (.getfield 82, 3) := by decide +kernel
theorem dX3_edit_105 : decode cX3_edit 105 = .ok (.iload_n 2, 1) := by decide +kernel
theorem dX3_edit_106 : decode cX3_edit 106 = .ok (.isub, 1) := by decide +kernel
theorem dX3_edit_107 : decode cX3_edit 107 = .ok (.iload_n 3, 1) := by decide +kernel
theorem dX3_edit_108 : decode cX3_edit 108 = .ok (.isub, 1) := by decide +kernel
theorem dX3_edit_109 : decode cX3_edit 109 = .ok (.invokestatic 93, 3) := by decide +kernel
theorem dX3_edit_112 : decode cX3_edit 112 = .ok (.aload_n 0, 1) := by decide +kernel
theorem dX3_edit_113 : decode cX3_edit 113 = .ok (.getfield 29, 3) := by decide +kernel
theorem dX3_edit_116 : decode cX3_edit 116 = .ok (.iconst 0, 1) := by decide +kernel
theorem dX3_edit_117 : decode cX3_edit 117 = .ok (.aload_n 0, 1) := by decide +kernel
theorem dX3_edit_118 : decode cX3_edit 118 = .ok (.getfield 37, 3) := by decide +kernel
theorem dX3_edit_121 : decode cX3_edit 121 = .ok (.iload_n 2, 1) := by decide +kernel
theorem dX3_edit_122 : decode cX3_edit 122 = .ok (.aload_n 0, 1) := by decide +kernel
theorem dX3_edit_123 : decode cX3_edit 123 = .ok (.getfield 33, 3) := by decide +kernel
theorem dX3_edit_126 : decode cX3_edit 126 = .ok (.invokestatic 93, 3) := by decide +kernel
theorem dX3_edit_129 : decode cX3_edit 129 = .ok (.aload_n 0, 1) := by decide +kernel
theorem dX3_edit_130 : decode cX3_edit 130 = .ok (.aload 4, 2) := by decide +kernel
theorem dX3_edit_132 : decode cX3_edit 132 = .ok (.aload_n 0, 1) := by decide +kernel
theorem dX3_edit_133 : decode cX3_edit 133 = .ok (.getfield 37, 3) := by decide +kernel
theorem dX3_edit_136 : decode cX3_edit 136 = .ok (.iload 5, 2) := by decide +kernel
theorem dX3_edit_138 : decode cX3_edit 138 = .ok (.invokevirtual 78, 3) := by decide +kernel
theorem dX3_edit_141 : decode cX3_edit 141 = .ok (.ireturn, 1) := by decide +kernel
theorem dX3_copy_0 : decode cX3_copy 0 = .ok (.aload_n 0, 1) := by decide +kernel
theorem dX3_copy_1 : decode cX3_copy 1 = .ok (.iload_n 1, 1) := by decide +kernel
theorem dX3_copy_2 : decode cX3_copy 2 = .ok (.invokevirtual 74, 3) := by decide +kernel
theorem dX3_copy_5 : decode cX3_copy 5 = .ok (.astore_n 3, 1) := by decide +kernel
theorem dX3_copy_6 : decode cX3_copy 6 = .ok (.aload_n 0, 1) := by decide +kernel
theorem dX3_copy_7 : decode cX3_copy 7 = .ok (.iload_n 2, 1) := by decide +kernel
theorem dX3_copy_8 : decode cX3_copy 8 = .ok (.invokevirtual 74, 3) := by decide +kernel
theorem dX3_copy_11 : decode cX3_copy 11 = .ok (.astore 4, 2) := by decide +kernel
theorem dX3_copy_13 : decode cX3_copy 13 = .ok (.iconst 0, 1) := by decide +kernel
theorem dX3_copy_14 : decode cX3_copy 14 = .ok (.istore 5, 2) := by decide +kernel
theorem dX3_copy_16 : decode cX3_copy 16 = .ok (.iload 5, 2) := by decide +kernel
theorem dX3_copy_18 : decode cX3_copy 18 = .ok (.aload_n 3, 1) := by decide +kernel
theorem dX3_copy_19 : decode cX3_copy 19 = .ok (.getfield 99, 3) := by decide +kernel
theorem dX3_copy_22 : decode cX3_copy 22 = .ok (.if_icmp .ge 23, 3) := by decide +kernel
theorem dX3_copy_25 : decode cX3_copy 25 = .ok (.aload_n 0, 1) := by decide +kernel
theorem dX3_copy_26 : decode cX3_copy 26 = .ok (.getfield 19, 3) := by decide +kernel
theorem dX3_copy_29 : decode cX3_copy 29 = .ok (.aload_n 3, 1) := by decide +kernel
theorem dX3_copy_30 : decode cX3_copy 30 = .ok (.getfield 102, 3) := by decide +kernel
theorem dX3_copy_33 : decode cX3_copy 33 = .ok (.iload 5, 2) := by decide +kernel
theorem dX3_copy_35 : decode cX3_copy 35 = .ok (.iaload, 1) := by decide +kernel
theorem dX3_copy_36 : decode cX3_copy 36 = .ok (.invokevirtual 105, 3) := by decide +kernel
theorem dX3_copy_39 : decode cX3_copy 39 = .ok (.iinc 5 1, 3) := by decide +kernel
theorem dX3_copy_42 : decode cX3_copy 42 = .ok (.goto (-26), 3) := by decide +kernel
theorem dX3_copy_45 : decode cX3_copy 45 = .ok (.aload_n 0, 1) := by decide +kernel
theorem dX3_copy_46 : decode cX3_copy 46 = .ok (.aload 4, 2) := by decide +kernel
theorem dX3_copy_48 : decode cX3_copy 48 = .ok (.getfield 102, 3) := by decide +kernel
theorem dX3_copy_51 : decode cX3_copy 51 = .ok (.aload 4, 2) := by decide +kernel
theorem dX3_copy_53 : decode cX3_copy 53 = .ok (.getfield 99, 3) := by decide +kernel
theorem dX3_copy_56 : decode cX3_copy 56 = .ok (.invokevirtual 109, 3) := by decide +kernel
theorem dX3_copy_59 : decode cX3_copy 59 = .ok (.aload 4, 2) := by decide +kernel
theorem dX3_copy_61 : decode cX3_copy 61 = .ok (.aload_n 3, 1) := by decide +kernel
theorem dX3_copy_62 : decode cX3_copy 62 = .ok (.getfield 102, 3) := by decide +kernel
theorem dX3_copy_65 : decode cX3_copy 65 = .ok (.aload_n 3, 1) := by decide +kernel
theorem dX3_copy_66 : decode cX3_copy 66 = .ok (.getfield 99, 3) := by decide +kernel
theorem dX3_copy_69 : decode cX3_copy 69 = .ok (.aload_n 3, 1) := by decide +kernel
theorem dX3_copy_70 : decode cX3_copy 70 = .ok (.getfield 82, 3) := by decide +kernel
theorem dX3_copy_73 : decode cX3_copy 73 = .ok (.invokevirtual 113, 3) := by decide +kernel
theorem dX3_copy_76 : decode cX3_copy 76 = .ok (.return_, 1) := by decide +kernel
theorem dX3_size_0 : decode cX3_size 0 = .ok (.aload_n 0, 1) := by decide +kernel
theorem dX3_size_1 : decode cX3_size 1 = .ok (.iload_n 1, 1) := by decide +kernel
theorem dX3_size_2 : decode cX3_size 2 = .ok (.invokevirtual 74, 3) := by decide +kernel
theorem dX3_size_5 : decode cX3_size 5 = .ok (.getfield 82, 3) := by decide +kernel
theorem dX3_size_8 : decode cX3_size 8 = .ok (.ireturn, 1) := by decide +kernel
theorem dX3_get_0 : decode cX3_get 0 = .ok (.aload_n 0, 1) := by decide +kernel
theorem dX3_get_1 : decode cX3_get 1 = .ok (.iload_n 1, 1) := by decide +kernel
theorem dX3_get_2 : decode cX3_get 2 = .ok (.invokevirtual 74, 3) := by decide +kernel
theorem dX3_get_5 : decode cX3_get 5 = .ok (.astore_n 3, 1) := by decide +kernel
theorem dX3_get_6 : decode cX3_get 6 = .ok (.iload_n 2, 1) := by decide +kernel
theorem dX3_get_7 : decode cX3_get 7 = .ok (.ifCond .lt 11, 3) := by decide +kernel
theorem dX3_get_10 : decode cX3_get 10 = .ok (.iload_n 2, 1) := by decide +kernel
theorem dX3_get_11 : decode cX3_get 11 = .ok (.aload_n 3, 1) := by decide +kernel
theorem dX3_get_12 : decode cX3_get 12 = .ok (.getfield 82, 3) := by decide +kernel
theorem dX3_get_15 : decode cX3_get 15 = .ok (.if_icmp .lt 13, 3) := by decide +kernel
theorem dX3_get_18 : decode cX3_get 18 = .ok (.new 117, 3) := by decide +kernel
theorem dX3_get_21 : decode cX3_get 21 = .ok (.dup, 1) := by decide +kernel
theorem dX3_get_22 : decode cX3_get 22 = .ok (.ldc 119, 2) := by decide +kernel
theorem dX3_get_24 : decode cX3_get 24 = .ok (.invokespecial 121, 3) := by decide +kernel
theorem dX3_get_27 : decode cX3_get 27 = .ok (.athrow, 1) := by decide +kernel
theorem dX3_get_28 : decode cX3_get 28 = .ok (.iload_n 2, 1) := by decide +kernel
theorem dX3_get_29 : decode cX3_get 29 = .ok (.istore 4, 2) := by decide +kernel
theorem dX3_get_31 : decode cX3_get 31 = .ok (.iconst 0, 1) := by decide +kernel
theorem dX3_get_32 : decode cX3_get 32 = .ok (.istore 5, 2) := by decide +kernel
theorem dX3_get_34 : decode cX3_get 34 = .ok (.iload 5, 2) := by decide +kernel
theorem dX3_get_36 : decode cX3_get 36 = .ok (.aload_n 3, 1) := by decide +kernel
theorem dX3_get_37 : decode cX3_get 37 = .ok (.getfield 99, 3) := by decide +kernel
theorem dX3_get_40 : decode cX3_get 40 = .ok (.iconst 1, 1) := by decide +kernel
theorem dX3_get_41 : decode cX3_get 41 = .ok (.isub, 1) := by decide +kernel
theorem dX3_get_42 : decode cX3_get 42 = .ok (.if_icmp .ge 47, 3) := by decide +kernel
theorem dX3_get_45 : decode cX3_get 45 = .ok (.iload 4, 2) := by decide +kernel
theorem dX3_get_47 : decode cX3_get 47 = .ok (.aload_n 0, 1) := by decide +kernel
theorem dX3_get_48 : decode cX3_get 48 = .ok (.getfield 19, 3) := by decide +kernel
theorem dX3_get_51 : decode cX3_get 51 = .ok (.aload_n 3, 1) := by decide +kernel
theorem dX3_get_52 : decode cX3_get 52 = .ok (.getfield 102, 3) := by decide +kernel
theorem dX3_get_55 : decode cX3_get 55 = .ok (.iload 5, 2) := by decide +kernel
theorem dX3_get_57 : decode cX3_get 57 = .ok (.iaload, 1) := by decide +kernel
theorem dX3_get_58 : decode cX3_get 58 = .ok (.invokevirtual 122, 3) := by decide +kernel
theorem dX3_get_61 : decode cX3_get 61 = .ok (.if_icmp .lt 28, 3) := by decide +kernel
theorem dX3_get_64 : decode cX3_get 64 = .ok (.iload 4, 2) := by decide +kernel
theorem dX3_get_66 : decode cX3_get 66 = .ok (.aload_n 0, 1) := by decide +kernel
theorem dX3_get_67 : decode cX3_get 67 = .ok (.getfield 19, 3) := by decide +kernel
theorem dX3_get_70 : decode cX3_get 70 = .ok (.aload_n 3, 1) := by decide +kernel
theorem dX3_get_71 : decode cX3_get 71 = .ok (.getfield 102, 3) := by decide +kernel
theorem dX3_get_74 : decode cX3_get 74 = .ok (.iload 5, 2) := by decide +kernel
theorem dX3_get_76 : decode cX3_get 76 = .ok (.iaload, 1) := by decide +kernel
theorem dX3_get_77 : decode cX3_get 77 = .ok (.invokevirtual 122, 3) := by decide +kernel
theorem dX3_get_80 : decode cX3_get 80 = .ok (.isub, 1) := by decide +kernel
theorem dX3_get_81 : decode cX3_get 81 = .ok (.istore 4, 2) := by decide +kernel
theorem dX3_get_83 : decode cX3_get 83 = .ok (.iinc 5 1, 3) := by decide +kernel
theorem dX3_get_86 : decode cX3_get 86 = .ok (.goto (-52), 3) := by decide +kernel
theorem dX3_get_89 : decode cX3_get 89 = .ok (.aload_n 0, 1) := by decide +kernel
theorem dX3_get_90 : decode cX3_get 90 = .ok (.getfield 19, 3) := by decide +kernel
theorem dX3_get_93 : decode cX3_get 93 = .ok (.aload_n 3, 1) := by decide +kernel
theorem dX3_get_94 : decode cX3_get 94 = .ok (.getfield 102, 3) := by decide +kernel
theorem dX3_get_97 : decode cX3_get 97 = .ok (.iload 5, 2) := by decide +kernel
theorem dX3_get_99 : decode cX3_get 99 = .ok (.iaload, 1) := by decide +kernel
theorem dX3_get_100 : decode cX3_get 100 = .ok (.iload 4, 2) := by decide +kernel
theorem dX3_get_102 : decode cX3_get 102 = .ok (.invokevirtual 126, 3) := by decide +kernel
theorem dX3_get_105 : decode cX3_get 105 = .ok (.ireturn, 1) := by decide +kernel
theorem dX3_parts_0 : decode cX3_parts 0 = .ok (.aload_n 0, 1) := by decide +kernel
theorem dX3_parts_1 : decode cX3_parts 1 = .ok (.iload_n 1, 1) := by decide +kernel
theorem dX3_parts_2 : decode cX3_parts 2 = .ok (.invokevirtual 74, 3) := by decide +kernel
theorem dX3_parts_5 : decode cX3_parts 5 = .ok (.getfield 99, 3) := by decide +kernel
theorem dX3_parts_8 : decode cX3_parts 8 = .ok (.ireturn, 1) := by decide +kernel
theorem dX3_part_0 : decode cX3_part 0 = .ok (.aload_n 0, 1) := by decide +kernel
theorem dX3_part_1 : decode cX3_part 1 = .ok (.iload_n 1, 1) := by decide +kernel
theorem dX3_part_2 : decode cX3_part 2 = .ok (.invokevirtual 74, 3) := by decide +kernel
theorem dX3_part_5 : decode cX3_part 5 = .ok (.astore_n 3, 1) := by decide +kernel
theorem dX3_part_6 : decode cX3_part 6 = .ok (.iload_n 2, 1) := by decide +kernel
theorem dX3_part_7 : decode cX3_part 7 = .ok (.ifCond .lt 11, 3) := by decide +kernel
theorem dX3_part_10 : decode cX3_part 10 = .ok (.iload_n 2, 1) := by decide +kernel
theorem dX3_part_11 : decode cX3_part 11 = .ok (.aload_n 3, 1) := by decide +kernel
theorem dX3_part_12 : decode cX3_part 12 = .ok (.getfield 99, 3) := by decide +kernel
theorem dX3_part_15 : decode cX3_part 15 = .ok (.if_icmp .lt 13, 3) := by decide +kernel
theorem dX3_part_18 : decode cX3_part 18 = .ok (.new 117, 3) := by decide +kernel
theorem dX3_part_21 : decode cX3_part 21 = .ok (.dup, 1) := by decide +kernel
theorem dX3_part_22 : decode cX3_part 22 = .ok (.ldc 130, 2) := by decide +kernel
theorem dX3_part_24 : decode cX3_part 24 = .ok (.invokespecial 121, 3) := by decide +kernel
theorem dX3_part_27 : decode cX3_part 27 = .ok (.athrow, 1) := by decide +kernel
theorem dX3_part_28 : decode cX3_part 28 = .ok (.aload_n 3, 1) := by decide +kernel
theorem dX3_part_29 : decode cX3_part 29 = .ok (.getfield 102, 3) := by decide +kernel
theorem dX3_part_32 : decode cX3_part 32 = .ok (.iload_n 2, 1) := by decide +kernel
theorem dX3_part_33 : decode cX3_part 33 = .ok (.iaload, 1) := by decide +kernel
theorem dX3_part_34 : decode cX3_part 34 = .ok (.ireturn, 1) := by decide +kernel
theorem dX3_about_0 : decode cX3_about 0 = .ok (.aload_n 0, 1) := by decide +kernel
theorem dX3_about_1 : decode cX3_about 1 = .ok (.getfield 19, 3) := by decide +kernel
theorem dX3_about_4 : decode cX3_about 4 = .ok (.iload_n 1, 1) := by decide +kernel
theorem dX3_about_5 : decode cX3_about 5 = .ok (.invokevirtual 132, 3) := by decide +kernel
theorem dX3_about_8 : decode cX3_about 8 = .ok (.ifCond .ne 13, 3) := by decide +kernel
theorem dX3_about_11 : decode cX3_about 11 = .ok (.new 136, 3) := by decide +kernel
theorem dX3_about_14 : decode cX3_about 14 = .ok (.dup, 1) := by decide +kernel
theorem dX3_about_15 : decode cX3_about 15 = .ok (.ldc 130, 2) := by decide +kernel
theorem dX3_about_17 : decode cX3_about 17 = .ok (.invokespecial 138, 3) := by decide +kernel
theorem dX3_about_20 : decode cX3_about 20 = .ok (.athrow, 1) := by decide +kernel
theorem dX3_about_21 : decode cX3_about 21 = .ok (.iload_n 2, 1) := by decide +kernel
theorem dX3_about_22 : decode cX3_about 22 = .ok (.tableswitch 50 0 2 #[26, 35, 44], 26) := by decide +kernel
theorem dX3_about_48 : decode cX3_about 48 = .ok (.aload_n 0, 1) := by decide +kernel
theorem dX3_about_49 : decode cX3_about 49 = .ok (.getfield 19, 3) := by decide +kernel
theorem dX3_about_52 : decode cX3_about 52 = .ok (.iload_n 1, 1) := by decide +kernel
theorem dX3_about_53 : decode cX3_about 53 = .ok (.invokevirtual 122, 3) := by decide +kernel
theorem dX3_about_56 : decode cX3_about 56 = .ok (.ireturn, 1) := by decide +kernel
theorem dX3_about_57 : decode cX3_about 57 = .ok (.aload_n 0, 1) := by decide +kernel
theorem dX3_about_58 : decode cX3_about 58 = .ok (.getfield 19, 3) := by decide +kernel
theorem dX3_about_61 : decode cX3_about 61 = .ok (.iload_n 1, 1) := by decide +kernel
theorem dX3_about_62 : decode cX3_about 62 = .ok (.invokevirtual 139, 3) := by decide +kernel
theorem dX3_about_65 : decode cX3_about 65 = .ok (.ireturn, 1) := by decide +kernel
theorem dX3_about_66 : decode cX3_about 66 = .ok (.aload_n 0, 1) := by decide +kernel
theorem dX3_about_67 : decode cX3_about 67 = .ok (.iload_n 1, 1) := by decide +kernel
theorem dX3_about_68 : decode cX3_about 68 = .ok (.invokevirtual 142, 3) := by decide +kernel
theorem dX3_about_71 : decode cX3_about 71 = .ok (.ireturn, 1) := by decide +kernel
theorem dX3_about_72 : decode cX3_about 72 = .ok (.new 48, 3) := by decide +kernel
theorem dX3_about_75 : decode cX3_about 75 = .ok (.dup, 1) := by decide +kernel
theorem dX3_about_76 : decode cX3_about 76 = .ok (.ldc 145, 2) := by decide +kernel
theorem dX3_about_78 : decode cX3_about 78 = .ok (.invokespecial 52, 3) := by decide +kernel
theorem dX3_about_81 : decode cX3_about 81 = .ok (.athrow, 1) := by decide +kernel
theorem dX3_common_0 : decode cX3_common 0 = .ok (.aload_n 0, 1) := by decide +kernel
theorem dX3_common_1 : decode cX3_common 1 = .ok (.iload_n 1, 1) := by decide +kernel
theorem dX3_common_2 : decode cX3_common 2 = .ok (.invokevirtual 74, 3) := by decide +kernel
theorem dX3_common_5 : decode cX3_common 5 = .ok (.astore_n 3, 1) := by decide +kernel
theorem dX3_common_6 : decode cX3_common 6 = .ok (.aload_n 0, 1) := by decide +kernel
theorem dX3_common_7 : decode cX3_common 7 = .ok (.iload_n 2, 1) := by decide +kernel
theorem dX3_common_8 : decode cX3_common 8 = .ok (.invokevirtual 74, 3) := by decide +kernel
theorem dX3_common_11 : decode cX3_common 11 = .ok (.astore 4, 2) := by decide +kernel
theorem dX3_common_13 : decode cX3_common 13 = .ok (.aload_n 0, 1) := by decide +kernel
theorem dX3_common_14 : decode cX3_common 14 = .ok (.getfield 44, 3) := by decide +kernel
theorem dX3_common_17 : decode cX3_common 17 = .ok (.iconst 0, 1) := by decide +kernel
theorem dX3_common_18 : decode cX3_common 18 = .ok (.invokestatic 147, 3) := by decide +kernel
theorem dX3_common_21 : decode cX3_common 21 = .ok (.iconst 0, 1) := by decide +kernel
theorem dX3_common_22 : decode cX3_common 22 = .ok (.istore 5, 2) := by decide +kernel
theorem dX3_common_24 : decode cX3_common 24 = .ok (.iload 5, 2) := by decide +kernel
theorem dX3_common_26 : decode cX3_common 26 = .ok (.aload 4, 2) := by decide +kernel
theorem dX3_common_28 : decode cX3_common 28 = .ok (.getfield 99, 3) := by decide +kernel
theorem dX3_common_31 : decode cX3_common 31 = .ok (.if_icmp .ge 39, 3) := by decide +kernel
theorem dX3_common_34 : decode cX3_common 34 = .ok (.aload 4, 2) := by decide +kernel
theorem dX3_common_36 : decode cX3_common 36 = .ok (.getfield 102, 3) := by decide +kernel
theorem dX3_common_39 : decode cX3_common 39 = .ok (.iload 5, 2) := by decide +kernel
theorem dX3_common_41 : decode cX3_common 41 = .ok (.iaload, 1) := by decide +kernel
theorem dX3_common_42 : decode cX3_common 42 = .ok (.istore 6, 2) := by decide +kernel
theorem dX3_common_44 : decode cX3_common 44 = .ok (.aload_n 0, 1) := by decide +kernel
theorem dX3_common_45 : decode cX3_common 45 = .ok (.getfield 19, 3) := by decide +kernel
theorem dX3_common_48 : decode cX3_common 48 = .ok (.iload 6, 2) := by decide +kernel
theorem dX3_common_50 : decode cX3_common 50 = .ok (.invokevirtual 132, 3) := by decide +kernel
theorem dX3_common_53 : decode cX3_common 53 = .ok (.ifCond .eq 11, 3) := by decide +kernel
theorem dX3_common_56 : decode cX3_common 56 = .ok (.aload_n 0, 1) := by decide +kernel
theorem dX3_common_57 : decode cX3_common 57 = .ok (.getfield 44, 3) := by decide +kernel
theorem dX3_common_60 : decode cX3_common 60 = .ok (.iload 6, 2) := by decide +kernel
theorem dX3_common_62 : decode cX3_common 62 = .ok (.iconst 1, 1) := by decide +kernel
theorem dX3_common_63 : decode cX3_common 63 = .ok (.iastore, 1) := by decide +kernel
theorem dX3_common_64 : decode cX3_common 64 = .ok (.iinc 5 1, 3) := by decide +kernel
theorem dX3_common_67 : decode cX3_common 67 = .ok (.goto (-43), 3) := by decide +kernel
theorem dX3_common_70 : decode cX3_common 70 = .ok (.iconst 0, 1) := by decide +kernel
theorem dX3_common_71 : decode cX3_common 71 = .ok (.istore 5, 2) := by decide +kernel
theorem dX3_common_73 : decode cX3_common 73 = .ok (.iconst 0, 1) := by decide +kernel
theorem dX3_common_74 : decode cX3_common 74 = .ok (.istore 6, 2) := by decide +kernel
theorem dX3_common_76 : decode cX3_common 76 = .ok (.iload 6, 2) := by decide +kernel
theorem dX3_common_78 : decode cX3_common 78 = .ok (.aload_n 3, 1) := by decide +kernel
theorem dX3_common_79 : decode cX3_common 79 = .ok (.getfield 99, 3) := by decide +kernel
theorem dX3_common_82 : decode cX3_common 82 = .ok (.if_icmp .ge 55, 3) := by decide +kernel
theorem dX3_common_85 : decode cX3_common 85 = .ok (.aload_n 3, 1) := by decide +kernel
theorem dX3_common_86 : decode cX3_common 86 = .ok (.getfield 102, 3) := by decide +kernel
theorem dX3_common_89 : decode cX3_common 89 = .ok (.iload 6, 2) := by decide +kernel
theorem dX3_common_91 : decode cX3_common 91 = .ok (.iaload, 1) := by decide +kernel
theorem dX3_common_92 : decode cX3_common 92 = .ok (.istore 7, 2) := by decide +kernel
theorem dX3_common_94 : decode cX3_common 94 = .ok (.aload_n 0, 1) := by decide +kernel
theorem dX3_common_95 : decode cX3_common 95 = .ok (.getfield 19, 3) := by decide +kernel
theorem dX3_common_98 : decode cX3_common 98 = .ok (.iload 7, 2) := by decide +kernel
theorem dX3_common_100 : decode cX3_common 100 = .ok (.invokevirtual 132, 3) := by decide +kernel
theorem dX3_common_103 : decode cX3_common 103 = .ok (.ifCond .eq 28, 3) := by decide +kernel
theorem dX3_common_106 : decode cX3_common 106 = .ok (.aload_n 0, 1) := by decide +kernel
theorem dX3_common_107 : decode cX3_common 107 = .ok (.getfield 44, 3) := by decide +kernel
theorem dX3_common_110 : decode cX3_common 110 = .ok (.iload 7, 2) := by decide +kernel
theorem dX3_common_112 : decode cX3_common 112 = .ok (.iaload, 1) := by decide +kernel
theorem dX3_common_113 : decode cX3_common 113 = .ok (.iconst 1, 1) := by decide +kernel
theorem dX3_common_114 : decode cX3_common 114 = .ok (.if_icmp .ne 17, 3) := by decide +kernel
theorem dX3_common_117 : decode cX3_common 117 = .ok (.iload 5, 2) := by decide +kernel
theorem dX3_common_119 : decode cX3_common 119 = .ok (.aload_n 0, 1) := by decide +kernel
theorem dX3_common_120 : decode cX3_common 120 = .ok (.getfield 19, 3) := by decide +kernel
theorem dX3_common_123 : decode cX3_common 123 = .ok (.iload 7, 2) := by decide +kernel
theorem dX3_common_125 : decode cX3_common 125 = .ok (.invokevirtual 122, 3) := by decide +kernel
theorem dX3_common_128 : decode cX3_common 128 = .ok (.iadd, 1) := by decide +kernel
theorem dX3_common_129 : decode cX3_common 129 = .ok (.istore 5, 2) := by decide +kernel
theorem dX3_common_131 : decode cX3_common 131 = .ok (.iinc 6 1, 3) := by decide +kernel
theorem dX3_common_134 : decode cX3_common 134 = .ok (.goto (-58), 3) := by decide +kernel
theorem dX3_common_137 : decode cX3_common 137 = .ok (.iload 5, 2) := by decide +kernel
theorem dX3_common_139 : decode cX3_common 139 = .ok (.ireturn, 1) := by decide +kernel
theorem dX3_all_0 : decode cX3_all 0 = .ok (.iload_n 1, 1) := by decide +kernel
theorem dX3_all_1 : decode cX3_all 1 = .ok (.tableswitch 48 0 2 #[27, 35, 43], 27) := by decide +kernel
theorem dX3_all_28 : decode cX3_all 28 = .ok (.aload_n 0, 1) := by decide +kernel
theorem dX3_all_29 : decode cX3_all 29 = .ok (.getfield 19, 3) := by decide +kernel
theorem dX3_all_32 : decode cX3_all 32 = .ok (.getfield 152, 3) := by decide +kernel
theorem dX3_all_35 : decode cX3_all 35 = .ok (.ireturn, 1) := by decide +kernel
theorem dX3_all_36 : decode cX3_all 36 = .ok (.aload_n 0, 1) := by decide +kernel
theorem dX3_all_37 : decode cX3_all 37 = .ok (.getfield 19, 3) := by decide +kernel
theorem dX3_all_40 : decode cX3_all 40 = .ok (.getfield 153, 3) := by decide +kernel
theorem dX3_all_43 : decode cX3_all 43 = .ok (.ireturn, 1) := by decide +kernel
theorem dX3_all_44 : decode cX3_all 44 = .ok (.aload_n 0, 1) := by decide +kernel
theorem dX3_all_45 : decode cX3_all 45 = .ok (.getfield 33, 3) := by decide +kernel
theorem dX3_all_48 : decode cX3_all 48 = .ok (.ireturn, 1) := by decide +kernel
theorem dX3_all_49 : decode cX3_all 49 = .ok (.new 48, 3) := by decide +kernel
theorem dX3_all_52 : decode cX3_all 52 = .ok (.dup, 1) := by decide +kernel
theorem dX3_all_53 : decode cX3_all 53 = .ok (.ldc 145, 2) := by decide +kernel
theorem dX3_all_55 : decode cX3_all 55 = .ok (.invokespecial 52, 3) := by decide +kernel
theorem dX3_all_58 : decode cX3_all 58 = .ok (.athrow, 1) := by decide +kernel
theorem dX3_fileAt_0 : decode cX3_fileAt 0 = .ok (.iload_n 1, 1) := by decide +kernel
theorem dX3_fileAt_1 : decode cX3_fileAt 1 = .ok (.ifCond .lt 9, 3) := by decide +kernel
theorem dX3_fileAt_4 : decode cX3_fileAt 4 = .ok (.iload_n 1, 1) := by decide +kernel
theorem dX3_fileAt_5 : decode cX3_fileAt 5 = .ok (.bipush 16, 2) := by decide +kernel
theorem dX3_fileAt_7 : decode cX3_fileAt 7 = .ok (.if_icmp .lt 13, 3) := by decide +kernel
theorem dX3_fileAt_10 : decode cX3_fileAt 10 = .ok (.new 117, 3) := by decide +kernel
theorem dX3_fileAt_13 : decode cX3_fileAt 13 = .ok (.dup, 1) := by decide +kernel
theorem dX3_fileAt_14 : decode cX3_fileAt 14 = .ok (.ldc 154, 2) := by decide +kernel
theorem dX3_fileAt_16 : decode cX3_fileAt 16 = .ok (.invokespecial 121, 3) := by decide +kernel
theorem dX3_fileAt_19 : decode cX3_fileAt 19 = .ok (.athrow, 1) := by decide +kernel
theorem dX3_fileAt_20 : decode cX3_fileAt 20 = .ok (.aload_n 0, 1) := by decide +kernel
theorem dX3_fileAt_21 : decode cX3_fileAt 21 = .ok (.getfield 25, 3) := by decide +kernel
theorem dX3_fileAt_24 : decode cX3_fileAt 24 = .ok (.iload_n 1, 1) := by decide +kernel
theorem dX3_fileAt_25 : decode cX3_fileAt 25 = .ok (.aaload, 1) := by decide +kernel
theorem dX3_fileAt_26 : decode cX3_fileAt 26 = .ok (.areturn, 1) := by decide +kernel
theorem dX3_fillFile_0 : decode cX3_fillFile 0 = .ok (.aload_n 0, 1) := by decide +kernel
theorem dX3_fillFile_1 : decode cX3_fillFile 1 = .ok (.getfield 19, 3) := by decide +kernel
theorem dX3_fillFile_4 : decode cX3_fillFile 4 = .ok (.getfield 152, 3) := by decide +kernel
theorem dX3_fillFile_7 : decode cX3_fillFile 7 = .ok (.istore 4, 2) := by decide +kernel
theorem dX3_fillFile_9 : decode cX3_fillFile 9 = .ok (.aload_n 0, 1) := by decide +kernel
theorem dX3_fillFile_10 : decode cX3_fillFile 10 = .ok (.aload_n 2, 1) := by decide +kernel
theorem dX3_fillFile_11 : decode cX3_fillFile 11 = .ok (.iload_n 3, 1) := by decide +kernel
theorem dX3_fillFile_12 : decode cX3_fillFile 12 = .ok (.invokevirtual 156, 3) := by decide +kernel
theorem dX3_fillFile_15 : decode cX3_fillFile 15 = .ok (.istore 5, 2) := by decide +kernel
theorem dX3_fillFile_17 : decode cX3_fillFile 17 = .ok (.iload 5, 2) := by decide +kernel
theorem dX3_fillFile_19 : decode cX3_fillFile 19 = .ok (.iconst (-1), 1) := by decide +kernel
theorem dX3_fillFile_20 : decode cX3_fillFile 20 = .ok (.if_icmp .ne 13, 3) := by decide +kernel
theorem dX3_fillFile_23 : decode cX3_fillFile 23 = .ok (.new 69, 3) := by decide +kernel
theorem dX3_fillFile_26 : decode cX3_fillFile 26 = .ok (.dup, 1) := by decide +kernel
theorem dX3_fillFile_27 : decode cX3_fillFile 27 = .ok (.ldc 160, 2) := by decide +kernel
theorem dX3_fillFile_29 : decode cX3_fillFile 29 = .ok (.invokespecial 73, 3) := by decide +kernel
theorem dX3_fillFile_32 : decode cX3_fillFile 32 = .ok (.athrow, 1) := by decide +kernel
theorem dX3_fillFile_33 : decode cX3_fillFile 33 = .ok (.aload_n 0, 1) := by decide +kernel
theorem dX3_fillFile_34 : decode cX3_fillFile 34 = .ok (.getfield 19, 3) := by decide +kernel
theorem dX3_fillFile_37 : decode cX3_fillFile 37 = .ok (.getfield 152, 3) := by decide +kernel
theorem dX3_fillFile_40 : decode cX3_fillFile 40 = .ok (.iload 4, 2) := by decide +kernel
theorem dX3_fillFile_42 : decode cX3_fillFile 42 = .ok (.isub, 1) := by decide +kernel
theorem dX3_fillFile_43 : decode cX3_fillFile 43 = .ok (.istore 6, 2) := by decide +kernel
theorem dX3_fillFile_45 : decode cX3_fillFile 45 = .ok (.aload_n 0, 1) := by decide +kernel
theorem dX3_fillFile_46 : decode cX3_fillFile 46 = .ok (.aload_n 1, 1) := by decide +kernel
theorem dX3_fillFile_47 : decode cX3_fillFile 47 = .ok (.getfield 102, 3) := by decide +kernel
theorem dX3_fillFile_50 : decode cX3_fillFile 50 = .ok (.aload_n 1, 1) := by decide +kernel
theorem dX3_fillFile_51 : decode cX3_fillFile 51 = .ok (.getfield 99, 3) := by decide +kernel
theorem dX3_fillFile_54 : decode cX3_fillFile 54 = .ok (.invokevirtual 109, 3) := by decide +kernel
theorem dX3_fillFile_57 : decode cX3_fillFile 57 = .ok (.aload_n 1, 1) := by decide +kernel
theorem dX3_fillFile_58 : decode cX3_fillFile 58 = .ok (.aload_n 0, 1) := by decide +kernel
theorem dX3_fillFile_59 : decode cX3_fillFile 59 = .ok (.getfield 40, 3) := by decide +kernel
theorem dX3_fillFile_62 : decode cX3_fillFile 62 = .ok (.iload 5, 2) := by decide +kernel
theorem dX3_fillFile_64 : decode cX3_fillFile 64 = .ok (.iload_n 3, 1) := by decide +kernel
theorem dX3_fillFile_65 : decode cX3_fillFile 65 = .ok (.invokevirtual 113, 3) := by decide +kernel
theorem dX3_fillFile_68 : decode cX3_fillFile 68 = .ok (.aload_n 0, 1) := by decide +kernel
theorem dX3_fillFile_69 : decode cX3_fillFile 69 = .ok (.iconst 0, 1) := by decide +kernel
theorem dX3_fillFile_70 : decode cX3_fillFile 70 = .ok (.putfield 33, 3) := by decide +kernel
theorem dX3_fillFile_73 : decode cX3_fillFile 73 = .ok (.iload 6, 2) := by decide +kernel
theorem dX3_fillFile_75 : decode cX3_fillFile 75 = .ok (.ireturn, 1) := by decide +kernel
theorem dX3_takeParts_0 : decode cX3_takeParts 0 = .ok (.iconst 0, 1) := by decide +kernel
theorem dX3_takeParts_1 : decode cX3_takeParts 1 = .ok (.istore_n 3, 1) := by decide +kernel
theorem dX3_takeParts_2 : decode cX3_takeParts 2 = .ok (.iconst 0, 1) := by decide +kernel
theorem dX3_takeParts_3 : decode cX3_takeParts 3 = .ok (.istore 4, 2) := by decide +kernel
theorem dX3_takeParts_5 : decode cX3_takeParts 5 = .ok (.iload 4, 2) := by decide +kernel
theorem dX3_takeParts_7 : decode cX3_takeParts 7 = .ok (.iload_n 2, 1) := by decide +kernel
theorem dX3_takeParts_8 : decode cX3_takeParts 8 = .ok (.if_icmp .ge 72, 3) := by decide +kernel
theorem dX3_takeParts_11 : decode cX3_takeParts 11 = .ok (.iload_n 3, 1) := by decide +kernel
theorem dX3_takeParts_12 : decode cX3_takeParts 12 = .ok (.sipush 1500, 3) := by decide +kernel
theorem dX3_takeParts_15 : decode cX3_takeParts 15 = .ok (.if_icmp .ge 65, 3) := by decide +kernel
theorem dX3_takeParts_18 : decode cX3_takeParts 18 = .ok (.aload_n 0, 1) := by decide +kernel
theorem dX3_takeParts_19 : decode cX3_takeParts 19 = .ok (.getfield 10, 3) := by decide +kernel
theorem dX3_takeParts_22 : decode cX3_takeParts 22 = .ok (.aload_n 1, 1) := by decide +kernel
theorem dX3_takeParts_23 : decode cX3_takeParts 23 = .ok (.iload 4, 2) := by decide +kernel
theorem dX3_takeParts_25 : decode cX3_takeParts 25 = .ok (.iload_n 2, 1) := by decide +kernel
theorem dX3_takeParts_26 : decode cX3_takeParts 26 = .ok (.invokevirtual 162, 3) := by decide +kernel
theorem dX3_takeParts_29 : decode cX3_takeParts 29 = .ok (.istore 5, 2) := by decide +kernel
theorem dX3_takeParts_31 : decode cX3_takeParts 31 = .ok (.aload_n 0, 1) := by decide +kernel
theorem dX3_takeParts_32 : decode cX3_takeParts 32 = .ok (.getfield 19, 3) := by decide +kernel
theorem dX3_takeParts_35 : decode cX3_takeParts 35 = .ok (.aload_n 1, 1) := by decide +kernel
theorem dX3_takeParts_36 : decode cX3_takeParts 36 = .ok (.iload 4, 2) := by decide +kernel
theorem dX3_takeParts_38 : decode cX3_takeParts 38 = .ok (.iload 5, 2) := by decide +kernel
theorem dX3_takeParts_40 : decode cX3_takeParts 40 = .ok (.invokevirtual 166, 3) := by decide +kernel
theorem dX3_takeParts_43 : decode cX3_takeParts 43 = .ok (.istore 6, 2) := by decide +kernel
theorem dX3_takeParts_45 : decode cX3_takeParts 45 = .ok (.iload 6, 2) := by decide +kernel
theorem dX3_takeParts_47 : decode cX3_takeParts 47 = .ok (.iconst (-1), 1) := by decide +kernel
theorem dX3_takeParts_48 : decode cX3_takeParts 48 = .ok (.if_icmp .ne 14, 3) := by decide +kernel
theorem dX3_takeParts_51 : decode cX3_takeParts 51 = .ok (.aload_n 0, 1) := by decide +kernel
theorem dX3_takeParts_52 : decode cX3_takeParts 52 = .ok (.aload_n 0, 1) := by decide +kernel
theorem dX3_takeParts_53 : decode cX3_takeParts 53 = .ok (.getfield 40, 3) := by decide +kernel
theorem dX3_takeParts_56 : decode cX3_takeParts 56 = .ok (.iload_n 3, 1) := by decide +kernel
theorem dX3_takeParts_57 : decode cX3_takeParts 57 = .ok (.invokevirtual 109, 3) := by decide +kernel
theorem dX3_takeParts_60 : decode cX3_takeParts 60 = .ok (.iconst (-1), 1) := by decide +kernel
theorem dX3_takeParts_61 : decode cX3_takeParts 61 = .ok (.ireturn, 1) := by decide +kernel
theorem dX3_takeParts_62 : decode cX3_takeParts 62 = .ok (.aload_n 0, 1) := by decide +kernel
theorem dX3_takeParts_63 : decode cX3_takeParts 63 = .ok (.getfield 40, 3) := by decide +kernel
theorem dX3_takeParts_66 : decode cX3_takeParts 66 = .ok (.iload_n 3, 1) := by decide +kernel
theorem dX3_takeParts_67 : decode cX3_takeParts 67 = .ok (.iload 6, 2) := by decide +kernel
theorem dX3_takeParts_69 : decode cX3_takeParts 69 = .ok (.iastore, 1) := by decide +kernel
theorem dX3_takeParts_70 : decode cX3_takeParts 70 = .ok (.iinc 3 1, 3) := by decide +kernel
theorem dX3_takeParts_73 : decode cX3_takeParts 73 = .ok (.iload 5, 2) := by decide +kernel
theorem dX3_takeParts_75 : decode cX3_takeParts 75 = .ok (.istore 4, 2) := by decide +kernel
theorem dX3_takeParts_77 : decode cX3_takeParts 77 = .ok (.goto (-72), 3) := by decide +kernel
theorem dX3_takeParts_80 : decode cX3_takeParts 80 = .ok (.iload_n 3, 1) := by decide +kernel
theorem dX3_takeParts_81 : decode cX3_takeParts 81 = .ok (.ireturn, 1) := by decide +kernel
theorem dX3_giveBack_0 : decode cX3_giveBack 0 = .ok (.iconst 0, 1) := by decide +kernel
theorem dX3_giveBack_1 : decode cX3_giveBack 1 = .ok (.istore_n 3, 1) := by decide +kernel
theorem dX3_giveBack_2 : decode cX3_giveBack 2 = .ok (.iload_n 3, 1) := by decide +kernel
theorem dX3_giveBack_3 : decode cX3_giveBack 3 = .ok (.iload_n 2, 1) := by decide +kernel
theorem dX3_giveBack_4 : decode cX3_giveBack 4 = .ok (.if_icmp .ge 19, 3) := by decide +kernel
theorem dX3_giveBack_7 : decode cX3_giveBack 7 = .ok (.aload_n 0, 1) := by decide +kernel
theorem dX3_giveBack_8 : decode cX3_giveBack 8 = .ok (.getfield 19, 3) := by decide +kernel
theorem dX3_giveBack_11 : decode cX3_giveBack 11 = .ok (.aload_n 1, 1) := by decide +kernel
theorem dX3_giveBack_12 : decode cX3_giveBack 12 = .ok (.iload_n 3, 1) := by decide +kernel
theorem dX3_giveBack_13 : decode cX3_giveBack 13 = .ok (.iaload, 1) := by decide +kernel
theorem dX3_giveBack_14 : decode cX3_giveBack 14 = .ok (.invokevirtual 169, 3) := by decide +kernel
theorem dX3_giveBack_17 : decode cX3_giveBack 17 = .ok (.iinc 3 1, 3) := by decide +kernel
theorem dX3_giveBack_20 : decode cX3_giveBack 20 = .ok (.goto (-18), 3) := by decide +kernel
theorem dX3_giveBack_23 : decode cX3_giveBack 23 = .ok (.return_, 1) := by decide +kernel
theorem dX3_layOut_0 : decode cX3_layOut 0 = .ok (.iconst 0, 1) := by decide +kernel
theorem dX3_layOut_1 : decode cX3_layOut 1 = .ok (.istore_n 2, 1) := by decide +kernel
theorem dX3_layOut_2 : decode cX3_layOut 2 = .ok (.iconst 0, 1) := by decide +kernel
theorem dX3_layOut_3 : decode cX3_layOut 3 = .ok (.istore_n 3, 1) := by decide +kernel
theorem dX3_layOut_4 : decode cX3_layOut 4 = .ok (.iload_n 3, 1) := by decide +kernel
theorem dX3_layOut_5 : decode cX3_layOut 5 = .ok (.aload_n 1, 1) := by decide +kernel
theorem dX3_layOut_6 : decode cX3_layOut 6 = .ok (.getfield 99, 3) := by decide +kernel
theorem dX3_layOut_9 : decode cX3_layOut 9 = .ok (.if_icmp .ge 30, 3) := by decide +kernel
theorem dX3_layOut_12 : decode cX3_layOut 12 = .ok (.iload_n 2, 1) := by decide +kernel
theorem dX3_layOut_13 : decode cX3_layOut 13 = .ok (.aload_n 0, 1) := by decide +kernel
theorem dX3_layOut_14 : decode cX3_layOut 14 = .ok (.getfield 19, 3) := by decide +kernel
theorem dX3_layOut_17 : decode cX3_layOut 17 = .ok (.aload_n 1, 1) := by decide +kernel
theorem dX3_layOut_18 : decode cX3_layOut 18 = .ok (.getfield 102, 3) := by decide +kernel
theorem dX3_layOut_21 : decode cX3_layOut 21 = .ok (.iload_n 3, 1) := by decide +kernel
theorem dX3_layOut_22 : decode cX3_layOut 22 = .ok (.iaload, 1) := by decide +kernel
theorem dX3_layOut_23 : decode cX3_layOut 23 = .ok (.aload_n 0, 1) := by decide +kernel
theorem dX3_layOut_24 : decode cX3_layOut 24 = .ok (.getfield 37, 3) := by decide +kernel
theorem dX3_layOut_27 : decode cX3_layOut 27 = .ok (.iload_n 2, 1) := by decide +kernel
theorem dX3_layOut_28 : decode cX3_layOut 28 = .ok (.invokevirtual 171, 3) := by decide +kernel
theorem dX3_layOut_31 : decode cX3_layOut 31 = .ok (.iadd, 1) := by decide +kernel
theorem dX3_layOut_32 : decode cX3_layOut 32 = .ok (.istore_n 2, 1) := by decide +kernel
theorem dX3_layOut_33 : decode cX3_layOut 33 = .ok (.iinc 3 1, 3) := by decide +kernel
theorem dX3_layOut_36 : decode cX3_layOut 36 = .ok (.goto (-32), 3) := by decide +kernel
theorem dX3_layOut_39 : decode cX3_layOut 39 = .ok (.return_, 1) := by decide +kernel
theorem dX3_filesWith_0 : decode cX3_filesWith 0 = .ok (.iconst 0, 1) := by decide +kernel
theorem dX3_filesWith_1 : decode cX3_filesWith 1 = .ok (.istore_n 2, 1) := by decide +kernel
theorem dX3_filesWith_2 : decode cX3_filesWith 2 = .ok (.iconst 0, 1) := by decide +kernel
theorem dX3_filesWith_3 : decode cX3_filesWith 3 = .ok (.istore_n 3, 1) := by decide +kernel
theorem dX3_filesWith_4 : decode cX3_filesWith 4 = .ok (.iload_n 3, 1) := by decide +kernel
theorem dX3_filesWith_5 : decode cX3_filesWith 5 = .ok (.bipush 16, 2) := by decide +kernel
theorem dX3_filesWith_7 : decode cX3_filesWith 7 = .ok (.if_icmp .ge 25, 3) := by decide +kernel
theorem dX3_filesWith_10 : decode cX3_filesWith 10 = .ok (.aload_n 0, 1) := by decide +kernel
theorem dX3_filesWith_11 : decode cX3_filesWith 11 = .ok (.getfield 25, 3) := by decide +kernel
theorem dX3_filesWith_14 : decode cX3_filesWith 14 = .ok (.iload_n 3, 1) := by decide +kernel
theorem dX3_filesWith_15 : decode cX3_filesWith 15 = .ok (.aaload, 1) := by decide +kernel
theorem dX3_filesWith_16 : decode cX3_filesWith 16 = .ok (.iload_n 1, 1) := by decide +kernel
theorem dX3_filesWith_17 : decode cX3_filesWith 17 = .ok (.invokevirtual 175, 3) := by decide +kernel
theorem dX3_filesWith_20 : decode cX3_filesWith 20 = .ok (.ifCond .eq 6, 3) := by decide +kernel
theorem dX3_filesWith_23 : decode cX3_filesWith 23 = .ok (.iinc 2 1, 3) := by decide +kernel
theorem dX3_filesWith_26 : decode cX3_filesWith 26 = .ok (.iinc 3 1, 3) := by decide +kernel
theorem dX3_filesWith_29 : decode cX3_filesWith 29 = .ok (.goto (-25), 3) := by decide +kernel
theorem dX3_filesWith_32 : decode cX3_filesWith 32 = .ok (.iload_n 2, 1) := by decide +kernel
theorem dX3_filesWith_33 : decode cX3_filesWith 33 = .ok (.ireturn, 1) := by decide +kernel
theorem dX4_init_0 : decode cX4_init 0 = .ok (.aload_n 0, 1) := by decide +kernel
theorem dX4_init_1 : decode cX4_init 1 = .ok (.invokespecial 1, 3) := by decide +kernel
theorem dX4_init_4 : decode cX4_init 4 = .ok (.aload_n 0, 1) := by decide +kernel
theorem dX4_init_5 : decode cX4_init 5 = .ok (.iconst 4, 1) := by decide +kernel
theorem dX4_init_6 : decode cX4_init 6 = .ok (.putfield 7, 3) := by decide +kernel
theorem dX4_init_9 : decode cX4_init 9 = .ok (.aload_n 0, 1) := by decide +kernel
theorem dX4_init_10 : decode cX4_init 10 = .ok (.iconst 4, 1) := by decide +kernel
theorem dX4_init_11 : decode cX4_init 11 = .ok (.putfield 13, 3) := by decide +kernel
end
section
theorem dX4_init_14 : decode cX4_init 14 = .ok (.aload_n 0, 1) := by decide +kernel
theorem dX4_init_15 : decode cX4_init 15 = .ok (.bipush 32, 2) := by decide +kernel
theorem dX4_init_17 : decode cX4_init 17 = .ok (.putfield 16, 3) := by decide +kernel
theorem dX4_init_20 : decode cX4_init 20 = .ok (.aload_n 0, 1) := by decide +kernel
theorem dX4_init_21 : decode cX4_init 21 = .ok (.sipush 1500, 3) := by decide +kernel
theorem dX4_init_24 : decode cX4_init 24 = .ok (.newarray .int, 2) := by decide +kernel
theorem dX4_init_26 : decode cX4_init 26 = .ok (.putfield 19, 3) := by decide +kernel
theorem dX4_init_29 : decode cX4_init 29 = .ok (.aload_n 0, 1) := by decide +kernel
theorem dX4_init_30 : decode cX4_init 30 = .ok (.sipush 1500, 3) := by decide +kernel
theorem dX4_init_33 : decode cX4_init 33 = .ok (.newarray .int, 2) := by decide +kernel
theorem dX4_init_35 : decode cX4_init 35 = .ok (.putfield 23, 3) := by decide +kernel
theorem dX4_init_38 : decode cX4_init 38 = .ok (.aload_n 0, 1) := by decide +kernel
theorem dX4_init_39 : decode cX4_init 39 = .ok (.sipush 1500, 3) := by decide +kernel
theorem dX4_init_42 : decode cX4_init 42 = .ok (.newarray .int, 2) := by decide +kernel
theorem dX4_init_44 : decode cX4_init 44 = .ok (.putfield 26, 3) := by decide +kernel
theorem dX4_init_47 : decode cX4_init 47 = .ok (.aload_n 0, 1) := by decide +kernel
theorem dX4_init_48 : decode cX4_init 48 = .ok (.sipush 1500, 3) := by decide +kernel
theorem dX4_init_51 : decode cX4_init 51 = .ok (.newarray .int, 2) := by decide +kernel
theorem dX4_init_53 : decode cX4_init 53 = .ok (.putfield 29, 3) := by decide +kernel
theorem dX4_init_56 : decode cX4_init 56 = .ok (.aload_n 0, 1) := by decide +kernel
theorem dX4_init_57 : decode cX4_init 57 = .ok (.sipush 400, 3) := by decide +kernel
theorem dX4_init_60 : decode cX4_init 60 = .ok (.newarray .boolean, 2) := by decide +kernel
theorem dX4_init_62 : decode cX4_init 62 = .ok (.putfield 32, 3) := by decide +kernel
theorem dX4_init_65 : decode cX4_init 65 = .ok (.aload_n 0, 1) := by decide +kernel
theorem dX4_init_66 : decode cX4_init 66 = .ok (.bipush 16, 2) := by decide +kernel
theorem dX4_init_68 : decode cX4_init 68 = .ok (.newarray .int, 2) := by decide +kernel
theorem dX4_init_70 : decode cX4_init 70 = .ok (.putfield 36, 3) := by decide +kernel
theorem dX4_init_73 : decode cX4_init 73 = .ok (.aload_n 0, 1) := by decide +kernel
theorem dX4_init_74 : decode cX4_init 74 = .ok (.sipush 24000, 3) := by decide +kernel
theorem dX4_init_77 : decode cX4_init 77 = .ok (.newarray .int, 2) := by decide +kernel
theorem dX4_init_79 : decode cX4_init 79 = .ok (.putfield 39, 3) := by decide +kernel
theorem dX4_init_82 : decode cX4_init 82 = .ok (.aload_n 0, 1) := by decide +kernel
theorem dX4_init_83 : decode cX4_init 83 = .ok (.bipush 16, 2) := by decide +kernel
theorem dX4_init_85 : decode cX4_init 85 = .ok (.newarray .int, 2) := by decide +kernel
theorem dX4_init_87 : decode cX4_init 87 = .ok (.putfield 42, 3) := by decide +kernel
theorem dX4_init_90 : decode cX4_init 90 = .ok (.aload_n 0, 1) := by decide +kernel
theorem dX4_init_91 : decode cX4_init 91 = .ok (.sipush 24000, 3) := by decide +kernel
theorem dX4_init_94 : decode cX4_init 94 = .ok (.newarray .int, 2) := by decide +kernel
theorem dX4_init_96 : decode cX4_init 96 = .ok (.putfield 45, 3) := by decide +kernel
theorem dX4_init_99 : decode cX4_init 99 = .ok (.aload_n 0, 1) := by decide +kernel
theorem dX4_init_100 : decode cX4_init 100 = .ok (.sipush 400, 3) := by decide +kernel
theorem dX4_init_103 : decode cX4_init 103 = .ok (.newarray .int, 2) := by decide +kernel
theorem dX4_init_105 : decode cX4_init 105 = .ok (.putfield 48, 3) := by decide +kernel
theorem dX4_init_108 : decode cX4_init 108 = .ok (.aload_n 0, 1) := by decide +kernel
theorem dX4_init_109 : decode cX4_init 109 = .ok (.sipush 400, 3) := by decide +kernel
theorem dX4_init_112 : decode cX4_init 112 = .ok (.newarray .int, 2) := by decide +kernel
theorem dX4_init_114 : decode cX4_init 114 = .ok (.putfield 51, 3) := by decide +kernel
theorem dX4_init_117 : decode cX4_init 117 = .ok (.aload_n 0, 1) := by decide +kernel
theorem dX4_init_118 : decode cX4_init 118 = .ok (.sipush 25600, 3) := by decide +kernel
theorem dX4_init_121 : decode cX4_init 121 = .ok (.newarray .int, 2) := by decide +kernel
theorem dX4_init_123 : decode cX4_init 123 = .ok (.putfield 54, 3) := by decide +kernel
theorem dX4_init_126 : decode cX4_init 126 = .ok (.return_, 1) := by decide +kernel
theorem dX4_thrown_0 : decode cX4_thrown 0 = .ok (.aload_n 0, 1) := by decide +kernel
theorem dX4_thrown_1 : decode cX4_thrown 1 = .ok (.getfield 57, 3) := by decide +kernel
theorem dX4_thrown_4 : decode cX4_thrown 4 = .ok (.ireturn, 1) := by decide +kernel
theorem dX4_refuse_0 : decode cX4_refuse 0 = .ok (.aload_n 0, 1) := by decide +kernel
theorem dX4_refuse_1 : decode cX4_refuse 1 = .ok (.iload_n 1, 1) := by decide +kernel
theorem dX4_refuse_2 : decode cX4_refuse 2 = .ok (.ifCond .eq 7, 3) := by decide +kernel
theorem dX4_refuse_5 : decode cX4_refuse 5 = .ok (.iconst 1, 1) := by decide +kernel
theorem dX4_refuse_6 : decode cX4_refuse 6 = .ok (.goto 20, 3) := by decide +kernel
theorem dX4_refuse_9 : decode cX4_refuse 9 = .ok (.iload_n 2, 1) := by decide +kernel
theorem dX4_refuse_10 : decode cX4_refuse 10 = .ok (.ifCond .eq 7, 3) := by decide +kernel
theorem dX4_refuse_13 : decode cX4_refuse 13 = .ok (.iconst 2, 1) := by decide +kernel
theorem dX4_refuse_14 : decode cX4_refuse 14 = .ok (.goto 12, 3) := by decide +kernel
theorem dX4_refuse_17 : decode cX4_refuse 17 = .ok (.iload_n 3, 1) := by decide +kernel
theorem dX4_refuse_18 : decode cX4_refuse 18 = .ok (.ifCond .eq 7, 3) := by decide +kernel
theorem dX4_refuse_21 : decode cX4_refuse 21 = .ok (.iconst 3, 1) := by decide +kernel
theorem dX4_refuse_22 : decode cX4_refuse 22 = .ok (.goto 4, 3) := by decide +kernel
theorem dX4_refuse_25 : decode cX4_refuse 25 = .ok (.iconst 0, 1) := by decide +kernel
theorem dX4_refuse_26 : decode cX4_refuse 26 = .ok (.putfield 57, 3) := by decide +kernel
theorem dX4_refuse_29 : decode cX4_refuse 29 = .ok (.aload_n 0, 1) := by decide +kernel
theorem dX4_refuse_30 : decode cX4_refuse 30 = .ok (.getfield 57, 3) := by decide +kernel
theorem dX4_refuse_33 : decode cX4_refuse 33 = .ok (.ifCond .le 7, 3) := by decide +kernel
theorem dX4_refuse_36 : decode cX4_refuse 36 = .ok (.iconst 1, 1) := by decide +kernel
theorem dX4_refuse_37 : decode cX4_refuse 37 = .ok (.goto 4, 3) := by decide +kernel
theorem dX4_refuse_40 : decode cX4_refuse 40 = .ok (.iconst 0, 1) := by decide +kernel
theorem dX4_refuse_41 : decode cX4_refuse 41 = .ok (.ireturn, 1) := by decide +kernel
theorem dX4_in_0 : decode cX4_in 0 = .ok (.iload_n 0, 1) := by decide +kernel
theorem dX4_in_1 : decode cX4_in 1 = .ok (.iload_n 1, 1) := by decide +kernel
theorem dX4_in_2 : decode cX4_in 2 = .ok (.if_icmp .lt 12, 3) := by decide +kernel
theorem dX4_in_5 : decode cX4_in 5 = .ok (.iload_n 0, 1) := by decide +kernel
theorem dX4_in_6 : decode cX4_in 6 = .ok (.iload_n 2, 1) := by decide +kernel
theorem dX4_in_7 : decode cX4_in 7 = .ok (.if_icmp .gt 7, 3) := by decide +kernel
theorem dX4_in_10 : decode cX4_in 10 = .ok (.iconst 1, 1) := by decide +kernel
theorem dX4_in_11 : decode cX4_in 11 = .ok (.goto 4, 3) := by decide +kernel
theorem dX4_in_14 : decode cX4_in 14 = .ok (.iconst 0, 1) := by decide +kernel
theorem dX4_in_15 : decode cX4_in 15 = .ok (.ireturn, 1) := by decide +kernel
theorem dX4_isFile_0 : decode cX4_isFile 0 = .ok (.iload_n 0, 1) := by decide +kernel
theorem dX4_isFile_1 : decode cX4_isFile 1 = .ok (.iconst 0, 1) := by decide +kernel
theorem dX4_isFile_2 : decode cX4_isFile 2 = .ok (.bipush 15, 2) := by decide +kernel
theorem dX4_isFile_4 : decode cX4_isFile 4 = .ok (.invokestatic 60, 3) := by decide +kernel
theorem dX4_isFile_7 : decode cX4_isFile 7 = .ok (.ireturn, 1) := by decide +kernel
theorem dX4_begin_0 : decode cX4_begin 0 = .ok (.iload_n 1, 1) := by decide +kernel
theorem dX4_begin_1 : decode cX4_begin 1 = .ok (.iconst 1, 1) := by decide +kernel
theorem dX4_begin_2 : decode cX4_begin 2 = .ok (.bipush 8, 2) := by decide +kernel
theorem dX4_begin_4 : decode cX4_begin 4 = .ok (.invokestatic 60, 3) := by decide +kernel
theorem dX4_begin_7 : decode cX4_begin 7 = .ok (.ifCond .eq 27, 3) := by decide +kernel
theorem dX4_begin_10 : decode cX4_begin 10 = .ok (.iload_n 2, 1) := by decide +kernel
theorem dX4_begin_11 : decode cX4_begin 11 = .ok (.iconst 1, 1) := by decide +kernel
theorem dX4_begin_12 : decode cX4_begin 12 = .ok (.bipush 32, 2) := by decide +kernel
theorem dX4_begin_14 : decode cX4_begin 14 = .ok (.invokestatic 60, 3) := by decide +kernel
theorem dX4_begin_17 : decode cX4_begin 17 = .ok (.ifCond .eq 17, 3) := by decide +kernel
theorem dX4_begin_20 : decode cX4_begin 20 = .ok (.iload_n 3, 1) := by decide +kernel
theorem dX4_begin_21 : decode cX4_begin 21 = .ok (.iload_n 2, 1) := by decide +kernel
theorem dX4_begin_22 : decode cX4_begin 22 = .ok (.bipush 64, 2) := by decide +kernel
theorem dX4_begin_24 : decode cX4_begin 24 = .ok (.invokestatic 60, 3) := by decide +kernel
theorem dX4_begin_27 : decode cX4_begin 27 = .ok (.ifCond .eq 7, 3) := by decide +kernel
theorem dX4_begin_30 : decode cX4_begin 30 = .ok (.iconst 1, 1) := by decide +kernel
theorem dX4_begin_31 : decode cX4_begin 31 = .ok (.goto 4, 3) := by decide +kernel
theorem dX4_begin_34 : decode cX4_begin 34 = .ok (.iconst 0, 1) := by decide +kernel
theorem dX4_begin_35 : decode cX4_begin 35 = .ok (.istore 4, 2) := by decide +kernel
theorem dX4_begin_37 : decode cX4_begin 37 = .ok (.aload_n 0, 1) := by decide +kernel
theorem dX4_begin_38 : decode cX4_begin 38 = .ok (.iload 4, 2) := by decide +kernel
theorem dX4_begin_40 : decode cX4_begin 40 = .ok (.ifCond .ne 7, 3) := by decide +kernel
theorem dX4_begin_43 : decode cX4_begin 43 = .ok (.iconst 1, 1) := by decide +kernel
theorem dX4_begin_44 : decode cX4_begin 44 = .ok (.goto 4, 3) := by decide +kernel
theorem dX4_begin_47 : decode cX4_begin 47 = .ok (.iconst 0, 1) := by decide +kernel
theorem dX4_begin_48 : decode cX4_begin 48 = .ok (.iconst 0, 1) := by decide +kernel
theorem dX4_begin_49 : decode cX4_begin 49 = .ok (.iconst 0, 1) := by decide +kernel
theorem dX4_begin_50 : decode cX4_begin 50 = .ok (.invokevirtual 64, 3) := by decide +kernel
theorem dX4_begin_53 : decode cX4_begin 53 = .ok (.ifCond .ne 75, 3) := by decide +kernel
theorem dX4_begin_56 : decode cX4_begin 56 = .ok (.aload_n 0, 1) := by decide +kernel
theorem dX4_begin_57 : decode cX4_begin 57 = .ok (.iload_n 1, 1) := by decide +kernel
theorem dX4_begin_58 : decode cX4_begin 58 = .ok (.putfield 7, 3) := by decide +kernel
theorem dX4_begin_61 : decode cX4_begin 61 = .ok (.aload_n 0, 1) := by decide +kernel
theorem dX4_begin_62 : decode cX4_begin 62 = .ok (.iload_n 2, 1) := by decide +kernel
theorem dX4_begin_63 : decode cX4_begin 63 = .ok (.putfield 13, 3) := by decide +kernel
theorem dX4_begin_66 : decode cX4_begin 66 = .ok (.aload_n 0, 1) := by decide +kernel
theorem dX4_begin_67 : decode cX4_begin 67 = .ok (.iload_n 3, 1) := by decide +kernel
theorem dX4_begin_68 : decode cX4_begin 68 = .ok (.putfield 16, 3) := by decide +kernel
theorem dX4_begin_71 : decode cX4_begin 71 = .ok (.iconst 0, 1) := by decide +kernel
theorem dX4_begin_72 : decode cX4_begin 72 = .ok (.istore 5, 2) := by decide +kernel
theorem dX4_begin_74 : decode cX4_begin 74 = .ok (.iload 5, 2) := by decide +kernel
theorem dX4_begin_76 : decode cX4_begin 76 = .ok (.bipush 16, 2) := by decide +kernel
theorem dX4_begin_78 : decode cX4_begin 78 = .ok (.if_icmp .ge 25, 3) := by decide +kernel
theorem dX4_begin_81 : decode cX4_begin 81 = .ok (.aload_n 0, 1) := by decide +kernel
theorem dX4_begin_82 : decode cX4_begin 82 = .ok (.getfield 36, 3) := by decide +kernel
theorem dX4_begin_85 : decode cX4_begin 85 = .ok (.iload 5, 2) := by decide +kernel
theorem dX4_begin_87 : decode cX4_begin 87 = .ok (.iconst 0, 1) := by decide +kernel
theorem dX4_begin_88 : decode cX4_begin 88 = .ok (.iastore, 1) := by decide +kernel
theorem dX4_begin_89 : decode cX4_begin 89 = .ok (.aload_n 0, 1) := by decide +kernel
theorem dX4_begin_90 : decode cX4_begin 90 = .ok (.getfield 42, 3) := by decide +kernel
theorem dX4_begin_93 : decode cX4_begin 93 = .ok (.iload 5, 2) := by decide +kernel
theorem dX4_begin_95 : decode cX4_begin 95 = .ok (.iconst 0, 1) := by decide +kernel
theorem dX4_begin_96 : decode cX4_begin 96 = .ok (.iastore, 1) := by decide +kernel
theorem dX4_begin_97 : decode cX4_begin 97 = .ok (.iinc 5 1, 3) := by decide +kernel
theorem dX4_begin_100 : decode cX4_begin 100 = .ok (.goto (-26), 3) := by decide +kernel
theorem dX4_begin_103 : decode cX4_begin 103 = .ok (.iconst 0, 1) := by decide +kernel
theorem dX4_begin_104 : decode cX4_begin 104 = .ok (.istore 5, 2) := by decide +kernel
theorem dX4_begin_106 : decode cX4_begin 106 = .ok (.iload 5, 2) := by decide +kernel
theorem dX4_begin_108 : decode cX4_begin 108 = .ok (.sipush 400, 3) := by decide +kernel
theorem dX4_begin_111 : decode cX4_begin 111 = .ok (.if_icmp .ge 17, 3) := by decide +kernel
theorem dX4_begin_114 : decode cX4_begin 114 = .ok (.aload_n 0, 1) := by decide +kernel
theorem dX4_begin_115 : decode cX4_begin 115 = .ok (.getfield 48, 3) := by decide +kernel
theorem dX4_begin_118 : decode cX4_begin 118 = .ok (.iload 5, 2) := by decide +kernel
theorem dX4_begin_120 : decode cX4_begin 120 = .ok (.iconst 0, 1) := by decide +kernel
theorem dX4_begin_121 : decode cX4_begin 121 = .ok (.iastore, 1) := by decide +kernel
theorem dX4_begin_122 : decode cX4_begin 122 = .ok (.iinc 5 1, 3) := by decide +kernel
theorem dX4_begin_125 : decode cX4_begin 125 = .ok (.goto (-19), 3) := by decide +kernel
theorem dX4_begin_128 : decode cX4_begin 128 = .ok (.return_, 1) := by decide +kernel
theorem dX4_put_0 : decode cX4_put 0 = .ok (.iload_n 1, 1) := by decide +kernel
theorem dX4_put_1 : decode cX4_put 1 = .ok (.iconst 1, 1) := by decide +kernel
theorem dX4_put_2 : decode cX4_put 2 = .ok (.iconst 4, 1) := by decide +kernel
theorem dX4_put_3 : decode cX4_put 3 = .ok (.invokestatic 60, 3) := by decide +kernel
theorem dX4_put_6 : decode cX4_put 6 = .ok (.istore_n 3, 1) := by decide +kernel
theorem dX4_put_7 : decode cX4_put 7 = .ok (.aload_n 0, 1) := by decide +kernel
theorem dX4_put_8 : decode cX4_put 8 = .ok (.iload_n 3, 1) := by decide +kernel
theorem dX4_put_9 : decode cX4_put 9 = .ok (.ifCond .ne 7, 3) := by decide +kernel
theorem dX4_put_12 : decode cX4_put 12 = .ok (.iconst 1, 1) := by decide +kernel
theorem dX4_put_13 : decode cX4_put 13 = .ok (.goto 4, 3) := by decide +kernel
theorem dX4_put_16 : decode cX4_put 16 = .ok (.iconst 0, 1) := by decide +kernel
theorem dX4_put_17 : decode cX4_put 17 = .ok (.iload_n 3, 1) := by decide +kernel
theorem dX4_put_18 : decode cX4_put 18 = .ok (.ifCond .eq 19, 3) := by decide +kernel
theorem dX4_put_21 : decode cX4_put 21 = .ok (.aload_n 0, 1) := by decide +kernel
theorem dX4_put_22 : decode cX4_put 22 = .ok (.getfield 68, 3) := by decide +kernel
theorem dX4_put_25 : decode cX4_put 25 = .ok (.iload_n 1, 1) := by decide +kernel
theorem dX4_put_26 : decode cX4_put 26 = .ok (.iadd, 1) := by decide +kernel
theorem dX4_put_27 : decode cX4_put 27 = .ok (.sipush 1500, 3) := by decide +kernel
theorem dX4_put_30 : decode cX4_put 30 = .ok (.if_icmp .le 7, 3) := by decide +kernel
theorem dX4_put_33 : decode cX4_put 33 = .ok (.iconst 1, 1) := by decide +kernel
theorem dX4_put_34 : decode cX4_put 34 = .ok (.goto 4, 3) := by decide +kernel
theorem dX4_put_37 : decode cX4_put 37 = .ok (.iconst 0, 1) := by decide +kernel
theorem dX4_put_38 : decode cX4_put 38 = .ok (.iconst 0, 1) := by decide +kernel
theorem dX4_put_39 : decode cX4_put 39 = .ok (.invokevirtual 64, 3) := by decide +kernel
theorem dX4_put_42 : decode cX4_put 42 = .ok (.ifCond .eq 5, 3) := by decide +kernel
theorem dX4_put_45 : decode cX4_put 45 = .ok (.iconst 0, 1) := by decide +kernel
theorem dX4_put_46 : decode cX4_put 46 = .ok (.ireturn, 1) := by decide +kernel
theorem dX4_put_47 : decode cX4_put 47 = .ok (.iconst 0, 1) := by decide +kernel
theorem dX4_put_48 : decode cX4_put 48 = .ok (.istore 4, 2) := by decide +kernel
theorem dX4_put_50 : decode cX4_put 50 = .ok (.iload 4, 2) := by decide +kernel
theorem dX4_put_52 : decode cX4_put 52 = .ok (.iload_n 1, 1) := by decide +kernel
theorem dX4_put_53 : decode cX4_put 53 = .ok (.if_icmp .ge 39, 3) := by decide +kernel
theorem dX4_put_56 : decode cX4_put 56 = .ok (.aload_n 0, 1) := by decide +kernel
theorem dX4_put_57 : decode cX4_put 57 = .ok (.getfield 19, 3) := by decide +kernel
theorem dX4_put_60 : decode cX4_put 60 = .ok (.aload_n 0, 1) := by decide +kernel
theorem dX4_put_61 : decode cX4_put 61 = .ok (.getfield 68, 3) := by decide +kernel
theorem dX4_put_64 : decode cX4_put 64 = .ok (.iload_n 2, 1) := by decide +kernel
theorem dX4_put_65 : decode cX4_put 65 = .ok (.bipush 8, 2) := by decide +kernel
theorem dX4_put_67 : decode cX4_put 67 = .ok (.iload 4, 2) := by decide +kernel
theorem dX4_put_69 : decode cX4_put 69 = .ok (.imul, 1) := by decide +kernel
theorem dX4_put_70 : decode cX4_put 70 = .ok (.ishr, 1) := by decide +kernel
theorem dX4_put_71 : decode cX4_put 71 = .ok (.sipush 255, 3) := by decide +kernel
theorem dX4_put_74 : decode cX4_put 74 = .ok (.iand, 1) := by decide +kernel
theorem dX4_put_75 : decode cX4_put 75 = .ok (.iastore, 1) := by decide +kernel
theorem dX4_put_76 : decode cX4_put 76 = .ok (.aload_n 0, 1) := by decide +kernel
theorem dX4_put_77 : decode cX4_put 77 = .ok (.dup, 1) := by decide +kernel
theorem dX4_put_78 : decode cX4_put 78 = .ok (.getfield 68, 3) := by decide +kernel
theorem dX4_put_81 : decode cX4_put 81 = .ok (.iconst 1, 1) := by decide +kernel
theorem dX4_put_82 : decode cX4_put 82 = .ok (.iadd, 1) := by decide +kernel
theorem dX4_put_83 : decode cX4_put 83 = .ok (.putfield 68, 3) := by decide +kernel
theorem dX4_put_86 : decode cX4_put 86 = .ok (.iinc 4 1, 3) := by decide +kernel
theorem dX4_put_89 : decode cX4_put 89 = .ok (.goto (-39), 3) := by decide +kernel
theorem dX4_put_92 : decode cX4_put 92 = .ok (.aload_n 0, 1) := by decide +kernel
theorem dX4_put_93 : decode cX4_put 93 = .ok (.getfield 68, 3) := by decide +kernel
theorem dX4_put_96 : decode cX4_put 96 = .ok (.ireturn, 1) := by decide +kernel
theorem dX4_mark_0 : decode cX4_mark 0 = .ok (.iload_n 0, 1) := by decide +kernel
theorem dX4_mark_1 : decode cX4_mark 1 = .ok (.iconst 1, 1) := by decide +kernel
theorem dX4_mark_2 : decode cX4_mark 2 = .ok (.iadd, 1) := by decide +kernel
theorem dX4_mark_3 : decode cX4_mark 3 = .ok (.ldc 71, 2) := by decide +kernel
theorem dX4_mark_5 : decode cX4_mark 5 = .ok (.imul, 1) := by decide +kernel
theorem dX4_mark_6 : decode cX4_mark 6 = .ok (.istore_n 1, 1) := by decide +kernel
theorem dX4_mark_7 : decode cX4_mark 7 = .ok (.iload_n 1, 1) := by decide +kernel
theorem dX4_mark_8 : decode cX4_mark 8 = .ok (.iload_n 1, 1) := by decide +kernel
theorem dX4_mark_9 : decode cX4_mark 9 = .ok (.bipush 15, 2) := by decide +kernel
theorem dX4_mark_11 : decode cX4_mark 11 = .ok (.iushr, 1) := by decide +kernel
theorem dX4_mark_12 : decode cX4_mark 12 = .ok (.ixor, 1) := by decide +kernel
theorem dX4_mark_13 : decode cX4_mark 13 = .ok (.ireturn, 1) := by decide +kernel
theorem dX4_sum_0 : decode cX4_sum 0 = .ok (.iconst 0, 1) := by decide +kernel
theorem dX4_sum_1 : decode cX4_sum 1 = .ok (.istore_n 3, 1) := by decide +kernel
theorem dX4_sum_2 : decode cX4_sum 2 = .ok (.iconst 0, 1) := by decide +kernel
theorem dX4_sum_3 : decode cX4_sum 3 = .ok (.istore 4, 2) := by decide +kernel
theorem dX4_sum_5 : decode cX4_sum 5 = .ok (.iload 4, 2) := by decide +kernel
theorem dX4_sum_7 : decode cX4_sum 7 = .ok (.bipush 8, 2) := by decide +kernel
theorem dX4_sum_9 : decode cX4_sum 9 = .ok (.if_icmp .ge 61, 3) := by decide +kernel
theorem dX4_sum_12 : decode cX4_sum 12 = .ok (.iload_n 2, 1) := by decide +kernel
theorem dX4_sum_13 : decode cX4_sum 13 = .ok (.iconst 1, 1) := by decide +kernel
theorem dX4_sum_14 : decode cX4_sum 14 = .ok (.isub, 1) := by decide +kernel
theorem dX4_sum_15 : decode cX4_sum 15 = .ok (.iload 4, 2) := by decide +kernel
theorem dX4_sum_17 : decode cX4_sum 17 = .ok (.isub, 1) := by decide +kernel
theorem dX4_sum_18 : decode cX4_sum 18 = .ok (.iload_n 1, 1) := by decide +kernel
theorem dX4_sum_19 : decode cX4_sum 19 = .ok (.if_icmp .lt 51, 3) := by decide +kernel
theorem dX4_sum_22 : decode cX4_sum 22 = .ok (.aload_n 0, 1) := by decide +kernel
theorem dX4_sum_23 : decode cX4_sum 23 = .ok (.getfield 23, 3) := by decide +kernel
theorem dX4_sum_26 : decode cX4_sum 26 = .ok (.iload_n 2, 1) := by decide +kernel
theorem dX4_sum_27 : decode cX4_sum 27 = .ok (.iconst 1, 1) := by decide +kernel
theorem dX4_sum_28 : decode cX4_sum 28 = .ok (.isub, 1) := by decide +kernel
theorem dX4_sum_29 : decode cX4_sum 29 = .ok (.iload 4, 2) := by decide +kernel
theorem dX4_sum_31 : decode cX4_sum 31 = .ok (.isub, 1) := by decide +kernel
theorem dX4_sum_32 : decode cX4_sum 32 = .ok (.iaload, 1) := by decide +kernel
theorem dX4_sum_33 : decode cX4_sum 33 = .ok (.invokestatic 72, 3) := by decide +kernel
theorem dX4_sum_36 : decode cX4_sum 36 = .ok (.istore 5, 2) := by decide +kernel
theorem dX4_sum_38 : decode cX4_sum 38 = .ok (.iload_n 3, 1) := by decide +kernel
theorem dX4_sum_39 : decode cX4_sum 39 = .ok (.iload 5, 2) := by decide +kernel
theorem dX4_sum_41 : decode cX4_sum 41 = .ok (.iload 4, 2) := by decide +kernel
theorem dX4_sum_43 : decode cX4_sum 43 = .ok (.ishl, 1) := by decide +kernel
theorem dX4_sum_44 : decode cX4_sum 44 = .ok (.iload 4, 2) := by decide +kernel
theorem dX4_sum_46 : decode cX4_sum 46 = .ok (.ifCond .ne 7, 3) := by decide +kernel
theorem dX4_sum_49 : decode cX4_sum 49 = .ok (.iconst 0, 1) := by decide +kernel
theorem dX4_sum_50 : decode cX4_sum 50 = .ok (.goto 11, 3) := by decide +kernel
theorem dX4_sum_53 : decode cX4_sum 53 = .ok (.iload 5, 2) := by decide +kernel
theorem dX4_sum_55 : decode cX4_sum 55 = .ok (.bipush 32, 2) := by decide +kernel
theorem dX4_sum_57 : decode cX4_sum 57 = .ok (.iload 4, 2) := by decide +kernel
theorem dX4_sum_59 : decode cX4_sum 59 = .ok (.isub, 1) := by decide +kernel
theorem dX4_sum_60 : decode cX4_sum 60 = .ok (.iushr, 1) := by decide +kernel
theorem dX4_sum_61 : decode cX4_sum 61 = .ok (.ior, 1) := by decide +kernel
theorem dX4_sum_62 : decode cX4_sum 62 = .ok (.ixor, 1) := by decide +kernel
theorem dX4_sum_63 : decode cX4_sum 63 = .ok (.istore_n 3, 1) := by decide +kernel
theorem dX4_sum_64 : decode cX4_sum 64 = .ok (.iinc 4 1, 3) := by decide +kernel
theorem dX4_sum_67 : decode cX4_sum 67 = .ok (.goto (-62), 3) := by decide +kernel
theorem dX4_sum_70 : decode cX4_sum 70 = .ok (.iload_n 3, 1) := by decide +kernel
theorem dX4_sum_71 : decode cX4_sum 71 = .ok (.ireturn, 1) := by decide +kernel
theorem dX4_cut_0 : decode cX4_cut 0 = .ok (.aload_n 0, 1) := by decide +kernel
theorem dX4_cut_1 : decode cX4_cut 1 = .ok (.iconst 0, 1) := by decide +kernel
theorem dX4_cut_2 : decode cX4_cut 2 = .ok (.putfield 76, 3) := by decide +kernel
theorem dX4_cut_5 : decode cX4_cut 5 = .ok (.iconst 0, 1) := by decide +kernel
theorem dX4_cut_6 : decode cX4_cut 6 = .ok (.istore_n 1, 1) := by decide +kernel
theorem dX4_cut_7 : decode cX4_cut 7 = .ok (.iconst 1, 1) := by decide +kernel
theorem dX4_cut_8 : decode cX4_cut 8 = .ok (.istore_n 2, 1) := by decide +kernel
theorem dX4_cut_9 : decode cX4_cut 9 = .ok (.iload_n 2, 1) := by decide +kernel
theorem dX4_cut_10 : decode cX4_cut 10 = .ok (.aload_n 0, 1) := by decide +kernel
theorem dX4_cut_11 : decode cX4_cut 11 = .ok (.getfield 79, 3) := by decide +kernel
theorem dX4_cut_14 : decode cX4_cut 14 = .ok (.if_icmp .gt 89, 3) := by decide +kernel
theorem dX4_cut_17 : decode cX4_cut 17 = .ok (.iload_n 2, 1) := by decide +kernel
theorem dX4_cut_18 : decode cX4_cut 18 = .ok (.iload_n 1, 1) := by decide +kernel
theorem dX4_cut_19 : decode cX4_cut 19 = .ok (.isub, 1) := by decide +kernel
theorem dX4_cut_20 : decode cX4_cut 20 = .ok (.istore_n 3, 1) := by decide +kernel
theorem dX4_cut_21 : decode cX4_cut 21 = .ok (.iload_n 2, 1) := by decide +kernel
theorem dX4_cut_22 : decode cX4_cut 22 = .ok (.aload_n 0, 1) := by decide +kernel
theorem dX4_cut_23 : decode cX4_cut 23 = .ok (.getfield 79, 3) := by decide +kernel
theorem dX4_cut_26 : decode cX4_cut 26 = .ok (.if_icmp .eq 37, 3) := by decide +kernel
theorem dX4_cut_29 : decode cX4_cut 29 = .ok (.iload_n 3, 1) := by decide +kernel
theorem dX4_cut_30 : decode cX4_cut 30 = .ok (.aload_n 0, 1) := by decide +kernel
theorem dX4_cut_31 : decode cX4_cut 31 = .ok (.getfield 16, 3) := by decide +kernel
theorem dX4_cut_34 : decode cX4_cut 34 = .ok (.if_icmp .eq 29, 3) := by decide +kernel
theorem dX4_cut_37 : decode cX4_cut 37 = .ok (.iload_n 3, 1) := by decide +kernel
theorem dX4_cut_38 : decode cX4_cut 38 = .ok (.aload_n 0, 1) := by decide +kernel
theorem dX4_cut_39 : decode cX4_cut 39 = .ok (.getfield 13, 3) := by decide +kernel
theorem dX4_cut_42 : decode cX4_cut 42 = .ok (.if_icmp .lt 25, 3) := by decide +kernel
theorem dX4_cut_45 : decode cX4_cut 45 = .ok (.aload_n 0, 1) := by decide +kernel
theorem dX4_cut_46 : decode cX4_cut 46 = .ok (.iload_n 1, 1) := by decide +kernel
theorem dX4_cut_47 : decode cX4_cut 47 = .ok (.iload_n 2, 1) := by decide +kernel
theorem dX4_cut_48 : decode cX4_cut 48 = .ok (.invokevirtual 82, 3) := by decide +kernel
theorem dX4_cut_51 : decode cX4_cut 51 = .ok (.iconst 1, 1) := by decide +kernel
theorem dX4_cut_52 : decode cX4_cut 52 = .ok (.aload_n 0, 1) := by decide +kernel
theorem dX4_cut_53 : decode cX4_cut 53 = .ok (.getfield 7, 3) := by decide +kernel
theorem dX4_cut_56 : decode cX4_cut 56 = .ok (.ishl, 1) := by decide +kernel
theorem dX4_cut_57 : decode cX4_cut 57 = .ok (.iconst 1, 1) := by decide +kernel
theorem dX4_cut_58 : decode cX4_cut 58 = .ok (.isub, 1) := by decide +kernel
theorem dX4_cut_59 : decode cX4_cut 59 = .ok (.iand, 1) := by decide +kernel
theorem dX4_cut_60 : decode cX4_cut 60 = .ok (.ifCond .ne 7, 3) := by decide +kernel
theorem dX4_cut_63 : decode cX4_cut 63 = .ok (.iconst 1, 1) := by decide +kernel
theorem dX4_cut_64 : decode cX4_cut 64 = .ok (.goto 4, 3) := by decide +kernel
theorem dX4_cut_67 : decode cX4_cut 67 = .ok (.iconst 0, 1) := by decide +kernel
theorem dX4_cut_68 : decode cX4_cut 68 = .ok (.istore 4, 2) := by decide +kernel
theorem dX4_cut_70 : decode cX4_cut 70 = .ok (.iload 4, 2) := by decide +kernel
theorem dX4_cut_72 : decode cX4_cut 72 = .ok (.ifCond .eq 25, 3) := by decide +kernel
theorem dX4_cut_75 : decode cX4_cut 75 = .ok (.aload_n 0, 1) := by decide +kernel
theorem dX4_cut_76 : decode cX4_cut 76 = .ok (.getfield 26, 3) := by decide +kernel
theorem dX4_cut_79 : decode cX4_cut 79 = .ok (.aload_n 0, 1) := by decide +kernel
theorem dX4_cut_80 : decode cX4_cut 80 = .ok (.getfield 76, 3) := by decide +kernel
theorem dX4_cut_83 : decode cX4_cut 83 = .ok (.iload_n 2, 1) := by decide +kernel
theorem dX4_cut_84 : decode cX4_cut 84 = .ok (.iastore, 1) := by decide +kernel
theorem dX4_cut_85 : decode cX4_cut 85 = .ok (.aload_n 0, 1) := by decide +kernel
theorem dX4_cut_86 : decode cX4_cut 86 = .ok (.dup, 1) := by decide +kernel
theorem dX4_cut_87 : decode cX4_cut 87 = .ok (.getfield 76, 3) := by decide +kernel
theorem dX4_cut_90 : decode cX4_cut 90 = .ok (.iconst 1, 1) := by decide +kernel
theorem dX4_cut_91 : decode cX4_cut 91 = .ok (.iadd, 1) := by decide +kernel
theorem dX4_cut_92 : decode cX4_cut 92 = .ok (.putfield 76, 3) := by decide +kernel
theorem dX4_cut_95 : decode cX4_cut 95 = .ok (.iload_n 2, 1) := by decide +kernel
theorem dX4_cut_96 : decode cX4_cut 96 = .ok (.istore_n 1, 1) := by decide +kernel
theorem dX4_cut_97 : decode cX4_cut 97 = .ok (.iinc 2 1, 3) := by decide +kernel
theorem dX4_cut_100 : decode cX4_cut 100 = .ok (.goto (-91), 3) := by decide +kernel
theorem dX4_cut_103 : decode cX4_cut 103 = .ok (.return_, 1) := by decide +kernel
theorem dX4_beginOf_0 : decode cX4_beginOf 0 = .ok (.iload_n 1, 1) := by decide +kernel
theorem dX4_beginOf_1 : decode cX4_beginOf 1 = .ok (.ifCond .ne 7, 3) := by decide +kernel
theorem dX4_beginOf_4 : decode cX4_beginOf 4 = .ok (.iconst 0, 1) := by decide +kernel
theorem dX4_beginOf_5 : decode cX4_beginOf 5 = .ok (.goto 11, 3) := by decide +kernel
theorem dX4_beginOf_8 : decode cX4_beginOf 8 = .ok (.aload_n 0, 1) := by decide +kernel
theorem dX4_beginOf_9 : decode cX4_beginOf 9 = .ok (.getfield 26, 3) := by decide +kernel
theorem dX4_beginOf_12 : decode cX4_beginOf 12 = .ok (.iload_n 1, 1) := by decide +kernel
theorem dX4_beginOf_13 : decode cX4_beginOf 13 = .ok (.iconst 1, 1) := by decide +kernel
theorem dX4_beginOf_14 : decode cX4_beginOf 14 = .ok (.isub, 1) := by decide +kernel
theorem dX4_beginOf_15 : decode cX4_beginOf 15 = .ok (.iaload, 1) := by decide +kernel
theorem dX4_beginOf_16 : decode cX4_beginOf 16 = .ok (.ireturn, 1) := by decide +kernel
theorem dX4_isPart_0 : decode cX4_isPart 0 = .ok (.aload_n 0, 1) := by decide +kernel
theorem dX4_isPart_1 : decode cX4_isPart 1 = .ok (.getfield 48, 3) := by decide +kernel
theorem dX4_isPart_4 : decode cX4_isPart 4 = .ok (.iload_n 1, 1) := by decide +kernel
theorem dX4_isPart_5 : decode cX4_isPart 5 = .ok (.iaload, 1) := by decide +kernel
theorem dX4_isPart_6 : decode cX4_isPart 6 = .ok (.ifCond .gt 12, 3) := by decide +kernel
theorem dX4_isPart_9 : decode cX4_isPart 9 = .ok (.aload_n 0, 1) := by decide +kernel
theorem dX4_isPart_10 : decode cX4_isPart 10 = .ok (.getfield 32, 3) := by decide +kernel
theorem dX4_isPart_13 : decode cX4_isPart 13 = .ok (.iload_n 1, 1) := by decide +kernel
theorem dX4_isPart_14 : decode cX4_isPart 14 = .ok (.baload, 1) := by decide +kernel
theorem dX4_isPart_15 : decode cX4_isPart 15 = .ok (.ifCond .eq 19, 3) := by decide +kernel
theorem dX4_isPart_18 : decode cX4_isPart 18 = .ok (.aload_n 0, 1) := by decide +kernel
theorem dX4_isPart_19 : decode cX4_isPart 19 = .ok (.getfield 51, 3) := by decide +kernel
theorem dX4_isPart_22 : decode cX4_isPart 22 = .ok (.iload_n 1, 1) := by decide +kernel
theorem dX4_isPart_23 : decode cX4_isPart 23 = .ok (.iaload, 1) := by decide +kernel
theorem dX4_isPart_24 : decode cX4_isPart 24 = .ok (.iload_n 3, 1) := by decide +kernel
theorem dX4_isPart_25 : decode cX4_isPart 25 = .ok (.iload_n 2, 1) := by decide +kernel
theorem dX4_isPart_26 : decode cX4_isPart 26 = .ok (.isub, 1) := by decide +kernel
theorem dX4_isPart_27 : decode cX4_isPart 27 = .ok (.if_icmp .ne 7, 3) := by decide +kernel
theorem dX4_isPart_30 : decode cX4_isPart 30 = .ok (.iconst 1, 1) := by decide +kernel
theorem dX4_isPart_31 : decode cX4_isPart 31 = .ok (.goto 4, 3) := by decide +kernel
theorem dX4_isPart_34 : decode cX4_isPart 34 = .ok (.iconst 0, 1) := by decide +kernel
theorem dX4_isPart_35 : decode cX4_isPart 35 = .ok (.istore 4, 2) := by decide +kernel
theorem dX4_isPart_37 : decode cX4_isPart 37 = .ok (.iconst 0, 1) := by decide +kernel
theorem dX4_isPart_38 : decode cX4_isPart 38 = .ok (.istore 5, 2) := by decide +kernel
theorem dX4_isPart_40 : decode cX4_isPart 40 = .ok (.iload 5, 2) := by decide +kernel
theorem dX4_isPart_42 : decode cX4_isPart 42 = .ok (.iload_n 3, 1) := by decide +kernel
theorem dX4_isPart_43 : decode cX4_isPart 43 = .ok (.iload_n 2, 1) := by decide +kernel
theorem dX4_isPart_44 : decode cX4_isPart 44 = .ok (.isub, 1) := by decide +kernel
theorem dX4_isPart_45 : decode cX4_isPart 45 = .ok (.if_icmp .ge 45, 3) := by decide +kernel
theorem dX4_isPart_48 : decode cX4_isPart 48 = .ok (.iload 4, 2) := by decide +kernel
theorem dX4_isPart_50 : decode cX4_isPart 50 = .ok (.ifCond .eq 40, 3) := by decide +kernel
theorem dX4_isPart_53 : decode cX4_isPart 53 = .ok (.aload_n 0, 1) := by decide +kernel
theorem dX4_isPart_54 : decode cX4_isPart 54 = .ok (.getfield 54, 3) := by decide +kernel
theorem dX4_isPart_57 : decode cX4_isPart 57 = .ok (.bipush 64, 2) := by decide +kernel
theorem dX4_isPart_59 : decode cX4_isPart 59 = .ok (.iload_n 1, 1) := by decide +kernel
theorem dX4_isPart_60 : decode cX4_isPart 60 = .ok (.imul, 1) := by decide +kernel
theorem dX4_isPart_61 : decode cX4_isPart 61 = .ok (.iload 5, 2) := by decide +kernel
theorem dX4_isPart_63 : decode cX4_isPart 63 = .ok (.iadd, 1) := by decide +kernel
theorem dX4_isPart_64 : decode cX4_isPart 64 = .ok (.iaload, 1) := by decide +kernel
theorem dX4_isPart_65 : decode cX4_isPart 65 = .ok (.aload_n 0, 1) := by decide +kernel
theorem dX4_isPart_66 : decode cX4_isPart 66 = .ok (.getfield 23, 3) := by decide +kernel
theorem dX4_isPart_69 : decode cX4_isPart 69 = .ok (.iload_n 2, 1) := by decide +kernel
theorem dX4_isPart_70 : decode cX4_isPart 70 = .ok (.iload 5, 2) := by decide +kernel
theorem dX4_isPart_72 : decode cX4_isPart 72 = .ok (.iadd, 1) := by decide +kernel
theorem dX4_isPart_73 : decode cX4_isPart 73 = .ok (.iaload, 1) := by decide +kernel
theorem dX4_isPart_74 : decode cX4_isPart 74 = .ok (.if_icmp .ne 7, 3) := by decide +kernel
theorem dX4_isPart_77 : decode cX4_isPart 77 = .ok (.iconst 1, 1) := by decide +kernel
theorem dX4_isPart_78 : decode cX4_isPart 78 = .ok (.goto 4, 3) := by decide +kernel
theorem dX4_isPart_81 : decode cX4_isPart 81 = .ok (.iconst 0, 1) := by decide +kernel
theorem dX4_isPart_82 : decode cX4_isPart 82 = .ok (.istore 4, 2) := by decide +kernel
theorem dX4_isPart_84 : decode cX4_isPart 84 = .ok (.iinc 5 1, 3) := by decide +kernel
theorem dX4_isPart_87 : decode cX4_isPart 87 = .ok (.goto (-47), 3) := by decide +kernel
theorem dX4_isPart_90 : decode cX4_isPart 90 = .ok (.iload 4, 2) := by decide +kernel
theorem dX4_isPart_92 : decode cX4_isPart 92 = .ok (.ireturn, 1) := by decide +kernel
theorem dX4_numberOf_0 : decode cX4_numberOf 0 = .ok (.iconst (-1), 1) := by decide +kernel
theorem dX4_numberOf_1 : decode cX4_numberOf 1 = .ok (.istore_n 3, 1) := by decide +kernel
theorem dX4_numberOf_2 : decode cX4_numberOf 2 = .ok (.iconst 0, 1) := by decide +kernel
theorem dX4_numberOf_3 : decode cX4_numberOf 3 = .ok (.istore 4, 2) := by decide +kernel
theorem dX4_numberOf_5 : decode cX4_numberOf 5 = .ok (.iload 4, 2) := by decide +kernel
theorem dX4_numberOf_7 : decode cX4_numberOf 7 = .ok (.sipush 400, 3) := by decide +kernel
theorem dX4_numberOf_10 : decode cX4_numberOf 10 = .ok (.if_icmp .ge 54, 3) := by decide +kernel
theorem dX4_numberOf_13 : decode cX4_numberOf 13 = .ok (.aload_n 0, 1) := by decide +kernel
theorem dX4_numberOf_14 : decode cX4_numberOf 14 = .ok (.iload 4, 2) := by decide +kernel
theorem dX4_numberOf_16 : decode cX4_numberOf 16 = .ok (.iload_n 1, 1) := by decide +kernel
theorem dX4_numberOf_17 : decode cX4_numberOf 17 = .ok (.iload_n 2, 1) := by decide +kernel
theorem dX4_numberOf_18 : decode cX4_numberOf 18 = .ok (.invokevirtual 86, 3) := by decide +kernel
theorem dX4_numberOf_21 : decode cX4_numberOf 21 = .ok (.ifCond .eq 6, 3) := by decide +kernel
theorem dX4_numberOf_24 : decode cX4_numberOf 24 = .ok (.iload 4, 2) := by decide +kernel
theorem dX4_numberOf_26 : decode cX4_numberOf 26 = .ok (.ireturn, 1) := by decide +kernel
theorem dX4_numberOf_27 : decode cX4_numberOf 27 = .ok (.iload_n 3, 1) := by decide +kernel
theorem dX4_numberOf_28 : decode cX4_numberOf 28 = .ok (.ifCond .ge 28, 3) := by decide +kernel
theorem dX4_numberOf_31 : decode cX4_numberOf 31 = .ok (.aload_n 0, 1) := by decide +kernel
theorem dX4_numberOf_32 : decode cX4_numberOf 32 = .ok (.getfield 48, 3) := by decide +kernel
theorem dX4_numberOf_35 : decode cX4_numberOf 35 = .ok (.iload 4, 2) := by decide +kernel
theorem dX4_numberOf_37 : decode cX4_numberOf 37 = .ok (.iaload, 1) := by decide +kernel
theorem dX4_numberOf_38 : decode cX4_numberOf 38 = .ok (.ifCond .ne 18, 3) := by decide +kernel
theorem dX4_numberOf_41 : decode cX4_numberOf 41 = .ok (.aload_n 0, 1) := by decide +kernel
theorem dX4_numberOf_42 : decode cX4_numberOf 42 = .ok (.getfield 32, 3) := by decide +kernel
theorem dX4_numberOf_45 : decode cX4_numberOf 45 = .ok (.iload 4, 2) := by decide +kernel
theorem dX4_numberOf_47 : decode cX4_numberOf 47 = .ok (.baload, 1) := by decide +kernel
theorem dX4_numberOf_48 : decode cX4_numberOf 48 = .ok (.ifCond .ne 8, 3) := by decide +kernel
theorem dX4_numberOf_51 : decode cX4_numberOf 51 = .ok (.iload 4, 2) := by decide +kernel
theorem dX4_numberOf_53 : decode cX4_numberOf 53 = .ok (.goto 4, 3) := by decide +kernel
theorem dX4_numberOf_56 : decode cX4_numberOf 56 = .ok (.iload_n 3, 1) := by decide +kernel
theorem dX4_numberOf_57 : decode cX4_numberOf 57 = .ok (.istore_n 3, 1) := by decide +kernel
theorem dX4_numberOf_58 : decode cX4_numberOf 58 = .ok (.iinc 4 1, 3) := by decide +kernel
theorem dX4_numberOf_61 : decode cX4_numberOf 61 = .ok (.goto (-56), 3) := by decide +kernel
theorem dX4_numberOf_64 : decode cX4_numberOf 64 = .ok (.iload_n 3, 1) := by decide +kernel
theorem dX4_numberOf_65 : decode cX4_numberOf 65 = .ok (.ifCond .lt 57, 3) := by decide +kernel
theorem dX4_numberOf_68 : decode cX4_numberOf 68 = .ok (.aload_n 0, 1) := by decide +kernel
theorem dX4_numberOf_69 : decode cX4_numberOf 69 = .ok (.getfield 32, 3) := by decide +kernel
theorem dX4_numberOf_72 : decode cX4_numberOf 72 = .ok (.iload_n 3, 1) := by decide +kernel
theorem dX4_numberOf_73 : decode cX4_numberOf 73 = .ok (.iconst 1, 1) := by decide +kernel
theorem dX4_numberOf_74 : decode cX4_numberOf 74 = .ok (.bastore, 1) := by decide +kernel
theorem dX4_numberOf_75 : decode cX4_numberOf 75 = .ok (.aload_n 0, 1) := by decide +kernel
theorem dX4_numberOf_76 : decode cX4_numberOf 76 = .ok (.getfield 51, 3) := by decide +kernel
theorem dX4_numberOf_79 : decode cX4_numberOf 79 = .ok (.iload_n 3, 1) := by decide +kernel
theorem dX4_numberOf_80 : decode cX4_numberOf 80 = .ok (.iload_n 2, 1) := by decide +kernel
theorem dX4_numberOf_81 : decode cX4_numberOf 81 = .ok (.iload_n 1, 1) := by decide +kernel
theorem dX4_numberOf_82 : decode cX4_numberOf 82 = .ok (.isub, 1) := by decide +kernel
theorem dX4_numberOf_83 : decode cX4_numberOf 83 = .ok (.iastore, 1) := by decide +kernel
theorem dX4_numberOf_84 : decode cX4_numberOf 84 = .ok (.iconst 0, 1) := by decide +kernel
theorem dX4_numberOf_85 : decode cX4_numberOf 85 = .ok (.istore 4, 2) := by decide +kernel
theorem dX4_numberOf_87 : decode cX4_numberOf 87 = .ok (.iload 4, 2) := by decide +kernel
theorem dX4_numberOf_89 : decode cX4_numberOf 89 = .ok (.iload_n 2, 1) := by decide +kernel
theorem dX4_numberOf_90 : decode cX4_numberOf 90 = .ok (.iload_n 1, 1) := by decide +kernel
theorem dX4_numberOf_91 : decode cX4_numberOf 91 = .ok (.isub, 1) := by decide +kernel
theorem dX4_numberOf_92 : decode cX4_numberOf 92 = .ok (.if_icmp .ge 30, 3) := by decide +kernel
theorem dX4_numberOf_95 : decode cX4_numberOf 95 = .ok (.aload_n 0, 1) := by decide +kernel
theorem dX4_numberOf_96 : decode cX4_numberOf 96 = .ok (.getfield 54, 3) := by decide +kernel
theorem dX4_numberOf_99 : decode cX4_numberOf 99 = .ok (.bipush 64, 2) := by decide +kernel
theorem dX4_numberOf_101 : decode cX4_numberOf 101 = .ok (.iload_n 3, 1) := by decide +kernel
theorem dX4_numberOf_102 : decode cX4_numberOf 102 = .ok (.imul, 1) := by decide +kernel
theorem dX4_numberOf_103 : decode cX4_numberOf 103 = .ok (.iload 4, 2) := by decide +kernel
theorem dX4_numberOf_105 : decode cX4_numberOf 105 = .ok (.iadd, 1) := by decide +kernel
theorem dX4_numberOf_106 : decode cX4_numberOf 106 = .ok (.aload_n 0, 1) := by decide +kernel
theorem dX4_numberOf_107 : decode cX4_numberOf 107 = .ok (.getfield 23, 3) := by decide +kernel
theorem dX4_numberOf_110 : decode cX4_numberOf 110 = .ok (.iload_n 1, 1) := by decide +kernel
theorem dX4_numberOf_111 : decode cX4_numberOf 111 = .ok (.iload 4, 2) := by decide +kernel
theorem dX4_numberOf_113 : decode cX4_numberOf 113 = .ok (.iadd, 1) := by decide +kernel
theorem dX4_numberOf_114 : decode cX4_numberOf 114 = .ok (.iaload, 1) := by decide +kernel
theorem dX4_numberOf_115 : decode cX4_numberOf 115 = .ok (.iastore, 1) := by decide +kernel
theorem dX4_numberOf_116 : decode cX4_numberOf 116 = .ok (.iinc 4 1, 3) := by decide +kernel
theorem dX4_numberOf_119 : decode cX4_numberOf 119 = .ok (.goto (-32), 3) := by decide +kernel
theorem dX4_numberOf_122 : decode cX4_numberOf 122 = .ok (.iload_n 3, 1) := by decide +kernel
theorem dX4_numberOf_123 : decode cX4_numberOf 123 = .ok (.ireturn, 1) := by decide +kernel
theorem dX4_give_0 : decode cX4_give 0 = .ok (.iconst 0, 1) := by decide +kernel
theorem dX4_give_1 : decode cX4_give 1 = .ok (.istore_n 1, 1) := by decide +kernel
theorem dX4_give_2 : decode cX4_give 2 = .ok (.iload_n 1, 1) := by decide +kernel
theorem dX4_give_3 : decode cX4_give 3 = .ok (.sipush 400, 3) := by decide +kernel
theorem dX4_give_6 : decode cX4_give 6 = .ok (.if_icmp .ge 16, 3) := by decide +kernel
theorem dX4_give_9 : decode cX4_give 9 = .ok (.aload_n 0, 1) := by decide +kernel
theorem dX4_give_10 : decode cX4_give 10 = .ok (.getfield 32, 3) := by decide +kernel
theorem dX4_give_13 : decode cX4_give 13 = .ok (.iload_n 1, 1) := by decide +kernel
theorem dX4_give_14 : decode cX4_give 14 = .ok (.iconst 0, 1) := by decide +kernel
theorem dX4_give_15 : decode cX4_give 15 = .ok (.bastore, 1) := by decide +kernel
theorem dX4_give_16 : decode cX4_give 16 = .ok (.iinc 1 1, 3) := by decide +kernel
theorem dX4_give_19 : decode cX4_give 19 = .ok (.goto (-17), 3) := by decide +kernel
theorem dX4_give_22 : decode cX4_give 22 = .ok (.aload_n 0, 1) := by decide +kernel
theorem dX4_give_23 : decode cX4_give 23 = .ok (.invokevirtual 89, 3) := by decide +kernel
theorem dX4_give_26 : decode cX4_give 26 = .ok (.iconst 1, 1) := by decide +kernel
theorem dX4_give_27 : decode cX4_give 27 = .ok (.istore_n 1, 1) := by decide +kernel
theorem dX4_give_28 : decode cX4_give 28 = .ok (.iconst 0, 1) := by decide +kernel
theorem dX4_give_29 : decode cX4_give 29 = .ok (.istore_n 2, 1) := by decide +kernel
theorem dX4_give_30 : decode cX4_give 30 = .ok (.iload_n 2, 1) := by decide +kernel
theorem dX4_give_31 : decode cX4_give 31 = .ok (.aload_n 0, 1) := by decide +kernel
theorem dX4_give_32 : decode cX4_give 32 = .ok (.getfield 76, 3) := by decide +kernel
theorem dX4_give_35 : decode cX4_give 35 = .ok (.if_icmp .ge 49, 3) := by decide +kernel
theorem dX4_give_38 : decode cX4_give 38 = .ok (.iload_n 1, 1) := by decide +kernel
theorem dX4_give_39 : decode cX4_give 39 = .ok (.ifCond .eq 45, 3) := by decide +kernel
theorem dX4_give_42 : decode cX4_give 42 = .ok (.aload_n 0, 1) := by decide +kernel
theorem dX4_give_43 : decode cX4_give 43 = .ok (.getfield 29, 3) := by decide +kernel
theorem dX4_give_46 : decode cX4_give 46 = .ok (.iload_n 2, 1) := by decide +kernel
theorem dX4_give_47 : decode cX4_give 47 = .ok (.aload_n 0, 1) := by decide +kernel
theorem dX4_give_48 : decode cX4_give 48 = .ok (.aload_n 0, 1) := by decide +kernel
theorem dX4_give_49 : decode cX4_give 49 = .ok (.iload_n 2, 1) := by decide +kernel
theorem dX4_give_50 : decode cX4_give 50 = .ok (.invokevirtual 92, 3) := by decide +kernel
theorem dX4_give_53 : decode cX4_give 53 = .ok (.aload_n 0, 1) := by decide +kernel
theorem dX4_give_54 : decode cX4_give 54 = .ok (.getfield 26, 3) := by decide +kernel
theorem dX4_give_57 : decode cX4_give 57 = .ok (.iload_n 2, 1) := by decide +kernel
theorem dX4_give_58 : decode cX4_give 58 = .ok (.iaload, 1) := by decide +kernel
theorem dX4_give_59 : decode cX4_give 59 = .ok (.invokevirtual 95, 3) := by decide +kernel
theorem dX4_give_62 : decode cX4_give 62 = .ok (.iastore, 1) := by decide +kernel
theorem dX4_give_63 : decode cX4_give 63 = .ok (.aload_n 0, 1) := by decide +kernel
theorem dX4_give_64 : decode cX4_give 64 = .ok (.getfield 29, 3) := by decide +kernel
theorem dX4_give_67 : decode cX4_give 67 = .ok (.iload_n 2, 1) := by decide +kernel
theorem dX4_give_68 : decode cX4_give 68 = .ok (.iaload, 1) := by decide +kernel
theorem dX4_give_69 : decode cX4_give 69 = .ok (.ifCond .lt 7, 3) := by decide +kernel
theorem dX4_give_72 : decode cX4_give 72 = .ok (.iconst 1, 1) := by decide +kernel
theorem dX4_give_73 : decode cX4_give 73 = .ok (.goto 4, 3) := by decide +kernel
theorem dX4_give_76 : decode cX4_give 76 = .ok (.iconst 0, 1) := by decide +kernel
theorem dX4_give_77 : decode cX4_give 77 = .ok (.istore_n 1, 1) := by decide +kernel
theorem dX4_give_78 : decode cX4_give 78 = .ok (.iinc 2 1, 3) := by decide +kernel
theorem dX4_give_81 : decode cX4_give 81 = .ok (.goto (-51), 3) := by decide +kernel
theorem dX4_give_84 : decode cX4_give 84 = .ok (.iconst 0, 1) := by decide +kernel
theorem dX4_give_85 : decode cX4_give 85 = .ok (.istore_n 2, 1) := by decide +kernel
theorem dX4_give_86 : decode cX4_give 86 = .ok (.iconst 0, 1) := by decide +kernel
theorem dX4_give_87 : decode cX4_give 87 = .ok (.istore_n 3, 1) := by decide +kernel
theorem dX4_give_88 : decode cX4_give 88 = .ok (.iload_n 3, 1) := by decide +kernel
theorem dX4_give_89 : decode cX4_give 89 = .ok (.sipush 400, 3) := by decide +kernel
theorem dX4_give_92 : decode cX4_give 92 = .ok (.if_icmp .ge 26, 3) := by decide +kernel
theorem dX4_give_95 : decode cX4_give 95 = .ok (.aload_n 0, 1) := by decide +kernel
theorem dX4_give_96 : decode cX4_give 96 = .ok (.getfield 32, 3) := by decide +kernel
theorem dX4_give_99 : decode cX4_give 99 = .ok (.iload_n 3, 1) := by decide +kernel
theorem dX4_give_100 : decode cX4_give 100 = .ok (.baload, 1) := by decide +kernel
theorem dX4_give_101 : decode cX4_give 101 = .ok (.ifCond .eq 9, 3) := by decide +kernel
theorem dX4_give_104 : decode cX4_give 104 = .ok (.iload_n 2, 1) := by decide +kernel
theorem dX4_give_105 : decode cX4_give 105 = .ok (.iconst 1, 1) := by decide +kernel
theorem dX4_give_106 : decode cX4_give 106 = .ok (.iadd, 1) := by decide +kernel
theorem dX4_give_107 : decode cX4_give 107 = .ok (.goto 4, 3) := by decide +kernel
theorem dX4_give_110 : decode cX4_give 110 = .ok (.iload_n 2, 1) := by decide +kernel
theorem dX4_give_111 : decode cX4_give 111 = .ok (.istore_n 2, 1) := by decide +kernel
theorem dX4_give_112 : decode cX4_give 112 = .ok (.iinc 3 1, 3) := by decide +kernel
theorem dX4_give_115 : decode cX4_give 115 = .ok (.goto (-27), 3) := by decide +kernel
theorem dX4_give_118 : decode cX4_give 118 = .ok (.iload_n 1, 1) := by decide +kernel
theorem dX4_give_119 : decode cX4_give 119 = .ok (.ifCond .eq 7, 3) := by decide +kernel
theorem dX4_give_122 : decode cX4_give 122 = .ok (.iload_n 2, 1) := by decide +kernel
theorem dX4_give_123 : decode cX4_give 123 = .ok (.goto 4, 3) := by decide +kernel
theorem dX4_give_126 : decode cX4_give 126 = .ok (.iconst (-1), 1) := by decide +kernel
theorem dX4_give_127 : decode cX4_give 127 = .ok (.ireturn, 1) := by decide +kernel
theorem dX4_take_0 : decode cX4_take 0 = .ok (.iconst 0, 1) := by decide +kernel
theorem dX4_take_1 : decode cX4_take 1 = .ok (.istore_n 2, 1) := by decide +kernel
theorem dX4_take_2 : decode cX4_take 2 = .ok (.iload_n 2, 1) := by decide +kernel
theorem dX4_take_3 : decode cX4_take 3 = .ok (.aload_n 0, 1) := by decide +kernel
theorem dX4_take_4 : decode cX4_take 4 = .ok (.getfield 76, 3) := by decide +kernel
theorem dX4_take_7 : decode cX4_take 7 = .ok (.if_icmp .ge 24, 3) := by decide +kernel
theorem dX4_take_10 : decode cX4_take 10 = .ok (.aload_n 0, 1) := by decide +kernel
theorem dX4_take_11 : decode cX4_take 11 = .ok (.getfield 48, 3) := by decide +kernel
theorem dX4_take_14 : decode cX4_take 14 = .ok (.aload_n 0, 1) := by decide +kernel
theorem dX4_take_15 : decode cX4_take 15 = .ok (.getfield 29, 3) := by decide +kernel
theorem dX4_take_18 : decode cX4_take 18 = .ok (.iload_n 2, 1) := by decide +kernel
theorem dX4_take_19 : decode cX4_take 19 = .ok (.iaload, 1) := by decide +kernel
theorem dX4_take_20 : decode cX4_take 20 = .ok (.dup2, 1) := by decide +kernel
theorem dX4_take_21 : decode cX4_take 21 = .ok (.iaload, 1) := by decide +kernel
theorem dX4_take_22 : decode cX4_take 22 = .ok (.iconst 1, 1) := by decide +kernel
theorem dX4_take_23 : decode cX4_take 23 = .ok (.iadd, 1) := by decide +kernel
theorem dX4_take_24 : decode cX4_take 24 = .ok (.iastore, 1) := by decide +kernel
theorem dX4_take_25 : decode cX4_take 25 = .ok (.iinc 2 1, 3) := by decide +kernel
theorem dX4_take_28 : decode cX4_take 28 = .ok (.goto (-26), 3) := by decide +kernel
theorem dX4_take_31 : decode cX4_take 31 = .ok (.iconst 0, 1) := by decide +kernel
theorem dX4_take_32 : decode cX4_take 32 = .ok (.istore_n 2, 1) := by decide +kernel
theorem dX4_take_33 : decode cX4_take 33 = .ok (.iload_n 2, 1) := by decide +kernel
theorem dX4_take_34 : decode cX4_take 34 = .ok (.aload_n 0, 1) := by decide +kernel
theorem dX4_take_35 : decode cX4_take 35 = .ok (.getfield 42, 3) := by decide +kernel
theorem dX4_take_38 : decode cX4_take 38 = .ok (.iload_n 1, 1) := by decide +kernel
theorem dX4_take_39 : decode cX4_take 39 = .ok (.iaload, 1) := by decide +kernel
theorem dX4_take_40 : decode cX4_take 40 = .ok (.if_icmp .ge 30, 3) := by decide +kernel
theorem dX4_take_43 : decode cX4_take 43 = .ok (.aload_n 0, 1) := by decide +kernel
theorem dX4_take_44 : decode cX4_take 44 = .ok (.getfield 48, 3) := by decide +kernel
theorem dX4_take_47 : decode cX4_take 47 = .ok (.aload_n 0, 1) := by decide +kernel
theorem dX4_take_48 : decode cX4_take 48 = .ok (.getfield 45, 3) := by decide +kernel
theorem dX4_take_51 : decode cX4_take 51 = .ok (.sipush 1500, 3) := by decide +kernel
theorem dX4_take_54 : decode cX4_take 54 = .ok (.iload_n 1, 1) := by decide +kernel
theorem dX4_take_55 : decode cX4_take 55 = .ok (.imul, 1) := by decide +kernel
theorem dX4_take_56 : decode cX4_take 56 = .ok (.iload_n 2, 1) := by decide +kernel
theorem dX4_take_57 : decode cX4_take 57 = .ok (.iadd, 1) := by decide +kernel
theorem dX4_take_58 : decode cX4_take 58 = .ok (.iaload, 1) := by decide +kernel
theorem dX4_take_59 : decode cX4_take 59 = .ok (.dup2, 1) := by decide +kernel
theorem dX4_take_60 : decode cX4_take 60 = .ok (.iaload, 1) := by decide +kernel
theorem dX4_take_61 : decode cX4_take 61 = .ok (.iconst 1, 1) := by decide +kernel
theorem dX4_take_62 : decode cX4_take 62 = .ok (.isub, 1) := by decide +kernel
theorem dX4_take_63 : decode cX4_take 63 = .ok (.iastore, 1) := by decide +kernel
theorem dX4_take_64 : decode cX4_take 64 = .ok (.iinc 2 1, 3) := by decide +kernel
theorem dX4_take_67 : decode cX4_take 67 = .ok (.goto (-34), 3) := by decide +kernel
theorem dX4_take_70 : decode cX4_take 70 = .ok (.aload_n 0, 1) := by decide +kernel
theorem dX4_take_71 : decode cX4_take 71 = .ok (.getfield 36, 3) := by decide +kernel
theorem dX4_take_74 : decode cX4_take 74 = .ok (.iload_n 1, 1) := by decide +kernel
theorem dX4_take_75 : decode cX4_take 75 = .ok (.aload_n 0, 1) := by decide +kernel
theorem dX4_take_76 : decode cX4_take 76 = .ok (.getfield 79, 3) := by decide +kernel
theorem dX4_take_79 : decode cX4_take 79 = .ok (.iastore, 1) := by decide +kernel
theorem dX4_take_80 : decode cX4_take 80 = .ok (.aload_n 0, 1) := by decide +kernel
theorem dX4_take_81 : decode cX4_take 81 = .ok (.getfield 42, 3) := by decide +kernel
theorem dX4_take_84 : decode cX4_take 84 = .ok (.iload_n 1, 1) := by decide +kernel
theorem dX4_take_85 : decode cX4_take 85 = .ok (.aload_n 0, 1) := by decide +kernel
theorem dX4_take_86 : decode cX4_take 86 = .ok (.getfield 76, 3) := by decide +kernel
theorem dX4_take_89 : decode cX4_take 89 = .ok (.iastore, 1) := by decide +kernel
theorem dX4_take_90 : decode cX4_take 90 = .ok (.iconst 0, 1) := by decide +kernel
theorem dX4_take_91 : decode cX4_take 91 = .ok (.istore_n 2, 1) := by decide +kernel
theorem dX4_take_92 : decode cX4_take 92 = .ok (.iload_n 2, 1) := by decide +kernel
theorem dX4_take_93 : decode cX4_take 93 = .ok (.aload_n 0, 1) := by decide +kernel
theorem dX4_take_94 : decode cX4_take 94 = .ok (.getfield 79, 3) := by decide +kernel
theorem dX4_take_97 : decode cX4_take 97 = .ok (.if_icmp .ge 27, 3) := by decide +kernel
theorem dX4_take_100 : decode cX4_take 100 = .ok (.aload_n 0, 1) := by decide +kernel
theorem dX4_take_101 : decode cX4_take 101 = .ok (.getfield 39, 3) := by decide +kernel
theorem dX4_take_104 : decode cX4_take 104 = .ok (.sipush 1500, 3) := by decide +kernel
theorem dX4_take_107 : decode cX4_take 107 = .ok (.iload_n 1, 1) := by decide +kernel
theorem dX4_take_108 : decode cX4_take 108 = .ok (.imul, 1) := by decide +kernel
theorem dX4_take_109 : decode cX4_take 109 = .ok (.iload_n 2, 1) := by decide +kernel
theorem dX4_take_110 : decode cX4_take 110 = .ok (.iadd, 1) := by decide +kernel
theorem dX4_take_111 : decode cX4_take 111 = .ok (.aload_n 0, 1) := by decide +kernel
theorem dX4_take_112 : decode cX4_take 112 = .ok (.getfield 23, 3) := by decide +kernel
theorem dX4_take_115 : decode cX4_take 115 = .ok (.iload_n 2, 1) := by decide +kernel
theorem dX4_take_116 : decode cX4_take 116 = .ok (.iaload, 1) := by decide +kernel
theorem dX4_take_117 : decode cX4_take 117 = .ok (.iastore, 1) := by decide +kernel
theorem dX4_take_118 : decode cX4_take 118 = .ok (.iinc 2 1, 3) := by decide +kernel
theorem dX4_take_121 : decode cX4_take 121 = .ok (.goto (-29), 3) := by decide +kernel
theorem dX4_take_124 : decode cX4_take 124 = .ok (.iconst 0, 1) := by decide +kernel
theorem dX4_take_125 : decode cX4_take 125 = .ok (.istore_n 2, 1) := by decide +kernel
theorem dX4_take_126 : decode cX4_take 126 = .ok (.iload_n 2, 1) := by decide +kernel
theorem dX4_take_127 : decode cX4_take 127 = .ok (.aload_n 0, 1) := by decide +kernel
theorem dX4_take_128 : decode cX4_take 128 = .ok (.getfield 76, 3) := by decide +kernel
theorem dX4_take_131 : decode cX4_take 131 = .ok (.if_icmp .ge 27, 3) := by decide +kernel
theorem dX4_take_134 : decode cX4_take 134 = .ok (.aload_n 0, 1) := by decide +kernel
theorem dX4_take_135 : decode cX4_take 135 = .ok (.getfield 45, 3) := by decide +kernel
theorem dX4_take_138 : decode cX4_take 138 = .ok (.sipush 1500, 3) := by decide +kernel
theorem dX4_take_141 : decode cX4_take 141 = .ok (.iload_n 1, 1) := by decide +kernel
theorem dX4_take_142 : decode cX4_take 142 = .ok (.imul, 1) := by decide +kernel
theorem dX4_take_143 : decode cX4_take 143 = .ok (.iload_n 2, 1) := by decide +kernel
theorem dX4_take_144 : decode cX4_take 144 = .ok (.iadd, 1) := by decide +kernel
theorem dX4_take_145 : decode cX4_take 145 = .ok (.aload_n 0, 1) := by decide +kernel
theorem dX4_take_146 : decode cX4_take 146 = .ok (.getfield 29, 3) := by decide +kernel
theorem dX4_take_149 : decode cX4_take 149 = .ok (.iload_n 2, 1) := by decide +kernel
theorem dX4_take_150 : decode cX4_take 150 = .ok (.iaload, 1) := by decide +kernel
theorem dX4_take_151 : decode cX4_take 151 = .ok (.iastore, 1) := by decide +kernel
theorem dX4_take_152 : decode cX4_take 152 = .ok (.iinc 2 1, 3) := by decide +kernel
theorem dX4_take_155 : decode cX4_take 155 = .ok (.goto (-29), 3) := by decide +kernel
theorem dX4_take_158 : decode cX4_take 158 = .ok (.return_, 1) := by decide +kernel
theorem dX4_store_0 : decode cX4_store 0 = .ok (.aload_n 0, 1) := by decide +kernel
theorem dX4_store_1 : decode cX4_store 1 = .ok (.iload_n 1, 1) := by decide +kernel
theorem dX4_store_2 : decode cX4_store 2 = .ok (.invokestatic 98, 3) := by decide +kernel
theorem dX4_store_5 : decode cX4_store 5 = .ok (.ifCond .ne 7, 3) := by decide +kernel
theorem dX4_store_8 : decode cX4_store 8 = .ok (.iconst 1, 1) := by decide +kernel
theorem dX4_store_9 : decode cX4_store 9 = .ok (.goto 4, 3) := by decide +kernel
theorem dX4_store_12 : decode cX4_store 12 = .ok (.iconst 0, 1) := by decide +kernel
theorem dX4_store_13 : decode cX4_store 13 = .ok (.iconst 0, 1) := by decide +kernel
theorem dX4_store_14 : decode cX4_store 14 = .ok (.iconst 0, 1) := by decide +kernel
theorem dX4_store_15 : decode cX4_store 15 = .ok (.invokevirtual 64, 3) := by decide +kernel
theorem dX4_store_18 : decode cX4_store 18 = .ok (.ifCond .eq 5, 3) := by decide +kernel
theorem dX4_store_21 : decode cX4_store 21 = .ok (.iconst 0, 1) := by decide +kernel
theorem dX4_store_22 : decode cX4_store 22 = .ok (.ireturn, 1) := by decide +kernel
theorem dX4_store_23 : decode cX4_store 23 = .ok (.aload_n 0, 1) := by decide +kernel
theorem dX4_store_24 : decode cX4_store 24 = .ok (.aload_n 0, 1) := by decide +kernel
theorem dX4_store_25 : decode cX4_store 25 = .ok (.getfield 68, 3) := by decide +kernel
theorem dX4_store_28 : decode cX4_store 28 = .ok (.putfield 79, 3) := by decide +kernel
theorem dX4_store_31 : decode cX4_store 31 = .ok (.iconst 0, 1) := by decide +kernel
theorem dX4_store_32 : decode cX4_store 32 = .ok (.istore_n 2, 1) := by decide +kernel
theorem dX4_store_33 : decode cX4_store 33 = .ok (.iload_n 2, 1) := by decide +kernel
theorem dX4_store_34 : decode cX4_store 34 = .ok (.aload_n 0, 1) := by decide +kernel
theorem dX4_store_35 : decode cX4_store 35 = .ok (.getfield 79, 3) := by decide +kernel
theorem dX4_store_38 : decode cX4_store 38 = .ok (.if_icmp .ge 21, 3) := by decide +kernel
theorem dX4_store_41 : decode cX4_store 41 = .ok (.aload_n 0, 1) := by decide +kernel
theorem dX4_store_42 : decode cX4_store 42 = .ok (.getfield 23, 3) := by decide +kernel
theorem dX4_store_45 : decode cX4_store 45 = .ok (.iload_n 2, 1) := by decide +kernel
theorem dX4_store_46 : decode cX4_store 46 = .ok (.aload_n 0, 1) := by decide +kernel
theorem dX4_store_47 : decode cX4_store 47 = .ok (.getfield 19, 3) := by decide +kernel
theorem dX4_store_50 : decode cX4_store 50 = .ok (.iload_n 2, 1) := by decide +kernel
theorem dX4_store_51 : decode cX4_store 51 = .ok (.iaload, 1) := by decide +kernel
theorem dX4_store_52 : decode cX4_store 52 = .ok (.iastore, 1) := by decide +kernel
theorem dX4_store_53 : decode cX4_store 53 = .ok (.iinc 2 1, 3) := by decide +kernel
theorem dX4_store_56 : decode cX4_store 56 = .ok (.goto (-23), 3) := by decide +kernel
theorem dX4_store_59 : decode cX4_store 59 = .ok (.aload_n 0, 1) := by decide +kernel
theorem dX4_store_60 : decode cX4_store 60 = .ok (.invokevirtual 102, 3) := by decide +kernel
theorem dX4_store_63 : decode cX4_store 63 = .ok (.istore_n 2, 1) := by decide +kernel
theorem dX4_store_64 : decode cX4_store 64 = .ok (.aload_n 0, 1) := by decide +kernel
theorem dX4_store_65 : decode cX4_store 65 = .ok (.iconst 0, 1) := by decide +kernel
theorem dX4_store_66 : decode cX4_store 66 = .ok (.iload_n 2, 1) := by decide +kernel
theorem dX4_store_67 : decode cX4_store 67 = .ok (.ifCond .ge 7, 3) := by decide +kernel
theorem dX4_store_70 : decode cX4_store 70 = .ok (.iconst 1, 1) := by decide +kernel
theorem dX4_store_71 : decode cX4_store 71 = .ok (.goto 4, 3) := by decide +kernel
theorem dX4_store_74 : decode cX4_store 74 = .ok (.iconst 0, 1) := by decide +kernel
theorem dX4_store_75 : decode cX4_store 75 = .ok (.iconst 0, 1) := by decide +kernel
theorem dX4_store_76 : decode cX4_store 76 = .ok (.invokevirtual 64, 3) := by decide +kernel
theorem dX4_store_79 : decode cX4_store 79 = .ok (.ifCond .eq 5, 3) := by decide +kernel
theorem dX4_store_82 : decode cX4_store 82 = .ok (.iconst 0, 1) := by decide +kernel
theorem dX4_store_83 : decode cX4_store 83 = .ok (.ireturn, 1) := by decide +kernel
theorem dX4_store_84 : decode cX4_store 84 = .ok (.aload_n 0, 1) := by decide +kernel
theorem dX4_store_85 : decode cX4_store 85 = .ok (.iload_n 1, 1) := by decide +kernel
theorem dX4_store_86 : decode cX4_store 86 = .ok (.invokevirtual 106, 3) := by decide +kernel
theorem dX4_store_89 : decode cX4_store 89 = .ok (.aload_n 0, 1) := by decide +kernel
theorem dX4_store_90 : decode cX4_store 90 = .ok (.iconst 0, 1) := by decide +kernel
theorem dX4_store_91 : decode cX4_store 91 = .ok (.putfield 68, 3) := by decide +kernel
theorem dX4_store_94 : decode cX4_store 94 = .ok (.iload_n 2, 1) := by decide +kernel
theorem dX4_store_95 : decode cX4_store 95 = .ok (.ireturn, 1) := by decide +kernel
theorem dX4_edit_0 : decode cX4_edit 0 = .ok (.iload_n 1, 1) := by decide +kernel
theorem dX4_edit_1 : decode cX4_edit 1 = .ok (.invokestatic 98, 3) := by decide +kernel
theorem dX4_edit_4 : decode cX4_edit 4 = .ok (.istore 4, 2) := by decide +kernel
theorem dX4_edit_6 : decode cX4_edit 6 = .ok (.iload 4, 2) := by decide +kernel
theorem dX4_edit_8 : decode cX4_edit 8 = .ok (.ifCond .eq 12, 3) := by decide +kernel
theorem dX4_edit_11 : decode cX4_edit 11 = .ok (.aload_n 0, 1) := by decide +kernel
theorem dX4_edit_12 : decode cX4_edit 12 = .ok (.getfield 36, 3) := by decide +kernel
theorem dX4_edit_15 : decode cX4_edit 15 = .ok (.iload_n 1, 1) := by decide +kernel
theorem dX4_edit_16 : decode cX4_edit 16 = .ok (.iaload, 1) := by decide +kernel
theorem dX4_edit_17 : decode cX4_edit 17 = .ok (.goto 4, 3) := by decide +kernel
theorem dX4_edit_20 : decode cX4_edit 20 = .ok (.iconst 0, 1) := by decide +kernel
theorem dX4_edit_21 : decode cX4_edit 21 = .ok (.istore 5, 2) := by decide +kernel
theorem dX4_edit_23 : decode cX4_edit 23 = .ok (.iload 4, 2) := by decide +kernel
theorem dX4_edit_25 : decode cX4_edit 25 = .ok (.ifCond .eq 29, 3) := by decide +kernel
theorem dX4_edit_28 : decode cX4_edit 28 = .ok (.iload_n 2, 1) := by decide +kernel
theorem dX4_edit_29 : decode cX4_edit 29 = .ok (.iconst 0, 1) := by decide +kernel
theorem dX4_edit_30 : decode cX4_edit 30 = .ok (.iload 5, 2) := by decide +kernel
theorem dX4_edit_32 : decode cX4_edit 32 = .ok (.invokestatic 60, 3) := by decide +kernel
theorem dX4_edit_35 : decode cX4_edit 35 = .ok (.ifCond .eq 19, 3) := by decide +kernel
theorem dX4_edit_38 : decode cX4_edit 38 = .ok (.iload_n 3, 1) := by decide +kernel
theorem dX4_edit_39 : decode cX4_edit 39 = .ok (.iconst 0, 1) := by decide +kernel
theorem dX4_edit_40 : decode cX4_edit 40 = .ok (.iload 5, 2) := by decide +kernel
theorem dX4_edit_42 : decode cX4_edit 42 = .ok (.iload_n 2, 1) := by decide +kernel
theorem dX4_edit_43 : decode cX4_edit 43 = .ok (.isub, 1) := by decide +kernel
theorem dX4_edit_44 : decode cX4_edit 44 = .ok (.invokestatic 60, 3) := by decide +kernel
theorem dX4_edit_47 : decode cX4_edit 47 = .ok (.ifCond .eq 7, 3) := by decide +kernel
theorem dX4_edit_50 : decode cX4_edit 50 = .ok (.iconst 1, 1) := by decide +kernel
theorem dX4_edit_51 : decode cX4_edit 51 = .ok (.goto 4, 3) := by decide +kernel
theorem dX4_edit_54 : decode cX4_edit 54 = .ok (.iconst 0, 1) := by decide +kernel
theorem dX4_edit_55 : decode cX4_edit 55 = .ok (.istore 6, 2) := by decide +kernel
theorem dX4_edit_57 : decode cX4_edit 57 = .ok (.aload_n 0, 1) := by decide +kernel
theorem dX4_edit_58 : decode cX4_edit 58 = .ok (.iload 4, 2) := by decide +kernel
theorem dX4_edit_60 : decode cX4_edit 60 = .ok (.ifCond .ne 7, 3) := by decide +kernel
theorem dX4_edit_63 : decode cX4_edit 63 = .ok (.iconst 1, 1) := by decide +kernel
theorem dX4_edit_64 : decode cX4_edit 64 = .ok (.goto 4, 3) := by decide +kernel
theorem dX4_edit_67 : decode cX4_edit 67 = .ok (.iconst 0, 1) := by decide +kernel
theorem dX4_edit_68 : decode cX4_edit 68 = .ok (.iload 4, 2) := by decide +kernel
theorem dX4_edit_70 : decode cX4_edit 70 = .ok (.ifCond .eq 12, 3) := by decide +kernel
theorem dX4_edit_73 : decode cX4_edit 73 = .ok (.iload 6, 2) := by decide +kernel
theorem dX4_edit_75 : decode cX4_edit 75 = .ok (.ifCond .ne 7, 3) := by decide +kernel
theorem dX4_edit_78 : decode cX4_edit 78 = .ok (.iconst 1, 1) := by decide +kernel
theorem dX4_edit_79 : decode cX4_edit 79 = .ok (.goto 4, 3) := by decide +kernel
theorem dX4_edit_82 : decode cX4_edit 82 = .ok (.iconst 0, 1) := by decide +kernel
theorem dX4_edit_83 : decode cX4_edit 83 = .ok (.iload 6, 2) := by decide +kernel
theorem dX4_edit_85 : decode cX4_edit 85 = .ok (.ifCond .eq 22, 3) := by decide +kernel
theorem dX4_edit_88 : decode cX4_edit 88 = .ok (.iload 5, 2) := by decide +kernel
theorem dX4_edit_90 : decode cX4_edit 90 = .ok (.iload_n 3, 1) := by decide +kernel
theorem dX4_edit_91 : decode cX4_edit 91 = .ok (.isub, 1) := by decide +kernel
theorem dX4_edit_92 : decode cX4_edit 92 = .ok (.aload_n 0, 1) := by decide +kernel
theorem dX4_edit_93 : decode cX4_edit 93 = .ok (.getfield 68, 3) := by decide +kernel
theorem dX4_edit_96 : decode cX4_edit 96 = .ok (.iadd, 1) := by decide +kernel
theorem dX4_edit_97 : decode cX4_edit 97 = .ok (.sipush 1500, 3) := by decide +kernel
theorem dX4_edit_100 : decode cX4_edit 100 = .ok (.if_icmp .le 7, 3) := by decide +kernel
theorem dX4_edit_103 : decode cX4_edit 103 = .ok (.iconst 1, 1) := by decide +kernel
theorem dX4_edit_104 : decode cX4_edit 104 = .ok (.goto 4, 3) := by decide +kernel
theorem dX4_edit_107 : decode cX4_edit 107 = .ok (.iconst 0, 1) := by decide +kernel
theorem dX4_edit_108 : decode cX4_edit 108 = .ok (.invokevirtual 64, 3) := by decide +kernel
theorem dX4_edit_111 : decode cX4_edit 111 = .ok (.ifCond .eq 5, 3) := by decide +kernel
theorem dX4_edit_114 : decode cX4_edit 114 = .ok (.iconst 0, 1) := by decide +kernel
theorem dX4_edit_115 : decode cX4_edit 115 = .ok (.ireturn, 1) := by decide +kernel
theorem dX4_edit_116 : decode cX4_edit 116 = .ok (.aload_n 0, 1) := by decide +kernel
theorem dX4_edit_117 : decode cX4_edit 117 = .ok (.iconst 0, 1) := by decide +kernel
theorem dX4_edit_118 : decode cX4_edit 118 = .ok (.putfield 79, 3) := by decide +kernel
theorem dX4_edit_121 : decode cX4_edit 121 = .ok (.iconst 0, 1) := by decide +kernel
theorem dX4_edit_122 : decode cX4_edit 122 = .ok (.istore 7, 2) := by decide +kernel
theorem dX4_edit_124 : decode cX4_edit 124 = .ok (.iload 7, 2) := by decide +kernel
theorem dX4_edit_126 : decode cX4_edit 126 = .ok (.iload_n 2, 1) := by decide +kernel
theorem dX4_edit_127 : decode cX4_edit 127 = .ok (.if_icmp .ge 41, 3) := by decide +kernel
theorem dX4_edit_130 : decode cX4_edit 130 = .ok (.aload_n 0, 1) := by decide +kernel
theorem dX4_edit_131 : decode cX4_edit 131 = .ok (.getfield 23, 3) := by decide +kernel
theorem dX4_edit_134 : decode cX4_edit 134 = .ok (.aload_n 0, 1) := by decide +kernel
theorem dX4_edit_135 : decode cX4_edit 135 = .ok (.getfield 79, 3) := by decide +kernel
theorem dX4_edit_138 : decode cX4_edit 138 = .ok (.aload_n 0, 1) := by decide +kernel
theorem dX4_edit_139 : decode cX4_edit 139 = .ok (.getfield 39, 3) := by decide +kernel
theorem dX4_edit_142 : decode cX4_edit 142 = .ok (.sipush 1500, 3) := by decide +kernel
theorem dX4_edit_145 : decode cX4_edit 145 = .ok (.iload_n 1, 1) := by decide +kernel
theorem dX4_edit_146 : decode cX4_edit 146 = .ok (.imul, 1) := by decide +kernel
theorem dX4_edit_147 : decode cX4_edit 147 = .ok (.iload 7, 2) := by decide +kernel
theorem dX4_edit_149 : decode cX4_edit 149 = .ok (.iadd, 1) := by decide +kernel
theorem dX4_edit_150 : decode cX4_edit 150 = .ok (.iaload, 1) := by decide +kernel
theorem dX4_edit_151 : decode cX4_edit 151 = .ok (.iastore, 1) := by decide +kernel
theorem dX4_edit_152 : decode cX4_edit 152 = .ok (.aload_n 0, 1) := by decide +kernel
theorem dX4_edit_153 : decode cX4_edit 153 = .ok (.dup, 1) := by decide +kernel
theorem dX4_edit_154 : decode cX4_edit 154 = .ok (.getfield 79, 3) := by decide +kernel
theorem dX4_edit_157 : decode cX4_edit 157 = .ok (.iconst 1, 1) := by decide +kernel
theorem dX4_edit_158 : decode cX4_edit 158 = .ok (.iadd, 1) := by decide +kernel
theorem dX4_edit_159 : decode cX4_edit 159 = .ok (.putfield 79, 3) := by decide +kernel
theorem dX4_edit_162 : decode cX4_edit 162 = .ok (.iinc 7 1, 3) := by decide +kernel
theorem dX4_edit_165 : decode cX4_edit 165 = .ok (.goto (-41), 3) := by decide +kernel
theorem dX4_edit_168 : decode cX4_edit 168 = .ok (.iconst 0, 1) := by decide +kernel
theorem dX4_edit_169 : decode cX4_edit 169 = .ok (.istore 7, 2) := by decide +kernel
theorem dX4_edit_171 : decode cX4_edit 171 = .ok (.iload 7, 2) := by decide +kernel
theorem dX4_edit_173 : decode cX4_edit 173 = .ok (.aload_n 0, 1) := by decide +kernel
theorem dX4_edit_174 : decode cX4_edit 174 = .ok (.getfield 68, 3) := by decide +kernel
theorem dX4_edit_177 : decode cX4_edit 177 = .ok (.if_icmp .ge 35, 3) := by decide +kernel
theorem dX4_edit_180 : decode cX4_edit 180 = .ok (.aload_n 0, 1) := by decide +kernel
theorem dX4_edit_181 : decode cX4_edit 181 = .ok (.getfield 23, 3) := by decide +kernel
theorem dX4_edit_184 : decode cX4_edit 184 = .ok (.aload_n 0, 1) := by decide +kernel
theorem dX4_edit_185 : decode cX4_edit 185 = .ok (.getfield 79, 3) := by decide +kernel
theorem dX4_edit_188 : decode cX4_edit 188 = .ok (.aload_n 0, 1) := by decide +kernel
theorem dX4_edit_189 : decode cX4_edit 189 = .ok (.getfield 19, 3) := by decide +kernel
theorem dX4_edit_192 : decode cX4_edit 192 = .ok (.iload 7, 2) := by decide +kernel
theorem dX4_edit_194 : decode cX4_edit 194 = .ok (.iaload, 1) := by decide +kernel
theorem dX4_edit_195 : decode cX4_edit 195 = .ok (.iastore, 1) := by decide +kernel
theorem dX4_edit_196 : decode cX4_edit 196 = .ok (.aload_n 0, 1) := by decide +kernel
theorem dX4_edit_197 : decode cX4_edit 197 = .ok (.dup, 1) := by decide +kernel
theorem dX4_edit_198 : decode cX4_edit 198 = .ok (.getfield 79, 3) := by decide +kernel
theorem dX4_edit_201 : decode cX4_edit 201 = .ok (.iconst 1, 1) := by decide +kernel
theorem dX4_edit_202 : decode cX4_edit 202 = .ok (.iadd, 1) := by decide +kernel
theorem dX4_edit_203 : decode cX4_edit 203 = .ok (.putfield 79, 3) := by decide +kernel
theorem dX4_edit_206 : decode cX4_edit 206 = .ok (.iinc 7 1, 3) := by decide +kernel
theorem dX4_edit_209 : decode cX4_edit 209 = .ok (.goto (-38), 3) := by decide +kernel
theorem dX4_edit_212 : decode cX4_edit 212 = .ok (.iload_n 2, 1) := by decide +kernel
theorem dX4_edit_213 : decode cX4_edit 213 = .ok (.iload_n 3, 1) := by decide +kernel
theorem dX4_edit_214 : decode cX4_edit 214 = .ok (.iadd, 1) := by decide +kernel
theorem dX4_edit_215 : decode cX4_edit 215 = .ok (.istore 7, 2) := by decide +kernel
theorem dX4_edit_217 : decode cX4_edit 217 = .ok (.iload 7, 2) := by decide +kernel
theorem dX4_edit_219 : decode cX4_edit 219 = .ok (.iload 5, 2) := by decide +kernel
theorem dX4_edit_221 : decode cX4_edit 221 = .ok (.if_icmp .ge 41, 3) := by decide +kernel
theorem dX4_edit_224 : decode cX4_edit 224 = .ok (.aload_n 0, 1) := by decide +kernel
theorem dX4_edit_225 : decode cX4_edit 225 = .ok (.getfield 23, 3) := by decide +kernel
theorem dX4_edit_228 : decode cX4_edit 228 = .ok (.aload_n 0, 1) := by decide +kernel
theorem dX4_edit_229 : decode cX4_edit 229 = .ok (.getfield 79, 3) := by decide +kernel
theorem dX4_edit_232 : decode cX4_edit 232 = .ok (.aload_n 0, 1) := by decide +kernel
theorem dX4_edit_233 : decode cX4_edit 233 = .ok (.getfield 39, 3) := by decide +kernel
theorem dX4_edit_236 : decode cX4_edit 236 = .ok (.sipush 1500, 3) := by decide +kernel
theorem dX4_edit_239 : decode cX4_edit 239 = .ok (.iload_n 1, 1) := by decide +kernel
theorem dX4_edit_240 : decode cX4_edit 240 = .ok (.imul, 1) := by decide +kernel
theorem dX4_edit_241 : decode cX4_edit 241 = .ok (.iload 7, 2) := by decide +kernel
theorem dX4_edit_243 : decode cX4_edit 243 = .ok (.iadd, 1) := by decide +kernel
theorem dX4_edit_244 : decode cX4_edit 244 = .ok (.iaload, 1) := by decide +kernel
theorem dX4_edit_245 : decode cX4_edit 245 = .ok (.iastore, 1) := by decide +kernel
theorem dX4_edit_246 : decode cX4_edit 246 = .ok (.aload_n 0, 1) := by decide +kernel
theorem dX4_edit_247 : decode cX4_edit 247 = .ok (.dup, 1) := by decide +kernel
theorem dX4_edit_248 : decode cX4_edit 248 = .ok (.getfield 79, 3) := by decide +kernel
theorem dX4_edit_251 : decode cX4_edit 251 = .ok (.iconst 1, 1) := by decide +kernel
theorem dX4_edit_252 : decode cX4_edit 252 = .ok (.iadd, 1) := by decide +kernel
theorem dX4_edit_253 : decode cX4_edit 253 = .ok (.putfield 79, 3) := by decide +kernel
theorem dX4_edit_256 : decode cX4_edit 256 = .ok (.iinc 7 1, 3) := by decide +kernel
theorem dX4_edit_259 : decode cX4_edit 259 = .ok (.goto (-42), 3) := by decide +kernel
theorem dX4_edit_262 : decode cX4_edit 262 = .ok (.aload_n 0, 1) := by decide +kernel
theorem dX4_edit_263 : decode cX4_edit 263 = .ok (.invokevirtual 102, 3) := by decide +kernel
theorem dX4_edit_266 : decode cX4_edit 266 = .ok (.istore 7, 2) := by decide +kernel
theorem dX4_edit_268 : decode cX4_edit 268 = .ok (.aload_n 0, 1) := by decide +kernel
theorem dX4_edit_269 : decode cX4_edit 269 = .ok (.iconst 0, 1) := by decide +kernel
theorem dX4_edit_270 : decode cX4_edit 270 = .ok (.iconst 0, 1) := by decide +kernel
theorem dX4_edit_271 : decode cX4_edit 271 = .ok (.iload 7, 2) := by decide +kernel
theorem dX4_edit_273 : decode cX4_edit 273 = .ok (.ifCond .ge 7, 3) := by decide +kernel
theorem dX4_edit_276 : decode cX4_edit 276 = .ok (.iconst 1, 1) := by decide +kernel
theorem dX4_edit_277 : decode cX4_edit 277 = .ok (.goto 4, 3) := by decide +kernel
theorem dX4_edit_280 : decode cX4_edit 280 = .ok (.iconst 0, 1) := by decide +kernel
theorem dX4_edit_281 : decode cX4_edit 281 = .ok (.invokevirtual 64, 3) := by decide +kernel
theorem dX4_edit_284 : decode cX4_edit 284 = .ok (.ifCond .eq 5, 3) := by decide +kernel
theorem dX4_edit_287 : decode cX4_edit 287 = .ok (.iconst 0, 1) := by decide +kernel
theorem dX4_edit_288 : decode cX4_edit 288 = .ok (.ireturn, 1) := by decide +kernel
theorem dX4_edit_289 : decode cX4_edit 289 = .ok (.aload_n 0, 1) := by decide +kernel
theorem dX4_edit_290 : decode cX4_edit 290 = .ok (.iload_n 1, 1) := by decide +kernel
theorem dX4_edit_291 : decode cX4_edit 291 = .ok (.invokevirtual 106, 3) := by decide +kernel
theorem dX4_edit_294 : decode cX4_edit 294 = .ok (.aload_n 0, 1) := by decide +kernel
theorem dX4_edit_295 : decode cX4_edit 295 = .ok (.iconst 0, 1) := by decide +kernel
theorem dX4_edit_296 : decode cX4_edit 296 = .ok (.putfield 68, 3) := by decide +kernel
theorem dX4_edit_299 : decode cX4_edit 299 = .ok (.iload 7, 2) := by decide +kernel
theorem dX4_edit_301 : decode cX4_edit 301 = .ok (.ireturn, 1) := by decide +kernel
theorem dX4_copy_0 : decode cX4_copy 0 = .ok (.aload_n 0, 1) := by decide +kernel
theorem dX4_copy_1 : decode cX4_copy 1 = .ok (.iload_n 1, 1) := by decide +kernel
theorem dX4_copy_2 : decode cX4_copy 2 = .ok (.invokestatic 98, 3) := by decide +kernel
theorem dX4_copy_5 : decode cX4_copy 5 = .ok (.ifCond .eq 10, 3) := by decide +kernel
theorem dX4_copy_8 : decode cX4_copy 8 = .ok (.iload_n 2, 1) := by decide +kernel
theorem dX4_copy_9 : decode cX4_copy 9 = .ok (.invokestatic 98, 3) := by decide +kernel
theorem dX4_copy_12 : decode cX4_copy 12 = .ok (.ifCond .ne 7, 3) := by decide +kernel
theorem dX4_copy_15 : decode cX4_copy 15 = .ok (.iconst 1, 1) := by decide +kernel
theorem dX4_copy_16 : decode cX4_copy 16 = .ok (.goto 4, 3) := by decide +kernel
theorem dX4_copy_19 : decode cX4_copy 19 = .ok (.iconst 0, 1) := by decide +kernel
theorem dX4_copy_20 : decode cX4_copy 20 = .ok (.iconst 0, 1) := by decide +kernel
theorem dX4_copy_21 : decode cX4_copy 21 = .ok (.iconst 0, 1) := by decide +kernel
theorem dX4_copy_22 : decode cX4_copy 22 = .ok (.invokevirtual 64, 3) := by decide +kernel
theorem dX4_copy_25 : decode cX4_copy 25 = .ok (.ifCond .ne 8, 3) := by decide +kernel
theorem dX4_copy_28 : decode cX4_copy 28 = .ok (.iload_n 1, 1) := by decide +kernel
theorem dX4_copy_29 : decode cX4_copy 29 = .ok (.iload_n 2, 1) := by decide +kernel
theorem dX4_copy_30 : decode cX4_copy 30 = .ok (.if_icmp .ne 4, 3) := by decide +kernel
theorem dX4_copy_33 : decode cX4_copy 33 = .ok (.return_, 1) := by decide +kernel
theorem dX4_copy_34 : decode cX4_copy 34 = .ok (.aload_n 0, 1) := by decide +kernel
theorem dX4_copy_35 : decode cX4_copy 35 = .ok (.aload_n 0, 1) := by decide +kernel
theorem dX4_copy_36 : decode cX4_copy 36 = .ok (.getfield 36, 3) := by decide +kernel
theorem dX4_copy_39 : decode cX4_copy 39 = .ok (.iload_n 1, 1) := by decide +kernel
theorem dX4_copy_40 : decode cX4_copy 40 = .ok (.iaload, 1) := by decide +kernel
theorem dX4_copy_41 : decode cX4_copy 41 = .ok (.putfield 79, 3) := by decide +kernel
theorem dX4_copy_44 : decode cX4_copy 44 = .ok (.aload_n 0, 1) := by decide +kernel
theorem dX4_copy_45 : decode cX4_copy 45 = .ok (.aload_n 0, 1) := by decide +kernel
theorem dX4_copy_46 : decode cX4_copy 46 = .ok (.getfield 42, 3) := by decide +kernel
theorem dX4_copy_49 : decode cX4_copy 49 = .ok (.iload_n 1, 1) := by decide +kernel
theorem dX4_copy_50 : decode cX4_copy 50 = .ok (.iaload, 1) := by decide +kernel
theorem dX4_copy_51 : decode cX4_copy 51 = .ok (.putfield 76, 3) := by decide +kernel
theorem dX4_copy_54 : decode cX4_copy 54 = .ok (.iconst 0, 1) := by decide +kernel
theorem dX4_copy_55 : decode cX4_copy 55 = .ok (.istore_n 3, 1) := by decide +kernel
theorem dX4_copy_56 : decode cX4_copy 56 = .ok (.iload_n 3, 1) := by decide +kernel
theorem dX4_copy_57 : decode cX4_copy 57 = .ok (.aload_n 0, 1) := by decide +kernel
theorem dX4_copy_58 : decode cX4_copy 58 = .ok (.getfield 79, 3) := by decide +kernel
theorem dX4_copy_61 : decode cX4_copy 61 = .ok (.if_icmp .ge 27, 3) := by decide +kernel
theorem dX4_copy_64 : decode cX4_copy 64 = .ok (.aload_n 0, 1) := by decide +kernel
theorem dX4_copy_65 : decode cX4_copy 65 = .ok (.getfield 23, 3) := by decide +kernel
theorem dX4_copy_68 : decode cX4_copy 68 = .ok (.iload_n 3, 1) := by decide +kernel
theorem dX4_copy_69 : decode cX4_copy 69 = .ok (.aload_n 0, 1) := by decide +kernel
theorem dX4_copy_70 : decode cX4_copy 70 = .ok (.getfield 39, 3) := by decide +kernel
theorem dX4_copy_73 : decode cX4_copy 73 = .ok (.sipush 1500, 3) := by decide +kernel
theorem dX4_copy_76 : decode cX4_copy 76 = .ok (.iload_n 1, 1) := by decide +kernel
theorem dX4_copy_77 : decode cX4_copy 77 = .ok (.imul, 1) := by decide +kernel
theorem dX4_copy_78 : decode cX4_copy 78 = .ok (.iload_n 3, 1) := by decide +kernel
theorem dX4_copy_79 : decode cX4_copy 79 = .ok (.iadd, 1) := by decide +kernel
theorem dX4_copy_80 : decode cX4_copy 80 = .ok (.iaload, 1) := by decide +kernel
theorem dX4_copy_81 : decode cX4_copy 81 = .ok (.iastore, 1) := by decide +kernel
theorem dX4_copy_82 : decode cX4_copy 82 = .ok (.iinc 3 1, 3) := by decide +kernel
theorem dX4_copy_85 : decode cX4_copy 85 = .ok (.goto (-29), 3) := by decide +kernel
theorem dX4_copy_88 : decode cX4_copy 88 = .ok (.iconst 0, 1) := by decide +kernel
theorem dX4_copy_89 : decode cX4_copy 89 = .ok (.istore_n 3, 1) := by decide +kernel
theorem dX4_copy_90 : decode cX4_copy 90 = .ok (.iload_n 3, 1) := by decide +kernel
theorem dX4_copy_91 : decode cX4_copy 91 = .ok (.aload_n 0, 1) := by decide +kernel
theorem dX4_copy_92 : decode cX4_copy 92 = .ok (.getfield 76, 3) := by decide +kernel
theorem dX4_copy_95 : decode cX4_copy 95 = .ok (.if_icmp .ge 27, 3) := by decide +kernel
theorem dX4_copy_98 : decode cX4_copy 98 = .ok (.aload_n 0, 1) := by decide +kernel
theorem dX4_copy_99 : decode cX4_copy 99 = .ok (.getfield 29, 3) := by decide +kernel
theorem dX4_copy_102 : decode cX4_copy 102 = .ok (.iload_n 3, 1) := by decide +kernel
theorem dX4_copy_103 : decode cX4_copy 103 = .ok (.aload_n 0, 1) := by decide +kernel
theorem dX4_copy_104 : decode cX4_copy 104 = .ok (.getfield 45, 3) := by decide +kernel
theorem dX4_copy_107 : decode cX4_copy 107 = .ok (.sipush 1500, 3) := by decide +kernel
theorem dX4_copy_110 : decode cX4_copy 110 = .ok (.iload_n 1, 1) := by decide +kernel
theorem dX4_copy_111 : decode cX4_copy 111 = .ok (.imul, 1) := by decide +kernel
theorem dX4_copy_112 : decode cX4_copy 112 = .ok (.iload_n 3, 1) := by decide +kernel
theorem dX4_copy_113 : decode cX4_copy 113 = .ok (.iadd, 1) := by decide +kernel
theorem dX4_copy_114 : decode cX4_copy 114 = .ok (.iaload, 1) := by decide +kernel
theorem dX4_copy_115 : decode cX4_copy 115 = .ok (.iastore, 1) := by decide +kernel
theorem dX4_copy_116 : decode cX4_copy 116 = .ok (.iinc 3 1, 3) := by decide +kernel
theorem dX4_copy_119 : decode cX4_copy 119 = .ok (.goto (-29), 3) := by decide +kernel
theorem dX4_copy_122 : decode cX4_copy 122 = .ok (.aload_n 0, 1) := by decide +kernel
theorem dX4_copy_123 : decode cX4_copy 123 = .ok (.iload_n 2, 1) := by decide +kernel
theorem dX4_copy_124 : decode cX4_copy 124 = .ok (.invokevirtual 106, 3) := by decide +kernel
theorem dX4_copy_127 : decode cX4_copy 127 = .ok (.return_, 1) := by decide +kernel
theorem dX4_size_0 : decode cX4_size 0 = .ok (.aload_n 0, 1) := by decide +kernel
theorem dX4_size_1 : decode cX4_size 1 = .ok (.iload_n 1, 1) := by decide +kernel
theorem dX4_size_2 : decode cX4_size 2 = .ok (.invokestatic 98, 3) := by decide +kernel
theorem dX4_size_5 : decode cX4_size 5 = .ok (.ifCond .ne 7, 3) := by decide +kernel
theorem dX4_size_8 : decode cX4_size 8 = .ok (.iconst 1, 1) := by decide +kernel
theorem dX4_size_9 : decode cX4_size 9 = .ok (.goto 4, 3) := by decide +kernel
theorem dX4_size_12 : decode cX4_size 12 = .ok (.iconst 0, 1) := by decide +kernel
theorem dX4_size_13 : decode cX4_size 13 = .ok (.iconst 0, 1) := by decide +kernel
theorem dX4_size_14 : decode cX4_size 14 = .ok (.iconst 0, 1) := by decide +kernel
theorem dX4_size_15 : decode cX4_size 15 = .ok (.invokevirtual 64, 3) := by decide +kernel
theorem dX4_size_18 : decode cX4_size 18 = .ok (.ifCond .eq 7, 3) := by decide +kernel
theorem dX4_size_21 : decode cX4_size 21 = .ok (.iconst 0, 1) := by decide +kernel
theorem dX4_size_22 : decode cX4_size 22 = .ok (.goto 9, 3) := by decide +kernel
theorem dX4_size_25 : decode cX4_size 25 = .ok (.aload_n 0, 1) := by decide +kernel
theorem dX4_size_26 : decode cX4_size 26 = .ok (.getfield 36, 3) := by decide +kernel
theorem dX4_size_29 : decode cX4_size 29 = .ok (.iload_n 1, 1) := by decide +kernel
theorem dX4_size_30 : decode cX4_size 30 = .ok (.iaload, 1) := by decide +kernel
theorem dX4_size_31 : decode cX4_size 31 = .ok (.ireturn, 1) := by decide +kernel
theorem dX4_get_0 : decode cX4_get 0 = .ok (.iload_n 1, 1) := by decide +kernel
theorem dX4_get_1 : decode cX4_get 1 = .ok (.invokestatic 98, 3) := by decide +kernel
theorem dX4_get_4 : decode cX4_get 4 = .ok (.ifCond .eq 34, 3) := by decide +kernel
theorem dX4_get_7 : decode cX4_get 7 = .ok (.iload_n 2, 1) := by decide +kernel
theorem dX4_get_8 : decode cX4_get 8 = .ok (.iconst 0, 1) := by decide +kernel
theorem dX4_get_9 : decode cX4_get 9 = .ok (.aload_n 0, 1) := by decide +kernel
theorem dX4_get_10 : decode cX4_get 10 = .ok (.getfield 36, 3) := by decide +kernel
theorem dX4_get_13 : decode cX4_get 13 = .ok (.iload_n 1, 1) := by decide +kernel
theorem dX4_get_14 : decode cX4_get 14 = .ok (.invokestatic 98, 3) := by decide +kernel
theorem dX4_get_17 : decode cX4_get 17 = .ok (.ifCond .eq 7, 3) := by decide +kernel
theorem dX4_get_20 : decode cX4_get 20 = .ok (.iload_n 1, 1) := by decide +kernel
theorem dX4_get_21 : decode cX4_get 21 = .ok (.goto 4, 3) := by decide +kernel
theorem dX4_get_24 : decode cX4_get 24 = .ok (.iconst 0, 1) := by decide +kernel
theorem dX4_get_25 : decode cX4_get 25 = .ok (.iaload, 1) := by decide +kernel
theorem dX4_get_26 : decode cX4_get 26 = .ok (.iconst 1, 1) := by decide +kernel
theorem dX4_get_27 : decode cX4_get 27 = .ok (.isub, 1) := by decide +kernel
theorem dX4_get_28 : decode cX4_get 28 = .ok (.invokestatic 60, 3) := by decide +kernel
theorem dX4_get_31 : decode cX4_get 31 = .ok (.ifCond .eq 7, 3) := by decide +kernel
theorem dX4_get_34 : decode cX4_get 34 = .ok (.iconst 1, 1) := by decide +kernel
theorem dX4_get_35 : decode cX4_get 35 = .ok (.goto 4, 3) := by decide +kernel
theorem dX4_get_38 : decode cX4_get 38 = .ok (.iconst 0, 1) := by decide +kernel
theorem dX4_get_39 : decode cX4_get 39 = .ok (.istore_n 3, 1) := by decide +kernel
theorem dX4_get_40 : decode cX4_get 40 = .ok (.aload_n 0, 1) := by decide +kernel
theorem dX4_get_41 : decode cX4_get 41 = .ok (.iload_n 3, 1) := by decide +kernel
theorem dX4_get_42 : decode cX4_get 42 = .ok (.ifCond .ne 7, 3) := by decide +kernel
theorem dX4_get_45 : decode cX4_get 45 = .ok (.iconst 1, 1) := by decide +kernel
theorem dX4_get_46 : decode cX4_get 46 = .ok (.goto 4, 3) := by decide +kernel
theorem dX4_get_49 : decode cX4_get 49 = .ok (.iconst 0, 1) := by decide +kernel
theorem dX4_get_50 : decode cX4_get 50 = .ok (.iconst 0, 1) := by decide +kernel
theorem dX4_get_51 : decode cX4_get 51 = .ok (.iconst 0, 1) := by decide +kernel
theorem dX4_get_52 : decode cX4_get 52 = .ok (.invokevirtual 64, 3) := by decide +kernel
theorem dX4_get_55 : decode cX4_get 55 = .ok (.ifCond .eq 7, 3) := by decide +kernel
theorem dX4_get_58 : decode cX4_get 58 = .ok (.iconst 0, 1) := by decide +kernel
theorem dX4_get_59 : decode cX4_get 59 = .ok (.goto 15, 3) := by decide +kernel
theorem dX4_get_62 : decode cX4_get 62 = .ok (.aload_n 0, 1) := by decide +kernel
theorem dX4_get_63 : decode cX4_get 63 = .ok (.getfield 39, 3) := by decide +kernel
theorem dX4_get_66 : decode cX4_get 66 = .ok (.sipush 1500, 3) := by decide +kernel
theorem dX4_get_69 : decode cX4_get 69 = .ok (.iload_n 1, 1) := by decide +kernel
theorem dX4_get_70 : decode cX4_get 70 = .ok (.imul, 1) := by decide +kernel
theorem dX4_get_71 : decode cX4_get 71 = .ok (.iload_n 2, 1) := by decide +kernel
theorem dX4_get_72 : decode cX4_get 72 = .ok (.iadd, 1) := by decide +kernel
theorem dX4_get_73 : decode cX4_get 73 = .ok (.iaload, 1) := by decide +kernel
theorem dX4_get_74 : decode cX4_get 74 = .ok (.ireturn, 1) := by decide +kernel
theorem dX4_parts_0 : decode cX4_parts 0 = .ok (.aload_n 0, 1) := by decide +kernel
theorem dX4_parts_1 : decode cX4_parts 1 = .ok (.iload_n 1, 1) := by decide +kernel
theorem dX4_parts_2 : decode cX4_parts 2 = .ok (.invokestatic 98, 3) := by decide +kernel
theorem dX4_parts_5 : decode cX4_parts 5 = .ok (.ifCond .ne 7, 3) := by decide +kernel
theorem dX4_parts_8 : decode cX4_parts 8 = .ok (.iconst 1, 1) := by decide +kernel
theorem dX4_parts_9 : decode cX4_parts 9 = .ok (.goto 4, 3) := by decide +kernel
theorem dX4_parts_12 : decode cX4_parts 12 = .ok (.iconst 0, 1) := by decide +kernel
theorem dX4_parts_13 : decode cX4_parts 13 = .ok (.iconst 0, 1) := by decide +kernel
theorem dX4_parts_14 : decode cX4_parts 14 = .ok (.iconst 0, 1) := by decide +kernel
theorem dX4_parts_15 : decode cX4_parts 15 = .ok (.invokevirtual 64, 3) := by decide +kernel
theorem dX4_parts_18 : decode cX4_parts 18 = .ok (.ifCond .eq 7, 3) := by decide +kernel
theorem dX4_parts_21 : decode cX4_parts 21 = .ok (.iconst 0, 1) := by decide +kernel
theorem dX4_parts_22 : decode cX4_parts 22 = .ok (.goto 9, 3) := by decide +kernel
theorem dX4_parts_25 : decode cX4_parts 25 = .ok (.aload_n 0, 1) := by decide +kernel
theorem dX4_parts_26 : decode cX4_parts 26 = .ok (.getfield 42, 3) := by decide +kernel
theorem dX4_parts_29 : decode cX4_parts 29 = .ok (.iload_n 1, 1) := by decide +kernel
theorem dX4_parts_30 : decode cX4_parts 30 = .ok (.iaload, 1) := by decide +kernel
theorem dX4_parts_31 : decode cX4_parts 31 = .ok (.ireturn, 1) := by decide +kernel
theorem dX4_part_0 : decode cX4_part 0 = .ok (.iload_n 1, 1) := by decide +kernel
theorem dX4_part_1 : decode cX4_part 1 = .ok (.invokestatic 98, 3) := by decide +kernel
theorem dX4_part_4 : decode cX4_part 4 = .ok (.ifCond .eq 34, 3) := by decide +kernel
theorem dX4_part_7 : decode cX4_part 7 = .ok (.iload_n 2, 1) := by decide +kernel
theorem dX4_part_8 : decode cX4_part 8 = .ok (.iconst 0, 1) := by decide +kernel
theorem dX4_part_9 : decode cX4_part 9 = .ok (.aload_n 0, 1) := by decide +kernel
theorem dX4_part_10 : decode cX4_part 10 = .ok (.getfield 42, 3) := by decide +kernel
theorem dX4_part_13 : decode cX4_part 13 = .ok (.iload_n 1, 1) := by decide +kernel
theorem dX4_part_14 : decode cX4_part 14 = .ok (.invokestatic 98, 3) := by decide +kernel
theorem dX4_part_17 : decode cX4_part 17 = .ok (.ifCond .eq 7, 3) := by decide +kernel
theorem dX4_part_20 : decode cX4_part 20 = .ok (.iload_n 1, 1) := by decide +kernel
theorem dX4_part_21 : decode cX4_part 21 = .ok (.goto 4, 3) := by decide +kernel
theorem dX4_part_24 : decode cX4_part 24 = .ok (.iconst 0, 1) := by decide +kernel
theorem dX4_part_25 : decode cX4_part 25 = .ok (.iaload, 1) := by decide +kernel
theorem dX4_part_26 : decode cX4_part 26 = .ok (.iconst 1, 1) := by decide +kernel
theorem dX4_part_27 : decode cX4_part 27 = .ok (.isub, 1) := by decide +kernel
theorem dX4_part_28 : decode cX4_part 28 = .ok (.invokestatic 60, 3) := by decide +kernel
theorem dX4_part_31 : decode cX4_part 31 = .ok (.ifCond .eq 7, 3) := by decide +kernel
theorem dX4_part_34 : decode cX4_part 34 = .ok (.iconst 1, 1) := by decide +kernel
theorem dX4_part_35 : decode cX4_part 35 = .ok (.goto 4, 3) := by decide +kernel
theorem dX4_part_38 : decode cX4_part 38 = .ok (.iconst 0, 1) := by decide +kernel
theorem dX4_part_39 : decode cX4_part 39 = .ok (.istore_n 3, 1) := by decide +kernel
theorem dX4_part_40 : decode cX4_part 40 = .ok (.aload_n 0, 1) := by decide +kernel
theorem dX4_part_41 : decode cX4_part 41 = .ok (.iload_n 3, 1) := by decide +kernel
theorem dX4_part_42 : decode cX4_part 42 = .ok (.ifCond .ne 7, 3) := by decide +kernel
theorem dX4_part_45 : decode cX4_part 45 = .ok (.iconst 1, 1) := by decide +kernel
theorem dX4_part_46 : decode cX4_part 46 = .ok (.goto 4, 3) := by decide +kernel
theorem dX4_part_49 : decode cX4_part 49 = .ok (.iconst 0, 1) := by decide +kernel
theorem dX4_part_50 : decode cX4_part 50 = .ok (.iconst 0, 1) := by decide +kernel
theorem dX4_part_51 : decode cX4_part 51 = .ok (.iconst 0, 1) := by decide +kernel
theorem dX4_part_52 : decode cX4_part 52 = .ok (.invokevirtual 64, 3) := by decide +kernel
theorem dX4_part_55 : decode cX4_part 55 = .ok (.ifCond .eq 7, 3) := by decide +kernel
theorem dX4_part_58 : decode cX4_part 58 = .ok (.iconst 0, 1) := by decide +kernel
theorem dX4_part_59 : decode cX4_part 59 = .ok (.goto 15, 3) := by decide +kernel
theorem dX4_part_62 : decode cX4_part 62 = .ok (.aload_n 0, 1) := by decide +kernel
theorem dX4_part_63 : decode cX4_part 63 = .ok (.getfield 45, 3) := by decide +kernel
theorem dX4_part_66 : decode cX4_part 66 = .ok (.sipush 1500, 3) := by decide +kernel
theorem dX4_part_69 : decode cX4_part 69 = .ok (.iload_n 1, 1) := by decide +kernel
theorem dX4_part_70 : decode cX4_part 70 = .ok (.imul, 1) := by decide +kernel
theorem dX4_part_71 : decode cX4_part 71 = .ok (.iload_n 2, 1) := by decide +kernel
theorem dX4_part_72 : decode cX4_part 72 = .ok (.iadd, 1) := by decide +kernel
theorem dX4_part_73 : decode cX4_part 73 = .ok (.iaload, 1) := by decide +kernel
theorem dX4_part_74 : decode cX4_part 74 = .ok (.ireturn, 1) := by decide +kernel
theorem dX4_has_0 : decode cX4_has 0 = .ok (.iconst 0, 1) := by decide +kernel
theorem dX4_has_1 : decode cX4_has 1 = .ok (.istore_n 3, 1) := by decide +kernel
theorem dX4_has_2 : decode cX4_has 2 = .ok (.iconst 0, 1) := by decide +kernel
theorem dX4_has_3 : decode cX4_has 3 = .ok (.istore 4, 2) := by decide +kernel
theorem dX4_has_5 : decode cX4_has 5 = .ok (.iload 4, 2) := by decide +kernel
theorem dX4_has_7 : decode cX4_has 7 = .ok (.aload_n 0, 1) := by decide +kernel
theorem dX4_has_8 : decode cX4_has 8 = .ok (.getfield 42, 3) := by decide +kernel
theorem dX4_has_11 : decode cX4_has 11 = .ok (.iload_n 1, 1) := by decide +kernel
theorem dX4_has_12 : decode cX4_has 12 = .ok (.iaload, 1) := by decide +kernel
theorem dX4_has_13 : decode cX4_has 13 = .ok (.if_icmp .ge 36, 3) := by decide +kernel
theorem dX4_has_16 : decode cX4_has 16 = .ok (.iload_n 3, 1) := by decide +kernel
theorem dX4_has_17 : decode cX4_has 17 = .ok (.ifCond .ne 20, 3) := by decide +kernel
theorem dX4_has_20 : decode cX4_has 20 = .ok (.aload_n 0, 1) := by decide +kernel
theorem dX4_has_21 : decode cX4_has 21 = .ok (.getfield 45, 3) := by decide +kernel
theorem dX4_has_24 : decode cX4_has 24 = .ok (.sipush 1500, 3) := by decide +kernel
theorem dX4_has_27 : decode cX4_has 27 = .ok (.iload_n 1, 1) := by decide +kernel
theorem dX4_has_28 : decode cX4_has 28 = .ok (.imul, 1) := by decide +kernel
theorem dX4_has_29 : decode cX4_has 29 = .ok (.iload 4, 2) := by decide +kernel
theorem dX4_has_31 : decode cX4_has 31 = .ok (.iadd, 1) := by decide +kernel
theorem dX4_has_32 : decode cX4_has 32 = .ok (.iaload, 1) := by decide +kernel
theorem dX4_has_33 : decode cX4_has 33 = .ok (.iload_n 2, 1) := by decide +kernel
theorem dX4_has_34 : decode cX4_has 34 = .ok (.if_icmp .ne 7, 3) := by decide +kernel
theorem dX4_has_37 : decode cX4_has 37 = .ok (.iconst 1, 1) := by decide +kernel
theorem dX4_has_38 : decode cX4_has 38 = .ok (.goto 4, 3) := by decide +kernel
theorem dX4_has_41 : decode cX4_has 41 = .ok (.iconst 0, 1) := by decide +kernel
theorem dX4_has_42 : decode cX4_has 42 = .ok (.istore_n 3, 1) := by decide +kernel
theorem dX4_has_43 : decode cX4_has 43 = .ok (.iinc 4 1, 3) := by decide +kernel
theorem dX4_has_46 : decode cX4_has 46 = .ok (.goto (-41), 3) := by decide +kernel
theorem dX4_has_49 : decode cX4_has 49 = .ok (.iload_n 3, 1) := by decide +kernel
theorem dX4_has_50 : decode cX4_has 50 = .ok (.ireturn, 1) := by decide +kernel
theorem dX4_about_0 : decode cX4_about 0 = .ok (.iload_n 1, 1) := by decide +kernel
theorem dX4_about_1 : decode cX4_about 1 = .ok (.iconst 0, 1) := by decide +kernel
theorem dX4_about_2 : decode cX4_about 2 = .ok (.sipush 399, 3) := by decide +kernel
theorem dX4_about_5 : decode cX4_about 5 = .ok (.invokestatic 60, 3) := by decide +kernel
theorem dX4_about_8 : decode cX4_about 8 = .ok (.ifCond .eq 31, 3) := by decide +kernel
theorem dX4_about_11 : decode cX4_about 11 = .ok (.aload_n 0, 1) := by decide +kernel
theorem dX4_about_12 : decode cX4_about 12 = .ok (.getfield 48, 3) := by decide +kernel
theorem dX4_about_15 : decode cX4_about 15 = .ok (.iload_n 1, 1) := by decide +kernel
theorem dX4_about_16 : decode cX4_about 16 = .ok (.iconst 0, 1) := by decide +kernel
theorem dX4_about_17 : decode cX4_about 17 = .ok (.sipush 399, 3) := by decide +kernel
theorem dX4_about_20 : decode cX4_about 20 = .ok (.invokestatic 60, 3) := by decide +kernel
theorem dX4_about_23 : decode cX4_about 23 = .ok (.ifCond .eq 7, 3) := by decide +kernel
theorem dX4_about_26 : decode cX4_about 26 = .ok (.iload_n 1, 1) := by decide +kernel
theorem dX4_about_27 : decode cX4_about 27 = .ok (.goto 4, 3) := by decide +kernel
theorem dX4_about_30 : decode cX4_about 30 = .ok (.iconst 0, 1) := by decide +kernel
theorem dX4_about_31 : decode cX4_about 31 = .ok (.iaload, 1) := by decide +kernel
theorem dX4_about_32 : decode cX4_about 32 = .ok (.ifCond .le 7, 3) := by decide +kernel
theorem dX4_about_35 : decode cX4_about 35 = .ok (.iconst 1, 1) := by decide +kernel
theorem dX4_about_36 : decode cX4_about 36 = .ok (.goto 4, 3) := by decide +kernel
theorem dX4_about_39 : decode cX4_about 39 = .ok (.iconst 0, 1) := by decide +kernel
theorem dX4_about_40 : decode cX4_about 40 = .ok (.istore_n 3, 1) := by decide +kernel
theorem dX4_about_41 : decode cX4_about 41 = .ok (.aload_n 0, 1) := by decide +kernel
theorem dX4_about_42 : decode cX4_about 42 = .ok (.iload_n 3, 1) := by decide +kernel
theorem dX4_about_43 : decode cX4_about 43 = .ok (.ifCond .ne 7, 3) := by decide +kernel
theorem dX4_about_46 : decode cX4_about 46 = .ok (.iconst 1, 1) := by decide +kernel
theorem dX4_about_47 : decode cX4_about 47 = .ok (.goto 4, 3) := by decide +kernel
theorem dX4_about_50 : decode cX4_about 50 = .ok (.iconst 0, 1) := by decide +kernel
theorem dX4_about_51 : decode cX4_about 51 = .ok (.iload_n 3, 1) := by decide +kernel
theorem dX4_about_52 : decode cX4_about 52 = .ok (.ifCond .eq 16, 3) := by decide +kernel
theorem dX4_about_55 : decode cX4_about 55 = .ok (.iload_n 2, 1) := by decide +kernel
theorem dX4_about_56 : decode cX4_about 56 = .ok (.iconst 0, 1) := by decide +kernel
theorem dX4_about_57 : decode cX4_about 57 = .ok (.iconst 2, 1) := by decide +kernel
theorem dX4_about_58 : decode cX4_about 58 = .ok (.invokestatic 60, 3) := by decide +kernel
theorem dX4_about_61 : decode cX4_about 61 = .ok (.ifCond .ne 7, 3) := by decide +kernel
theorem dX4_about_64 : decode cX4_about 64 = .ok (.iconst 1, 1) := by decide +kernel
theorem dX4_about_65 : decode cX4_about 65 = .ok (.goto 4, 3) := by decide +kernel
theorem dX4_about_68 : decode cX4_about 68 = .ok (.iconst 0, 1) := by decide +kernel
theorem dX4_about_69 : decode cX4_about 69 = .ok (.iconst 0, 1) := by decide +kernel
theorem dX4_about_70 : decode cX4_about 70 = .ok (.invokevirtual 64, 3) := by decide +kernel
theorem dX4_about_73 : decode cX4_about 73 = .ok (.ifCond .eq 5, 3) := by decide +kernel
theorem dX4_about_76 : decode cX4_about 76 = .ok (.iconst 0, 1) := by decide +kernel
theorem dX4_about_77 : decode cX4_about 77 = .ok (.ireturn, 1) := by decide +kernel
theorem dX4_about_78 : decode cX4_about 78 = .ok (.iconst 0, 1) := by decide +kernel
theorem dX4_about_79 : decode cX4_about 79 = .ok (.istore 4, 2) := by decide +kernel
theorem dX4_about_81 : decode cX4_about 81 = .ok (.iconst 0, 1) := by decide +kernel
theorem dX4_about_82 : decode cX4_about 82 = .ok (.istore 5, 2) := by decide +kernel
theorem dX4_about_84 : decode cX4_about 84 = .ok (.iload 5, 2) := by decide +kernel
theorem dX4_about_86 : decode cX4_about 86 = .ok (.bipush 16, 2) := by decide +kernel
theorem dX4_about_88 : decode cX4_about 88 = .ok (.if_icmp .ge 30, 3) := by decide +kernel
theorem dX4_about_91 : decode cX4_about 91 = .ok (.aload_n 0, 1) := by decide +kernel
theorem dX4_about_92 : decode cX4_about 92 = .ok (.iload 5, 2) := by decide +kernel
theorem dX4_about_94 : decode cX4_about 94 = .ok (.iload_n 1, 1) := by decide +kernel
theorem dX4_about_95 : decode cX4_about 95 = .ok (.invokevirtual 110, 3) := by decide +kernel
theorem dX4_about_98 : decode cX4_about 98 = .ok (.ifCond .eq 10, 3) := by decide +kernel
theorem dX4_about_101 : decode cX4_about 101 = .ok (.iload 4, 2) := by decide +kernel
theorem dX4_about_103 : decode cX4_about 103 = .ok (.iconst 1, 1) := by decide +kernel
theorem dX4_about_104 : decode cX4_about 104 = .ok (.iadd, 1) := by decide +kernel
theorem dX4_about_105 : decode cX4_about 105 = .ok (.goto 5, 3) := by decide +kernel
theorem dX4_about_108 : decode cX4_about 108 = .ok (.iload 4, 2) := by decide +kernel
theorem dX4_about_110 : decode cX4_about 110 = .ok (.istore 4, 2) := by decide +kernel
theorem dX4_about_112 : decode cX4_about 112 = .ok (.iinc 5 1, 3) := by decide +kernel
theorem dX4_about_115 : decode cX4_about 115 = .ok (.goto (-31), 3) := by decide +kernel
theorem dX4_about_118 : decode cX4_about 118 = .ok (.iload_n 2, 1) := by decide +kernel
theorem dX4_about_119 : decode cX4_about 119 = .ok (.ifCond .ne 12, 3) := by decide +kernel
theorem dX4_about_122 : decode cX4_about 122 = .ok (.aload_n 0, 1) := by decide +kernel
theorem dX4_about_123 : decode cX4_about 123 = .ok (.getfield 51, 3) := by decide +kernel
theorem dX4_about_126 : decode cX4_about 126 = .ok (.iload_n 1, 1) := by decide +kernel
theorem dX4_about_127 : decode cX4_about 127 = .ok (.iaload, 1) := by decide +kernel
theorem dX4_about_128 : decode cX4_about 128 = .ok (.goto 19, 3) := by decide +kernel
theorem dX4_about_131 : decode cX4_about 131 = .ok (.iload_n 2, 1) := by decide +kernel
theorem dX4_about_132 : decode cX4_about 132 = .ok (.iconst 1, 1) := by decide +kernel
theorem dX4_about_133 : decode cX4_about 133 = .ok (.if_icmp .ne 12, 3) := by decide +kernel
theorem dX4_about_136 : decode cX4_about 136 = .ok (.aload_n 0, 1) := by decide +kernel
theorem dX4_about_137 : decode cX4_about 137 = .ok (.getfield 48, 3) := by decide +kernel
theorem dX4_about_140 : decode cX4_about 140 = .ok (.iload_n 1, 1) := by decide +kernel
theorem dX4_about_141 : decode cX4_about 141 = .ok (.iaload, 1) := by decide +kernel
theorem dX4_about_142 : decode cX4_about 142 = .ok (.goto 5, 3) := by decide +kernel
theorem dX4_about_145 : decode cX4_about 145 = .ok (.iload 4, 2) := by decide +kernel
theorem dX4_about_147 : decode cX4_about 147 = .ok (.ireturn, 1) := by decide +kernel
theorem dX4_common_0 : decode cX4_common 0 = .ok (.aload_n 0, 1) := by decide +kernel
theorem dX4_common_1 : decode cX4_common 1 = .ok (.iload_n 1, 1) := by decide +kernel
theorem dX4_common_2 : decode cX4_common 2 = .ok (.invokestatic 98, 3) := by decide +kernel
theorem dX4_common_5 : decode cX4_common 5 = .ok (.ifCond .eq 10, 3) := by decide +kernel
theorem dX4_common_8 : decode cX4_common 8 = .ok (.iload_n 2, 1) := by decide +kernel
theorem dX4_common_9 : decode cX4_common 9 = .ok (.invokestatic 98, 3) := by decide +kernel
theorem dX4_common_12 : decode cX4_common 12 = .ok (.ifCond .ne 7, 3) := by decide +kernel
theorem dX4_common_15 : decode cX4_common 15 = .ok (.iconst 1, 1) := by decide +kernel
theorem dX4_common_16 : decode cX4_common 16 = .ok (.goto 4, 3) := by decide +kernel
theorem dX4_common_19 : decode cX4_common 19 = .ok (.iconst 0, 1) := by decide +kernel
theorem dX4_common_20 : decode cX4_common 20 = .ok (.iconst 0, 1) := by decide +kernel
theorem dX4_common_21 : decode cX4_common 21 = .ok (.iconst 0, 1) := by decide +kernel
theorem dX4_common_22 : decode cX4_common 22 = .ok (.invokevirtual 64, 3) := by decide +kernel
theorem dX4_common_25 : decode cX4_common 25 = .ok (.ifCond .eq 5, 3) := by decide +kernel
theorem dX4_common_28 : decode cX4_common 28 = .ok (.iconst 0, 1) := by decide +kernel
theorem dX4_common_29 : decode cX4_common 29 = .ok (.ireturn, 1) := by decide +kernel
theorem dX4_common_30 : decode cX4_common 30 = .ok (.iconst 0, 1) := by decide +kernel
theorem dX4_common_31 : decode cX4_common 31 = .ok (.istore_n 3, 1) := by decide +kernel
theorem dX4_common_32 : decode cX4_common 32 = .ok (.iconst 0, 1) := by decide +kernel
theorem dX4_common_33 : decode cX4_common 33 = .ok (.istore 4, 2) := by decide +kernel
theorem dX4_common_35 : decode cX4_common 35 = .ok (.iload 4, 2) := by decide +kernel
theorem dX4_common_37 : decode cX4_common 37 = .ok (.aload_n 0, 1) := by decide +kernel
theorem dX4_common_38 : decode cX4_common 38 = .ok (.getfield 42, 3) := by decide +kernel
theorem dX4_common_41 : decode cX4_common 41 = .ok (.iload_n 1, 1) := by decide +kernel
theorem dX4_common_42 : decode cX4_common 42 = .ok (.iaload, 1) := by decide +kernel
theorem dX4_common_43 : decode cX4_common 43 = .ok (.if_icmp .ge 48, 3) := by decide +kernel
theorem dX4_common_46 : decode cX4_common 46 = .ok (.aload_n 0, 1) := by decide +kernel
theorem dX4_common_47 : decode cX4_common 47 = .ok (.getfield 45, 3) := by decide +kernel
theorem dX4_common_50 : decode cX4_common 50 = .ok (.sipush 1500, 3) := by decide +kernel
theorem dX4_common_53 : decode cX4_common 53 = .ok (.iload_n 1, 1) := by decide +kernel
theorem dX4_common_54 : decode cX4_common 54 = .ok (.imul, 1) := by decide +kernel
theorem dX4_common_55 : decode cX4_common 55 = .ok (.iload 4, 2) := by decide +kernel
theorem dX4_common_57 : decode cX4_common 57 = .ok (.iadd, 1) := by decide +kernel
theorem dX4_common_58 : decode cX4_common 58 = .ok (.iaload, 1) := by decide +kernel
theorem dX4_common_59 : decode cX4_common 59 = .ok (.istore 5, 2) := by decide +kernel
theorem dX4_common_61 : decode cX4_common 61 = .ok (.aload_n 0, 1) := by decide +kernel
theorem dX4_common_62 : decode cX4_common 62 = .ok (.iload_n 2, 1) := by decide +kernel
theorem dX4_common_63 : decode cX4_common 63 = .ok (.iload 5, 2) := by decide +kernel
theorem dX4_common_65 : decode cX4_common 65 = .ok (.invokevirtual 110, 3) := by decide +kernel
theorem dX4_common_68 : decode cX4_common 68 = .ok (.ifCond .eq 15, 3) := by decide +kernel
theorem dX4_common_71 : decode cX4_common 71 = .ok (.iload_n 3, 1) := by decide +kernel
theorem dX4_common_72 : decode cX4_common 72 = .ok (.aload_n 0, 1) := by decide +kernel
theorem dX4_common_73 : decode cX4_common 73 = .ok (.getfield 51, 3) := by decide +kernel
theorem dX4_common_76 : decode cX4_common 76 = .ok (.iload 5, 2) := by decide +kernel
theorem dX4_common_78 : decode cX4_common 78 = .ok (.iaload, 1) := by decide +kernel
theorem dX4_common_79 : decode cX4_common 79 = .ok (.iadd, 1) := by decide +kernel
theorem dX4_common_80 : decode cX4_common 80 = .ok (.goto 4, 3) := by decide +kernel
theorem dX4_common_83 : decode cX4_common 83 = .ok (.iload_n 3, 1) := by decide +kernel
theorem dX4_common_84 : decode cX4_common 84 = .ok (.istore_n 3, 1) := by decide +kernel
theorem dX4_common_85 : decode cX4_common 85 = .ok (.iinc 4 1, 3) := by decide +kernel
theorem dX4_common_88 : decode cX4_common 88 = .ok (.goto (-53), 3) := by decide +kernel
theorem dX4_common_91 : decode cX4_common 91 = .ok (.iload_n 3, 1) := by decide +kernel
theorem dX4_common_92 : decode cX4_common 92 = .ok (.ireturn, 1) := by decide +kernel
theorem dX4_all_0 : decode cX4_all 0 = .ok (.aload_n 0, 1) := by decide +kernel
theorem dX4_all_1 : decode cX4_all 1 = .ok (.iload_n 1, 1) := by decide +kernel
theorem dX4_all_2 : decode cX4_all 2 = .ok (.iconst 0, 1) := by decide +kernel
theorem dX4_all_3 : decode cX4_all 3 = .ok (.iconst 2, 1) := by decide +kernel
theorem dX4_all_4 : decode cX4_all 4 = .ok (.invokestatic 60, 3) := by decide +kernel
theorem dX4_all_7 : decode cX4_all 7 = .ok (.ifCond .ne 7, 3) := by decide +kernel
theorem dX4_all_10 : decode cX4_all 10 = .ok (.iconst 1, 1) := by decide +kernel
theorem dX4_all_11 : decode cX4_all 11 = .ok (.goto 4, 3) := by decide +kernel
theorem dX4_all_14 : decode cX4_all 14 = .ok (.iconst 0, 1) := by decide +kernel
theorem dX4_all_15 : decode cX4_all 15 = .ok (.iconst 0, 1) := by decide +kernel
theorem dX4_all_16 : decode cX4_all 16 = .ok (.iconst 0, 1) := by decide +kernel
theorem dX4_all_17 : decode cX4_all 17 = .ok (.invokevirtual 64, 3) := by decide +kernel
theorem dX4_all_20 : decode cX4_all 20 = .ok (.ifCond .eq 5, 3) := by decide +kernel
theorem dX4_all_23 : decode cX4_all 23 = .ok (.iconst 0, 1) := by decide +kernel
theorem dX4_all_24 : decode cX4_all 24 = .ok (.ireturn, 1) := by decide +kernel
theorem dX4_all_25 : decode cX4_all 25 = .ok (.iconst 0, 1) := by decide +kernel
theorem dX4_all_26 : decode cX4_all 26 = .ok (.istore_n 2, 1) := by decide +kernel
theorem dX4_all_27 : decode cX4_all 27 = .ok (.iconst 0, 1) := by decide +kernel
theorem dX4_all_28 : decode cX4_all 28 = .ok (.istore_n 3, 1) := by decide +kernel
theorem dX4_all_29 : decode cX4_all 29 = .ok (.iconst 0, 1) := by decide +kernel
theorem dX4_all_30 : decode cX4_all 30 = .ok (.istore 4, 2) := by decide +kernel
theorem dX4_all_32 : decode cX4_all 32 = .ok (.iload 4, 2) := by decide +kernel
theorem dX4_all_34 : decode cX4_all 34 = .ok (.sipush 400, 3) := by decide +kernel
theorem dX4_all_37 : decode cX4_all 37 = .ok (.if_icmp .ge 51, 3) := by decide +kernel
theorem dX4_all_40 : decode cX4_all 40 = .ok (.aload_n 0, 1) := by decide +kernel
theorem dX4_all_41 : decode cX4_all 41 = .ok (.getfield 48, 3) := by decide +kernel
theorem dX4_all_44 : decode cX4_all 44 = .ok (.iload 4, 2) := by decide +kernel
theorem dX4_all_46 : decode cX4_all 46 = .ok (.iaload, 1) := by decide +kernel
theorem dX4_all_47 : decode cX4_all 47 = .ok (.ifCond .le 9, 3) := by decide +kernel
theorem dX4_all_50 : decode cX4_all 50 = .ok (.iload_n 2, 1) := by decide +kernel
theorem dX4_all_51 : decode cX4_all 51 = .ok (.iconst 1, 1) := by decide +kernel
theorem dX4_all_52 : decode cX4_all 52 = .ok (.iadd, 1) := by decide +kernel
theorem dX4_all_53 : decode cX4_all 53 = .ok (.goto 4, 3) := by decide +kernel
theorem dX4_all_56 : decode cX4_all 56 = .ok (.iload_n 2, 1) := by decide +kernel
theorem dX4_all_57 : decode cX4_all 57 = .ok (.istore_n 2, 1) := by decide +kernel
theorem dX4_all_58 : decode cX4_all 58 = .ok (.aload_n 0, 1) := by decide +kernel
theorem dX4_all_59 : decode cX4_all 59 = .ok (.getfield 48, 3) := by decide +kernel
theorem dX4_all_62 : decode cX4_all 62 = .ok (.iload 4, 2) := by decide +kernel
theorem dX4_all_64 : decode cX4_all 64 = .ok (.iaload, 1) := by decide +kernel
theorem dX4_all_65 : decode cX4_all 65 = .ok (.ifCond .le 15, 3) := by decide +kernel
theorem dX4_all_68 : decode cX4_all 68 = .ok (.iload_n 3, 1) := by decide +kernel
theorem dX4_all_69 : decode cX4_all 69 = .ok (.aload_n 0, 1) := by decide +kernel
theorem dX4_all_70 : decode cX4_all 70 = .ok (.getfield 51, 3) := by decide +kernel
theorem dX4_all_73 : decode cX4_all 73 = .ok (.iload 4, 2) := by decide +kernel
theorem dX4_all_75 : decode cX4_all 75 = .ok (.iaload, 1) := by decide +kernel
theorem dX4_all_76 : decode cX4_all 76 = .ok (.iadd, 1) := by decide +kernel
theorem dX4_all_77 : decode cX4_all 77 = .ok (.goto 4, 3) := by decide +kernel
theorem dX4_all_80 : decode cX4_all 80 = .ok (.iload_n 3, 1) := by decide +kernel
theorem dX4_all_81 : decode cX4_all 81 = .ok (.istore_n 3, 1) := by decide +kernel
theorem dX4_all_82 : decode cX4_all 82 = .ok (.iinc 4 1, 3) := by decide +kernel
theorem dX4_all_85 : decode cX4_all 85 = .ok (.goto (-53), 3) := by decide +kernel
theorem dX4_all_88 : decode cX4_all 88 = .ok (.iload_n 1, 1) := by decide +kernel
theorem dX4_all_89 : decode cX4_all 89 = .ok (.ifCond .ne 7, 3) := by decide +kernel
theorem dX4_all_92 : decode cX4_all 92 = .ok (.iload_n 2, 1) := by decide +kernel
theorem dX4_all_93 : decode cX4_all 93 = .ok (.goto 16, 3) := by decide +kernel
theorem dX4_all_96 : decode cX4_all 96 = .ok (.iload_n 1, 1) := by decide +kernel
theorem dX4_all_97 : decode cX4_all 97 = .ok (.iconst 1, 1) := by decide +kernel
theorem dX4_all_98 : decode cX4_all 98 = .ok (.if_icmp .ne 7, 3) := by decide +kernel
theorem dX4_all_101 : decode cX4_all 101 = .ok (.iload_n 3, 1) := by decide +kernel
theorem dX4_all_102 : decode cX4_all 102 = .ok (.goto 7, 3) := by decide +kernel
theorem dX4_all_105 : decode cX4_all 105 = .ok (.aload_n 0, 1) := by decide +kernel
theorem dX4_all_106 : decode cX4_all 106 = .ok (.getfield 68, 3) := by decide +kernel
theorem dX4_all_109 : decode cX4_all 109 = .ok (.ireturn, 1) := by decide +kernel
theorem dJ9_max_7cf53_0 : decode cJ9_max_7cf53 0 = .ok (.iload_n 0, 1) := by decide +kernel
theorem dJ9_max_7cf53_1 : decode cJ9_max_7cf53 1 = .ok (.iload_n 1, 1) := by decide +kernel
theorem dJ9_max_7cf53_2 : decode cJ9_max_7cf53 2 = .ok (.if_icmp .lt 7, 3) := by decide +kernel
theorem dJ9_max_7cf53_5 : decode cJ9_max_7cf53 5 = .ok (.iload_n 0, 1) := by decide +kernel
theorem dJ9_max_7cf53_6 : decode cJ9_max_7cf53 6 = .ok (.goto 4, 3) := by decide +kernel
theorem dJ9_max_7cf53_9 : decode cJ9_max_7cf53 9 = .ok (.iload_n 1, 1) := by decide +kernel
theorem dJ9_max_7cf53_10 : decode cJ9_max_7cf53 10 = .ok (.ireturn, 1) := by decide +kernel
theorem dJ9_min_7cf53_0 : decode cJ9_min_7cf53 0 = .ok (.iload_n 0, 1) := by decide +kernel
theorem dJ9_min_7cf53_1 : decode cJ9_min_7cf53 1 = .ok (.iload_n 1, 1) := by decide +kernel
theorem dJ9_min_7cf53_2 : decode cJ9_min_7cf53 2 = .ok (.if_icmp .gt 7, 3) := by decide +kernel
theorem dJ9_min_7cf53_5 : decode cJ9_min_7cf53 5 = .ok (.iload_n 0, 1) := by decide +kernel
theorem dJ9_min_7cf53_6 : decode cJ9_min_7cf53 6 = .ok (.goto 4, 3) := by decide +kernel
theorem dJ9_min_7cf53_9 : decode cJ9_min_7cf53 9 = .ok (.iload_n 1, 1) := by decide +kernel
theorem dJ9_min_7cf53_10 : decode cJ9_min_7cf53 10 = .ok (.ireturn, 1) := by decide +kernel
theorem dJ7_fill_53178_0 : decode cJ7_fill_53178 0 = .ok (.iconst 0, 1) := by decide +kernel
theorem dJ7_fill_53178_1 : decode cJ7_fill_53178 1 = .ok (.istore_n 2, 1) := by decide +kernel
theorem dJ7_fill_53178_2 : decode cJ7_fill_53178 2 = .ok (.aload_n 0, 1) := by decide +kernel
theorem dJ7_fill_53178_3 : decode cJ7_fill_53178 3 = .ok (.arraylength, 1) := by decide +kernel
theorem dJ7_fill_53178_4 : decode cJ7_fill_53178 4 = .ok (.istore_n 3, 1) := by decide +kernel
theorem dJ7_fill_53178_5 : decode cJ7_fill_53178 5 = .ok (.iload_n 2, 1) := by decide +kernel
theorem dJ7_fill_53178_6 : decode cJ7_fill_53178 6 = .ok (.iload_n 3, 1) := by decide +kernel
theorem dJ7_fill_53178_7 : decode cJ7_fill_53178 7 = .ok (.if_icmp .ge 13, 3) := by decide +kernel
theorem dJ7_fill_53178_10 : decode cJ7_fill_53178 10 = .ok (.aload_n 0, 1) := by decide +kernel
theorem dJ7_fill_53178_11 : decode cJ7_fill_53178 11 = .ok (.iload_n 2, 1) := by decide +kernel
theorem dJ7_fill_53178_12 : decode cJ7_fill_53178 12 = .ok (.iload_n 1, 1) := by decide +kernel
theorem dJ7_fill_53178_13 : decode cJ7_fill_53178 13 = .ok (.iastore, 1) := by decide +kernel
theorem dJ7_fill_53178_14 : decode cJ7_fill_53178 14 = .ok (.iinc 2 1, 3) := by decide +kernel
theorem dJ7_fill_53178_17 : decode cJ7_fill_53178 17 = .ok (.goto (-12), 3) := by decide +kernel
theorem dJ7_fill_53178_20 : decode cJ7_fill_53178 20 = .ok (.return_, 1) := by decide +kernel
theorem dJ7_copyOf_9075b_0 : decode cJ7_copyOf_9075b 0 = .ok (.iload_n 1, 1) := by decide +kernel
theorem dJ7_copyOf_9075b_1 : decode cJ7_copyOf_9075b 1 = .ok (.aload_n 0, 1) := by decide +kernel
theorem dJ7_copyOf_9075b_2 : decode cJ7_copyOf_9075b 2 = .ok (.arraylength, 1) := by decide +kernel
theorem dJ7_copyOf_9075b_3 : decode cJ7_copyOf_9075b 3 = .ok (.if_icmp .ne 11, 3) := by decide +kernel
theorem dJ7_copyOf_9075b_6 : decode cJ7_copyOf_9075b 6 = .ok (.aload_n 0, 1) := by decide +kernel
theorem dJ7_copyOf_9075b_7 : decode cJ7_copyOf_9075b 7 = .ok (.invokevirtual 310, 3) := by decide +kernel
theorem dJ7_copyOf_9075b_10 : decode cJ7_copyOf_9075b 10 = .ok (.checkcast 311, 3) := by decide +kernel
theorem dJ7_copyOf_9075b_13 : decode cJ7_copyOf_9075b 13 = .ok (.areturn, 1) := by decide +kernel
theorem dJ7_copyOf_9075b_14 : decode cJ7_copyOf_9075b 14 = .ok (.iload_n 1, 1) := by decide +kernel
theorem dJ7_copyOf_9075b_15 : decode cJ7_copyOf_9075b 15 = .ok (.newarray .byte, 2) := by decide +kernel
theorem dJ7_copyOf_9075b_17 : decode cJ7_copyOf_9075b 17 = .ok (.astore_n 2, 1) := by decide +kernel
theorem dJ7_copyOf_9075b_18 : decode cJ7_copyOf_9075b 18 = .ok (.aload_n 0, 1) := by decide +kernel
theorem dJ7_copyOf_9075b_19 : decode cJ7_copyOf_9075b 19 = .ok (.iconst 0, 1) := by decide +kernel
theorem dJ7_copyOf_9075b_20 : decode cJ7_copyOf_9075b 20 = .ok (.aload_n 2, 1) := by decide +kernel
theorem dJ7_copyOf_9075b_21 : decode cJ7_copyOf_9075b 21 = .ok (.iconst 0, 1) := by decide +kernel
theorem dJ7_copyOf_9075b_22 : decode cJ7_copyOf_9075b 22 = .ok (.aload_n 0, 1) := by decide +kernel
theorem dJ7_copyOf_9075b_23 : decode cJ7_copyOf_9075b 23 = .ok (.arraylength, 1) := by decide +kernel
theorem dJ7_copyOf_9075b_24 : decode cJ7_copyOf_9075b 24 = .ok (.iload_n 1, 1) := by decide +kernel
theorem dJ7_copyOf_9075b_25 : decode cJ7_copyOf_9075b 25 = .ok (.invokestatic 304, 3) := by decide +kernel
theorem dJ7_copyOf_9075b_28 : decode cJ7_copyOf_9075b 28 = .ok (.invokestatic 150, 3) := by decide +kernel
theorem dJ7_copyOf_9075b_31 : decode cJ7_copyOf_9075b 31 = .ok (.aload_n 2, 1) := by decide +kernel
theorem dJ7_copyOf_9075b_32 : decode cJ7_copyOf_9075b 32 = .ok (.areturn, 1) := by decide +kernel
end
section

/-! ===== BEGIN exceptions that leave a method, and their catching by the caller (launches without stack traces) ===== -/
section VXA
/-! The laws vx_back, vx_callV, vx_callS, vx_callSW, vx_throw0, vx_throwS follow proofs of the library, with one case more: JvmDerived/Free/Laws.lean (Back.of_free), Shelf42/LK1.lean (callV, callS), Shelf/KitTraced.lean (throwNew0V, throwNewS). -/
/-- where a method has thrown q: the class by its name, the cell, what was written, the world -/
def vx_T (XC : String → State → State → Prop) (st : State) (q : Addr) (t : State) (mc ms : Nat) (free : Addr → Prop) : Prop :=
  ∃ (E : String) (ce : Cell) (L : List Loc), XC E st t ∧ t.heap[q]? = some ce ∧ ce.vm = .none ∧ st.vm.findClass E = some ce.cls ∧ st.WarmedH t.vm ∧ st.sameButNew ({ t with vm := st.vm } : State) L mc ms ∧ ∀ z ∈ L, free z.base
def vx_Q (Qc : Array Value → State → Outcome → State → Prop) (XC : String → State → State → Prop) (mc ms : Nat) (free : Addr → Prop) : Array Value → State → Outcome → State → Prop := fun a st o t =>
  (Qc a st o t ∧ ∃ L, FrameEnd st o t L mc ms ∧ ∀ q ∈ L, free q.base) ∨ ∃ q, o = .threw q ∧ vx_T XC st q t mc ms free
/-- a callee that returns or throws -/
def vx_Met (l : Launch) (y : MethodName) (ws : List Cond) (rm : Room) (Pc : Array Value → State → Prop) (Qc : Array Value → State → Outcome → State → Prop) (XC : String → State → State → Prop) (mc ms : Nat) (free : Addr → Prop) : Prop :=
  MetFree l y (headSpec ws rm) Pc (fun _ _ _ _ _ => True) (vx_Q Qc XC mc ms free)
def vx_Post (XC : String → State → State → Prop) (mc ms : Nat) (free : Addr → Prop) : Pt → Array Value → Addr → Pt → Prop := fun A a q B =>
  ∃ (g : JFrame) (mk : MethodId) (t : State) (L : List Loc) (E : String) (ce : Cell), B.U.heap = t.heap ∧ B.U.vm = t.vm ∧ XC E (A.U.calling g mk a) t ∧ t.heap[q]? = some ce ∧ ce.vm = .none ∧ A.U.vm.findClass E = some ce.cls ∧ B.locs = A.locs ++ L ∧ (∀ z ∈ L, free z.base) ∧ B.cells = A.cells + mc ∧ B.slots = A.slots + ms
def vx_Back (l : Launch) (R : Room) (p : Program) (e : Env) (below : List Frame) (s : State) (sargs : Array Value) (y : MethodName) (len W9 : Nat)
    (Pre : Pt → Array Value → Prop) (Post : Pt → Array Value → Option Value → Pt → Prop) (PostX : Pt → Array Value → Addr → Pt → Prop) : Prop :=
  ∀ (m : MethodId) (meth : Method) (c : Code) (A : Pt) (g : JFrame) (ig : Instr) (mk : MethodId) (a : Array Value),
    Stand p l e R s m sargs below meth c A.U A.locs A.cells A.slots → g.method = m → g.locals.size = c.maxLocals → decode c.code g.pc = .ok (ig, len) →
    2 * g.monitorRoom + (g.stack.map fun v => v.category).sum ≤ W9 → A.U.methodNamed? y = some mk → Pre A a →
    (∃ (v : Option Value) (B : Pt), Stand p l e R s m sargs below meth c B.U B.locs B.cells B.slots ∧ Post A a v B ∧
      Steps p.tables e below (doInvoke e (A.U.setTop g) [] mk a).1 (B.U.setTop { g with pc := g.pc + len, stack := v.toList ++ g.stack })) ∨
    (∃ (q : Addr) (B : Pt), Stand p l e R s m sargs below meth c B.U B.locs B.cells B.slots ∧ PostX A a q B ∧
      Steps p.tables e below (doInvoke e (A.U.setTop g) [] mk a).1 ((B.U.setTop g).pushFrame (.throwing q)))
section Payer
variable {l : Launch} {R : Room} {p : Program} {e : Env} {below : List Frame} {s : State} {sargs : Array Value} {y : MethodName} {len W9 : Nat}
theorem vx_back {ws : List Cond} {rm : Room} {Pc : Array Value → State → Prop} {Qc : Array Value → State → Outcome → State → Prop} {XC : String → State → State → Prop} {mc ms : Nat} {free : Addr → Prop} {bytes : ByteArray} {maxL : Nat} {ret : Option FieldType}
    (hM : vx_Met l y ws rm Pc Qc XC mc ms free) (hblind : FrameBlind Pc) (hrc : rm.cells = mc) (hrs : rm.slots = ms)
    (hframes : rm.frames + 1 ≤ R.frames) (hlocals : W9 + (maxL + 11) + rm.locals ≤ R.locals)
    (hws : ∀ w ∈ ws, ∀ a' U, s.WarmedH U.vm → w.before a' U = true) (hcode : Cond.code y bytes maxL ret ∈ ws) (hinit : ∀ a' U, s.WarmedH U.vm → (Cond.initialized y.cls).before a' U = true) :
    vx_Back l R p e below s sargs y len W9 (PreOf R mc ms Pc) (PostOf Qc mc ms free) (vx_Post XC mc ms free) := by
  intro m meth c A g ig mk a X hg hsize hdg hW hn hp
  have h1 : (headSpec ws rm).pre.before a A.U = true := atoms_intro fun w hw => hws w hw _ _ X.warmed
  have h2 : (Cond.code y bytes maxL ret).before a A.U = true := hws _ hcode _ _ X.warmed
  have h3 : (Cond.initialized y.cls).before a A.U = true := hinit _ _ X.warmed
  have h4 : A.cells + (headSpec ws rm).room.cells ≤ R.cells := by rw [show (headSpec ws rm).room.cells = mc from hrc]; exact hp.1
  have h5 : A.slots + (headSpec ws rm).room.slots ≤ R.slots := by rw [show (headSpec ws rm).room.slots = ms from hrs]; exact hp.2.1
  have hPc : Pc a (A.U.calling g mk a) := hblind _ _ _ _ hp.2.2
  obtain ⟨U, Ls, c0, s0⟩ := A
  dsimp only [Pt.U, Pt.locs, Pt.cells, Pt.slots] at h1 h2 h3 h4 h5 X hn hPc ⊢
  obtain ⟨methY, cY, hmY, hcY, -, hlY, -, -, -, -⟩ := Cond.code_spec hn h2
  obtain ⟨kY, hkY, -⟩ := className_of_methodNamed hn
  have hinitY : kY.init = .initialized := Cond.initialized_spec (findClass_of_methodNamed hn) hkY h3
  have h : At U g.method c below := by rw [hg]; exact X.here
  have hlocals9 : W9 + (maxL + 11) + (headSpec ws rm).room.locals ≤ R.locals := hlocals
  have happ : (headSpec ws rm).appliesLoose y e.platform (U.calling g mk a) = true :=
    Spec.appliesLoose_calling (g := g) h hdg hn hkY hinitY
      (X.room_calling (g := g) (R' := (headSpec ws rm).room) hsize hmY hcY hframes (by rw [hlY]; omega) h4 h5) h1
  obtain ⟨mid, hmid⟩ := h.above
  have hfr : (U.setTop g).frames = (.java g :: mid) ++ below := by rw [State.frames_setTop' g h.top, hmid]; rfl
  obtain ⟨o, s₂, hsteps, -, hend, hq⟩ := Steps.callFree hM p X.admits X.cas X.clock (acts := []) hfr happ hPc trivial
  have hq' : vx_Q Qc XC mc ms free a (U.calling g mk a) o s₂ := hq
  rw [State.frames_setTop' g h.top] at hend
  obtain ⟨g₀, hg0⟩ := Option.isSome_iff_exists.mp h.top
  obtain ⟨r, hr⟩ := State.topJava?_eq_some.mp hg0
  have hr' : (({ U with heap := s₂.heap, slotsUsed := s₂.slotsUsed } : State).setVm s₂.vm).frames = .java g₀ :: r := hr
  rcases hq' with ⟨hqc, L, hfe, hL⟩ | ⟨q, rfl, E, ce, L, hx, hce, hcv, hcl, hW₂, hsm, hL⟩
  · obtain ⟨⟨v, rfl⟩, hW₂, e2, q2, q3, q4, q5, q6⟩ := id hfe
    have e3 : s₂ = ({ (U.calling g mk a).setFrames s₂.frames with heap := s₂.heap, slotsUsed := s₂.slotsUsed } : State).setVm s₂.vm := by
      have : s₂ = ({ s₂ with vm := (U.calling g mk a).vm } : State).setVm s₂.vm := rfl
      rw [e2] at this
      exact this
    obtain ⟨c₂, i₂, len₂, hc₂, hd₂, hf₂⟩ := hend
    have hW' : U.WarmedH s₂.vm := hW₂
    have hcc : c₂ = c := by
      have h1 : s₂.code? g.method = U.code? g.method := by
        rw [State.code?_eq, State.code?_eq, hW'.alike.method?]
      exact Option.some.inj (hc₂.symm.trans (h1.trans h.code))
    subst hcc
    have hlen : len₂ = len := by rw [hdg] at hd₂; cases hd₂; rfl
    subst hlen
    have hs₂ : s₂ = (({ U with heap := s₂.heap, slotsUsed := s₂.slotsUsed } : State).setVm s₂.vm).setTop { g with pc := g.pc + len₂, stack := v.toList ++ g.stack } := by
      refine e3.trans ?_
      rw [hf₂, State.calling_eq h.top, State.setFrames_setFrames, State.setTop_of_frames _ hr', hr]
      rfl
    have hsame : U.sameButNew ({ U with heap := s₂.heap, slotsUsed := s₂.slotsUsed } : State) L mc ms := by
      refine ⟨?_, q2, q3, q4, q5, q6⟩
      obtain ⟨t, ht, -⟩ := State.frames_cons hr
      show ({ U with heap := s₂.heap, slotsUsed := s₂.slotsUsed } : State) = { U.setFrames U.frames with heap := s₂.heap, slotsUsed := s₂.slotsUsed }
      rw [State.setFrames_self ht]
    subst hg
    refine Or.inl ⟨v, ⟨(({ U with heap := s₂.heap, slotsUsed := s₂.slotsUsed } : State).setVm s₂.vm), Ls ++ L, c0 + mc, s0 + ms⟩,
      ⟨X.admits, X.cas, X.clock, X.frames, X.room, X.hears, X.method, X.code, (X.here.setHeapUsed s₂.heap s₂.slotsUsed).setVm hW'.alike, X.tail, State.WarmedH.trans X.warmed hW', X.limits, X.bytes, X.same.trans (hsame.setVm s.vm)⟩,
      ⟨g, mk, s₂, L, rfl, rfl, hqc, rfl, hL, rfl, rfl⟩, ?_⟩
    show Steps p.tables e below _ ((({ U with heap := s₂.heap, slotsUsed := s₂.slotsUsed } : State).setVm s₂.vm).setTop { g with pc := g.pc + len₂, stack := v.toList ++ g.stack })
    rw [← hs₂]
    exact hsteps
  · obtain ⟨e2, q2, q3, q4, q5, q6⟩ := id hsm
    have e3 : s₂ = ({ (U.calling g mk a).setFrames s₂.frames with heap := s₂.heap, slotsUsed := s₂.slotsUsed } : State).setVm s₂.vm := by
      have : s₂ = ({ s₂ with vm := (U.calling g mk a).vm } : State).setVm s₂.vm := rfl
      rw [e2] at this
      exact this
    have hf₂ : s₂.frames = .throwing q :: .java g :: U.frames.tail := hend
    have hW' : U.WarmedH s₂.vm := hW₂
    have hs₂ : s₂ = ((({ U with heap := s₂.heap, slotsUsed := s₂.slotsUsed } : State).setVm s₂.vm).setTop g).pushFrame (.throwing q) := by
      refine e3.trans ?_
      rw [hf₂, State.calling_eq h.top, State.setFrames_setFrames, State.pushFrame, State.frames_setTop _ hr', State.setTop_of_frames _ hr', State.setFrames_setFrames, hr]
      rfl
    have hsame : U.sameButNew ({ U with heap := s₂.heap, slotsUsed := s₂.slotsUsed } : State) L mc ms := by
      refine ⟨?_, q2, q3, q4, q5, q6⟩
      obtain ⟨t, ht, -⟩ := State.frames_cons hr
      show ({ U with heap := s₂.heap, slotsUsed := s₂.slotsUsed } : State) = { U.setFrames U.frames with heap := s₂.heap, slotsUsed := s₂.slotsUsed }
      rw [State.setFrames_self ht]
    subst hg
    refine Or.inr ⟨q, ⟨(({ U with heap := s₂.heap, slotsUsed := s₂.slotsUsed } : State).setVm s₂.vm), Ls ++ L, c0 + mc, s0 + ms⟩,
      ⟨X.admits, X.cas, X.clock, X.frames, X.room, X.hears, X.method, X.code, (X.here.setHeapUsed s₂.heap s₂.slotsUsed).setVm hW'.alike, X.tail, State.WarmedH.trans X.warmed hW', X.limits, X.bytes, X.same.trans (hsame.setVm s.vm)⟩,
      ⟨g, mk, s₂, L, E, ce, rfl, rfl, hx, hce, hcv, hcl, rfl, hL, rfl, rfl⟩, ?_⟩
    show Steps p.tables e below _ (((({ U with heap := s₂.heap, slotsUsed := s₂.slotsUsed } : State).setVm s₂.vm).setTop g).pushFrame (.throwing q))
    rw [← hs₂]
    exact hsteps
end Payer
section Calls
variable {p : Program} {l : Launch} {e : Env} {R : Room} {s : State} {m : MethodId} {args : Array Value} {below : List Frame} {meth : Method} {c : Code} {T : State} {locs : List Loc} {cells slots : Nat}
theorem vx_callV (X : Stand p l e R s m args below meth c T locs cells slots) (hexec : p.tables.exec = Jvm.exec) {own C : String} {index : Nat} {y : MethodName} {bytes : ByteArray} {maxL : Nat} {ret : Option FieldType}
    (hown : s.vm.findClass own = some m.cls) (hlink : (Cond.methodLink own index y).before args s = true) (hinst : (Cond.instanceMethod y).before args s = true) (hsel : (Cond.selects C y y).before args s = true)
    (hcode : (Cond.code y bytes maxL ret).before args s = true) (hy : y.cls ≠ "java/lang/invoke/MethodHandle" ∧ y.cls ≠ "java/lang/invoke/VarHandle")
    {W9 : Nat} {Pre : Pt → Array Value → Prop} {Post : Pt → Array Value → Option Value → Pt → Prop} {PostX : Pt → Array Value → Addr → Pt → Prop} (hK : vx_Back l R p e below s args y 3 W9 Pre Post PostX)
    {b : Addr} {cellB : Cell} (hcell : T.heap[b]? = some cellB) (hobj : cellB.vm.isStatics = false) (hcls : s.vm.findClass C = some cellB.cls)
    {g : JFrame} (hg : g.method = m) (hsize : g.locals.size = c.maxLocals) {argsL rest : List Value} (hlen : ∀ sig, parseMethodDescriptor y.desc = some sig → argsL.length = sig.parameters.length)
    (hstack : g.stack = argsL.reverse ++ .ref b :: rest) (hW : 2 * g.monitorRoom + (rest.map fun v => v.category).sum ≤ W9) (hdg : decode c.code g.pc = .ok (.invokevirtual index, 3))
    (hpre : ∀ vm₁, s.WarmedH vm₁ → Pre ⟨T.setVm vm₁, locs, cells, slots⟩ (Value.ref b :: argsL).toArray) :
    (∃ (v : Option Value) (vm₁ : Vm) (B : Pt), s.WarmedH vm₁ ∧ Stand p l e R s m args below meth c B.U B.locs B.cells B.slots ∧ Post ⟨T.setVm vm₁, locs, cells, slots⟩ (Value.ref b :: argsL).toArray v B ∧
      ∀ target, Steps p.tables e below (B.U.setTop { g with pc := g.pc + 3, stack := v.toList ++ rest }) target → Steps p.tables e below (T.setTop g) target) ∨
    (∃ (q : Addr) (vm₁ : Vm) (B : Pt), s.WarmedH vm₁ ∧ Stand p l e R s m args below meth c B.U B.locs B.cells B.slots ∧ PostX ⟨T.setVm vm₁, locs, cells, slots⟩ (Value.ref b :: argsL).toArray q B ∧
      Steps p.tables e below (T.setTop g) ((B.U.setTop { g with stack := rest }).pushFrame (.throwing q))) := by
  obtain ⟨mk, methM, hnamed, hmethM, hstM, habM⟩ := Cond.instanceMethod_spec hinst
  obtain ⟨methM', cM, hmethM', -, -, -, -, -, -, hsigM⟩ := Cond.code_spec hnamed hcode
  cases hmethM.symm.trans hmethM'
  obtain ⟨c2, r2, m2, q1, q2, q3, q4, kP, hkP, hkPi⟩ := Cond.selects_spec hsel
  cases hcls.symm.trans q1
  cases (State.methodFound?_of_named hnamed hy).symm.trans q2
  cases hnamed.symm.trans q3
  have hselP : selectMethod e.platform s.vm cellB.cls mk = .method mk := by rw [Launch.admits_selectMethod X.admits]; exact q4
  obtain ⟨vm₁, X₁, hstep₁⟩ := X.invokevirtual hexec hown hlink hnamed hmethM hstM hkP hkPi hy (a := b) (cell := cellB) hcell
    (fun z h => by rw [h] at hobj; cases hobj) hselP hmethM habM hkP hkPi (g := g) hg (argsL := argsL) (rest := rest) (hlen _ hsigM) hstack hdg
  rcases hK m meth c ⟨T.setVm vm₁, locs, cells, slots⟩ { g with stack := rest } (.invokevirtual index) mk (Value.ref b :: argsL).toArray X₁ hg hsize hdg hW (X₁.named hnamed) (hpre vm₁ X₁.warmed) with ⟨v, B, X', hpost, hsteps⟩ | ⟨q, B, X', hpost, hsteps⟩
  · exact Or.inl ⟨v, vm₁, B, X₁.warmed, X', hpost, fun target h => hstep₁ _ fun acts => by rw [doInvoke_state]; exact hsteps.trans h⟩
  · exact Or.inr ⟨q, vm₁, B, X₁.warmed, X', hpost, hstep₁ _ fun acts => by rw [doInvoke_state]; exact hsteps⟩
theorem vx_callS (X : Stand p l e R s m args below meth c T locs cells slots) (hexec : p.tables.exec = Jvm.exec) {own : String} {index : Nat} {y : MethodName} {bytes : ByteArray} {maxL : Nat} {ret : Option FieldType}
    (hown : s.vm.findClass own = some m.cls) (hlink : (Cond.methodLink own index y).before args s = true) (hstat : (Cond.static y).before args s = true) (hinit : (Cond.initialized y.cls).before args s = true)
    (hcode : (Cond.code y bytes maxL ret).before args s = true) (hy : y.cls ≠ "java/lang/invoke/MethodHandle" ∧ y.cls ≠ "java/lang/invoke/VarHandle")
    {W9 : Nat} {Pre : Pt → Array Value → Prop} {Post : Pt → Array Value → Option Value → Pt → Prop} {PostX : Pt → Array Value → Addr → Pt → Prop} (hK : vx_Back l R p e below s args y 3 W9 Pre Post PostX)
    {g : JFrame} (hg : g.method = m) (hsize : g.locals.size = c.maxLocals) {argsL rest : List Value} (hlen : ∀ sig, parseMethodDescriptor y.desc = some sig → argsL.length = sig.parameters.length)
    (hstack : g.stack = argsL.reverse ++ rest) (hW : 2 * g.monitorRoom + (rest.map fun v => v.category).sum ≤ W9) (hdg : decode c.code g.pc = .ok (.invokestatic index, 3))
    (hpre : ∀ vm₁, s.WarmedH vm₁ → Pre ⟨T.setVm vm₁, locs, cells, slots⟩ argsL.toArray) :
    (∃ (v : Option Value) (vm₁ : Vm) (B : Pt), s.WarmedH vm₁ ∧ Stand p l e R s m args below meth c B.U B.locs B.cells B.slots ∧ Post ⟨T.setVm vm₁, locs, cells, slots⟩ argsL.toArray v B ∧
      ∀ target, Steps p.tables e below (B.U.setTop { g with pc := g.pc + 3, stack := v.toList ++ rest }) target → Steps p.tables e below (T.setTop g) target) ∨
    (∃ (q : Addr) (vm₁ : Vm) (B : Pt), s.WarmedH vm₁ ∧ Stand p l e R s m args below meth c B.U B.locs B.cells B.slots ∧ PostX ⟨T.setVm vm₁, locs, cells, slots⟩ argsL.toArray q B ∧
      Steps p.tables e below (T.setTop g) ((B.U.setTop { g with stack := rest }).pushFrame (.throwing q))) := by
  obtain ⟨mk, hnamed⟩ := Cond.code_named hcode
  obtain ⟨methM, cM, hmethM, -, -, -, -, -, -, hsigM⟩ := Cond.code_spec hnamed hcode
  have hstatic : methM.isStatic = true := Cond.static_spec hnamed hmethM hstat
  obtain ⟨kP, hkP, -⟩ := className_of_methodNamed hnamed
  have hinitP : kP.init = .initialized := Cond.initialized_spec (findClass_of_methodNamed hnamed) hkP hinit
  obtain ⟨vm₁, X₁, hstep₁⟩ := X.invokestatic hexec hown hlink hnamed hmethM hstatic hkP hinitP hy (g := g) hg (argsL := argsL) (rest := rest) (hlen _ hsigM) hstack hdg
  rcases hK m meth c ⟨T.setVm vm₁, locs, cells, slots⟩ { g with stack := rest } (.invokestatic index) mk argsL.toArray X₁ hg hsize hdg hW (X₁.named hnamed) (hpre vm₁ X₁.warmed) with ⟨v, B, X', hpost, hsteps⟩ | ⟨q, B, X', hpost, hsteps⟩
  · exact Or.inl ⟨v, vm₁, B, X₁.warmed, X', hpost, fun target h => hstep₁ _ fun acts => by rw [doInvoke_state]; exact hsteps.trans h⟩
  · exact Or.inr ⟨q, vm₁, B, X₁.warmed, X', hpost, hstep₁ _ fun acts => by rw [doInvoke_state]; exact hsteps⟩
end Calls
theorem vx_cls {s : State} {T : State} {vm₁ : Vm} {E : String} {k : ClassId} (hW : s.WarmedH vm₁) (h : (T.setVm vm₁).vm.findClass E = some k) : s.vm.findClass E = some k := by
  have h1 : vm₁.findClass E = some k := h
  rw [hW.alike.findClass] at h1
  exact h1
/-- the method's frame g, with q thrown over it -/
def vx_W (p : Program) (l : Launch) (e : Env) (R : Room) (s : State) (m : MethodId) (args : Array Value) (below : List Frame) (meth : Method) (c : Code) (H : Heap) (locs : List Loc) (cells slots : Nat) (Q : State → Prop) (g : JFrame) (q : Addr) : Prop :=
  ∀ T : State, T.heap = H → Stand p l e R s m args below meth c T locs cells slots → ∃ t, Steps p.tables e below ((T.setTop g).pushFrame (.throwing q)) t ∧ Q t
def vx_Run (p : Program) (l : Launch) (e : Env) (R : Room) (s : State) (m : MethodId) (args : Array Value) (below : List Frame) (meth : Method) (c : Code) (H : Heap) (locs : List Loc) (cells slots mc ms : Nat) (g : JFrame) (rest : List Value) (Qa : State → Outcome → State → Prop) (XC : String → State → State → Prop) (free : Addr → Prop) : Prop :=
  ∀ T : State, T.heap = H → Stand p l e R s m args below meth c T locs cells slots →
    (∃ (v : Option Value) (st₀ t T' : State) (L : List Loc), st₀.heap = H ∧ Stand p l e R s m args below meth c T' (locs ++ L) (cells + mc) (slots + ms) ∧ (∀ q ∈ L, free q.base) ∧ T'.heap = t.heap ∧ T'.vm = t.vm ∧ Qa st₀ (.returned v) t ∧
      Goes p e below T g T' { g with pc := g.pc + 3, stack := v.toList ++ rest }) ∨
    (∃ (q : Addr) (st₀ t T' : State) (L : List Loc) (E : String) (ce : Cell), st₀.heap = H ∧ Stand p l e R s m args below meth c T' (locs ++ L) (cells + mc) (slots + ms) ∧ (∀ z ∈ L, free z.base) ∧ T'.heap = t.heap ∧ T'.vm = t.vm ∧ XC E st₀ t ∧ t.heap[q]? = some ce ∧ ce.vm = .none ∧ s.vm.findClass E = some ce.cls ∧
      Steps p.tables e below (T.setTop g) ((T'.setTop { g with stack := rest }).pushFrame (.throwing q)))
def vx_X {S : Type} (px : S → Prop) (B : String → S → State → Prop) (A : Nat → Prop) : String → State → State → Prop := fun E st t => ∃ u : S, px u ∧ B E u t ∧ va_F A st t
section Runs
variable {p : Program} {l : Launch} {e : Env} {R : Room} {s : State} {m : MethodId} {args : Array Value} {below : List Frame} {meth : Method} {c : Code} {H : Heap} {locs : List Loc} {cells slots : Nat}
variable {y : MethodName} {bytes cc : ByteArray} {maxL nL mc ms n index : Nat} {ret : Option FieldType} {ws : List Cond} {rm : Room} {Pc : Array Value → State → Prop} {Qc : Array Value → State → Outcome → State → Prop} {XC : String → State → State → Prop} {free : Addr → Prop} {Ts : List Cond} {own C : String} {b : Addr} {As rest : List Value} {g : JFrame}
theorem vx_callBack (cb : CallB R s args own index y bytes maxL ret ws rm mc ms n) (hM : vx_Met l y ws rm Pc Qc XC mc ms free) (hbl : FrameBlind Pc) : vx_Back l R p e below s args y 3 8 (PreOf R mc ms Pc) (PostOf Qc mc ms free) (vx_Post XC mc ms free) := by
  obtain ⟨hrc, hrs, hfr, hlo, hws, hcw, -, hini, -⟩ := cb
  exact vx_back (bytes := bytes) (maxL := maxL) (ret := ret) hM hbl hrc hrs hfr hlo hws hcw (fun a' U hW => word_at hW (Or.inl (by first | rfl | simp [Cond.onTables, Cond.keeps, Cond.steady])) hini)
theorem vx_runV (S : CallFix p m c cc nL s args Ts own) (hM : vx_Met l y ws rm Pc Qc XC mc ms free) (cw : CallW R s args own C index y bytes maxL ret ws rm mc ms n) (hp : PreV s H C b Pc As)
    (hg : g.method = m) (hn : As.length = n) (hsize : g.locals.size = nL) (hstack : g.stack = As.reverse ++ .ref b :: rest) (hW : 2 * g.monitorRoom + (rest.map fun v => v.category).sum ≤ 8) (hdg : decode cc g.pc = .ok (.invokevirtual index, 3)) (hf : cells + mc ≤ R.cells ∧ slots + ms ≤ R.slots) :
    vx_Run p l e R s m args below meth c H locs cells slots mc ms g rest (Qc (Value.ref b :: As).toArray) XC free := by
  have hK : vx_Back l R p e below s args y 3 8 (PreOf R mc ms Pc) (PostOf Qc mc ms free) (vx_Post XC mc ms free) := vx_callBack cw.1 hM hp.1
  obtain ⟨⟨-, -, -, -, -, -, hcode, -, hy, hlen, hl⟩, hin, hse⟩ := cw
  obtain ⟨hx, hb, hml, ho, -⟩ := S
  obtain ⟨-, ⟨cellB, hcB, hoB, hclB⟩, hPc⟩ := hp
  intro T hT X
  rcases vx_callV X hx (C := C) (bytes := bytes) (maxL := maxL) (ret := ret) ho hl hin hse hcode hy hK (by rw [hT]; exact hcB) hoB hclB hg (hsize.trans hml.symm) (argsL := As) (rest := rest) (fun sig h => hn.trans (hlen sig h)) hstack hW (by rw [hb]; exact hdg)
    (fun vm₁ hW₁ => ⟨hf.1, hf.2, hPc (T.setVm vm₁) hT hW₁⟩) with ⟨v, vm₁, ⟨U', l2, c2, s2⟩, hW₁, X', ⟨g', mk, t, L, e1, e2, hq, h1, hL, h2, h3⟩, st⟩ | ⟨q, vm₁, ⟨U', l2, c2, s2⟩, hW₁, X', ⟨g', mk, t, L, E, ce, e1, e2, hq, hce, hcv, hcl, h1, hL, h2, h3⟩, st⟩
  · dsimp only [Pt.U, Pt.locs, Pt.cells, Pt.slots] at X' e1 e2 h1 h2 h3 st
    subst h1; subst h2; subst h3
    exact Or.inl ⟨v, (T.setVm vm₁).calling g' mk (Value.ref b :: As).toArray, t, U', L, hT, X', hL, e1, e2, hq, st⟩
  · dsimp only [Pt.U, Pt.locs, Pt.cells, Pt.slots] at X' e1 e2 h1 h2 h3 st hcl
    subst h1; subst h2; subst h3
    exact Or.inr ⟨q, (T.setVm vm₁).calling g' mk (Value.ref b :: As).toArray, t, U', L, E, ce, hT, X', hL, e1, e2, hq, hce, hcv, vx_cls hW₁ hcl, st⟩
theorem vx_runS (S : CallFix p m c cc nL s args Ts own) (hM : vx_Met l y ws rm Pc Qc XC mc ms free) (cw : CallB R s args own index y bytes maxL ret ws rm mc ms n ∧ (Cond.static y).before args s = true) (hp : PreS s H Pc As)
    (hg : g.method = m) (hn : As.length = n) (hsize : g.locals.size = nL) (hstack : g.stack = As.reverse ++ rest) (hW : 2 * g.monitorRoom + (rest.map fun v => v.category).sum ≤ 8) (hdg : decode cc g.pc = .ok (.invokestatic index, 3)) (hf : cells + mc ≤ R.cells ∧ slots + ms ≤ R.slots) :
    vx_Run p l e R s m args below meth c H locs cells slots mc ms g rest (Qc As.toArray) XC free := by
  have hK : vx_Back l R p e below s args y 3 8 (PreOf R mc ms Pc) (PostOf Qc mc ms free) (vx_Post XC mc ms free) := vx_callBack cw.1 hM hp.1
  obtain ⟨⟨-, -, -, -, -, -, hcode, hini, hy, hlen, hl⟩, hstt⟩ := cw
  obtain ⟨hx, hb, hml, ho, -⟩ := S
  intro T hT X
  rcases vx_callS X hx (bytes := bytes) (maxL := maxL) (ret := ret) ho hl hstt hini hcode hy hK hg (hsize.trans hml.symm) (argsL := As) (rest := rest) (fun sig h => hn.trans (hlen sig h)) hstack hW (by rw [hb]; exact hdg)
    (fun vm₁ hW₁ => ⟨hf.1, hf.2, hp.2 (T.setVm vm₁) hT hW₁⟩) with ⟨v, vm₁, ⟨U', l2, c2, s2⟩, hW₁, X', ⟨g', mk, t, L, e1, e2, hq, h1, hL, h2, h3⟩, st⟩ | ⟨q, vm₁, ⟨U', l2, c2, s2⟩, hW₁, X', ⟨g', mk, t, L, E, ce, e1, e2, hq, hce, hcv, hcl, h1, hL, h2, h3⟩, st⟩
  · dsimp only [Pt.U, Pt.locs, Pt.cells, Pt.slots] at X' e1 e2 h1 h2 h3 st
    subst h1; subst h2; subst h3
    exact Or.inl ⟨v, (T.setVm vm₁).calling g' mk As.toArray, t, U', L, hT, X', hL, e1, e2, hq, st⟩
  · dsimp only [Pt.U, Pt.locs, Pt.cells, Pt.slots] at X' e1 e2 h1 h2 h3 st hcl
    subst h1; subst h2; subst h3
    exact Or.inr ⟨q, (T.setVm vm₁).calling g' mk As.toArray, t, U', L, E, ce, hT, X', hL, e1, e2, hq, hce, hcv, vx_cls hW₁ hcl, st⟩
end Runs
section Rows
variable {p : Program} {l : Launch} {e : Env} {R : Room} {s : State} {m : MethodId} {args : Array Value} {below : List Frame} {meth : Method} {c : Code} {H : Heap} {locs : List Loc} {cells slots : Nat} {Q : State → Prop}
variable {mc ms : Nat} {free : Addr → Prop} {A0 A1 : Nat → Prop} {H0 : Heap} {a : Array Value} {pc : Nat} {ls : Array Slot} {st0 rest : List Value}
theorem vx_keep {st₀ t T' : State} {L : List Loc} (h0 : st₀.heap = H) (e1 : T'.heap = t.heap) (hS : va_S A0 H0 H locs) (hA : ∀ q, q < H.size → A1 q → A0 q) (hf : ∀ q, free q → A0 q) (hL : ∀ q ∈ L, free q.base) (hF : va_F A1 st₀ t) :
    H.size ≤ T'.heap.size ∧ (∀ q : Nat, q < H.size → ¬ A1 q → T'.heap[q]? = H[q]?) ∧ va_S A0 H0 T'.heap (locs ++ L) := by
  obtain ⟨hz, hk⟩ := hF
  rw [h0] at hz hk
  exact ⟨by rw [e1]; exact hz, fun q h1 h2 => by rw [e1]; exact hk q h1 h2,
    ⟨Nat.le_trans hS.1 (by rw [e1]; exact hz), fun q h1 h2 => by rw [e1, hk q (Nat.lt_of_lt_of_le h1 hS.1) (fun z => h2 (hA q (Nat.lt_of_lt_of_le h1 hS.1) z))]; exact hS.2.1 q h1 h2, fun q hq => by
      rcases List.mem_append.mp hq with h | h
      · exact hS.2.2 q h
      · exact hf _ (hL q h)⟩⟩
theorem vx_calli {S SX : Type} {post : Int32 → S → Prop} {px : SX → Prop} {B : S → State → Prop} {BX : String → SX → State → Prop} {AX : Nat → Prop} (hr : vx_Run p l e R s m args below meth c H locs cells slots mc ms (F0 m pc ls st0) rest (va_Qi post B A1 a) (vx_X px BX AX) free) (hS : va_S A0 H0 H locs) (hA : ∀ q, q < H.size → A1 q → A0 q) (hf : ∀ q, free q → A0 q) (hAX : ∀ q, q < H.size → AX q → A0 q)
    (kx : ∀ (E : String) (ce : Cell) (q9 : Addr) (u : SX) (t : State) (H1 : Heap) (locs1 : List Loc), t.heap = H1 → s.vm.Alike t.vm → px u → BX E u t → H.size ≤ H1.size → (∀ q : Nat, q < H.size → ¬ AX q → H1[q]? = H[q]?) → va_S A0 H0 H1 locs1 → H1[q9]? = some ce → ce.vm = .none → s.vm.findClass E = some ce.cls → vx_W p l e R s m args below meth c H1 locs1 (cells + mc) (slots + ms) Q (F0 m pc ls rest) q9)
    (kk : ∀ (r : Int32) (u : S) (t : State) (H1 : Heap) (locs1 : List Loc), t.heap = H1 → s.vm.Alike t.vm → post r u → B u t → H.size ≤ H1.size → (∀ q : Nat, q < H.size → ¬ A1 q → H1[q]? = H[q]?) → va_S A0 H0 H1 locs1 → W p l e R s m args below meth c H1 locs1 (cells + mc) (slots + ms) Q (F0 m (pc + 3) ls (.int r :: rest))) : W p l e R s m args below meth c H locs cells slots Q (F0 m pc ls st0) := by
  intro T hT X
  rcases hr T hT X with ⟨v, st₀, t, T', L, h0, X', hL, e1, e2, ⟨⟨r, u, hv, hp, hb⟩, hF⟩, st⟩ | ⟨q, st₀, t, T', L, E, ce, h0, X', hL, e1, e2, ⟨u, hp, hb, hF⟩, hce, hcv, hcl, st⟩
  · cases hv
    obtain ⟨k1, k2, k3⟩ := vx_keep h0 e1 hS hA hf hL hF
    obtain ⟨t2, a1, b1⟩ := kk r u t T'.heap (locs ++ L) e1.symm (by rw [← e2]; exact X'.warmed.alike) hp hb k1 k2 k3 T' rfl X'
    exact ⟨t2, st t2 a1, b1⟩
  · obtain ⟨k1, k2, k3⟩ := vx_keep h0 e1 hS hAX hf hL hF
    obtain ⟨t2, a1, b1⟩ := kx E ce q u t T'.heap (locs ++ L) e1.symm (by rw [← e2]; exact X'.warmed.alike) hp hb k1 k2 k3 (by rw [e1]; exact hce) hcv hcl T' rfl X'
    exact ⟨t2, st.trans a1, b1⟩
theorem vx_calll {S SX : Type} {post : Int64 → S → Prop} {px : SX → Prop} {B : S → State → Prop} {BX : String → SX → State → Prop} {AX : Nat → Prop} (hr : vx_Run p l e R s m args below meth c H locs cells slots mc ms (F0 m pc ls st0) rest (va_Ql post B A1 a) (vx_X px BX AX) free) (hS : va_S A0 H0 H locs) (hA : ∀ q, q < H.size → A1 q → A0 q) (hf : ∀ q, free q → A0 q) (hAX : ∀ q, q < H.size → AX q → A0 q)
    (kx : ∀ (E : String) (ce : Cell) (q9 : Addr) (u : SX) (t : State) (H1 : Heap) (locs1 : List Loc), t.heap = H1 → s.vm.Alike t.vm → px u → BX E u t → H.size ≤ H1.size → (∀ q : Nat, q < H.size → ¬ AX q → H1[q]? = H[q]?) → va_S A0 H0 H1 locs1 → H1[q9]? = some ce → ce.vm = .none → s.vm.findClass E = some ce.cls → vx_W p l e R s m args below meth c H1 locs1 (cells + mc) (slots + ms) Q (F0 m pc ls rest) q9)
    (kk : ∀ (r : Int64) (u : S) (t : State) (H1 : Heap) (locs1 : List Loc), t.heap = H1 → s.vm.Alike t.vm → post r u → B u t → H.size ≤ H1.size → (∀ q : Nat, q < H.size → ¬ A1 q → H1[q]? = H[q]?) → va_S A0 H0 H1 locs1 → W p l e R s m args below meth c H1 locs1 (cells + mc) (slots + ms) Q (F0 m (pc + 3) ls (.long r :: rest))) : W p l e R s m args below meth c H locs cells slots Q (F0 m pc ls st0) := by
  intro T hT X
  rcases hr T hT X with ⟨v, st₀, t, T', L, h0, X', hL, e1, e2, ⟨⟨r, u, hv, hp, hb⟩, hF⟩, st⟩ | ⟨q, st₀, t, T', L, E, ce, h0, X', hL, e1, e2, ⟨u, hp, hb, hF⟩, hce, hcv, hcl, st⟩
  · cases hv
    obtain ⟨k1, k2, k3⟩ := vx_keep h0 e1 hS hA hf hL hF
    obtain ⟨t2, a1, b1⟩ := kk r u t T'.heap (locs ++ L) e1.symm (by rw [← e2]; exact X'.warmed.alike) hp hb k1 k2 k3 T' rfl X'
    exact ⟨t2, st t2 a1, b1⟩
  · obtain ⟨k1, k2, k3⟩ := vx_keep h0 e1 hS hAX hf hL hF
    obtain ⟨t2, a1, b1⟩ := kx E ce q u t T'.heap (locs ++ L) e1.symm (by rw [← e2]; exact X'.warmed.alike) hp hb k1 k2 k3 (by rw [e1]; exact hce) hcv hcl T' rfl X'
    exact ⟨t2, st.trans a1, b1⟩
theorem vx_callf {S SX : Type} {post : UInt32 → S → Prop} {px : SX → Prop} {B : S → State → Prop} {BX : String → SX → State → Prop} {AX : Nat → Prop} (hr : vx_Run p l e R s m args below meth c H locs cells slots mc ms (F0 m pc ls st0) rest (va_Qf post B A1 a) (vx_X px BX AX) free) (hS : va_S A0 H0 H locs) (hA : ∀ q, q < H.size → A1 q → A0 q) (hf : ∀ q, free q → A0 q) (hAX : ∀ q, q < H.size → AX q → A0 q)
    (kx : ∀ (E : String) (ce : Cell) (q9 : Addr) (u : SX) (t : State) (H1 : Heap) (locs1 : List Loc), t.heap = H1 → s.vm.Alike t.vm → px u → BX E u t → H.size ≤ H1.size → (∀ q : Nat, q < H.size → ¬ AX q → H1[q]? = H[q]?) → va_S A0 H0 H1 locs1 → H1[q9]? = some ce → ce.vm = .none → s.vm.findClass E = some ce.cls → vx_W p l e R s m args below meth c H1 locs1 (cells + mc) (slots + ms) Q (F0 m pc ls rest) q9)
    (kk : ∀ (r : UInt32) (u : S) (t : State) (H1 : Heap) (locs1 : List Loc), t.heap = H1 → s.vm.Alike t.vm → post r u → B u t → H.size ≤ H1.size → (∀ q : Nat, q < H.size → ¬ A1 q → H1[q]? = H[q]?) → va_S A0 H0 H1 locs1 → W p l e R s m args below meth c H1 locs1 (cells + mc) (slots + ms) Q (F0 m (pc + 3) ls (.float r :: rest))) : W p l e R s m args below meth c H locs cells slots Q (F0 m pc ls st0) := by
  intro T hT X
  rcases hr T hT X with ⟨v, st₀, t, T', L, h0, X', hL, e1, e2, ⟨⟨r, u, hv, hp, hb⟩, hF⟩, st⟩ | ⟨q, st₀, t, T', L, E, ce, h0, X', hL, e1, e2, ⟨u, hp, hb, hF⟩, hce, hcv, hcl, st⟩
  · cases hv
    obtain ⟨k1, k2, k3⟩ := vx_keep h0 e1 hS hA hf hL hF
    obtain ⟨t2, a1, b1⟩ := kk r u t T'.heap (locs ++ L) e1.symm (by rw [← e2]; exact X'.warmed.alike) hp hb k1 k2 k3 T' rfl X'
    exact ⟨t2, st t2 a1, b1⟩
  · obtain ⟨k1, k2, k3⟩ := vx_keep h0 e1 hS hAX hf hL hF
    obtain ⟨t2, a1, b1⟩ := kx E ce q u t T'.heap (locs ++ L) e1.symm (by rw [← e2]; exact X'.warmed.alike) hp hb k1 k2 k3 (by rw [e1]; exact hce) hcv hcl T' rfl X'
    exact ⟨t2, st.trans a1, b1⟩
theorem vx_calld {S SX : Type} {post : UInt64 → S → Prop} {px : SX → Prop} {B : S → State → Prop} {BX : String → SX → State → Prop} {AX : Nat → Prop} (hr : vx_Run p l e R s m args below meth c H locs cells slots mc ms (F0 m pc ls st0) rest (va_Qd post B A1 a) (vx_X px BX AX) free) (hS : va_S A0 H0 H locs) (hA : ∀ q, q < H.size → A1 q → A0 q) (hf : ∀ q, free q → A0 q) (hAX : ∀ q, q < H.size → AX q → A0 q)
    (kx : ∀ (E : String) (ce : Cell) (q9 : Addr) (u : SX) (t : State) (H1 : Heap) (locs1 : List Loc), t.heap = H1 → s.vm.Alike t.vm → px u → BX E u t → H.size ≤ H1.size → (∀ q : Nat, q < H.size → ¬ AX q → H1[q]? = H[q]?) → va_S A0 H0 H1 locs1 → H1[q9]? = some ce → ce.vm = .none → s.vm.findClass E = some ce.cls → vx_W p l e R s m args below meth c H1 locs1 (cells + mc) (slots + ms) Q (F0 m pc ls rest) q9)
    (kk : ∀ (r : UInt64) (u : S) (t : State) (H1 : Heap) (locs1 : List Loc), t.heap = H1 → s.vm.Alike t.vm → post r u → B u t → H.size ≤ H1.size → (∀ q : Nat, q < H.size → ¬ A1 q → H1[q]? = H[q]?) → va_S A0 H0 H1 locs1 → W p l e R s m args below meth c H1 locs1 (cells + mc) (slots + ms) Q (F0 m (pc + 3) ls (.double r :: rest))) : W p l e R s m args below meth c H locs cells slots Q (F0 m pc ls st0) := by
  intro T hT X
  rcases hr T hT X with ⟨v, st₀, t, T', L, h0, X', hL, e1, e2, ⟨⟨r, u, hv, hp, hb⟩, hF⟩, st⟩ | ⟨q, st₀, t, T', L, E, ce, h0, X', hL, e1, e2, ⟨u, hp, hb, hF⟩, hce, hcv, hcl, st⟩
  · cases hv
    obtain ⟨k1, k2, k3⟩ := vx_keep h0 e1 hS hA hf hL hF
    obtain ⟨t2, a1, b1⟩ := kk r u t T'.heap (locs ++ L) e1.symm (by rw [← e2]; exact X'.warmed.alike) hp hb k1 k2 k3 T' rfl X'
    exact ⟨t2, st t2 a1, b1⟩
  · obtain ⟨k1, k2, k3⟩ := vx_keep h0 e1 hS hAX hf hL hF
    obtain ⟨t2, a1, b1⟩ := kx E ce q u t T'.heap (locs ++ L) e1.symm (by rw [← e2]; exact X'.warmed.alike) hp hb k1 k2 k3 (by rw [e1]; exact hce) hcv hcl T' rfl X'
    exact ⟨t2, st.trans a1, b1⟩
theorem vx_callv {S SX : Type} {post : S → Prop} {px : SX → Prop} {B : S → State → Prop} {BX : String → SX → State → Prop} {AX : Nat → Prop} (hr : vx_Run p l e R s m args below meth c H locs cells slots mc ms (F0 m pc ls st0) rest (va_Qv post B A1 a) (vx_X px BX AX) free) (hS : va_S A0 H0 H locs) (hA : ∀ q, q < H.size → A1 q → A0 q) (hf : ∀ q, free q → A0 q) (hAX : ∀ q, q < H.size → AX q → A0 q)
    (kx : ∀ (E : String) (ce : Cell) (q9 : Addr) (u : SX) (t : State) (H1 : Heap) (locs1 : List Loc), t.heap = H1 → s.vm.Alike t.vm → px u → BX E u t → H.size ≤ H1.size → (∀ q : Nat, q < H.size → ¬ AX q → H1[q]? = H[q]?) → va_S A0 H0 H1 locs1 → H1[q9]? = some ce → ce.vm = .none → s.vm.findClass E = some ce.cls → vx_W p l e R s m args below meth c H1 locs1 (cells + mc) (slots + ms) Q (F0 m pc ls rest) q9)
    (kk : ∀ (u : S) (t : State) (H1 : Heap) (locs1 : List Loc), t.heap = H1 → s.vm.Alike t.vm → post u → B u t → H.size ≤ H1.size → (∀ q : Nat, q < H.size → ¬ A1 q → H1[q]? = H[q]?) → va_S A0 H0 H1 locs1 → W p l e R s m args below meth c H1 locs1 (cells + mc) (slots + ms) Q (F0 m (pc + 3) ls (rest))) : W p l e R s m args below meth c H locs cells slots Q (F0 m pc ls st0) := by
  intro T hT X
  rcases hr T hT X with ⟨v, st₀, t, T', L, h0, X', hL, e1, e2, ⟨⟨u, hv, hp, hb⟩, hF⟩, st⟩ | ⟨q, st₀, t, T', L, E, ce, h0, X', hL, e1, e2, ⟨u, hp, hb, hF⟩, hce, hcv, hcl, st⟩
  · cases hv
    obtain ⟨k1, k2, k3⟩ := vx_keep h0 e1 hS hA hf hL hF
    obtain ⟨t2, a1, b1⟩ := kk u t T'.heap (locs ++ L) e1.symm (by rw [← e2]; exact X'.warmed.alike) hp hb k1 k2 k3 T' rfl X'
    exact ⟨t2, st t2 a1, b1⟩
  · obtain ⟨k1, k2, k3⟩ := vx_keep h0 e1 hS hAX hf hL hF
    obtain ⟨t2, a1, b1⟩ := kx E ce q u t T'.heap (locs ++ L) e1.symm (by rw [← e2]; exact X'.warmed.alike) hp hb k1 k2 k3 (by rw [e1]; exact hce) hcv hcl T' rfl X'
    exact ⟨t2, st.trans a1, b1⟩
/-- caught by the row x of this method's table; the rows ahead don't take it -/
theorem vx_catch {own name : String} {E : String} {ce : Cell} {q : Addr} (hown : s.vm.findClass own = some m.cls) (pre : List ExceptionTableEntry) (x : ExceptionTableEntry) (suf : List ExceptionTableEntry) (hsplit : c.exceptionTable.toList = pre ++ x :: suf)
    (hpass : ∀ z ∈ pre, covers z pc = false ∨ (z.catchType ≠ 0 ∧ ∃ nm : String, (Cond.classLink own z.catchType nm).before args s = true ∧ va_Nc E nm s)) (hx : covers x pc = true) (h0 : x.catchType ≠ 0)
    (hlink : (Cond.classLink own x.catchType name).before args s = true) (hcast : (Cond.castable E name).before args s = true) (hcell : H[q]? = some ce) (hv : ce.vm = .none) (hcl : s.vm.findClass E = some ce.cls)
    (kk : W p l e R s m args below meth c H locs cells slots Q (F0 m x.handlerPc ls [.ref q])) : vx_W p l e R s m args below meth c H locs cells slots Q (F0 m pc ls rest) q := by
  intro T hT X
  have hpl : e.platform.magicAccessors = ({} : Platform).magicAccessors := by rw [X.admits.platform]
  obtain ⟨c3, c4, hc3, hc4, hasg⟩ := Cond.castable_spec hcast
  cases Option.some.inj (hc3.symm.trans hcl)
  obtain ⟨c5, hc5, hcl5⟩ := Cond.classLink_spec hown hlink e.platform hpl
  cases Option.some.inj (hc4.symm.trans hc5)
  obtain ⟨vm', X', st⟩ := X.thenCaughtThrough q (g := F0 m pc ls rest) rfl (Steps.refl _) (by rw [hT]; exact hcell) (by rw [hv]; rfl) (by obtain ⟨k9, h9, -⟩ := Vm.findClass_spec hcl; exact ⟨k9, h9⟩) pre x suf hsplit
    (fun z hz => by
      rcases hpass z hz with h | ⟨hz0, nm, hl1, hn1⟩
      · exact Or.inl h
      · obtain ⟨c6, hc6, hcl6⟩ := Cond.classLink_spec hown hl1 e.platform hpl
        obtain ⟨a8, b8, h1, h2, h3⟩ := hn1
        cases Option.some.inj (h1.symm.trans hcl)
        cases Option.some.inj (h2.symm.trans hc6)
        exact Or.inr ⟨hz0, _, hcl6, h3⟩) hx (Or.inr ⟨h0, c4, hcl5, hasg⟩)
  obtain ⟨t, a1, b1⟩ := kk (T.setVm vm') hT X'
  exact ⟨t, st.trans a1, b1⟩
end Rows
section Ends
variable {p : Program} {l : Launch} {e : Env} {R : Room} {s : State} {m : MethodId} {args : Array Value} {below : List Frame} {meth : Method} {c : Code} {H : Heap} {locs : List Loc} {cells slots : Nat} {Q : State → Prop}
variable {mc ms : Nat} {free : Addr → Prop} {A0 A1 : Nat → Prop} {H0 : Heap} {a : Array Value} {ls : Array Slot} {st0 rest : List Value}
variable {Qc : Array Value → State → Outcome → State → Prop} {XC : String → State → State → Prop}
/-- what a body that may throw owes at its end -/
def vx_MQ (below : List Frame) (Qc : Array Value → State → Outcome → State → Prop) (XC : String → State → State → Prop) (a : Array Value) (s : State) (mc ms : Nat) (free : Addr → Prop) : State → Prop := fun t =>
  ∃ o, t.status = .running ∧ Ended t below o ∧ vx_Q Qc XC mc ms free a s o t
theorem vx_ret {g : JFrame} {mc ms : Nat} (k : W p l e R s m args below meth c H locs cells slots (MQ below Qc args s mc ms free) g) : W p l e R s m args below meth c H locs cells slots (vx_MQ below Qc XC args s mc ms free) g := by
  intro T hT X
  obtain ⟨t, a1, o, b1, b2, b3, b4⟩ := k T hT X
  exact ⟨t, a1, o, b1, b2, Or.inl ⟨b3, b4⟩⟩
/-- not caught here: it goes on to the caller -/
theorem vx_widen {g : JFrame} {q : Addr} {k n : Nat} (h1 : cells ≤ k) (h2 : slots ≤ n) (kk : vx_W p l e R s m args below meth c H locs k n Q g q) : vx_W p l e R s m args below meth c H locs cells slots Q g q := fun T hT X => kk T hT (stand_widen X h1 h2)
theorem vx_out {pc : Nat} {E : String} {ce : Cell} {q : Addr} {mc ms : Nat} (hout : ∀ x ∈ c.exceptionTable.toList, covers x pc = false) (hlocks : meth.locks = false) (hcell : H[q]? = some ce) (hv : ce.vm = .none) (hcl : s.vm.findClass E = some ce.cls)
    (hx : ∀ t : State, t.heap = H → s.vm.Alike t.vm → XC E s t) (hf : ∀ z ∈ locs, free z.base) (hc : cells ≤ mc) (hs : slots ≤ ms) :
    vx_W p l e R s m args below meth c H locs cells slots (vx_MQ below Qc XC args s mc ms free) (F0 m pc ls rest) q := by
  intro T hT X
  obtain ⟨st1, hrun, hend, hW, hsm⟩ := X.leaveThrown q (g := F0 m pc ls rest) rfl rfl rfl hout hlocks
  have hcell9 : (T.setFrames (.throwing q :: below)).heap[q]? = some ce := by
    show T.heap[q]? = some ce
    rw [hT]; exact hcell
  exact ⟨_, st1, .threw q, hrun, hend, Or.inr ⟨q, rfl, E, ce, locs, hx _ hT hW.alike, hcell9, hv, hcl, hW, hsm.mono hc hs, hf⟩⟩
theorem vx_frame {U : State} {k n : Nat} (h : s.sameButNew ({ U with vm := s.vm } : State) locs k n) : s.heap.size ≤ U.heap.size ∧ ∀ q : Nat, q < s.heap.size → (∀ z ∈ locs, z.base ≠ q) → U.heap[q]? = s.heap[q]? := by
  obtain ⟨-, h2, -, -, -, h6⟩ := h
  refine ⟨h2, fun q hq hz => ?_⟩
  obtain ⟨c9, e1, e2, e3, e4⟩ := h6 q _ (Array.getElem?_eq_getElem hq)
  have hs : c9.slots = (s.heap[q]).slots := Array.ext_getElem? fun i => e4 i fun hm => hz _ hm rfl
  have h9 : c9 = s.heap[q] := by
    rw [hs] at e2
    exact e2
  have e5 : U.heap[q]? = some c9 := e1
  rw [e5, h9, Array.getElem?_eq_getElem hq]
/-- the words of a throw but the four that speak of the heap -/
def vx_no (w : Cond) : Bool := decide (w ≠ .isRef (.static Bundle.tN "UNASSIGNED_STACK" Bundle.steD)) && decide (w ≠ .isRef (.static Bundle.tN "SUPPRESSED_SENTINEL" Bundle.listD)) && decide (w ≠ .laysStatic Bundle.tN "UNASSIGNED_STACK" Bundle.steD) && decide (w ≠ .laysStatic Bundle.tN "SUPPRESSED_SENTINEL" Bundle.listD)
def vx_at0 (own : String) (ic : Nat) (X : String) (names : List String) : List Cond := (Bundle.ownAtoms0 own ic X names).filter vx_no
def vx_atS (own : String) (ic : Nat) (X : String) (names : List String) : List Cond := (Bundle.ownAtoms own ic X names).filter vx_no
/-- a word that the tables alone decide, or a good one -/
def vx_ot (w : Cond) : Bool := w.onTables || goodWord w
theorem vx_ot_at {args a' : Array Value} {s U : State} {w : Cond} (hW : s.WarmedH U.vm) (hvm : s.vm = U.vm) (hg : vx_ot w = true) (h : w.before args s = true) : w.before a' U = true := by
  simp only [vx_ot, Bool.or_eq_true] at hg
  rcases hg with hg | hg
  · exact va_tabs hg hvm h
  · exact word_at hW (good_of_word hg) h
/-- a list's words: the good ones out of the method's own list, the others by premises of their own -/
theorem vx_hat {args : Array Value} {s : State} {L B : List Cond} (h1 : ∀ w ∈ L.filter goodWord, w.before args s = true) (h2 : ∀ w ∈ L.filter (fun w => !goodWord w), w ∈ B) (h3 : ∀ w ∈ B, w.before args s = true) : ∀ w ∈ L, w.before args s = true := by
  intro w hw
  by_cases g : goodWord w = true
  · exact h1 w (List.mem_filter.mpr ⟨hw, g⟩)
  · refine h3 w (h2 w (List.mem_filter.mpr ⟨hw, ?_⟩))
    show (!goodWord w) = true
    cases hgw : goodWord w
    · rfl
    · exact absurd hgw g
theorem vx_c {args : Array Value} {s : State} {w : Cond} {B : List Cond} (h : w.before args s = true) (t : ∀ w ∈ B, w.before args s = true) : ∀ w' ∈ w :: B, w'.before args s = true := fun w' h' => (List.mem_cons.mp h').elim (fun e => by rw [e]; exact h) (t w')
theorem vx_n {args : Array Value} {s : State} : ∀ w ∈ ([] : List Cond), w.before args s = true := fun _ h => nomatch h
theorem vx_own {args : Array Value} {s : State} {L : List Cond} (h1 : ∀ w ∈ L.filter vx_no, w.before args s = true)
    (hU : (Cond.isRef (.static Bundle.tN "UNASSIGNED_STACK" Bundle.steD)).before args s = true) (hN : (Cond.isRef (.static Bundle.tN "SUPPRESSED_SENTINEL" Bundle.listD)).before args s = true)
    (lU : (Cond.laysStatic Bundle.tN "UNASSIGNED_STACK" Bundle.steD).before args s = true) (lN : (Cond.laysStatic Bundle.tN "SUPPRESSED_SENTINEL" Bundle.listD).before args s = true) : ∀ w ∈ L, w.before args s = true := by
  intro w hw
  by_cases e1 : w = .isRef (.static Bundle.tN "UNASSIGNED_STACK" Bundle.steD)
  · rw [e1]; exact hU
  · by_cases e2 : w = .isRef (.static Bundle.tN "SUPPRESSED_SENTINEL" Bundle.listD)
    · rw [e2]; exact hN
    · by_cases e3 : w = .laysStatic Bundle.tN "UNASSIGNED_STACK" Bundle.steD
      · rw [e3]; exact lU
      · by_cases e4 : w = .laysStatic Bundle.tN "SUPPRESSED_SENTINEL" Bundle.listD
        · rw [e4]; exact lN
        · exact h1 w (List.mem_filter.mpr ⟨hw, by unfold vx_no; rw [decide_eq_true e1, decide_eq_true e2, decide_eq_true e3, decide_eq_true e4]; rfl⟩)
/-- where a static field lies, its class's statics cell in H -/
def vx_L (C n d : String) (A : Nat → Prop) (U : State) (H : Heap) : Prop := ∃ (c : ClassId) (k : Class) (i : Nat) (f : Field) (a : Nat) (cell : Cell), U.vm.findClass C = some c ∧ U.fieldFound? C n d = some (c, k, i, f) ∧ f.isStatic = true ∧ k.statics = some a ∧ H[a]? = some cell ∧ cell.vm.isStatics = true ∧ cell.cls = c ∧ f.slot < cell.slots.size ∧ k.staticTypes[f.slot]? = some f.type ∧ ¬ A a
theorem vx_L.moved {C n d : String} {A : Nat → Prop} {u U : State} {H : Heap} (hvm : u.vm.Alike U.vm) (h : vx_L C n d A u H) : vx_L C n d A U H := by
  obtain ⟨c, k, i, f, a, cell, h1, h2, h3, h4, h5, h6, h7, h8, h9, h10⟩ := h
  obtain ⟨k', hi', he⟩ := State.fieldFound?_setVm hvm h2
  exact ⟨c, k', i, f, a, cell, by rw [hvm.findClass]; exact h1, hi', h3, by rw [he]; exact h4, h5, h6, h7, h8, by rw [he]; exact h9, h10⟩
theorem vx_L.kept {C n d : String} {A : Nat → Prop} {U : State} {H H1 : Heap} (h : vx_L C n d A U H) (hq : ∀ a : Nat, a < H.size → ¬ A a → H1[a]? = H[a]?) : vx_L C n d A U H1 := by
  obtain ⟨c, k, i, f, a, cell, h1, h2, h3, h4, h5, h6, h7, h8, h9, h10⟩ := h
  exact ⟨c, k, i, f, a, cell, h1, h2, h3, h4, by rw [hq a (Array.getElem?_eq_some_iff.mp h5).1 h10]; exact h5, h6, h7, h8, h9, h10⟩
theorem vx_L.narrow {C n d : String} {A B : Nat → Prop} {U : State} {H : Heap} (h : vx_L C n d A U H) (hAB : ∀ q, B q → A q) : vx_L C n d B U H := by
  obtain ⟨c, k, i, f, a, cell, h1, h2, h3, h4, h5, h6, h7, h8, h9, h10⟩ := h
  exact ⟨c, k, i, f, a, cell, h1, h2, h3, h4, h5, h6, h7, h8, h9, fun z => h10 (hAB _ z)⟩
theorem vx_L.word {C n d : String} {A : Nat → Prop} {s : State} {args : Array Value} (h : vx_L C n d A s s.heap) : (Cond.laysStatic C n d).before args s = true := by
  obtain ⟨c, k, i, f, a, cell, h1, h2, h3, h4, h5, h6, h7, h8, h9, -⟩ := h
  show (Cond.laysStatic C n d).holds args s none s [] = true
  exact Cond.laysStatic_of h1 h2 h3 h4 h5 h6 h7 h8 h9
/-- .. and what it holds: null or some reference -/
def vx_Zq (C n d : String) (A : Nat → Prop) (U : State) (H : Heap) : Prop := va_Zq C n d A U H ∧ vx_L C n d A U H
theorem vx_Zq.moved {C n d : String} {A : Nat → Prop} {u U : State} {H : Heap} (hvm : u.vm.Alike U.vm) (h : vx_Zq C n d A u H) : vx_Zq C n d A U H := ⟨va_Zq.moved hvm h.1, vx_L.moved hvm h.2⟩
theorem vx_Zq.kept {C n d : String} {A : Nat → Prop} {U : State} {H H1 : Heap} (h : vx_Zq C n d A U H) (hq : ∀ a : Nat, a < H.size → ¬ A a → H1[a]? = H[a]?) : vx_Zq C n d A U H1 := ⟨va_Zq.kept h.1 hq, vx_L.kept h.2 hq⟩
theorem vx_Zq.narrow {C n d : String} {A B : Nat → Prop} {U : State} {H : Heap} (h : vx_Zq C n d A U H) (hAB : ∀ q, B q → A q) : vx_Zq C n d B U H := ⟨va_Zq.narrow h.1 hAB, vx_L.narrow h.2 hAB⟩
theorem vx_Zqof {args : Array Value} {s : State} {C n d : String} {A : Nat → Prop} (hl : (Cond.laysStatic C n d).before args s = true) (hini : (Cond.initialized C).before args s = true) (h : (Cond.isRef (.static C n d)).before args s = true) (hA : ∀ a : Nat, a < s.heap.size → ¬ A a) : vx_Zq C n d A s s.heap := by
  refine ⟨va_Zqof hl hini h hA, ?_⟩
  obtain ⟨c, k, i, f, a, cell, h1, h2, h3, h4, h5, h6, h7, h8, h9⟩ := Cond.laysStatic_spec hl
  exact ⟨c, k, i, f, a, cell, h1, h2, h3, h4, h5, h6, h7, h8, h9, hA a (Array.getElem?_eq_some_iff.mp h5).1⟩
theorem vx_isRef {C n d : String} {v : Value} {A : Nat → Prop} {s : State} {args : Array Value} (h : va_Z C n d v A s s.heap) (hv : v.isRef = true) : (Cond.isRef (.static C n d)).before args s = true := by
  obtain ⟨cf, kf, fi, f, a, cell, h1, h2, h3, h4, h5, h6, h7, -⟩ := h
  have he : (Term.static C n d).eval args s none [] s = some v := by
    simp [Term.eval, State.fieldNamed?, h1, h2, h4, h5, h6, h7]
  simp only [Cond.before, Cond.holds, Cond.value, he]
  cases v <;> simp_all [Value.isRef]
theorem vx_isRefq {C n d : String} {A : Nat → Prop} {s : State} {args : Array Value} (h : va_Zq C n d A s s.heap) : (Cond.isRef (.static C n d)).before args s = true := by
  rcases h with h | ⟨t, h⟩
  · exact vx_isRef h rfl
  · exact vx_isRef h rfl
/-- the same frame, seen from here: as if the method were called anew in this heap -/
theorem vx_rebase {T : State} (X : Stand p l e R s m args below meth c T locs cells slots) {R' : Room} (hf : R'.frames ≤ R.frames) (hl : R'.locals ≤ R.locals) (hc : cells + R'.cells ≤ R.cells) (hs : slots + R'.slots ≤ R.slots) :
    Stand p l e R' ((T.setVm s.vm).setFrames (.invoking m args :: below)) m args below meth c T [] 0 0 := by
  have htop : (T.setVm s.vm).topJava?.isSome := X.here.top
  have hF : ((T.setVm s.vm).setFrames (.invoking m args :: below)).frames = .invoking m args :: below := State.frames_setFrames _ (State.cur_lt_of_top htop)
  obtain ⟨g₀, hg0⟩ := Option.isSome_iff_exists.mp htop
  obtain ⟨r, hr⟩ := State.topJava?_eq_some.mp hg0
  have hl9 : e.platform.stackLimits (T.setVm s.vm).me = e.platform.stackLimits s.me := X.limits
  have hb9 : (T.setVm s.vm).me.stackBytes = s.me.stackBytes := X.bytes
  refine ⟨X.admits, X.cas, X.clock, hF, ?_, X.hears, X.method, X.code, X.here, X.tail, X.warmed, ?_, ?_, ?_⟩
  · have h := X.room
    have hU : ((T.setVm s.vm).setFrames (.invoking m args :: below)).localsInUse = s.localsInUse := by
      rw [State.localsInUse_invoking hF (meth := meth) (c := c) X.method X.code, State.localsInUse_invoking X.frames X.method X.code]
    simp only [State.hasRoom, Bool.and_eq_true, decide_eq_true_eq] at h ⊢
    obtain ⟨⟨⟨⟨h1, h2, h3, h4, h5, h6⟩, h7⟩, h8⟩, h9⟩ := h
    rw [X.frames, List.length_cons] at h2 h3
    have q1 := X.heapSize
    have q2 := X.used
    simp only [hF, hU, List.length_cons, State.stackLimits_setFrames, State.stackBytes_setFrames, hl9, hb9]
    refine ⟨⟨⟨⟨by omega, by omega, by omega, by omega, by omega, h6⟩, ?_⟩, ?_⟩, X.book⟩
    · show T.heap.size + R'.cells ≤ e.platform.maxCells
      omega
    · show T.slotsUsed + R'.slots ≤ e.platform.maxSlots
      omega
  · rw [State.stackLimits_setFrames]; rfl
  · rw [State.stackBytes_setFrames]; rfl
  · refine ⟨?_, Nat.le_refl _, Nat.le_refl _, ?_, ?_, fun a c9 h9 => ⟨c9, h9, rfl, rfl, fun _ _ => rfl⟩⟩
    · obtain ⟨t, ht, -⟩ := State.frames_cons hr
      show T.setVm s.vm = { ((T.setVm s.vm).setFrames (.invoking m args :: below)).setFrames (T.setVm s.vm).frames with heap := T.heap, slotsUsed := T.slotsUsed }
      rw [State.setFrames_setFrames, State.setFrames_self ht]
      rfl
    · show T.slotsUsed = T.slotsUsed + ((T.heap.toList.drop T.heap.size).map (·.slots.size)).sum
      rw [List.drop_eq_nil_of_le (Nat.le_of_eq Array.length_toList)]
      rfl
    · show ((T.heap.toList.drop T.heap.size).map (·.slots.size)).sum ≤ 0
      rw [List.drop_eq_nil_of_le (Nat.le_of_eq Array.length_toList)]
      exact Nat.le_refl _
/-- 'throw new E()': new; dup; invokespecial; athrow -/
theorem vx_throw0 {cc : ByteArray} {pc : Nat} (hexec : p.tables.exec = Jvm.exec) (hb : c.code = cc) (hl : l.stackTraces = false) {own cls : String} {names : List String} {ik ic mc ms : Nat} {A : Nat → Prop}
    (hown : s.vm.findClass own = some m.cls) (hcls : Bundle.fit cls = true) (hnames : ∀ n ∈ names, Bundle.fit n = true)
    (hk : (Cond.classLink own ik cls).before args s = true) (hini : (Cond.initialized cls).before args s = true) (hat : ∀ w ∈ vx_at0 own ic cls names, w.before args s = true)
    (hgood : ∀ w ∈ Cond.classLink own ik cls :: Cond.initialized cls :: vx_at0 own ic cls names, vx_ot w = true)
    (hU : vx_Zq Bundle.tN "UNASSIGNED_STACK" Bundle.steD A s s.heap) (hN : vx_Zq Bundle.tN "SUPPRESSED_SENTINEL" Bundle.listD A s s.heap) (hS : va_S A s.heap H locs) (hsize : ls.size = c.maxLocals)
    (d0 : decode cc pc = .ok (.new ik, 3)) (d3 : decode cc (pc + 3) = .ok (.dup, 1)) (d4 : decode cc (pc + 4) = .ok (.invokespecial ic, 3)) (d7 : decode cc (pc + 7) = .ok (.athrow, 1))
    (hout : ∀ x ∈ c.exceptionTable.toList, covers x (pc + 7) = false)
    (hRframes : names.length + 3 < R.frames) (hRlocals : (rest.map fun v => v.category).sum + (13 * (names.length + 1) + 42) ≤ R.locals) (hRcells : cells + 1 ≤ R.cells) (hRslots : slots + 6 ≤ R.slots) (hlocks : meth.locks = false)
    (hx : ∀ t : State, s.vm.Alike t.vm → H.size ≤ t.heap.size → (∀ q : Nat, q < H.size → t.heap[q]? = H[q]?) → XC cls s t)
    (hf : ∀ z ∈ locs, free z.base) (hc : cells + 1 ≤ mc) (hs : slots + 6 ≤ ms) :
    W p l e R s m args below meth c H locs cells slots (vx_MQ below Qc XC args s mc ms free) (F0 m pc ls rest) := by
  intro T hT X
  have htr : e.platform.stackTraces = false := (show e.platform.stackTraces = l.stackTraces by rw [X.admits.platform]).trans hl
  have Y := vx_rebase X (R' := { frames := R.frames, locals := R.locals, cells := 1, slots := 6 }) (Nat.le_refl _) (Nat.le_refl _) hRcells hRslots
  obtain ⟨s', hA⟩ : ∃ z, z = (T.setVm s.vm).setFrames (.invoking m args :: below) := ⟨_, rfl⟩
  rw [← hA] at Y
  have hvm : s'.vm = s.vm := by rw [hA]; rfl
  have hhp : s'.heap = H := by rw [hA]; exact hT
  have hW0 : s.WarmedH s'.vm := by rw [hvm]; exact State.WarmedH.refl s
  have hat' : ∀ w ∈ vx_at0 own ic cls names, w.before args s' = true := fun w hw => vx_ot_at hW0 hvm.symm (hgood w (List.mem_cons_of_mem _ (List.mem_cons_of_mem _ hw))) (hat w hw)
  have hk' : (Cond.classLink own ik cls).before args s' = true := vx_ot_at hW0 hvm.symm (hgood _ List.mem_cons_self) hk
  have hini' : (Cond.initialized cls).before args s' = true := vx_ot_at hW0 hvm.symm (hgood _ (List.mem_cons_of_mem _ List.mem_cons_self)) hini
  have hU' : vx_Zq Bundle.tN "UNASSIGNED_STACK" Bundle.steD A s' s'.heap := by rw [hhp]; exact vx_Zq.moved hW0.alike (hU.kept hS.2.1)
  have hN' : vx_Zq Bundle.tN "SUPPRESSED_SENTINEL" Bundle.listD A s' s'.heap := by rw [hhp]; exact vx_Zq.moved hW0.alike (hN.kept hS.2.1)
  have h : ∀ w ∈ Bundle.ownAtoms0 own ic cls names, w.before args s' = true := vx_own hat' (vx_isRefq hU'.1) (vx_isRefq hN'.1) hU'.2.word hN'.2.word
  have hown' : s'.vm.findClass own = some m.cls := by rw [hvm]; exact hown
  have hins : (Cond.instantiable cls 6).before args s' = true := h _ (by simp [Bundle.ownAtoms0])
  obtain ⟨vm₁, cX, kX, hfX, hkX, -, -, X₁, st1⟩ := Y.newCold hexec (own := own) (C := cls) (index := ik) (n := 6) hown' hk' hins hini'
    (g := F0 m pc ls rest) rfl (by rw [hb]; exact d0) (Nat.le_refl _) (Nat.le_refl _)
  generalize hT1 : (T.setVm vm₁).pushCell { cls := cX, slots := kX.instanceTypes.map defaultValue, vm := .none } = T1 at X₁ st1
  have hcat : (Value.ref T.heap.size).category = 1 := rfl
  have hcellA : T1.heap[T.heap.size]? = some (freshCell cX kX) := by rw [← hT1]; exact State.heap_pushCell_size _ _
  have d3' : decode c.code (pc + 3) = .ok (.dup, 1) := by rw [hb]; exact d3
  obtain ⟨U, hsteps, hrun, hend, hW, hsame, ce, hce, hO⟩ := X₁.ctorThrow0 hexec htr (own := own) (cls := cls) (names := names) (ic := ic) hown' hcls hnames h (fun x hx => nomatch hx) hfX hkX hcellA (by rw [hhp, hT]; exact Nat.le_refl _)
    (g := { method := m, pc := pc + 4, locals := ls, stack := .ref T.heap.size :: .ref T.heap.size :: rest, locked := none }) rfl hsize rfl rfl (rest := rest) rfl
    (by rw [hb]; exact d4) (by rw [hb]; exact d7) hout hRframes (by simp only [List.map_cons, List.sum_cons, hcat]; omega) hlocks
  obtain ⟨f1, f2⟩ := vx_frame hsame
  rw [hhp] at f1 f2
  have hWs : s.WarmedH U.vm := State.WarmedH.trans hW0 hW
  have hcl : s.vm.findClass cls = some ce.cls := by
    have h9 := hO.cls
    rw [hvm] at h9
    exact h9
  have hall : s.sameButNew ({ U with vm := s.vm } : State) locs mc ms := by
    subst hA
    obtain ⟨e1, e2⟩ := hsame
    rw [State.setFrames_setFrames] at e1
    have h2 : (T.setVm s.vm).sameButNew ({ U with vm := s.vm } : State) [] (0 + 1) (0 + 6) := ⟨e1, e2⟩
    have h3 := X.same.trans h2
    rw [List.append_nil] at h3
    exact h3.mono hc hs
  refine ⟨U, ?_, .threw T.heap.size, hrun, hend, Or.inr ⟨T.heap.size, rfl, cls, ce, locs, hx U hWs.alike f1 (fun q hq => f2 q hq (fun z hz => nomatch hz)), hce, hO.vm, hcl, hWs, hall, hf⟩⟩
  refine st1 _ ?_
  show Steps p.tables e below (T1.setTop { method := m, pc := pc + 3, locals := ls, stack := .ref T.heap.size :: rest, locked := none }) _
  jvm_step X₁.here [X₁.here.top, hexec, d3', Value.category]
  exact hsteps
/-- 'throw new E("text")': new; dup; ldc; invokespecial; athrow -/
theorem vx_throwS {cc : ByteArray} {pc : Nat} (hexec : p.tables.exec = Jvm.exec) (hb : c.code = cc) (hl : l.stackTraces = false) {own cls text : String} {names : List String} {ik is ic mc ms sa : Nat} {A : Nat → Prop}
    (hown : s.vm.findClass own = some m.cls) (hcls : Bundle.fit cls = true) (hnames : ∀ n ∈ names, Bundle.fit n = true)
    (hk : (Cond.classLink own ik cls).before args s = true) (hini : (Cond.initialized cls).before args s = true) (hstr : vk_R own is text sa s) (hat : ∀ w ∈ vx_atS own ic cls names, w.before args s = true)
    (hgood : ∀ w ∈ Cond.classLink own ik cls :: Cond.initialized cls :: vx_atS own ic cls names, vx_ot w = true)
    (hU : vx_Zq Bundle.tN "UNASSIGNED_STACK" Bundle.steD A s s.heap) (hN : vx_Zq Bundle.tN "SUPPRESSED_SENTINEL" Bundle.listD A s s.heap) (hS : va_S A s.heap H locs) (hsize : ls.size = c.maxLocals)
    (d0 : decode cc pc = .ok (.new ik, 3)) (d3 : decode cc (pc + 3) = .ok (.dup, 1)) (d4 : decode cc (pc + 4) = .ok (.ldc is, 2)) (d6 : decode cc (pc + 6) = .ok (.invokespecial ic, 3)) (d9 : decode cc (pc + 9) = .ok (.athrow, 1))
    (hout : ∀ x ∈ c.exceptionTable.toList, covers x (pc + 9) = false)
    (hRframes : names.length + 3 < R.frames) (hRlocals : (rest.map fun v => v.category).sum + (13 * (names.length + 1) + 43) ≤ R.locals) (hRcells : cells + 1 ≤ R.cells) (hRslots : slots + 6 ≤ R.slots) (hlocks : meth.locks = false)
    (hx : ∀ t : State, s.vm.Alike t.vm → H.size ≤ t.heap.size → (∀ q : Nat, q < H.size → t.heap[q]? = H[q]?) → XC cls s t)
    (hf : ∀ z ∈ locs, free z.base) (hc : cells + 1 ≤ mc) (hs : slots + 6 ≤ ms) :
    W p l e R s m args below meth c H locs cells slots (vx_MQ below Qc XC args s mc ms free) (F0 m pc ls rest) := by
  intro T hT X
  have htr : e.platform.stackTraces = false := (show e.platform.stackTraces = l.stackTraces by rw [X.admits.platform]).trans hl
  have Y := vx_rebase X (R' := { frames := R.frames, locals := R.locals, cells := 1, slots := 6 }) (Nat.le_refl _) (Nat.le_refl _) hRcells hRslots
  obtain ⟨s', hA⟩ : ∃ z, z = (T.setVm s.vm).setFrames (.invoking m args :: below) := ⟨_, rfl⟩
  rw [← hA] at Y
  have hvm : s'.vm = s.vm := by rw [hA]; rfl
  have hhp : s'.heap = H := by rw [hA]; exact hT
  have hW0 : s.WarmedH s'.vm := by rw [hvm]; exact State.WarmedH.refl s
  have hat' : ∀ w ∈ vx_atS own ic cls names, w.before args s' = true := fun w hw => vx_ot_at hW0 hvm.symm (hgood w (List.mem_cons_of_mem _ (List.mem_cons_of_mem _ hw))) (hat w hw)
  have hk' : (Cond.classLink own ik cls).before args s' = true := vx_ot_at hW0 hvm.symm (hgood _ List.mem_cons_self) hk
  have hini' : (Cond.initialized cls).before args s' = true := vx_ot_at hW0 hvm.symm (hgood _ (List.mem_cons_of_mem _ List.mem_cons_self)) hini
  have hU' : vx_Zq Bundle.tN "UNASSIGNED_STACK" Bundle.steD A s' s'.heap := by rw [hhp]; exact vx_Zq.moved hW0.alike (hU.kept hS.2.1)
  have hN' : vx_Zq Bundle.tN "SUPPRESSED_SENTINEL" Bundle.listD A s' s'.heap := by rw [hhp]; exact vx_Zq.moved hW0.alike (hN.kept hS.2.1)
  have h : ∀ w ∈ Bundle.ownAtoms own ic cls names, w.before args s' = true := vx_own hat' (vx_isRefq hU'.1) (vx_isRefq hN'.1) hU'.2.word hN'.2.word
  have hown' : s'.vm.findClass own = some m.cls := by rw [hvm]; exact hown
  have hins : (Cond.instantiable cls 6).before args s' = true := h _ (by simp [Bundle.ownAtoms])
  obtain ⟨vm₁, cX, kX, hfX, hkX, -, -, X₁, st1⟩ := Y.newCold hexec (own := own) (C := cls) (index := ik) (n := 6) hown' hk' hins hini'
    (g := F0 m pc ls rest) rfl (by rw [hb]; exact d0) (Nat.le_refl _) (Nat.le_refl _)
  generalize hT1 : (T.setVm vm₁).pushCell { cls := cX, slots := kX.instanceTypes.map defaultValue, vm := .none } = T1 at X₁ st1
  have hcat : (Value.ref T.heap.size).category = 1 := rfl
  have hcellA : T1.heap[T.heap.size]? = some (freshCell cX kX) := by rw [← hT1]; exact State.heap_pushCell_size _ _
  have d3' : decode c.code (pc + 3) = .ok (.dup, 1) := by rw [hb]; exact d3
  have d4' : decode c.code (pc + 4) = .ok (.ldc is, 2) := by rw [hb]; exact d4
  have hstr' : vk_R own is text sa s' := vk_R.warm hW0 hstr
  obtain ⟨U, hsteps, hrun, hend, hW, hsame, ce, hce, hO⟩ := X₁.ctorThrowS hexec htr (own := own) (cls := cls) (names := names) (ic := ic) hown' hcls hnames h (fun x hx => nomatch hx) hfX hkX hcellA (by rw [hhp, hT]; exact Nat.le_refl _) (msg := .ref sa) rfl
    (g := { method := m, pc := pc + 6, locals := ls, stack := .ref sa :: .ref T.heap.size :: .ref T.heap.size :: rest, locked := none }) rfl hsize rfl rfl (rest := rest) rfl
    (by rw [hb]; exact d6) (by rw [hb]; exact d9) hout hRframes (by simp only [List.map_cons, List.sum_cons, hcat]; omega) hlocks
  obtain ⟨f1, f2⟩ := vx_frame hsame
  rw [hhp] at f1 f2
  have hWs : s.WarmedH U.vm := State.WarmedH.trans hW0 hW
  have hcl : s.vm.findClass cls = some ce.cls := by
    have h9 := hO.cls
    rw [hvm] at h9
    exact h9
  have hall : s.sameButNew ({ U with vm := s.vm } : State) locs mc ms := by
    subst hA
    obtain ⟨e1, e2⟩ := hsame
    rw [State.setFrames_setFrames] at e1
    have h2 : (T.setVm s.vm).sameButNew ({ U with vm := s.vm } : State) [] (0 + 1) (0 + 6) := ⟨e1, e2⟩
    have h3 := X.same.trans h2
    rw [List.append_nil] at h3
    exact h3.mono hc hs
  refine ⟨U, ?_, .threw T.heap.size, hrun, hend, Or.inr ⟨T.heap.size, rfl, cls, ce, locs, hx U hWs.alike f1 (fun q hq => f2 q hq (fun z hz => nomatch hz)), hce, hO.vm, hcl, hWs, hall, hf⟩⟩
  refine st1 _ ?_
  show Steps p.tables e below (T1.setTop { method := m, pc := pc + 3, locals := ls, stack := .ref T.heap.size :: rest, locked := none }) _
  jvm_step X₁.here [X₁.here.top, hexec, d3', Value.category]
  exact X₁.ldcString hexec (own := own) (text := text) (index := is) (a := sa) hown' hstr'.1 hstr'.2
    (g := { method := m, pc := pc + 4, locals := ls, stack := .ref T.heap.size :: .ref T.heap.size :: rest, locked := none }) rfl d4' _ hsteps
/-- 'throw new E("text")', the text by a wide index -/
theorem vx_throwSW {cc : ByteArray} {pc : Nat} (hexec : p.tables.exec = Jvm.exec) (hb : c.code = cc) (hl : l.stackTraces = false) {own cls text : String} {names : List String} {ik is ic mc ms sa : Nat} {A : Nat → Prop}
    (hown : s.vm.findClass own = some m.cls) (hcls : Bundle.fit cls = true) (hnames : ∀ n ∈ names, Bundle.fit n = true)
    (hk : (Cond.classLink own ik cls).before args s = true) (hini : (Cond.initialized cls).before args s = true) (hstr : vk_R own is text sa s) (hat : ∀ w ∈ vx_atS own ic cls names, w.before args s = true)
    (hgood : ∀ w ∈ Cond.classLink own ik cls :: Cond.initialized cls :: vx_atS own ic cls names, vx_ot w = true)
    (hU : vx_Zq Bundle.tN "UNASSIGNED_STACK" Bundle.steD A s s.heap) (hN : vx_Zq Bundle.tN "SUPPRESSED_SENTINEL" Bundle.listD A s s.heap) (hS : va_S A s.heap H locs) (hsize : ls.size = c.maxLocals)
    (d0 : decode cc pc = .ok (.new ik, 3)) (d3 : decode cc (pc + 3) = .ok (.dup, 1)) (d4 : decode cc (pc + 4) = .ok (.ldc_w is, 3)) (d7 : decode cc (pc + 7) = .ok (.invokespecial ic, 3)) (d10 : decode cc (pc + 10) = .ok (.athrow, 1))
    (hout : ∀ x ∈ c.exceptionTable.toList, covers x (pc + 10) = false)
    (hRframes : names.length + 3 < R.frames) (hRlocals : (rest.map fun v => v.category).sum + (13 * (names.length + 1) + 43) ≤ R.locals) (hRcells : cells + 1 ≤ R.cells) (hRslots : slots + 6 ≤ R.slots) (hlocks : meth.locks = false)
    (hx : ∀ t : State, s.vm.Alike t.vm → H.size ≤ t.heap.size → (∀ q : Nat, q < H.size → t.heap[q]? = H[q]?) → XC cls s t)
    (hf : ∀ z ∈ locs, free z.base) (hc : cells + 1 ≤ mc) (hs : slots + 6 ≤ ms) :
    W p l e R s m args below meth c H locs cells slots (vx_MQ below Qc XC args s mc ms free) (F0 m pc ls rest) := by
  intro T hT X
  have htr : e.platform.stackTraces = false := (show e.platform.stackTraces = l.stackTraces by rw [X.admits.platform]).trans hl
  have Y := vx_rebase X (R' := { frames := R.frames, locals := R.locals, cells := 1, slots := 6 }) (Nat.le_refl _) (Nat.le_refl _) hRcells hRslots
  obtain ⟨s', hA⟩ : ∃ z, z = (T.setVm s.vm).setFrames (.invoking m args :: below) := ⟨_, rfl⟩
  rw [← hA] at Y
  have hvm : s'.vm = s.vm := by rw [hA]; rfl
  have hhp : s'.heap = H := by rw [hA]; exact hT
  have hW0 : s.WarmedH s'.vm := by rw [hvm]; exact State.WarmedH.refl s
  have hat' : ∀ w ∈ vx_atS own ic cls names, w.before args s' = true := fun w hw => vx_ot_at hW0 hvm.symm (hgood w (List.mem_cons_of_mem _ (List.mem_cons_of_mem _ hw))) (hat w hw)
  have hk' : (Cond.classLink own ik cls).before args s' = true := vx_ot_at hW0 hvm.symm (hgood _ List.mem_cons_self) hk
  have hini' : (Cond.initialized cls).before args s' = true := vx_ot_at hW0 hvm.symm (hgood _ (List.mem_cons_of_mem _ List.mem_cons_self)) hini
  have hU' : vx_Zq Bundle.tN "UNASSIGNED_STACK" Bundle.steD A s' s'.heap := by rw [hhp]; exact vx_Zq.moved hW0.alike (hU.kept hS.2.1)
  have hN' : vx_Zq Bundle.tN "SUPPRESSED_SENTINEL" Bundle.listD A s' s'.heap := by rw [hhp]; exact vx_Zq.moved hW0.alike (hN.kept hS.2.1)
  have h : ∀ w ∈ Bundle.ownAtoms own ic cls names, w.before args s' = true := vx_own hat' (vx_isRefq hU'.1) (vx_isRefq hN'.1) hU'.2.word hN'.2.word
  have hown' : s'.vm.findClass own = some m.cls := by rw [hvm]; exact hown
  have hins : (Cond.instantiable cls 6).before args s' = true := h _ (by simp [Bundle.ownAtoms])
  obtain ⟨vm₁, cX, kX, hfX, hkX, -, -, X₁, st1⟩ := Y.newCold hexec (own := own) (C := cls) (index := ik) (n := 6) hown' hk' hins hini'
    (g := F0 m pc ls rest) rfl (by rw [hb]; exact d0) (Nat.le_refl _) (Nat.le_refl _)
  generalize hT1 : (T.setVm vm₁).pushCell { cls := cX, slots := kX.instanceTypes.map defaultValue, vm := .none } = T1 at X₁ st1
  have hcat : (Value.ref T.heap.size).category = 1 := rfl
  have hcellA : T1.heap[T.heap.size]? = some (freshCell cX kX) := by rw [← hT1]; exact State.heap_pushCell_size _ _
  have d3' : decode c.code (pc + 3) = .ok (.dup, 1) := by rw [hb]; exact d3
  have d4' : decode c.code (pc + 4) = .ok (.ldc_w is, 3) := by rw [hb]; exact d4
  have hstr' : vk_R own is text sa s' := vk_R.warm hW0 hstr
  obtain ⟨U, hsteps, hrun, hend, hW, hsame, ce, hce, hO⟩ := X₁.ctorThrowS hexec htr (own := own) (cls := cls) (names := names) (ic := ic) hown' hcls hnames h (fun x hx => nomatch hx) hfX hkX hcellA (by rw [hhp, hT]; exact Nat.le_refl _) (msg := .ref sa) rfl
    (g := { method := m, pc := pc + 7, locals := ls, stack := .ref sa :: .ref T.heap.size :: .ref T.heap.size :: rest, locked := none }) rfl hsize rfl rfl (rest := rest) rfl
    (by rw [hb]; exact d7) (by rw [hb]; exact d10) hout hRframes (by simp only [List.map_cons, List.sum_cons, hcat]; omega) hlocks
  obtain ⟨f1, f2⟩ := vx_frame hsame
  rw [hhp] at f1 f2
  have hWs : s.WarmedH U.vm := State.WarmedH.trans hW0 hW
  have hcl : s.vm.findClass cls = some ce.cls := by
    have h9 := hO.cls
    rw [hvm] at h9
    exact h9
  have hall : s.sameButNew ({ U with vm := s.vm } : State) locs mc ms := by
    subst hA
    obtain ⟨e1, e2⟩ := hsame
    rw [State.setFrames_setFrames] at e1
    have h2 : (T.setVm s.vm).sameButNew ({ U with vm := s.vm } : State) [] (0 + 1) (0 + 6) := ⟨e1, e2⟩
    have h3 := X.same.trans h2
    rw [List.append_nil] at h3
    exact h3.mono hc hs
  refine ⟨U, ?_, .threw T.heap.size, hrun, hend, Or.inr ⟨T.heap.size, rfl, cls, ce, locs, hx U hWs.alike f1 (fun q hq => f2 q hq (fun z hz => nomatch hz)), hce, hO.vm, hcl, hWs, hall, hf⟩⟩
  refine st1 _ ?_
  show Steps p.tables e below (T1.setTop { method := m, pc := pc + 3, locals := ls, stack := .ref T.heap.size :: rest, locked := none }) _
  jvm_step X₁.here [X₁.here.top, hexec, d3', Value.category]
  exact X₁.ldcStringW hexec (own := own) (text := text) (index := is) (a := sa) hown' hstr'.1 hstr'.2
    (g := { method := m, pc := pc + 4, locals := ls, stack := .ref T.heap.size :: .ref T.heap.size :: rest, locked := none }) rfl d4' _ hsteps
end Ends
section Bodies
variable {l : Launch}
theorem vx_ofW {y : MethodName} {ws ws' : List Cond} {rm : Room} {Pc : Array Value → State → Prop} {Qc : Array Value → State → Outcome → State → Prop} {XC : String → State → State → Prop} {mc ms : Nat} {free : Addr → Prop} {cc : ByteArray} {maxL : Nat} {ret : Option FieldType}
    (hy : plainName y.cls = true) (hw : ws = Cond.code y cc maxL ret :: ws')
    (body : ∀ p e s m args below meth c s₁, BodyLoose p l y (headSpec ws rm) cc maxL ret e s m args below meth c s₁ → c.maxLocals = maxL → (∀ x ∈ c.exceptionTable.toList, False) → Pc args s →
      W p l e (headSpec ws rm).room s m args below meth c s.heap [] 0 0 (vx_MQ below Qc XC args s mc ms free) (entryFrame m args maxL)) : vx_Met l y ws rm Pc Qc XC mc ms free := by
  refine MetFree.of_bodyS (code := cc) (maxLocals := maxL) (ret := ret) hy ?_ ?_
  · intro args s m h hn
    obtain ⟨meth, c, h1, h2, h3, h4, h5, h6, -, -⟩ := Cond.code_spec hn (atoms_spec (ws := ws) h _ (by rw [hw]; exact List.mem_cons_self))
    exact ⟨meth, c, h1, h2, h3, h4, h5, h6⟩
  · intro p e s m args below meth c s₁ B hml hP _
    have hh0 : s₁.heap = s.heap := by rw [B.state]; rfl
    have ht : ∀ x ∈ c.exceptionTable.toList, False := by
      obtain ⟨meth9, c9, h1, h2, -, -, -, -, h7, -⟩ := Cond.code_spec B.named (atoms_spec (ws := ws) B.pre _ (by rw [hw]; exact List.mem_cons_self))
      cases Option.some.inj (h1.symm.trans B.method)
      cases Option.some.inj (h2.symm.trans (Stand.of_body B).code)
      intro x hx
      rw [Array.isEmpty_iff.mp h7] at hx
      cases hx
    obtain ⟨t, a1, o, b1, b2, b3⟩ := body p e s m args below meth c s₁ B hml ht hP s₁ hh0 (Stand.of_body B)
    exact ⟨t, o, a1, b1, b2, b3⟩
/-- the table of a body with handlers -/
theorem vx_table {p : Program} {x y : MethodName} {S : Spec} {cc bytes : ByteArray} {maxL maxL' : Nat} {ret ret' : Option FieldType} {e : Env} {s s₁ : State} {m : MethodId} {args : Array Value} {below : List Frame} {meth : Method} {c : Code} {hh : List (Nat × Nat × Nat × Nat)}
    (B : BodyLoose p l y S cc maxL ret e s m args below meth c s₁) (h : (Cond.codeWith y bytes maxL' ret' hh).before args s = true) : c.exceptionTable.toList = tableOf hh := by
  obtain ⟨m9, meth9, c9, hn9, h1, h2, -, -, h6, -⟩ := Cond.codeWith_spec h
  cases Option.some.inj (hn9.symm.trans B.named)
  cases Option.some.inj (h1.symm.trans B.method)
  cases Option.some.inj (h2.symm.trans (Stand.of_body B).code)
  rw [← h6, table_eq]
end Bodies
end VXA
/-! ===== END ===== -/
/-! ===== BEGIN a static call of a method with an exception table ===== -/
section VXS
variable {p : Program} {l : Launch} {e : Env} {R : Room} {s : State} {m : MethodId} {args : Array Value} {below : List Frame} {meth : Method} {c : Code} {T : State} {H : Heap} {locs : List Loc} {cells slots : Nat}
abbrev vx_CSW (R : Room) (s : State) (args : Array Value) (own : String) (index : Nat) (y : MethodName) (bytes : ByteArray) (maxL : Nat) (ret : Option FieldType) (hh : List (Nat × Nat × Nat × Nat)) (ws : List Cond) (rm : Room) (mc ms n : Nat) : Prop :=
  (rm.cells = mc ∧ rm.slots = ms ∧ rm.frames + 1 ≤ R.frames ∧ 8 + (maxL + 11) + rm.locals ≤ R.locals ∧ (∀ w ∈ ws, ∀ (a' : Array Value) (U : State), s.WarmedH U.vm → w.before a' U = true) ∧ Cond.codeWith y bytes maxL ret hh ∈ ws) ∧
  (Cond.codeWith y bytes maxL ret hh).before args s = true ∧ (Cond.initialized y.cls).before args s = true ∧ (y.cls ≠ "java/lang/invoke/MethodHandle" ∧ y.cls ≠ "java/lang/invoke/VarHandle") ∧
  (∀ sig, parseMethodDescriptor y.desc = some sig → n = sig.parameters.length) ∧ (Cond.methodLink own index y).before args s = true ∧ (Cond.static y).before args s = true
theorem vx_cwSW {own : String} {index maxL mc ms : Nat} {y : MethodName} {bytes : ByteArray} {ret : Option FieldType} {hh : List (Nat × Nat × Nat × Nat)} {Ts ws ws' : List Cond} {rm : Room} (n : Nat) (ht : ∀ w ∈ Ts, w.before args s = true) (hT : GoodIn Ts (va_wsS own index y ws)) (hw : ws = Cond.codeWith y bytes maxL ret hh :: ws') (hrc : rm.cells = mc) (hrs : rm.slots = ms)
    (hd : y.cls ≠ "java/lang/invoke/MethodHandle" ∧ y.cls ≠ "java/lang/invoke/VarHandle" ∧ (parseMethodDescriptor y.desc).map (fun d => d.parameters.length) = some n) (hR : rm.frames + 1 ≤ R.frames ∧ 8 + (maxL + 11) + rm.locals ≤ R.locals) :
    vx_CSW R s args own index y bytes maxL ret hh ws rm mc ms n := by
  have ok : ∀ w ∈ va_wsS own index y ws, w.before args s = true := fun w h => ht w (hT w h).1
  have hG : GoodIn Ts ws := fun w h => hT w (by unfold va_wsS; exact List.mem_append_right _ h)
  have hc : Cond.codeWith y bytes maxL ret hh ∈ ws := by rw [hw]; exact List.mem_cons_self
  refine ⟨⟨hrc, hrs, hR.1, hR.2, pay_in ht hG, hc⟩, ht _ (hG _ hc).1, ok _ (by simp [va_wsS]), ⟨hd.1, hd.2.1⟩, fun sig h => ?_, ok _ (by simp [va_wsS]), ok _ (by simp [va_wsS])⟩
  have h2 := hd.2.2
  rw [h] at h2
  exact (Option.some.inj h2).symm
theorem vx_callSW (X : Stand p l e R s m args below meth c T locs cells slots) (hexec : p.tables.exec = Jvm.exec) {own : String} {index : Nat} {y : MethodName} {bytes : ByteArray} {maxL : Nat} {ret : Option FieldType} {hh : List (Nat × Nat × Nat × Nat)}
    (hown : s.vm.findClass own = some m.cls) (hlink : (Cond.methodLink own index y).before args s = true) (hstat : (Cond.static y).before args s = true) (hinit : (Cond.initialized y.cls).before args s = true)
    (hcode : (Cond.codeWith y bytes maxL ret hh).before args s = true) (hy : y.cls ≠ "java/lang/invoke/MethodHandle" ∧ y.cls ≠ "java/lang/invoke/VarHandle")
    {W9 : Nat} {Pre : Pt → Array Value → Prop} {Post : Pt → Array Value → Option Value → Pt → Prop} (hK : Back l R p e below s args y 3 W9 Pre Post)
    {g : JFrame} (hg : g.method = m) (hsize : g.locals.size = c.maxLocals) {argsL rest : List Value} (hlen : ∀ sig, parseMethodDescriptor y.desc = some sig → argsL.length = sig.parameters.length)
    (hstack : g.stack = argsL.reverse ++ rest) (hW : 2 * g.monitorRoom + (rest.map fun v => v.category).sum ≤ W9) (hdg : decode c.code g.pc = .ok (.invokestatic index, 3))
    (hpre : ∀ vm₁, s.WarmedH vm₁ → Pre ⟨T.setVm vm₁, locs, cells, slots⟩ argsL.toArray) :
    ∃ (v : Option Value) (vm₁ : Vm) (B : Pt), s.WarmedH vm₁ ∧ Stand p l e R s m args below meth c B.U B.locs B.cells B.slots ∧ Post ⟨T.setVm vm₁, locs, cells, slots⟩ argsL.toArray v B ∧
      ∀ target, Steps p.tables e below (B.U.setTop { g with pc := g.pc + 3, stack := v.toList ++ rest }) target → Steps p.tables e below (T.setTop g) target := by
  obtain ⟨mk, methM, cM, hnamed, hmethM, -, -, -, -, -, -, hsigM⟩ := Cond.codeWith_spec hcode
  have hstatic : methM.isStatic = true := Cond.static_spec hnamed hmethM hstat
  obtain ⟨kP, hkP, -⟩ := className_of_methodNamed hnamed
  have hinitP : kP.init = .initialized := Cond.initialized_spec (findClass_of_methodNamed hnamed) hkP hinit
  obtain ⟨vm₁, X₁, hstep₁⟩ := X.invokestatic hexec hown hlink hnamed hmethM hstatic hkP hinitP hy (g := g) hg (argsL := argsL) (rest := rest) (hlen _ hsigM) hstack hdg
  obtain ⟨v, B, X', hpost, hsteps⟩ := hK m meth c ⟨T.setVm vm₁, locs, cells, slots⟩ { g with stack := rest } (.invokestatic index) mk argsL.toArray X₁ hg hsize hdg hW (X₁.named hnamed) (hpre vm₁ X₁.warmed)
  exact ⟨v, vm₁, B, X₁.warmed, X', hpost, fun target h => hstep₁ _ fun acts => by rw [doInvoke_state]; exact hsteps.trans h⟩
theorem vx_runSW {y : MethodName} {bytes cc : ByteArray} {maxL nL mc ms n index : Nat} {ret : Option FieldType} {hh : List (Nat × Nat × Nat × Nat)} {ws : List Cond} {rm : Room} {Pc : Array Value → State → Prop} {Qc : Array Value → State → Outcome → State → Prop} {free : Addr → Prop} {Ts : List Cond} {own : String} {As rest : List Value} {g : JFrame}
    (S : CallFix p m c cc nL s args Ts own) (hM : Met l y ws rm Pc Qc mc ms free) (cw : vx_CSW R s args own index y bytes maxL ret hh ws rm mc ms n) (hp : PreS s H Pc As)
    (hg : g.method = m) (hn : As.length = n) (hsize : g.locals.size = nL) (hstack : g.stack = As.reverse ++ rest) (hW : 2 * g.monitorRoom + (rest.map fun v => v.category).sum ≤ 8) (hdg : decode cc g.pc = .ok (.invokestatic index, 3)) (hf : cells + mc ≤ R.cells ∧ slots + ms ≤ R.slots) :
    va_Run p l e R s m args below meth c H locs cells slots mc ms g rest (Qc As.toArray) (free) := by
  obtain ⟨⟨hrc, hrs, hfr, hlo, hws, hcw⟩, hcode, hini, hy, hlen, hl, hstt⟩ := cw
  have hK : Back l R p e below s args y 3 8 (PreOf R mc ms Pc) (PostOf Qc mc ms free) := va_backW (hh := hh) (bytes := bytes) (maxL := maxL) (ret := ret) hM hp.1 hrc hrs hfr hlo hws hcw (fun a' U hW => word_at hW (Or.inl (by first | rfl | simp [Cond.onTables, Cond.keeps, Cond.steady])) hini)
  obtain ⟨hx, hb, hml, ho, -⟩ := S
  intro T hT X
  obtain ⟨v, vm₁, ⟨U', l2, c2, s2⟩, hW₁, X', ⟨g', mk, t, L, e1, e2, hq, h1, hL, h2, h3⟩, st⟩ := vx_callSW X hx (hh := hh) (bytes := bytes) (maxL := maxL) (ret := ret) ho hl hstt hini hcode hy hK hg (hsize.trans hml.symm) (argsL := As) (rest := rest) (fun sig h => hn.trans (hlen sig h)) hstack hW (by rw [hb]; exact hdg)
    (fun vm₁ hW₁ => ⟨hf.1, hf.2, hp.2 (T.setVm vm₁) hT hW₁⟩)
  dsimp only [Pt.U, Pt.locs, Pt.cells, Pt.slots] at X' e1 e2 h1 h2 h3 st
  subst h1; subst h2; subst h3
  exact ⟨v, (T.setVm vm₁).calling g' mk As.toArray, t, U', L, hT, X', hL, e1, e2, hq, st⟩
/-- not caught here, past rows that name other classes: it goes on to the caller -/
theorem vx_outP {p : Program} {l : Launch} {e : Env} {R : Room} {s : State} {m : MethodId} {args : Array Value} {below : List Frame} {meth : Method} {c : Code} {H : Heap} {locs : List Loc} {cells slots : Nat} {free : Addr → Prop} {ls : Array Slot} {rest : List Value} {Qc : Array Value → State → Outcome → State → Prop} {XC : String → State → State → Prop}
    {pc : Nat} {own E : String} {ce : Cell} {q : Addr} {mc ms : Nat} (hown : s.vm.findClass own = some m.cls) (hlocks : meth.locks = false)
    (hpass : ∀ z ∈ c.exceptionTable.toList, covers z pc = false ∨ (z.catchType ≠ 0 ∧ ∃ nm : String, (Cond.classLink own z.catchType nm).before args s = true ∧ va_Nc E nm s)) (hcell : H[q]? = some ce) (hv : ce.vm = .none) (hcl : s.vm.findClass E = some ce.cls)
    (hx : ∀ t : State, t.heap = H → s.vm.Alike t.vm → XC E s t) (hf : ∀ z ∈ locs, free z.base) (hc : cells ≤ mc) (hs : slots ≤ ms) :
    vx_W p l e R s m args below meth c H locs cells slots (vx_MQ below Qc XC args s mc ms free) (F0 m pc ls rest) q := by
  intro T hT X
  have hpl : e.platform.magicAccessors = ({} : Platform).magicAccessors := by rw [X.admits.platform]
  obtain ⟨vm', hW', X', st⟩ := X.outThrough hlocks q (g := F0 m pc ls rest) rfl rfl rfl (cell := ce) (by rw [hT]; exact hcell) (by rw [hv]; rfl)
    (by obtain ⟨k9, h9, -⟩ := Vm.findClass_spec hcl; exact ⟨k9, h9⟩) (fun z hz => by
      rcases hpass z hz with h | ⟨hz0, nm, hl1, hn1⟩
      · exact Or.inl h
      · obtain ⟨c6, hc6, hcl6⟩ := Cond.classLink_spec hown hl1 e.platform hpl
        obtain ⟨a8, b8, h1, h2, h3⟩ := hn1
        cases Option.some.inj (h1.symm.trans hcl)
        cases Option.some.inj (h2.symm.trans hc6)
        exact Or.inr ⟨hz0, _, hcl6, h3⟩)
  obtain ⟨g₀, hfr⟩ := X'.frames_eq
  have hcell9 : ((T.setVm vm').setFrames (.throwing q :: below)).heap[q]? = some ce := by
    show T.heap[q]? = some ce
    rw [hT]; exact hcell
  have hend : Ended ((T.setVm vm').setFrames (.throwing q :: below)) below (.threw q) := State.frames_setFrames _ (State.cur_lt_of_frames hfr)
  refine ⟨(T.setVm vm').setFrames (.throwing q :: below), ?_, .threw q, X'.here.running, hend, Or.inr ⟨q, rfl, E, ce, locs, hx _ hT (X'.ends _).1.alike, hcell9, hv, hcl, (X'.ends _).1, (X'.ends _).2.mono hc hs, hf⟩⟩
  rw [X.pushThrowing_eq]
  exact st
/-- a thing of a world lies in the heap -/
theorem vx_lt {D : va_G} {cl : List vw_C} {ws : va_W} {H1 : Heap} (h : va_P D cl ws H1) {k : Nat} {q : Nat × va_E} (hk : ws[k]? = some q) : q.1 < H1.size := (h k q hk).lt
end VXS
/-! ===== END ===== -/
/-! ===== BEGIN methods with a table of their own: called by a name, returning or throwing ===== -/
section VXH
/-! vx_backW, vx_callVX, vx_callSX, vx_callVW, vx_runVW, vx_runVX, vx_runSX, vx_ofWH follow the same proofs as their sisters above (Free/Laws.lean, Shelf42/LK1.lean); vx_outP calls Shelf42/NT130.lean (outThrough). -/
section
variable {l : Launch} {R : Room} {p : Program} {e : Env} {below : List Frame} {s : State} {sargs : Array Value} {y : MethodName} {len W9 : Nat}
theorem vx_backW {ws : List Cond} {rm : Room} {Pc : Array Value → State → Prop} {Qc : Array Value → State → Outcome → State → Prop} {XC : String → State → State → Prop} {mc ms : Nat} {free : Addr → Prop} {bytes : ByteArray} {maxL : Nat} {ret : Option FieldType} {hh : List (Nat × Nat × Nat × Nat)}
    (hM : vx_Met l y ws rm Pc Qc XC mc ms free) (hblind : FrameBlind Pc) (hrc : rm.cells = mc) (hrs : rm.slots = ms)
    (hframes : rm.frames + 1 ≤ R.frames) (hlocals : W9 + (maxL + 11) + rm.locals ≤ R.locals)
    (hws : ∀ w ∈ ws, ∀ a' U, s.WarmedH U.vm → w.before a' U = true) (hcode : Cond.codeWith y bytes maxL ret hh ∈ ws) (hinit : ∀ a' U, s.WarmedH U.vm → (Cond.initialized y.cls).before a' U = true) :
    vx_Back l R p e below s sargs y len W9 (PreOf R mc ms Pc) (PostOf Qc mc ms free) (vx_Post XC mc ms free) := by
  intro m meth c A g ig mk a X hg hsize hdg hW hn hp
  have h1 : (headSpec ws rm).pre.before a A.U = true := atoms_intro fun w hw => hws w hw _ _ X.warmed
  have h2 : (Cond.codeWith y bytes maxL ret hh).before a A.U = true := hws _ hcode _ _ X.warmed
  have h3 : (Cond.initialized y.cls).before a A.U = true := hinit _ _ X.warmed
  have h4 : A.cells + (headSpec ws rm).room.cells ≤ R.cells := by rw [show (headSpec ws rm).room.cells = mc from hrc]; exact hp.1
  have h5 : A.slots + (headSpec ws rm).room.slots ≤ R.slots := by rw [show (headSpec ws rm).room.slots = ms from hrs]; exact hp.2.1
  have hPc : Pc a (A.U.calling g mk a) := hblind _ _ _ _ hp.2.2
  obtain ⟨U, Ls, c0, s0⟩ := A
  dsimp only [Pt.U, Pt.locs, Pt.cells, Pt.slots] at h1 h2 h3 h4 h5 X hn hPc ⊢
  obtain ⟨m9, methY, cY, hn9, hmY, hcY, -, hlY, -⟩ := Cond.codeWith_spec h2
  cases Option.some.inj (hn9.symm.trans hn)
  obtain ⟨kY, hkY, -⟩ := className_of_methodNamed hn
  have hinitY : kY.init = .initialized := Cond.initialized_spec (findClass_of_methodNamed hn) hkY h3
  have h : At U g.method c below := by rw [hg]; exact X.here
  have hlocals9 : W9 + (maxL + 11) + (headSpec ws rm).room.locals ≤ R.locals := hlocals
  have happ : (headSpec ws rm).appliesLoose y e.platform (U.calling g mk a) = true :=
    Spec.appliesLoose_calling (g := g) h hdg hn hkY hinitY
      (X.room_calling (g := g) (R' := (headSpec ws rm).room) hsize hmY hcY hframes (by rw [hlY]; omega) h4 h5) h1
  obtain ⟨mid, hmid⟩ := h.above
  have hfr : (U.setTop g).frames = (.java g :: mid) ++ below := by rw [State.frames_setTop' g h.top, hmid]; rfl
  obtain ⟨o, s₂, hsteps, -, hend, hq⟩ := Steps.callFree hM p X.admits X.cas X.clock (acts := []) hfr happ hPc trivial
  have hq' : vx_Q Qc XC mc ms free a (U.calling g mk a) o s₂ := hq
  rw [State.frames_setTop' g h.top] at hend
  obtain ⟨g₀, hg0⟩ := Option.isSome_iff_exists.mp h.top
  obtain ⟨r, hr⟩ := State.topJava?_eq_some.mp hg0
  have hr' : (({ U with heap := s₂.heap, slotsUsed := s₂.slotsUsed } : State).setVm s₂.vm).frames = .java g₀ :: r := hr
  rcases hq' with ⟨hqc, L, hfe, hL⟩ | ⟨q, rfl, E, ce, L, hx, hce, hcv, hcl, hW₂, hsm, hL⟩
  · obtain ⟨⟨v, rfl⟩, hW₂, e2, q2, q3, q4, q5, q6⟩ := id hfe
    have e3 : s₂ = ({ (U.calling g mk a).setFrames s₂.frames with heap := s₂.heap, slotsUsed := s₂.slotsUsed } : State).setVm s₂.vm := by
      have : s₂ = ({ s₂ with vm := (U.calling g mk a).vm } : State).setVm s₂.vm := rfl
      rw [e2] at this
      exact this
    obtain ⟨c₂, i₂, len₂, hc₂, hd₂, hf₂⟩ := hend
    have hW' : U.WarmedH s₂.vm := hW₂
    have hcc : c₂ = c := by
      have h1 : s₂.code? g.method = U.code? g.method := by
        rw [State.code?_eq, State.code?_eq, hW'.alike.method?]
      exact Option.some.inj (hc₂.symm.trans (h1.trans h.code))
    subst hcc
    have hlen : len₂ = len := by rw [hdg] at hd₂; cases hd₂; rfl
    subst hlen
    have hs₂ : s₂ = (({ U with heap := s₂.heap, slotsUsed := s₂.slotsUsed } : State).setVm s₂.vm).setTop { g with pc := g.pc + len₂, stack := v.toList ++ g.stack } := by
      refine e3.trans ?_
      rw [hf₂, State.calling_eq h.top, State.setFrames_setFrames, State.setTop_of_frames _ hr', hr]
      rfl
    have hsame : U.sameButNew ({ U with heap := s₂.heap, slotsUsed := s₂.slotsUsed } : State) L mc ms := by
      refine ⟨?_, q2, q3, q4, q5, q6⟩
      obtain ⟨t, ht, -⟩ := State.frames_cons hr
      show ({ U with heap := s₂.heap, slotsUsed := s₂.slotsUsed } : State) = { U.setFrames U.frames with heap := s₂.heap, slotsUsed := s₂.slotsUsed }
      rw [State.setFrames_self ht]
    subst hg
    refine Or.inl ⟨v, ⟨(({ U with heap := s₂.heap, slotsUsed := s₂.slotsUsed } : State).setVm s₂.vm), Ls ++ L, c0 + mc, s0 + ms⟩,
      ⟨X.admits, X.cas, X.clock, X.frames, X.room, X.hears, X.method, X.code, (X.here.setHeapUsed s₂.heap s₂.slotsUsed).setVm hW'.alike, X.tail, State.WarmedH.trans X.warmed hW', X.limits, X.bytes, X.same.trans (hsame.setVm s.vm)⟩,
      ⟨g, mk, s₂, L, rfl, rfl, hqc, rfl, hL, rfl, rfl⟩, ?_⟩
    show Steps p.tables e below _ ((({ U with heap := s₂.heap, slotsUsed := s₂.slotsUsed } : State).setVm s₂.vm).setTop { g with pc := g.pc + len₂, stack := v.toList ++ g.stack })
    rw [← hs₂]
    exact hsteps
  · obtain ⟨e2, q2, q3, q4, q5, q6⟩ := id hsm
    have e3 : s₂ = ({ (U.calling g mk a).setFrames s₂.frames with heap := s₂.heap, slotsUsed := s₂.slotsUsed } : State).setVm s₂.vm := by
      have : s₂ = ({ s₂ with vm := (U.calling g mk a).vm } : State).setVm s₂.vm := rfl
      rw [e2] at this
      exact this
    have hf₂ : s₂.frames = .throwing q :: .java g :: U.frames.tail := hend
    have hW' : U.WarmedH s₂.vm := hW₂
    have hs₂ : s₂ = ((({ U with heap := s₂.heap, slotsUsed := s₂.slotsUsed } : State).setVm s₂.vm).setTop g).pushFrame (.throwing q) := by
      refine e3.trans ?_
      rw [hf₂, State.calling_eq h.top, State.setFrames_setFrames, State.pushFrame, State.frames_setTop _ hr', State.setTop_of_frames _ hr', State.setFrames_setFrames, hr]
      rfl
    have hsame : U.sameButNew ({ U with heap := s₂.heap, slotsUsed := s₂.slotsUsed } : State) L mc ms := by
      refine ⟨?_, q2, q3, q4, q5, q6⟩
      obtain ⟨t, ht, -⟩ := State.frames_cons hr
      show ({ U with heap := s₂.heap, slotsUsed := s₂.slotsUsed } : State) = { U.setFrames U.frames with heap := s₂.heap, slotsUsed := s₂.slotsUsed }
      rw [State.setFrames_self ht]
    subst hg
    refine Or.inr ⟨q, ⟨(({ U with heap := s₂.heap, slotsUsed := s₂.slotsUsed } : State).setVm s₂.vm), Ls ++ L, c0 + mc, s0 + ms⟩,
      ⟨X.admits, X.cas, X.clock, X.frames, X.room, X.hears, X.method, X.code, (X.here.setHeapUsed s₂.heap s₂.slotsUsed).setVm hW'.alike, X.tail, State.WarmedH.trans X.warmed hW', X.limits, X.bytes, X.same.trans (hsame.setVm s.vm)⟩,
      ⟨g, mk, s₂, L, E, ce, rfl, rfl, hx, hce, hcv, hcl, rfl, hL, rfl, rfl⟩, ?_⟩
    show Steps p.tables e below _ (((({ U with heap := s₂.heap, slotsUsed := s₂.slotsUsed } : State).setVm s₂.vm).setTop g).pushFrame (.throwing q))
    rw [← hs₂]
    exact hsteps
end
variable {p : Program} {l : Launch} {e : Env} {R : Room} {s : State} {m : MethodId} {args : Array Value} {below : List Frame} {meth : Method} {c : Code} {T : State} {H : Heap} {locs : List Loc} {cells slots : Nat}
theorem vx_callVX (X : Stand p l e R s m args below meth c T locs cells slots) (hexec : p.tables.exec = Jvm.exec) {own C : String} {index : Nat} {y : MethodName} {bytes : ByteArray} {maxL : Nat} {ret : Option FieldType} {hh : List (Nat × Nat × Nat × Nat)}
    (hown : s.vm.findClass own = some m.cls) (hlink : (Cond.methodLink own index y).before args s = true) (hinst : (Cond.instanceMethod y).before args s = true) (hsel : (Cond.selects C y y).before args s = true)
    (hcode : (Cond.codeWith y bytes maxL ret hh).before args s = true) (hy : y.cls ≠ "java/lang/invoke/MethodHandle" ∧ y.cls ≠ "java/lang/invoke/VarHandle")
    {W9 : Nat} {Pre : Pt → Array Value → Prop} {Post : Pt → Array Value → Option Value → Pt → Prop} {PostX : Pt → Array Value → Addr → Pt → Prop} (hK : vx_Back l R p e below s args y 3 W9 Pre Post PostX)
    {b : Addr} {cellB : Cell} (hcell : T.heap[b]? = some cellB) (hobj : cellB.vm.isStatics = false) (hcls : s.vm.findClass C = some cellB.cls)
    {g : JFrame} (hg : g.method = m) (hsize : g.locals.size = c.maxLocals) {argsL rest : List Value} (hlen : ∀ sig, parseMethodDescriptor y.desc = some sig → argsL.length = sig.parameters.length)
    (hstack : g.stack = argsL.reverse ++ .ref b :: rest) (hW : 2 * g.monitorRoom + (rest.map fun v => v.category).sum ≤ W9) (hdg : decode c.code g.pc = .ok (.invokevirtual index, 3))
    (hpre : ∀ vm₁, s.WarmedH vm₁ → Pre ⟨T.setVm vm₁, locs, cells, slots⟩ (Value.ref b :: argsL).toArray) :
    (∃ (v : Option Value) (vm₁ : Vm) (B : Pt), s.WarmedH vm₁ ∧ Stand p l e R s m args below meth c B.U B.locs B.cells B.slots ∧ Post ⟨T.setVm vm₁, locs, cells, slots⟩ (Value.ref b :: argsL).toArray v B ∧
      ∀ target, Steps p.tables e below (B.U.setTop { g with pc := g.pc + 3, stack := v.toList ++ rest }) target → Steps p.tables e below (T.setTop g) target) ∨
    (∃ (q : Addr) (vm₁ : Vm) (B : Pt), s.WarmedH vm₁ ∧ Stand p l e R s m args below meth c B.U B.locs B.cells B.slots ∧ PostX ⟨T.setVm vm₁, locs, cells, slots⟩ (Value.ref b :: argsL).toArray q B ∧
      Steps p.tables e below (T.setTop g) ((B.U.setTop { g with stack := rest }).pushFrame (.throwing q))) := by
  obtain ⟨mk, methM, hnamed, hmethM, hstM, habM⟩ := Cond.instanceMethod_spec hinst
  obtain ⟨m8, methM', cM, hn8, hmethM', -, -, -, -, -, -, hsigM⟩ := Cond.codeWith_spec hcode
  cases Option.some.inj (hn8.symm.trans hnamed)
  cases hmethM.symm.trans hmethM'
  obtain ⟨c2, r2, m2, q1, q2, q3, q4, kP, hkP, hkPi⟩ := Cond.selects_spec hsel
  cases hcls.symm.trans q1
  cases (State.methodFound?_of_named hnamed hy).symm.trans q2
  cases hnamed.symm.trans q3
  have hselP : selectMethod e.platform s.vm cellB.cls mk = .method mk := by rw [Launch.admits_selectMethod X.admits]; exact q4
  obtain ⟨vm₁, X₁, hstep₁⟩ := X.invokevirtual hexec hown hlink hnamed hmethM hstM hkP hkPi hy (a := b) (cell := cellB) hcell
    (fun z h => by rw [h] at hobj; cases hobj) hselP hmethM habM hkP hkPi (g := g) hg (argsL := argsL) (rest := rest) (hlen _ hsigM) hstack hdg
  rcases hK m meth c ⟨T.setVm vm₁, locs, cells, slots⟩ { g with stack := rest } (.invokevirtual index) mk (Value.ref b :: argsL).toArray X₁ hg hsize hdg hW (X₁.named hnamed) (hpre vm₁ X₁.warmed) with ⟨v, B, X', hpost, hsteps⟩ | ⟨q, B, X', hpost, hsteps⟩
  · exact Or.inl ⟨v, vm₁, B, X₁.warmed, X', hpost, fun target h => hstep₁ _ fun acts => by rw [doInvoke_state]; exact hsteps.trans h⟩
  · exact Or.inr ⟨q, vm₁, B, X₁.warmed, X', hpost, hstep₁ _ fun acts => by rw [doInvoke_state]; exact hsteps⟩
theorem vx_callSX (X : Stand p l e R s m args below meth c T locs cells slots) (hexec : p.tables.exec = Jvm.exec) {own : String} {index : Nat} {y : MethodName} {bytes : ByteArray} {maxL : Nat} {ret : Option FieldType} {hh : List (Nat × Nat × Nat × Nat)}
    (hown : s.vm.findClass own = some m.cls) (hlink : (Cond.methodLink own index y).before args s = true) (hstat : (Cond.static y).before args s = true) (hinit : (Cond.initialized y.cls).before args s = true)
    (hcode : (Cond.codeWith y bytes maxL ret hh).before args s = true) (hy : y.cls ≠ "java/lang/invoke/MethodHandle" ∧ y.cls ≠ "java/lang/invoke/VarHandle")
    {W9 : Nat} {Pre : Pt → Array Value → Prop} {Post : Pt → Array Value → Option Value → Pt → Prop} {PostX : Pt → Array Value → Addr → Pt → Prop} (hK : vx_Back l R p e below s args y 3 W9 Pre Post PostX)
    {g : JFrame} (hg : g.method = m) (hsize : g.locals.size = c.maxLocals) {argsL rest : List Value} (hlen : ∀ sig, parseMethodDescriptor y.desc = some sig → argsL.length = sig.parameters.length)
    (hstack : g.stack = argsL.reverse ++ rest) (hW : 2 * g.monitorRoom + (rest.map fun v => v.category).sum ≤ W9) (hdg : decode c.code g.pc = .ok (.invokestatic index, 3))
    (hpre : ∀ vm₁, s.WarmedH vm₁ → Pre ⟨T.setVm vm₁, locs, cells, slots⟩ argsL.toArray) :
    (∃ (v : Option Value) (vm₁ : Vm) (B : Pt), s.WarmedH vm₁ ∧ Stand p l e R s m args below meth c B.U B.locs B.cells B.slots ∧ Post ⟨T.setVm vm₁, locs, cells, slots⟩ argsL.toArray v B ∧
      ∀ target, Steps p.tables e below (B.U.setTop { g with pc := g.pc + 3, stack := v.toList ++ rest }) target → Steps p.tables e below (T.setTop g) target) ∨
    (∃ (q : Addr) (vm₁ : Vm) (B : Pt), s.WarmedH vm₁ ∧ Stand p l e R s m args below meth c B.U B.locs B.cells B.slots ∧ PostX ⟨T.setVm vm₁, locs, cells, slots⟩ argsL.toArray q B ∧
      Steps p.tables e below (T.setTop g) ((B.U.setTop { g with stack := rest }).pushFrame (.throwing q))) := by
  obtain ⟨mk, methM, cM, hnamed, hmethM, -, -, -, -, -, -, hsigM⟩ := Cond.codeWith_spec hcode
  have hstatic : methM.isStatic = true := Cond.static_spec hnamed hmethM hstat
  obtain ⟨kP, hkP, -⟩ := className_of_methodNamed hnamed
  have hinitP : kP.init = .initialized := Cond.initialized_spec (findClass_of_methodNamed hnamed) hkP hinit
  obtain ⟨vm₁, X₁, hstep₁⟩ := X.invokestatic hexec hown hlink hnamed hmethM hstatic hkP hinitP hy (g := g) hg (argsL := argsL) (rest := rest) (hlen _ hsigM) hstack hdg
  rcases hK m meth c ⟨T.setVm vm₁, locs, cells, slots⟩ { g with stack := rest } (.invokestatic index) mk argsL.toArray X₁ hg hsize hdg hW (X₁.named hnamed) (hpre vm₁ X₁.warmed) with ⟨v, B, X', hpost, hsteps⟩ | ⟨q, B, X', hpost, hsteps⟩
  · exact Or.inl ⟨v, vm₁, B, X₁.warmed, X', hpost, fun target h => hstep₁ _ fun acts => by rw [doInvoke_state]; exact hsteps.trans h⟩
  · exact Or.inr ⟨q, vm₁, B, X₁.warmed, X', hpost, hstep₁ _ fun acts => by rw [doInvoke_state]; exact hsteps⟩
theorem vx_callVW (X : Stand p l e R s m args below meth c T locs cells slots) (hexec : p.tables.exec = Jvm.exec) {own C : String} {index : Nat} {y : MethodName} {bytes : ByteArray} {maxL : Nat} {ret : Option FieldType} {hh : List (Nat × Nat × Nat × Nat)}
    (hown : s.vm.findClass own = some m.cls) (hlink : (Cond.methodLink own index y).before args s = true) (hinst : (Cond.instanceMethod y).before args s = true) (hsel : (Cond.selects C y y).before args s = true)
    (hcode : (Cond.codeWith y bytes maxL ret hh).before args s = true) (hy : y.cls ≠ "java/lang/invoke/MethodHandle" ∧ y.cls ≠ "java/lang/invoke/VarHandle")
    {W9 : Nat} {Pre : Pt → Array Value → Prop} {Post : Pt → Array Value → Option Value → Pt → Prop} (hK : Back l R p e below s args y 3 W9 Pre Post)
    {b : Addr} {cellB : Cell} (hcell : T.heap[b]? = some cellB) (hobj : cellB.vm.isStatics = false) (hcls : s.vm.findClass C = some cellB.cls)
    {g : JFrame} (hg : g.method = m) (hsize : g.locals.size = c.maxLocals) {argsL rest : List Value} (hlen : ∀ sig, parseMethodDescriptor y.desc = some sig → argsL.length = sig.parameters.length)
    (hstack : g.stack = argsL.reverse ++ .ref b :: rest) (hW : 2 * g.monitorRoom + (rest.map fun v => v.category).sum ≤ W9) (hdg : decode c.code g.pc = .ok (.invokevirtual index, 3))
    (hpre : ∀ vm₁, s.WarmedH vm₁ → Pre ⟨T.setVm vm₁, locs, cells, slots⟩ (Value.ref b :: argsL).toArray) :
    ∃ (v : Option Value) (vm₁ : Vm) (B : Pt), s.WarmedH vm₁ ∧ Stand p l e R s m args below meth c B.U B.locs B.cells B.slots ∧ Post ⟨T.setVm vm₁, locs, cells, slots⟩ (Value.ref b :: argsL).toArray v B ∧
      ∀ target, Steps p.tables e below (B.U.setTop { g with pc := g.pc + 3, stack := v.toList ++ rest }) target → Steps p.tables e below (T.setTop g) target := by
  obtain ⟨mk, methM, hnamed, hmethM, hstM, habM⟩ := Cond.instanceMethod_spec hinst
  obtain ⟨m8, methM', cM, hn8, hmethM', -, -, -, -, -, -, hsigM⟩ := Cond.codeWith_spec hcode
  cases Option.some.inj (hn8.symm.trans hnamed)
  cases hmethM.symm.trans hmethM'
  obtain ⟨c2, r2, m2, q1, q2, q3, q4, kP, hkP, hkPi⟩ := Cond.selects_spec hsel
  cases hcls.symm.trans q1
  cases (State.methodFound?_of_named hnamed hy).symm.trans q2
  cases hnamed.symm.trans q3
  have hselP : selectMethod e.platform s.vm cellB.cls mk = .method mk := by rw [Launch.admits_selectMethod X.admits]; exact q4
  obtain ⟨vm₁, X₁, hstep₁⟩ := X.invokevirtual hexec hown hlink hnamed hmethM hstM hkP hkPi hy (a := b) (cell := cellB) hcell
    (fun z h => by rw [h] at hobj; cases hobj) hselP hmethM habM hkP hkPi (g := g) hg (argsL := argsL) (rest := rest) (hlen _ hsigM) hstack hdg
  obtain ⟨v, B, X', hpost, hsteps⟩ := hK m meth c ⟨T.setVm vm₁, locs, cells, slots⟩ { g with stack := rest } (.invokevirtual index) mk (Value.ref b :: argsL).toArray X₁ hg hsize hdg hW (X₁.named hnamed) (hpre vm₁ X₁.warmed)
  exact ⟨v, vm₁, B, X₁.warmed, X', hpost, fun target h => hstep₁ _ fun acts => by rw [doInvoke_state]; exact hsteps.trans h⟩
abbrev vx_CVW (R : Room) (s : State) (args : Array Value) (own C : String) (index : Nat) (y : MethodName) (bytes : ByteArray) (maxL : Nat) (ret : Option FieldType) (hh : List (Nat × Nat × Nat × Nat)) (ws : List Cond) (rm : Room) (mc ms n : Nat) : Prop :=
  (rm.cells = mc ∧ rm.slots = ms ∧ rm.frames + 1 ≤ R.frames ∧ 8 + (maxL + 11) + rm.locals ≤ R.locals ∧ (∀ w ∈ ws, ∀ (a' : Array Value) (U : State), s.WarmedH U.vm → w.before a' U = true) ∧ Cond.codeWith y bytes maxL ret hh ∈ ws) ∧
  (Cond.codeWith y bytes maxL ret hh).before args s = true ∧ (Cond.initialized y.cls).before args s = true ∧ (y.cls ≠ "java/lang/invoke/MethodHandle" ∧ y.cls ≠ "java/lang/invoke/VarHandle") ∧
  (∀ sig, parseMethodDescriptor y.desc = some sig → n = sig.parameters.length) ∧ (Cond.methodLink own index y).before args s = true ∧ (Cond.instanceMethod y).before args s = true ∧ (Cond.selects C y y).before args s = true
theorem vx_cwVW {own C : String} {index maxL mc ms : Nat} {y : MethodName} {bytes : ByteArray} {ret : Option FieldType} {hh : List (Nat × Nat × Nat × Nat)} {Ts ws ws' : List Cond} {rm : Room} (n : Nat) (ht : ∀ w ∈ Ts, w.before args s = true) (hT : GoodIn Ts (wsV own index C y ws)) (hw : ws = Cond.codeWith y bytes maxL ret hh :: ws') (hrc : rm.cells = mc) (hrs : rm.slots = ms)
    (hd : y.cls = C ∧ y.cls ≠ "java/lang/invoke/MethodHandle" ∧ y.cls ≠ "java/lang/invoke/VarHandle" ∧ (parseMethodDescriptor y.desc).map (fun d => d.parameters.length) = some n) (hR : rm.frames + 1 ≤ R.frames ∧ 8 + (maxL + 11) + rm.locals ≤ R.locals) :
    vx_CVW R s args own C index y bytes maxL ret hh ws rm mc ms n := by
  obtain ⟨hC, hd⟩ := hd
  subst hC
  have ok : ∀ w ∈ wsV own index y.cls y ws, w.before args s = true := fun w h => ht w (hT w h).1
  have hG : GoodIn Ts ws := fun w h => hT w (by unfold wsV; exact List.mem_append_right _ h)
  have hc : Cond.codeWith y bytes maxL ret hh ∈ ws := by rw [hw]; exact List.mem_cons_self
  refine ⟨⟨hrc, hrs, hR.1, hR.2, pay_in ht hG, hc⟩, ht _ (hG _ hc).1, ok _ (by simp [wsV]), ⟨hd.1, hd.2.1⟩, fun sig h => ?_, ok _ (by simp [wsV]), ok _ (by simp [wsV]), ok _ (by simp [wsV])⟩
  have h2 := hd.2.2
  rw [h] at h2
  exact (Option.some.inj h2).symm
theorem vx_runVW {y : MethodName} {bytes cc : ByteArray} {maxL nL mc ms n index : Nat} {ret : Option FieldType} {hh : List (Nat × Nat × Nat × Nat)} {ws : List Cond} {rm : Room} {Pc : Array Value → State → Prop} {Qc : Array Value → State → Outcome → State → Prop} {free : Addr → Prop} {Ts : List Cond} {own C : String} {b : Addr} {As rest : List Value} {g : JFrame}
    (S : CallFix p m c cc nL s args Ts own) (hM : Met l y ws rm Pc Qc mc ms free) (cw : vx_CVW R s args own C index y bytes maxL ret hh ws rm mc ms n) (hp : PreV s H C b Pc As)
    (hg : g.method = m) (hn : As.length = n) (hsize : g.locals.size = nL) (hstack : g.stack = As.reverse ++ .ref b :: rest) (hW : 2 * g.monitorRoom + (rest.map fun v => v.category).sum ≤ 8) (hdg : decode cc g.pc = .ok (.invokevirtual index, 3)) (hf : cells + mc ≤ R.cells ∧ slots + ms ≤ R.slots) :
    va_Run p l e R s m args below meth c H locs cells slots mc ms g rest (Qc (Value.ref b :: As).toArray) free := by
  obtain ⟨⟨hrc, hrs, hfr, hlo, hws, hcw⟩, hcode, hini, hy, hlen, hl, hin, hse⟩ := cw
  have hK : Back l R p e below s args y 3 8 (PreOf R mc ms Pc) (PostOf Qc mc ms free) := va_backW (hh := hh) (bytes := bytes) (maxL := maxL) (ret := ret) hM hp.1 hrc hrs hfr hlo hws hcw (fun a' U hW => word_at hW (Or.inl (by first | rfl | simp [Cond.onTables, Cond.keeps, Cond.steady])) hini)
  obtain ⟨hx, hb, hml, ho, -⟩ := S
  obtain ⟨-, ⟨cellB, hcB, hoB, hclB⟩, hPc⟩ := hp
  intro T hT X
  obtain ⟨v, vm₁, ⟨U', l2, c2, s2⟩, hW₁, X', ⟨g', mk, t, L, e1, e2, hq, h1, hL, h2, h3⟩, st⟩ := vx_callVW X hx (C := C) (hh := hh) (bytes := bytes) (maxL := maxL) (ret := ret) ho hl hin hse hcode hy hK (by rw [hT]; exact hcB) hoB hclB hg (hsize.trans hml.symm) (argsL := As) (rest := rest) (fun sig h => hn.trans (hlen sig h)) hstack hW (by rw [hb]; exact hdg)
    (fun vm₁ hW₁ => ⟨hf.1, hf.2, hPc (T.setVm vm₁) hT hW₁⟩)
  dsimp only [Pt.U, Pt.locs, Pt.cells, Pt.slots] at X' e1 e2 h1 h2 h3 st
  subst h1; subst h2; subst h3
  exact ⟨v, (T.setVm vm₁).calling g' mk (Value.ref b :: As).toArray, t, U', L, hT, X', hL, e1, e2, hq, st⟩
section
variable {y : MethodName} {bytes cc : ByteArray} {maxL nL mc ms n index : Nat} {ret : Option FieldType} {ws : List Cond} {rm : Room} {Pc : Array Value → State → Prop} {Qc : Array Value → State → Outcome → State → Prop} {XC : String → State → State → Prop} {free : Addr → Prop} {Ts : List Cond} {own C : String} {b : Addr} {As rest : List Value} {g : JFrame}
theorem vx_runVX {hh : List (Nat × Nat × Nat × Nat)} (S : CallFix p m c cc nL s args Ts own) (hM : vx_Met l y ws rm Pc Qc XC mc ms free) (cw : vx_CVW R s args own C index y bytes maxL ret hh ws rm mc ms n) (hp : PreV s H C b Pc As)
    (hg : g.method = m) (hn : As.length = n) (hsize : g.locals.size = nL) (hstack : g.stack = As.reverse ++ .ref b :: rest) (hW : 2 * g.monitorRoom + (rest.map fun v => v.category).sum ≤ 8) (hdg : decode cc g.pc = .ok (.invokevirtual index, 3)) (hf : cells + mc ≤ R.cells ∧ slots + ms ≤ R.slots) :
    vx_Run p l e R s m args below meth c H locs cells slots mc ms g rest (Qc (Value.ref b :: As).toArray) XC free := by
  obtain ⟨⟨hrc, hrs, hfr, hlo, hws, hcw⟩, hcode, hini, hy, hlen, hl, hin, hse⟩ := cw
  have hK : vx_Back l R p e below s args y 3 8 (PreOf R mc ms Pc) (PostOf Qc mc ms free) (vx_Post XC mc ms free) := vx_backW (hh := hh) (bytes := bytes) (maxL := maxL) (ret := ret) hM hp.1 hrc hrs hfr hlo hws hcw (fun a' U hW => word_at hW (Or.inl (by first | rfl | simp [Cond.onTables, Cond.keeps, Cond.steady])) hini)
  obtain ⟨hx, hb, hml, ho, -⟩ := S
  obtain ⟨-, ⟨cellB, hcB, hoB, hclB⟩, hPc⟩ := hp
  intro T hT X
  rcases vx_callVX X hx (C := C) (hh := hh) (bytes := bytes) (maxL := maxL) (ret := ret) ho hl hin hse hcode hy hK (by rw [hT]; exact hcB) hoB hclB hg (hsize.trans hml.symm) (argsL := As) (rest := rest) (fun sig h => hn.trans (hlen sig h)) hstack hW (by rw [hb]; exact hdg)
    (fun vm₁ hW₁ => ⟨hf.1, hf.2, hPc (T.setVm vm₁) hT hW₁⟩) with ⟨v, vm₁, ⟨U', l2, c2, s2⟩, hW₁, X', ⟨g', mk, t, L, e1, e2, hq, h1, hL, h2, h3⟩, st⟩ | ⟨q, vm₁, ⟨U', l2, c2, s2⟩, hW₁, X', ⟨g', mk, t, L, E, ce, e1, e2, hq, hce, hcv, hcl, h1, hL, h2, h3⟩, st⟩
  · dsimp only [Pt.U, Pt.locs, Pt.cells, Pt.slots] at X' e1 e2 h1 h2 h3 st
    subst h1; subst h2; subst h3
    exact Or.inl ⟨v, (T.setVm vm₁).calling g' mk (Value.ref b :: As).toArray, t, U', L, hT, X', hL, e1, e2, hq, st⟩
  · dsimp only [Pt.U, Pt.locs, Pt.cells, Pt.slots] at X' e1 e2 h1 h2 h3 st hcl
    subst h1; subst h2; subst h3
    exact Or.inr ⟨q, (T.setVm vm₁).calling g' mk (Value.ref b :: As).toArray, t, U', L, E, ce, hT, X', hL, e1, e2, hq, hce, hcv, vx_cls hW₁ hcl, st⟩
theorem vx_runSX {hh : List (Nat × Nat × Nat × Nat)} (S : CallFix p m c cc nL s args Ts own) (hM : vx_Met l y ws rm Pc Qc XC mc ms free) (cw : vx_CSW R s args own index y bytes maxL ret hh ws rm mc ms n) (hp : PreS s H Pc As)
    (hg : g.method = m) (hn : As.length = n) (hsize : g.locals.size = nL) (hstack : g.stack = As.reverse ++ rest) (hW : 2 * g.monitorRoom + (rest.map fun v => v.category).sum ≤ 8) (hdg : decode cc g.pc = .ok (.invokestatic index, 3)) (hf : cells + mc ≤ R.cells ∧ slots + ms ≤ R.slots) :
    vx_Run p l e R s m args below meth c H locs cells slots mc ms g rest (Qc As.toArray) XC free := by
  obtain ⟨⟨hrc, hrs, hfr, hlo, hws, hcw⟩, hcode, hini, hy, hlen, hl, hstt⟩ := cw
  have hK : vx_Back l R p e below s args y 3 8 (PreOf R mc ms Pc) (PostOf Qc mc ms free) (vx_Post XC mc ms free) := vx_backW (hh := hh) (bytes := bytes) (maxL := maxL) (ret := ret) hM hp.1 hrc hrs hfr hlo hws hcw (fun a' U hW => word_at hW (Or.inl (by first | rfl | simp [Cond.onTables, Cond.keeps, Cond.steady])) hini)
  obtain ⟨hx, hb, hml, ho, -⟩ := S
  intro T hT X
  rcases vx_callSX X hx (hh := hh) (bytes := bytes) (maxL := maxL) (ret := ret) ho hl hstt hini hcode hy hK hg (hsize.trans hml.symm) (argsL := As) (rest := rest) (fun sig h => hn.trans (hlen sig h)) hstack hW (by rw [hb]; exact hdg)
    (fun vm₁ hW₁ => ⟨hf.1, hf.2, hp.2 (T.setVm vm₁) hT hW₁⟩) with ⟨v, vm₁, ⟨U', l2, c2, s2⟩, hW₁, X', ⟨g', mk, t, L, e1, e2, hq, h1, hL, h2, h3⟩, st⟩ | ⟨q, vm₁, ⟨U', l2, c2, s2⟩, hW₁, X', ⟨g', mk, t, L, E, ce, e1, e2, hq, hce, hcv, hcl, h1, hL, h2, h3⟩, st⟩
  · dsimp only [Pt.U, Pt.locs, Pt.cells, Pt.slots] at X' e1 e2 h1 h2 h3 st
    subst h1; subst h2; subst h3
    exact Or.inl ⟨v, (T.setVm vm₁).calling g' mk As.toArray, t, U', L, hT, X', hL, e1, e2, hq, st⟩
  · dsimp only [Pt.U, Pt.locs, Pt.cells, Pt.slots] at X' e1 e2 h1 h2 h3 st hcl
    subst h1; subst h2; subst h3
    exact Or.inr ⟨q, (T.setVm vm₁).calling g' mk As.toArray, t, U', L, E, ce, hT, X', hL, e1, e2, hq, hce, hcv, vx_cls hW₁ hcl, st⟩
end
end VXH
theorem vx_ofWH {l : Launch} {y : MethodName} {ws ws' : List Cond} {rm : Room} {Pc : Array Value → State → Prop} {Qc : Array Value → State → Outcome → State → Prop} {XC : String → State → State → Prop} {mc ms : Nat} {free : Addr → Prop} {cc : ByteArray} {maxL : Nat} {ret : Option FieldType} {hh : List (Nat × Nat × Nat × Nat)}
    (hy : plainName y.cls = true) (hw : ws = Cond.codeWith y cc maxL ret hh :: ws')
    (body : ∀ p e s m args below meth c s₁, BodyLoose p l y (headSpec ws rm) cc maxL ret e s m args below meth c s₁ → c.maxLocals = maxL → Pc args s →
      W p l e (headSpec ws rm).room s m args below meth c s.heap [] 0 0 (vx_MQ below Qc XC args s mc ms free) (entryFrame m args maxL)) : vx_Met l y ws rm Pc Qc XC mc ms free := by
  refine MetFree.of_bodyS (code := cc) (maxLocals := maxL) (ret := ret) hy ?_ ?_
  · intro args s m h hn
    obtain ⟨m9, meth, c, hn9, h1, h2, h3, h4, -, h5, h6, -⟩ := Cond.codeWith_spec (atoms_spec (ws := ws) h _ (by rw [hw]; exact List.mem_cons_self))
    cases hn.symm.trans hn9
    exact ⟨meth, c, h1, h2, h3, h4, h5, h6⟩
  · intro p e s m args below meth c s₁ B hml hP _
    have hh0 : s₁.heap = s.heap := by rw [B.state]; rfl
    obtain ⟨t, a1, o, b1, b2, b3⟩ := body p e s m args below meth c s₁ B hml hP s₁ hh0 (Stand.of_body B)
    exact ⟨t, o, a1, b1, b2, b3⟩
/-! ===== END ===== -/
end
section
def wsX3_begin : List Cond := .code yX3_begin cX3_begin 5 none :: ((wsX3_begin_r1 ++ wsX3_begin_r2) ++ wsX30 ++ wsX10 ++ wsX20 ++ wsX00 ++ (vx_atS RX3 52 "java/lang/IllegalArgumentException" ["java/lang/RuntimeException", "java/lang/Exception"]).filter goodWord)
def wsX3_put : List Cond := .code yX3_put cX3_put 4 (some .int) :: ([.classLink RX3 48 "java/lang/IllegalArgumentException", .initialized "java/lang/IllegalArgumentException", .classLink RX3 69 "java/lang/UnsupportedOperationException", .initialized "java/lang/UnsupportedOperationException", .fieldLink RX3 33 "CutYard" "inHand" "I", .fieldLink RX3 29 "CutYard" "hand" "[B"] ++ wsX30 ++ (vx_atS RX3 52 "java/lang/IllegalArgumentException" ["java/lang/RuntimeException", "java/lang/Exception"]).filter goodWord ++ (vx_atS RX3 73 "java/lang/UnsupportedOperationException" ["java/lang/RuntimeException", "java/lang/Exception"]).filter goodWord)
def wsX3_fileAt : List Cond := .code yX3_fileAt cX3_fileAt 2 (some (.object "CutYard$Content")) :: ([.classLink RX3 117 "java/lang/IndexOutOfBoundsException", .initialized "java/lang/IndexOutOfBoundsException", .fieldLink RX3 25 "CutYard" "files" "[LCutYard$Content;"] ++ wsX30 ++ (vx_atS RX3 121 "java/lang/IndexOutOfBoundsException" ["java/lang/RuntimeException", "java/lang/Exception"]).filter goodWord)
def wsX3_fillFile : List Cond := .code yX3_fillFile cX3_fillFile 7 (some .int) :: ((wsX3_fillFile_r1 ++ (wsX3_fillFile_r2 ++ (wsX3_fillFile_r3 ++ (wsX3_fillFile_r4 ++ wsX3_fillFile_r5)))) ++ wsX30 ++ wsX20 ++ wsX00 ++ wsX10 ++ (vx_atS RX3 73 "java/lang/UnsupportedOperationException" ["java/lang/RuntimeException", "java/lang/Exception"]).filter goodWord)
def wsX3_store : List Cond := .code yX3_store cX3_store 2 (some .int) :: ((wsX3_store_r1 ++ (wsX3_store_r2 ++ (wsX3_store_r3 ++ (wsX3_store_r4 ++ (wsX3_store_r5 ++ wsX3_store_r6))))) ++ wsX30 ++ wsX20 ++ wsX00 ++ wsX10 ++ (vx_atS RX3 121 "java/lang/IndexOutOfBoundsException" ["java/lang/RuntimeException", "java/lang/Exception"]).filter goodWord ++ (vx_atS RX3 73 "java/lang/UnsupportedOperationException" ["java/lang/RuntimeException", "java/lang/Exception"]).filter goodWord)
def wsX3_edit : List Cond := .code yX3_edit cX3_edit 6 (some .int) :: ((wsX3_edit_r1 ++ (wsX3_edit_r2 ++ (wsX3_edit_r3 ++ (wsX3_edit_r4 ++ (wsX3_edit_r5 ++ (wsX3_edit_r6 ++ wsX3_edit_r7)))))) ++ wsX00 ++ wsX30 ++ wsX20 ++ wsX10 ++ (vx_atS RX3 52 "java/lang/IllegalArgumentException" ["java/lang/RuntimeException", "java/lang/Exception"]).filter goodWord ++ (vx_atS RX3 73 "java/lang/UnsupportedOperationException" ["java/lang/RuntimeException", "java/lang/Exception"]).filter goodWord ++ (vx_atS RX3 121 "java/lang/IndexOutOfBoundsException" ["java/lang/RuntimeException", "java/lang/Exception"]).filter goodWord)
def wsX3_copy : List Cond := .code yX3_copy cX3_copy 6 none :: ((wsX3_copy_r1 ++ (wsX3_copy_r2 ++ wsX3_copy_r3)) ++ wsX00 ++ wsX30 ++ wsX20 ++ (vx_atS RX3 121 "java/lang/IndexOutOfBoundsException" ["java/lang/RuntimeException", "java/lang/Exception"]).filter goodWord)
def wsX3_size : List Cond := .code yX3_size cX3_size 2 (some .int) :: ([.methodLink RX3 74 yX3_fileAt, .instanceMethod yX3_fileAt, .selects RX3 yX3_fileAt yX3_fileAt, .initialized RX3, .code yX3_fileAt cX3_fileAt 2 (some (.object "CutYard$Content")), .classLink RX3 117 "java/lang/IndexOutOfBoundsException", .initialized "java/lang/IndexOutOfBoundsException", .fieldLink RX3 25 "CutYard" "files" "[LCutYard$Content;"] ++ wsX00 ++ wsX30 ++ (vx_atS RX3 121 "java/lang/IndexOutOfBoundsException" ["java/lang/RuntimeException", "java/lang/Exception"]).filter goodWord)
def wsX3_get : List Cond := .code yX3_get cX3_get 6 (some .int) :: ((wsX3_get_r1 ++ wsX3_get_r2) ++ wsX00 ++ wsX30 ++ wsX20 ++ (vx_atS RX3 121 "java/lang/IndexOutOfBoundsException" ["java/lang/RuntimeException", "java/lang/Exception"]).filter goodWord)
def wsX3_parts : List Cond := .code yX3_parts cX3_parts 2 (some .int) :: ([.methodLink RX3 74 yX3_fileAt, .instanceMethod yX3_fileAt, .selects RX3 yX3_fileAt yX3_fileAt, .initialized RX3, .code yX3_fileAt cX3_fileAt 2 (some (.object "CutYard$Content")), .classLink RX3 117 "java/lang/IndexOutOfBoundsException", .initialized "java/lang/IndexOutOfBoundsException", .fieldLink RX3 25 "CutYard" "files" "[LCutYard$Content;"] ++ wsX00 ++ wsX30 ++ (vx_atS RX3 121 "java/lang/IndexOutOfBoundsException" ["java/lang/RuntimeException", "java/lang/Exception"]).filter goodWord)
def wsX3_part : List Cond := .code yX3_part cX3_part 4 (some .int) :: ([.classLink RX3 117 "java/lang/IndexOutOfBoundsException", .initialized "java/lang/IndexOutOfBoundsException", .methodLink RX3 74 yX3_fileAt, .instanceMethod yX3_fileAt, .selects RX3 yX3_fileAt yX3_fileAt, .initialized RX3, .code yX3_fileAt cX3_fileAt 2 (some (.object "CutYard$Content")), .fieldLink RX3 25 "CutYard" "files" "[LCutYard$Content;"] ++ wsX00 ++ wsX30 ++ (vx_atS RX3 121 "java/lang/IndexOutOfBoundsException" ["java/lang/RuntimeException", "java/lang/Exception"]).filter goodWord)
def wsX3_about : List Cond := .code yX3_about cX3_about 3 (some .int) :: ((wsX3_about_r1 ++ wsX3_about_r2) ++ wsX30 ++ wsX20 ++ wsX00 ++ (vx_atS RX3 138 "java/util/NoSuchElementException" ["java/lang/RuntimeException", "java/lang/Exception"]).filter goodWord ++ (vx_atS RX3 52 "java/lang/IllegalArgumentException" ["java/lang/RuntimeException", "java/lang/Exception"]).filter goodWord)
def wsX3_common : List Cond := .code yX3_common cX3_common 8 (some .int) :: ((wsX3_common_r1 ++ wsX3_common_r2) ++ wsX30 ++ wsX00 ++ wsX20 ++ (vx_atS RX3 121 "java/lang/IndexOutOfBoundsException" ["java/lang/RuntimeException", "java/lang/Exception"]).filter goodWord)
def wsX3_all : List Cond := .code yX3_all cX3_all 2 (some .int) :: ([.classLink RX3 48 "java/lang/IllegalArgumentException", .initialized "java/lang/IllegalArgumentException", .fieldLink RX3 19 "CutYard" "stock" "LCutYard$Stock;", .fieldLink RX3 33 "CutYard" "inHand" "I"] ++ wsX30 ++ wsX20 ++ (vx_atS RX3 52 "java/lang/IllegalArgumentException" ["java/lang/RuntimeException", "java/lang/Exception"]).filter goodWord)
set_option maxRecDepth 20000 in
theorem ggX3_begin_X1_setRule : GoodIn wsX3_begin wsX1_setRule := goodIn_r _ [10, 11, 12, 13, 43, 44, 45] (by decide +kernel) (by decide +kernel)
set_option maxRecDepth 20000 in
theorem gX3_begin_X1_setRule : GoodIn wsX3_begin (wsV RX3 59 RX1 yX1_setRule wsX1_setRule) := goodIn_app (goodIn_of _ (by decide +kernel)) ggX3_begin_X1_setRule
set_option maxRecDepth 20000 in
theorem ggX3_begin_X2_empty : GoodIn wsX3_begin wsX2_empty := goodIn_r _ [18, 19, 20, 21, 22, 23, 24, 25, 26, 27, 46, 47, 48, 49, 50, 51, 52, 53, 54] (by decide +kernel) (by decide +kernel)
set_option maxRecDepth 20000 in
theorem gX3_begin_X2_empty : GoodIn wsX3_begin (wsV RX3 63 RX2 yX2_empty wsX2_empty) := goodIn_app (goodIn_of _ (by decide +kernel)) ggX3_begin_X2_empty
set_option maxRecDepth 20000 in
theorem ggX3_begin_X0_empty : GoodIn wsX3_begin wsX0_empty := goodIn_r _ [32, 33, 34, 55, 56, 57] (by decide +kernel) (by decide +kernel)
set_option maxRecDepth 20000 in
theorem gX3_begin_X0_empty : GoodIn wsX3_begin (wsV RX3 66 RX0 yX0_empty wsX0_empty) := goodIn_app (goodIn_of _ (by decide +kernel)) ggX3_begin_X0_empty
set_option maxRecDepth 20000 in
theorem ggX3_store_X3_fileAt : GoodIn wsX3_store wsX3_fileAt := goodIn_ca (goodIn_r _ [7, 8, 9, 10, 133, 134, 135, 136, 137, 138, 139, 140] (by decide +kernel) (by decide +kernel)) (goodIn_sub (fun _ h => List.mem_cons_of_mem _ (List.mem_append_left _ (List.mem_append_right _ h))) (by decide +kernel))
set_option maxRecDepth 20000 in
theorem gX3_store_X3_fileAt : GoodIn wsX3_store (wsV RX3 74 RX3 yX3_fileAt wsX3_fileAt) := goodIn_app (goodIn_of _ (by decide +kernel)) ggX3_store_X3_fileAt
set_option maxRecDepth 20000 in
theorem ggX3_store_X3_fillFile : GoodIn wsX3_store wsX3_fillFile := goodIn_ca (goodIn_r _ [14, 15, 16, 17, 18, 2, 19, 20, 21, 6, 22, 23, 24, 25, 26, 27, 28, 29, 30, 31, 32, 33, 34, 35, 36, 37, 38, 39, 40, 41, 42, 43, 44, 45, 46, 47, 48, 49, 50, 51, 52, 53, 54, 55, 56, 57, 58, 59, 60, 61, 62, 63, 64, 65, 66, 67, 68, 69, 70, 71, 72, 73, 74, 75, 76, 77, 78, 79, 80, 81, 82, 83, 84, 85, 86, 87, 88, 89, 90, 91, 92, 93, 94, 95, 96, 97, 98, 99, 100, 101, 102, 103, 104, 105, 106, 107, 108, 109, 110, 111, 112, 113, 114, 115, 116, 117, 118, 119, 120, 121, 122, 123, 124, 125, 126, 127, 128, 129, 130, 131, 132, 133, 134, 135, 136, 137, 138, 139, 140, 141, 142, 143, 144, 145, 146, 147, 148, 149, 150, 151, 152, 153, 154, 155] (by decide +kernel) (by decide +kernel)) (goodIn_sub (fun _ h => List.mem_cons_of_mem _ (List.mem_append_right _ h)) (by decide +kernel))
set_option maxRecDepth 20000 in
theorem gX3_store_X3_fillFile : GoodIn wsX3_store (wsV RX3 78 RX3 yX3_fillFile wsX3_fillFile) := goodIn_app (goodIn_of _ (by decide +kernel)) ggX3_store_X3_fillFile
set_option maxRecDepth 20000 in
theorem ggX3_edit_X3_fileAt : GoodIn wsX3_edit wsX3_fileAt := goodIn_ca (goodIn_r _ [16, 17, 18, 19, 152, 153, 154, 155, 156, 157, 158, 159] (by decide +kernel) (by decide +kernel)) (goodIn_sub (fun _ h => List.mem_cons_of_mem _ (List.mem_append_right _ h)) (by decide +kernel))
set_option maxRecDepth 20000 in
theorem gX3_edit_X3_fileAt : GoodIn wsX3_edit (wsV RX3 74 RX3 yX3_fileAt wsX3_fileAt) := goodIn_app (goodIn_of _ (by decide +kernel)) ggX3_edit_X3_fileAt
set_option maxRecDepth 20000 in
theorem ggX3_edit_X3_layOut : GoodIn wsX3_edit wsX3_layOut := goodIn_r _ [23, 24, 6, 25, 26, 27, 28, 29, 30, 31, 8, 9, 10, 32, 33, 34, 35, 36, 37, 38, 39, 40, 41, 149, 150, 151, 152, 153, 154, 155, 156, 157, 158, 159, 160, 161, 162, 163, 164, 165, 166, 167, 168] (by decide +kernel) (by decide +kernel)
set_option maxRecDepth 20000 in
theorem gX3_edit_X3_layOut : GoodIn wsX3_edit (wsV RX3 89 RX3 yX3_layOut wsX3_layOut) := goodIn_app (goodIn_of _ (by decide +kernel)) ggX3_edit_X3_layOut
set_option maxRecDepth 20000 in
theorem ggX3_edit_X3_fillFile : GoodIn wsX3_edit wsX3_fillFile := goodIn_ca (goodIn_r _ [45, 3, 4, 24, 46, 5, 47, 48, 49, 15, 50, 51, 52, 53, 54, 55, 56, 57, 58, 59, 60, 61, 62, 63, 64, 65, 66, 67, 68, 69, 70, 71, 72, 73, 28, 74, 75, 76, 77, 78, 79, 80, 81, 82, 83, 36, 84, 37, 38, 39, 40, 41, 85, 86, 87, 88, 30, 89, 90, 91, 92, 31, 8, 9, 10, 93, 94, 95, 96, 97, 98, 99, 100, 101, 102, 103, 104, 105, 106, 107, 108, 109, 110, 111, 112, 113, 114, 115, 116, 117, 118, 119, 120, 121, 122, 123, 124, 125, 126, 127, 128, 129, 130, 131, 132, 133, 134, 135, 136, 137, 138, 139, 140, 141, 142, 143, 144, 145, 146, 147, 148, 152, 153, 154, 155, 156, 157, 158, 159, 160, 161, 162, 163, 164, 165, 166, 167, 168, 149, 150, 151, 169, 170, 171] (by decide +kernel) (by decide +kernel)) (goodIn_sub (fun _ h => List.mem_cons_of_mem _ (List.mem_append_left _ (List.mem_append_right _ h))) (by decide +kernel))
set_option maxRecDepth 20000 in
theorem gX3_edit_X3_fillFile : GoodIn wsX3_edit (wsV RX3 78 RX3 yX3_fillFile wsX3_fillFile) := goodIn_app (goodIn_of _ (by decide +kernel)) ggX3_edit_X3_fillFile
set_option maxRecDepth 20000 in
theorem ggX3_copy_X3_fileAt : GoodIn wsX3_copy wsX3_fileAt := goodIn_ca (goodIn_r _ [6, 7, 8, 9, 63, 64, 65, 66, 67, 68, 69, 70] (by decide +kernel) (by decide +kernel)) (goodIn_sub (fun _ h => List.mem_cons_of_mem _ (List.mem_append_right _ h)) (by decide +kernel))
set_option maxRecDepth 20000 in
theorem gX3_copy_X3_fileAt : GoodIn wsX3_copy (wsV RX3 74 RX3 yX3_fileAt wsX3_fileAt) := goodIn_app (goodIn_of _ (by decide +kernel)) ggX3_copy_X3_fileAt
set_option maxRecDepth 20000 in
theorem ggX3_copy_X2_useAgain : GoodIn wsX3_copy wsX2_useAgain := goodIn_r _ [14, 15, 16, 17, 18, 13, 19, 71, 72, 73, 74, 75, 76, 77, 78, 79] (by decide +kernel) (by decide +kernel)
set_option maxRecDepth 20000 in
theorem gX3_copy_X2_useAgain : GoodIn wsX3_copy (wsV RX3 105 RX2 yX2_useAgain wsX2_useAgain) := goodIn_app (goodIn_of _ (by decide +kernel)) ggX3_copy_X2_useAgain
set_option maxRecDepth 20000 in
theorem ggX3_copy_X3_giveBack : GoodIn wsX3_copy wsX3_giveBack := goodIn_r _ [23, 1, 24, 25, 26, 13, 27, 15, 28, 29, 30, 31, 32, 33, 34, 35, 16, 17, 18, 19, 36, 37, 38, 39, 40, 41, 42, 63, 64, 65, 66, 67, 68, 69, 70, 71, 72, 73, 74, 75, 76, 77, 78, 79] (by decide +kernel) (by decide +kernel)
set_option maxRecDepth 20000 in
theorem gX3_copy_X3_giveBack : GoodIn wsX3_copy (wsV RX3 109 RX3 yX3_giveBack wsX3_giveBack) := goodIn_app (goodIn_of _ (by decide +kernel)) ggX3_copy_X3_giveBack
set_option maxRecDepth 20000 in
theorem ggX3_copy_X0_become : GoodIn wsX3_copy wsX0_become := goodIn_r _ [47, 48, 49, 50, 31, 51, 52, 30, 32, 53, 54, 55, 56, 57, 58, 59, 60, 61, 62] (by decide +kernel) (by decide +kernel)
set_option maxRecDepth 20000 in
theorem gX3_copy_X0_become : GoodIn wsX3_copy (wsV RX3 113 RX0 yX0_become wsX0_become) := goodIn_app (goodIn_of _ (by decide +kernel)) ggX3_copy_X0_become
set_option maxRecDepth 20000 in
theorem ggX3_size_X3_fileAt : GoodIn wsX3_size wsX3_fileAt := goodIn_ca (goodIn_r _ [5, 6, 7, 8, 12, 13, 14, 15, 16, 17, 18, 19] (by decide +kernel) (by decide +kernel)) (goodIn_sub (fun _ h => List.mem_cons_of_mem _ (List.mem_append_right _ h)) (by decide +kernel))
set_option maxRecDepth 20000 in
theorem gX3_size_X3_fileAt : GoodIn wsX3_size (wsV RX3 74 RX3 yX3_fileAt wsX3_fileAt) := goodIn_app (goodIn_of _ (by decide +kernel)) ggX3_size_X3_fileAt
set_option maxRecDepth 20000 in
theorem ggX3_get_X3_fileAt : GoodIn wsX3_get wsX3_fileAt := goodIn_ca (goodIn_r _ [8, 1, 2, 9, 30, 31, 32, 33, 34, 35, 36, 37] (by decide +kernel) (by decide +kernel)) (goodIn_sub (fun _ h => List.mem_cons_of_mem _ (List.mem_append_right _ h)) (by decide +kernel))
set_option maxRecDepth 20000 in
theorem gX3_get_X3_fileAt : GoodIn wsX3_get (wsV RX3 74 RX3 yX3_fileAt wsX3_fileAt) := goodIn_app (goodIn_of _ (by decide +kernel)) ggX3_get_X3_fileAt
set_option maxRecDepth 20000 in
theorem ggX3_get_X2_lengthOf : GoodIn wsX3_get wsX2_lengthOf := goodIn_r _ [14, 15, 16, 17, 18, 13, 19, 20, 38, 39, 40, 41, 42, 43, 44, 45, 46] (by decide +kernel) (by decide +kernel)
set_option maxRecDepth 20000 in
theorem gX3_get_X2_lengthOf : GoodIn wsX3_get (wsV RX3 122 RX2 yX2_lengthOf wsX2_lengthOf) := goodIn_app (goodIn_of _ (by decide +kernel)) ggX3_get_X2_lengthOf
set_option maxRecDepth 20000 in
theorem ggX3_get_X2_byteOf : GoodIn wsX3_get wsX2_byteOf := goodIn_r _ [24, 25, 26, 11, 12, 13, 14, 15, 16, 17, 18, 19, 20, 38, 39, 40, 41, 42, 43, 44, 45, 46] (by decide +kernel) (by decide +kernel)
set_option maxRecDepth 20000 in
theorem gX3_get_X2_byteOf : GoodIn wsX3_get (wsV RX3 126 RX2 yX2_byteOf wsX2_byteOf) := goodIn_app (goodIn_of _ (by decide +kernel)) ggX3_get_X2_byteOf
set_option maxRecDepth 20000 in
theorem ggX3_parts_X3_fileAt : GoodIn wsX3_parts wsX3_fileAt := goodIn_ca (goodIn_r _ [5, 6, 7, 8, 12, 13, 14, 15, 16, 17, 18, 19] (by decide +kernel) (by decide +kernel)) (goodIn_sub (fun _ h => List.mem_cons_of_mem _ (List.mem_append_right _ h)) (by decide +kernel))
set_option maxRecDepth 20000 in
theorem gX3_parts_X3_fileAt : GoodIn wsX3_parts (wsV RX3 74 RX3 yX3_fileAt wsX3_fileAt) := goodIn_app (goodIn_of _ (by decide +kernel)) ggX3_parts_X3_fileAt
set_option maxRecDepth 20000 in
theorem ggX3_part_X3_fileAt : GoodIn wsX3_part wsX3_fileAt := goodIn_ca (goodIn_r _ [7, 1, 2, 8, 12, 13, 14, 15, 16, 17, 18, 19] (by decide +kernel) (by decide +kernel)) (goodIn_sub (fun _ h => List.mem_cons_of_mem _ (List.mem_append_right _ h)) (by decide +kernel))
set_option maxRecDepth 20000 in
theorem gX3_part_X3_fileAt : GoodIn wsX3_part (wsV RX3 74 RX3 yX3_fileAt wsX3_fileAt) := goodIn_app (goodIn_of _ (by decide +kernel)) ggX3_part_X3_fileAt
set_option maxRecDepth 20000 in
theorem ggX3_about_X2_has : GoodIn wsX3_about wsX2_has := goodIn_r _ [10, 11, 43, 44, 45, 46, 47, 48, 49, 50, 51] (by decide +kernel) (by decide +kernel)
set_option maxRecDepth 20000 in
theorem gX3_about_X2_has : GoodIn wsX3_about (wsV RX3 132 RX2 yX2_has wsX2_has) := goodIn_app (goodIn_of _ (by decide +kernel)) ggX3_about_X2_has
set_option maxRecDepth 20000 in
theorem ggX3_about_X2_lengthOf : GoodIn wsX3_about wsX2_lengthOf := goodIn_r _ [15, 16, 17, 7, 8, 9, 10, 11, 43, 44, 45, 46, 47, 48, 49, 50, 51] (by decide +kernel) (by decide +kernel)
set_option maxRecDepth 20000 in
theorem gX3_about_X2_lengthOf : GoodIn wsX3_about (wsV RX3 122 RX2 yX2_lengthOf wsX2_lengthOf) := goodIn_app (goodIn_of _ (by decide +kernel)) ggX3_about_X2_lengthOf
set_option maxRecDepth 20000 in
theorem ggX3_about_X2_usesOf : GoodIn wsX3_about wsX2_usesOf := goodIn_r _ [21, 11, 17, 7, 8, 9, 10, 43, 44, 45, 46, 47, 48, 49, 50, 51] (by decide +kernel) (by decide +kernel)
set_option maxRecDepth 20000 in
theorem gX3_about_X2_usesOf : GoodIn wsX3_about (wsV RX3 139 RX2 yX2_usesOf wsX2_usesOf) := goodIn_app (goodIn_of _ (by decide +kernel)) ggX3_about_X2_usesOf
set_option maxRecDepth 20000 in
theorem ggX3_about_X3_filesWith : GoodIn wsX3_about wsX3_filesWith := goodIn_r _ [26, 27, 28, 29, 30, 31, 32, 33, 34, 35, 36, 37, 38, 39, 40, 41, 42, 52, 53, 54] (by decide +kernel) (by decide +kernel)
set_option maxRecDepth 20000 in
theorem gX3_about_X3_filesWith : GoodIn wsX3_about (wsV RX3 142 RX3 yX3_filesWith wsX3_filesWith) := goodIn_app (goodIn_of _ (by decide +kernel)) ggX3_about_X3_filesWith
set_option maxRecDepth 20000 in
theorem ggX3_common_X3_fileAt : GoodIn wsX3_common wsX3_fileAt := goodIn_ca (goodIn_r _ [7, 8, 9, 10, 27, 28, 29, 30, 31, 32, 33, 34] (by decide +kernel) (by decide +kernel)) (goodIn_sub (fun _ h => List.mem_cons_of_mem _ (List.mem_append_right _ h)) (by decide +kernel))
set_option maxRecDepth 20000 in
theorem gX3_common_X3_fileAt : GoodIn wsX3_common (wsV RX3 74 RX3 yX3_fileAt wsX3_fileAt) := goodIn_app (goodIn_of _ (by decide +kernel)) ggX3_common_X3_fileAt
set_option maxRecDepth 20000 in
theorem ggX3_common_J7_fill_53178 : GoodIn wsX3_common wsJ7_fill_53178 := goodIn_r _ [14] (by decide +kernel) (by decide +kernel)
set_option maxRecDepth 20000 in
theorem gX3_common_J7_fill_53178 : GoodIn wsX3_common (va_wsS RX3 147 yJ7_fill_53178 wsJ7_fill_53178) := goodIn_app (goodIn_of _ (by decide +kernel)) ggX3_common_J7_fill_53178
set_option maxRecDepth 20000 in
theorem ggX3_common_X2_has : GoodIn wsX3_common wsX2_has := goodIn_r _ [19, 20, 38, 39, 40, 41, 42, 43, 44, 45, 46] (by decide +kernel) (by decide +kernel)
set_option maxRecDepth 20000 in
theorem gX3_common_X2_has : GoodIn wsX3_common (wsV RX3 132 RX2 yX2_has wsX2_has) := goodIn_app (goodIn_of _ (by decide +kernel)) ggX3_common_X2_has
set_option maxRecDepth 20000 in
theorem ggX3_common_X2_lengthOf : GoodIn wsX3_common wsX2_lengthOf := goodIn_r _ [24, 25, 26, 16, 17, 18, 19, 20, 38, 39, 40, 41, 42, 43, 44, 45, 46] (by decide +kernel) (by decide +kernel)
set_option maxRecDepth 20000 in
theorem gX3_common_X2_lengthOf : GoodIn wsX3_common (wsV RX3 122 RX2 yX2_lengthOf wsX2_lengthOf) := goodIn_app (goodIn_of _ (by decide +kernel)) ggX3_common_X2_lengthOf
set_option maxRecDepth 20000 in
theorem ggX3_fillFile_X3_takeParts : GoodIn wsX3_fillFile wsX3_takeParts := goodIn_r _ [10, 11, 3, 4, 12, 13, 14, 15, 16, 17, 18, 19, 20, 21, 22, 23, 24, 25, 26, 27, 28, 29, 30, 31, 32, 33, 34, 35, 36, 37, 38, 39, 40, 41, 42, 43, 44, 45, 46, 47, 48, 49, 50, 51, 52, 53, 54, 55, 56, 57, 58, 59, 60, 61, 62, 63, 64, 65, 66, 67, 68, 69, 70, 71, 72, 73, 74, 75, 76, 77, 78, 79, 80, 81, 82, 83, 84, 85, 86, 87, 88, 89, 90, 91, 92, 93, 94, 95, 96, 97, 98, 99, 9, 100, 101, 102, 103, 104, 105, 106, 107, 108, 121, 122, 123, 124, 125, 126, 127, 128, 141, 142, 143, 129, 130, 131, 132, 133, 134, 135, 136, 137] (by decide +kernel) (by decide +kernel)
set_option maxRecDepth 20000 in
theorem gX3_fillFile_X3_takeParts : GoodIn wsX3_fillFile (wsV RX3 156 RX3 yX3_takeParts wsX3_takeParts) := goodIn_app (goodIn_of _ (by decide +kernel)) ggX3_fillFile_X3_takeParts
set_option maxRecDepth 20000 in
theorem ggX3_fillFile_X3_giveBack : GoodIn wsX3_fillFile wsX3_giveBack := goodIn_r _ [100, 3, 101, 102, 103, 34, 104, 51, 71, 79, 19, 20, 21, 65, 66, 45, 47, 48, 49, 50, 105, 106, 107, 108, 44, 43, 46, 121, 122, 123, 124, 125, 126, 127, 128, 129, 130, 131, 132, 133, 134, 135, 136, 137] (by decide +kernel) (by decide +kernel)
set_option maxRecDepth 20000 in
theorem gX3_fillFile_X3_giveBack : GoodIn wsX3_fillFile (wsV RX3 109 RX3 yX3_giveBack wsX3_giveBack) := goodIn_app (goodIn_of _ (by decide +kernel)) ggX3_fillFile_X3_giveBack
set_option maxRecDepth 20000 in
theorem ggX3_fillFile_X0_become : GoodIn wsX3_fillFile wsX0_become := goodIn_r _ [113, 114, 115, 77, 20, 78, 116, 19, 21, 117, 118, 62, 63, 64, 119, 120, 138, 139, 140] (by decide +kernel) (by decide +kernel)
set_option maxRecDepth 20000 in
theorem gX3_fillFile_X0_become : GoodIn wsX3_fillFile (wsV RX3 113 RX0 yX0_become wsX0_become) := goodIn_app (goodIn_of _ (by decide +kernel)) ggX3_fillFile_X0_become
end
section
/-! My own judgement: mW, a walk over a world w with the locals as a list; mC, what is fixed in a method; mM, a method's contract over worlds. -/
abbrev mTy (cy : Nat → ClassId) : List (ClassId × FieldType) := [(cy 0, .int), (cy 1, .byte), (cy 2, .boolean), (cy 3, .object "CutYard$Content"), (cy 4, .long)]
def nW : List Cond := [.fieldLinkNest "CutYard" 152 "CutYard$Stock" "count" "I" "CutYard", .fieldLinkNest "CutYard" 153 "CutYard$Stock" "bytes" "I" "CutYard", .fieldLinkNest "CutYard" 102 "CutYard$Content" "numbers" "[I" "CutYard", .fieldLinkNest "CutYard" 99 "CutYard$Content" "count" "I" "CutYard", .fieldLinkNest "CutYard" 82 "CutYard$Content" "bytes" "I" "CutYard"]
/-- the nest mates' fields, as CutYard's entries name them -/
def nK (U : State) : Prop := ∀ w ∈ nW, va_Nw w U
theorem nK.warm {s U : State} (hW : s.WarmedH U.vm) (h : nK s) : nK U := by
  intro w hw
  have h1 := h w hw
  simp only [nW, List.mem_cons, List.not_mem_nil, or_false] at hw
  rcases hw with rfl | rfl | rfl | rfl | rfl <;> exact va_Nw.warmF hW h1
def mC (p : Program) (s : State) (m : MethodId) (args : Array Value) (meth : Method) (c : Code) (D : va_G) (cy : Nat → ClassId) (A : Nat → Prop) (cc : ByteArray) (nL : Nat) (own : String) (Ts : List Cond) (ret0 : Option FieldType) : Prop :=
  p.tables.exec = Jvm.exec ∧ c.code = cc ∧ c.maxLocals = nL ∧ s.vm.findClass own = some m.cls ∧ (∀ w ∈ Ts, w.before args s = true) ∧ va_K D vwCl (mTy cy) s ∧ (∀ q, s.heap.size ≤ q → A q) ∧ meth.sig.returnType = ret0 ∧ meth.locks = false ∧ nK s
def mW (p : Program) (l : Launch) (e : Env) (R : Room) (s : State) (m : MethodId) (args : Array Value) (below : List Frame) (meth : Method) (c : Code) (D : va_G) (A : Nat → Prop) (nL kc ks : Nat) (Q : State → Prop) (w : va_W) (pc : Nat) (lv : List (Nat × Value)) (st : List Value) : Prop :=
  ∀ (H : Heap) (locs : List Loc) (ls : Array Slot), va_P D vwCl w H → va_D A w → va_S A s.heap H locs → lv_has ls nL lv → W p l e R s m args below meth c H locs kc ks Q (F0 m pc ls st)
section ML
variable {p : Program} {l : Launch} {e : Env} {R : Room} {s : State} {m : MethodId} {args : Array Value} {below : List Frame} {meth : Method} {c : Code} {D : va_G} {cy : Nat → ClassId} {A : Nat → Prop} {cc : ByteArray} {nL kc ks : Nat} {own : String} {Ts : List Cond} {ret0 : Option FieldType} {Q : State → Prop} {w w' : va_W} {pc : Nat} {lv lv' : List (Nat × Value)} {rest : List Value}
theorem mW.eq {pc' : Nat} {st st' : List Value} (hp : pc' = pc) (hl : lv' = lv) (hs : st' = st) (hw : w' = w) (k : mW p l e R s m args below meth c D A nL kc ks Q w' pc' lv' st') : mW p l e R s m args below meth c D A nL kc ks Q w pc lv st := by subst hp; subst hl; subst hs; subst hw; exact k
theorem mW.wd {k' n' : Nat} {st : List Value} (h1 : kc ≤ k') (h2 : ks ≤ n') (k : mW p l e R s m args below meth c D A nL k' n' Q w pc lv st) : mW p l e R s m args below meth c D A nL kc ks Q w pc lv st := fun H locs ls a1 a2 a3 a4 => W.widen h1 h2 (k H locs ls a1 a2 a3 a4)
theorem mW.sub (qs : List Nat) {st : List Value} (hl : lv_pick lv qs = lv') (k : mW p l e R s m args below meth c D A nL kc ks Q w pc lv' st) : mW p l e R s m args below meth c D A nL kc ks Q w pc lv st := fun H locs ls a1 a2 a3 a4 => k H locs ls a1 a2 a3 (lv_sub a4 qs hl)
theorem m_iconst (C : mC p s m args meth c D cy A cc nL own Ts ret0) {n : Int} {v : Int32} (hdg : decode cc pc = .ok (.iconst n, 1)) (hv : Int32.ofInt n = v) (k : mW p l e R s m args below meth c D A nL kc ks Q w (pc + 1) lv (.int v :: rest)) : mW p l e R s m args below meth c D A nL kc ks Q w pc lv (rest) := fun H locs ls a1 a2 a3 a4 => lv_iconst C.1 C.2.1 hdg hv (k H locs ls a1 a2 a3 a4)
theorem m_bipush (C : mC p s m args meth c D cy A cc nL own Ts ret0) {n : Int} {v : Int32} (hdg : decode cc pc = .ok (.bipush n, 2)) (hv : (Int8.ofInt n).toInt32 = v) (k : mW p l e R s m args below meth c D A nL kc ks Q w (pc + 2) lv (.int v :: rest)) : mW p l e R s m args below meth c D A nL kc ks Q w pc lv (rest) := fun H locs ls a1 a2 a3 a4 => lv_bipush C.1 C.2.1 hdg hv (k H locs ls a1 a2 a3 a4)
theorem m_sipush (C : mC p s m args meth c D cy A cc nL own Ts ret0) {n : Int} {v : Int32} (hdg : decode cc pc = .ok (.sipush n, 3)) (hv : (Int16.ofInt n).toInt32 = v) (k : mW p l e R s m args below meth c D A nL kc ks Q w (pc + 3) lv (.int v :: rest)) : mW p l e R s m args below meth c D A nL kc ks Q w pc lv (rest) := fun H locs ls a1 a2 a3 a4 => lv_sipush C.1 C.2.1 hdg hv (k H locs ls a1 a2 a3 a4)
theorem m_iload_n (C : mC p s m args meth c D cy A cc nL own Ts ret0) {k : Fin 4} {i : Nat} {x : Int32} (hdg : decode cc pc = .ok (.iload_n k, 1)) (hi : (k : Nat) = i) (q : Nat) (hl : lv[q]? = some (i, .int x)) (k : mW p l e R s m args below meth c D A nL kc ks Q w (pc + 1) lv (.int x :: rest)) : mW p l e R s m args below meth c D A nL kc ks Q w pc lv (rest) := fun H locs ls a1 a2 a3 a4 => lv_iload_n C.1 C.2.1 hdg hi (lv_at a4 q hl) (k H locs ls a1 a2 a3 a4)
theorem m_iload (C : mC p s m args meth c D cy A cc nL own Ts ret0) {i : Nat} {x : Int32} (hdg : decode cc pc = .ok (.iload i, 2)) (q : Nat) (hl : lv[q]? = some (i, .int x)) (k : mW p l e R s m args below meth c D A nL kc ks Q w (pc + 2) lv (.int x :: rest)) : mW p l e R s m args below meth c D A nL kc ks Q w pc lv (rest) := fun H locs ls a1 a2 a3 a4 => lv_iload C.1 C.2.1 hdg (lv_at a4 q hl) (k H locs ls a1 a2 a3 a4)
theorem m_aload_n (C : mC p s m args meth c D cy A cc nL own Ts ret0) {k : Fin 4} {i : Nat} {x : Nat} (hdg : decode cc pc = .ok (.aload_n k, 1)) (hi : (k : Nat) = i) (q : Nat) (hl : lv[q]? = some (i, .ref x)) (k : mW p l e R s m args below meth c D A nL kc ks Q w (pc + 1) lv (.ref x :: rest)) : mW p l e R s m args below meth c D A nL kc ks Q w pc lv (rest) := fun H locs ls a1 a2 a3 a4 => lv_aload_n C.1 C.2.1 hdg hi (lv_at a4 q hl) (k H locs ls a1 a2 a3 a4)
theorem m_aload (C : mC p s m args meth c D cy A cc nL own Ts ret0) {i : Nat} {x : Nat} (hdg : decode cc pc = .ok (.aload i, 2)) (q : Nat) (hl : lv[q]? = some (i, .ref x)) (k : mW p l e R s m args below meth c D A nL kc ks Q w (pc + 2) lv (.ref x :: rest)) : mW p l e R s m args below meth c D A nL kc ks Q w pc lv (rest) := fun H locs ls a1 a2 a3 a4 => lv_aload C.1 C.2.1 hdg (lv_at a4 q hl) (k H locs ls a1 a2 a3 a4)
theorem m_istore_n (C : mC p s m args meth c D cy A cc nL own Ts ret0) {k : Fin 4} {i : Nat} {x : Int32} (hdg : decode cc pc = .ok (.istore_n k, 1)) (hi : (k : Nat) = i) (hn : i < nL) (hl : (i, Value.int x) :: lv.filter (fun q => !(q.1 == i) && !(q.1 + 1 == i && q.2.category == 2)) = lv') (kk : mW p l e R s m args below meth c D A nL kc ks Q w (pc + 1) lv' rest) : mW p l e R s m args below meth c D A nL kc ks Q w pc lv (.int x :: rest) := fun H locs ls a1 a2 a3 a4 => lv_istore_n C.1 C.2.1 hdg hi a4 hn hl (fun ls a4 => kk H locs ls a1 a2 a3 a4)
theorem m_istore (C : mC p s m args meth c D cy A cc nL own Ts ret0) {i : Nat} {x : Int32} (hdg : decode cc pc = .ok (.istore i, 2)) (hn : i < nL) (hl : (i, Value.int x) :: lv.filter (fun q => !(q.1 == i) && !(q.1 + 1 == i && q.2.category == 2)) = lv') (kk : mW p l e R s m args below meth c D A nL kc ks Q w (pc + 2) lv' rest) : mW p l e R s m args below meth c D A nL kc ks Q w pc lv (.int x :: rest) := fun H locs ls a1 a2 a3 a4 => lv_istore C.1 C.2.1 hdg a4 hn hl (fun ls a4 => kk H locs ls a1 a2 a3 a4)
theorem m_astore_n (C : mC p s m args meth c D cy A cc nL own Ts ret0) {k : Fin 4} {i : Nat} {x : Nat} (hdg : decode cc pc = .ok (.astore_n k, 1)) (hi : (k : Nat) = i) (hn : i < nL) (hl : (i, Value.ref x) :: lv.filter (fun q => !(q.1 == i) && !(q.1 + 1 == i && q.2.category == 2)) = lv') (kk : mW p l e R s m args below meth c D A nL kc ks Q w (pc + 1) lv' rest) : mW p l e R s m args below meth c D A nL kc ks Q w pc lv (.ref x :: rest) := fun H locs ls a1 a2 a3 a4 => lv_astore_n C.1 C.2.1 hdg hi a4 hn hl (fun ls a4 => kk H locs ls a1 a2 a3 a4)
theorem m_astore (C : mC p s m args meth c D cy A cc nL own Ts ret0) {i : Nat} {x : Nat} (hdg : decode cc pc = .ok (.astore i, 2)) (hn : i < nL) (hl : (i, Value.ref x) :: lv.filter (fun q => !(q.1 == i) && !(q.1 + 1 == i && q.2.category == 2)) = lv') (kk : mW p l e R s m args below meth c D A nL kc ks Q w (pc + 2) lv' rest) : mW p l e R s m args below meth c D A nL kc ks Q w pc lv (.ref x :: rest) := fun H locs ls a1 a2 a3 a4 => lv_astore C.1 C.2.1 hdg a4 hn hl (fun ls a4 => kk H locs ls a1 a2 a3 a4)
theorem m_iinc (C : mC p s m args meth c D cy A cc nL own Ts ret0) {i k : Nat} {n : Int} {x v : Int32} (hdg : decode cc pc = .ok (.iinc i n, 3)) (hk : lv[k]? = some (i, .int x)) (hv : x + Int32.ofInt n = v) (hn : i < nL) (hl : (i, Value.int v) :: lv.filter (fun q => !(q.1 == i) && !(q.1 + 1 == i && q.2.category == 2)) = lv') (kk : mW p l e R s m args below meth c D A nL kc ks Q w (pc + 3) lv' rest) : mW p l e R s m args below meth c D A nL kc ks Q w pc lv rest := fun H locs ls a1 a2 a3 a4 => lv_iinc C.1 C.2.1 hdg a4 hk hv hn hl (fun ls a4 => kk H locs ls a1 a2 a3 a4)
theorem m_iadd (C : mC p s m args meth c D cy A cc nL own Ts ret0) {x y : Int32} (hdg : decode cc pc = .ok (.iadd, 1)) (k : mW p l e R s m args below meth c D A nL kc ks Q w (pc + 1) lv (.int (x + y) :: rest)) : mW p l e R s m args below meth c D A nL kc ks Q w pc lv (.int y :: .int x :: rest) := fun H locs ls a1 a2 a3 a4 => lv_iadd C.1 C.2.1 hdg (k H locs ls a1 a2 a3 a4)
theorem m_isub (C : mC p s m args meth c D cy A cc nL own Ts ret0) {x y : Int32} (hdg : decode cc pc = .ok (.isub, 1)) (k : mW p l e R s m args below meth c D A nL kc ks Q w (pc + 1) lv (.int (x - y) :: rest)) : mW p l e R s m args below meth c D A nL kc ks Q w pc lv (.int y :: .int x :: rest) := fun H locs ls a1 a2 a3 a4 => lv_isub C.1 C.2.1 hdg (k H locs ls a1 a2 a3 a4)
theorem m_imul (C : mC p s m args meth c D cy A cc nL own Ts ret0) {x y : Int32} (hdg : decode cc pc = .ok (.imul, 1)) (k : mW p l e R s m args below meth c D A nL kc ks Q w (pc + 1) lv (.int (x * y) :: rest)) : mW p l e R s m args below meth c D A nL kc ks Q w pc lv (.int y :: .int x :: rest) := fun H locs ls a1 a2 a3 a4 => lv_imul C.1 C.2.1 hdg (k H locs ls a1 a2 a3 a4)
theorem m_iand (C : mC p s m args meth c D cy A cc nL own Ts ret0) {x y : Int32} (hdg : decode cc pc = .ok (.iand, 1)) (k : mW p l e R s m args below meth c D A nL kc ks Q w (pc + 1) lv (.int (x &&& y) :: rest)) : mW p l e R s m args below meth c D A nL kc ks Q w pc lv (.int y :: .int x :: rest) := fun H locs ls a1 a2 a3 a4 => lv_iand C.1 C.2.1 hdg (k H locs ls a1 a2 a3 a4)
theorem m_ior (C : mC p s m args meth c D cy A cc nL own Ts ret0) {x y : Int32} (hdg : decode cc pc = .ok (.ior, 1)) (k : mW p l e R s m args below meth c D A nL kc ks Q w (pc + 1) lv (.int (x ||| y) :: rest)) : mW p l e R s m args below meth c D A nL kc ks Q w pc lv (.int y :: .int x :: rest) := fun H locs ls a1 a2 a3 a4 => lv_ior C.1 C.2.1 hdg (k H locs ls a1 a2 a3 a4)
theorem m_ixor (C : mC p s m args meth c D cy A cc nL own Ts ret0) {x y : Int32} (hdg : decode cc pc = .ok (.ixor, 1)) (k : mW p l e R s m args below meth c D A nL kc ks Q w (pc + 1) lv (.int (x ^^^ y) :: rest)) : mW p l e R s m args below meth c D A nL kc ks Q w pc lv (.int y :: .int x :: rest) := fun H locs ls a1 a2 a3 a4 => lv_ixor C.1 C.2.1 hdg (k H locs ls a1 a2 a3 a4)
theorem m_ishl (C : mC p s m args meth c D cy A cc nL own Ts ret0) {x y : Int32} (hdg : decode cc pc = .ok (.ishl, 1)) (k : mW p l e R s m args below meth c D A nL kc ks Q w (pc + 1) lv (.int (x <<< (y &&& 31)) :: rest)) : mW p l e R s m args below meth c D A nL kc ks Q w pc lv (.int y :: .int x :: rest) := fun H locs ls a1 a2 a3 a4 => lv_ishl C.1 C.2.1 hdg (k H locs ls a1 a2 a3 a4)
theorem m_ishr (C : mC p s m args meth c D cy A cc nL own Ts ret0) {x y : Int32} (hdg : decode cc pc = .ok (.ishr, 1)) (k : mW p l e R s m args below meth c D A nL kc ks Q w (pc + 1) lv (.int (x >>> (y &&& 31)) :: rest)) : mW p l e R s m args below meth c D A nL kc ks Q w pc lv (.int y :: .int x :: rest) := fun H locs ls a1 a2 a3 a4 => lv_ishr C.1 C.2.1 hdg (k H locs ls a1 a2 a3 a4)
theorem m_iushr (C : mC p s m args meth c D cy A cc nL own Ts ret0) {x y v : Int32} (hdg : decode cc pc = .ok (.iushr, 1)) (hv : (x.toUInt32 >>> (y.toUInt32 &&& Int32.toUInt32 31)).toInt32 = v) (k : mW p l e R s m args below meth c D A nL kc ks Q w (pc + 1) lv (.int v :: rest)) : mW p l e R s m args below meth c D A nL kc ks Q w pc lv (.int y :: .int x :: rest) := fun H locs ls a1 a2 a3 a4 => lv_iushr C.1 C.2.1 hdg hv (k H locs ls a1 a2 a3 a4)
theorem m_i2l (C : mC p s m args meth c D cy A cc nL own Ts ret0) {x : Int32} {v : Int64} (hdg : decode cc pc = .ok (.i2l, 1)) (hv : x.toInt64 = v) (k : mW p l e R s m args below meth c D A nL kc ks Q w (pc + 1) lv (.long v :: rest)) : mW p l e R s m args below meth c D A nL kc ks Q w pc lv (.int x :: rest) := fun H locs ls a1 a2 a3 a4 => lv_i2l C.1 C.2.1 hdg hv (k H locs ls a1 a2 a3 a4)
theorem m_i2b (C : mC p s m args meth c D cy A cc nL own Ts ret0) {x : Int32} {v : Int32} (hdg : decode cc pc = .ok (.i2b, 1)) (hv : x.toInt8.toInt32 = v) (k : mW p l e R s m args below meth c D A nL kc ks Q w (pc + 1) lv (.int v :: rest)) : mW p l e R s m args below meth c D A nL kc ks Q w pc lv (.int x :: rest) := fun H locs ls a1 a2 a3 a4 => lv_i2b C.1 C.2.1 hdg hv (k H locs ls a1 a2 a3 a4)
theorem m_dup (C : mC p s m args meth c D cy A cc nL own Ts ret0) {va : Value} (hdg : decode cc pc = .ok (.dup, 1)) (hva : va.category = 1) (k : mW p l e R s m args below meth c D A nL kc ks Q w (pc + 1) lv (va :: va :: rest)) : mW p l e R s m args below meth c D A nL kc ks Q w pc lv (va :: rest) := fun H locs ls a1 a2 a3 a4 => lv_dup C.1 C.2.1 hdg hva (k H locs ls a1 a2 a3 a4)
theorem m_pop (C : mC p s m args meth c D cy A cc nL own Ts ret0) {va : Value} (hdg : decode cc pc = .ok (.pop, 1)) (hva : va.category = 1) (k : mW p l e R s m args below meth c D A nL kc ks Q w (pc + 1) lv (rest)) : mW p l e R s m args below meth c D A nL kc ks Q w pc lv (va :: rest) := fun H locs ls a1 a2 a3 a4 => lv_pop C.1 C.2.1 hdg hva (k H locs ls a1 a2 a3 a4)
theorem m_dup2_11 (C : mC p s m args meth c D cy A cc nL own Ts ret0) {va vb : Value} (hdg : decode cc pc = .ok (.dup2, 1)) (hva : va.category = 1) (hvb : vb.category = 1) (k : mW p l e R s m args below meth c D A nL kc ks Q w (pc + 1) lv (va :: vb :: va :: vb :: rest)) : mW p l e R s m args below meth c D A nL kc ks Q w pc lv (va :: vb :: rest) := fun H locs ls a1 a2 a3 a4 => lv_dup2_11 C.1 C.2.1 hdg hva hvb (k H locs ls a1 a2 a3 a4)
theorem m_if_eq (C : mC p s m args meth c D cy A cc nL own Ts ret0) {x : Int32} {off : Int} {tgt : Nat} (hdg : decode cc pc = .ok (.ifCond .eq off, 3)) (ht : (pc : Int) + off = (tgt : Int)) (kt : x = 0 → mW p l e R s m args below meth c D A nL kc ks Q w tgt lv rest) (kf : ¬ x = 0 → mW p l e R s m args below meth c D A nL kc ks Q w (pc + 3) lv rest) : mW p l e R s m args below meth c D A nL kc ks Q w pc lv (.int x :: rest) := fun H locs ls a1 a2 a3 a4 => lv_if_eq C.1 C.2.1 hdg ht (fun hc => kt hc H locs ls a1 a2 a3 a4) (fun hc => kf hc H locs ls a1 a2 a3 a4)
theorem m_if_ne (C : mC p s m args meth c D cy A cc nL own Ts ret0) {x : Int32} {off : Int} {tgt : Nat} (hdg : decode cc pc = .ok (.ifCond .ne off, 3)) (ht : (pc : Int) + off = (tgt : Int)) (kt : ¬ x = 0 → mW p l e R s m args below meth c D A nL kc ks Q w tgt lv rest) (kf : x = 0 → mW p l e R s m args below meth c D A nL kc ks Q w (pc + 3) lv rest) : mW p l e R s m args below meth c D A nL kc ks Q w pc lv (.int x :: rest) := fun H locs ls a1 a2 a3 a4 => lv_if_ne C.1 C.2.1 hdg ht (fun hc => kt hc H locs ls a1 a2 a3 a4) (fun hc => kf hc H locs ls a1 a2 a3 a4)
theorem m_if_lt (C : mC p s m args meth c D cy A cc nL own Ts ret0) {x : Int32} {off : Int} {tgt : Nat} (hdg : decode cc pc = .ok (.ifCond .lt off, 3)) (ht : (pc : Int) + off = (tgt : Int)) (kt : x < 0 → mW p l e R s m args below meth c D A nL kc ks Q w tgt lv rest) (kf : ¬ x < 0 → mW p l e R s m args below meth c D A nL kc ks Q w (pc + 3) lv rest) : mW p l e R s m args below meth c D A nL kc ks Q w pc lv (.int x :: rest) := fun H locs ls a1 a2 a3 a4 => lv_if_lt C.1 C.2.1 hdg ht (fun hc => kt hc H locs ls a1 a2 a3 a4) (fun hc => kf hc H locs ls a1 a2 a3 a4)
theorem m_if_ge (C : mC p s m args meth c D cy A cc nL own Ts ret0) {x : Int32} {off : Int} {tgt : Nat} (hdg : decode cc pc = .ok (.ifCond .ge off, 3)) (ht : (pc : Int) + off = (tgt : Int)) (kt : 0 ≤ x → mW p l e R s m args below meth c D A nL kc ks Q w tgt lv rest) (kf : ¬ 0 ≤ x → mW p l e R s m args below meth c D A nL kc ks Q w (pc + 3) lv rest) : mW p l e R s m args below meth c D A nL kc ks Q w pc lv (.int x :: rest) := fun H locs ls a1 a2 a3 a4 => lv_if_ge C.1 C.2.1 hdg ht (fun hc => kt hc H locs ls a1 a2 a3 a4) (fun hc => kf hc H locs ls a1 a2 a3 a4)
theorem m_if_gt (C : mC p s m args meth c D cy A cc nL own Ts ret0) {x : Int32} {off : Int} {tgt : Nat} (hdg : decode cc pc = .ok (.ifCond .gt off, 3)) (ht : (pc : Int) + off = (tgt : Int)) (kt : 0 < x → mW p l e R s m args below meth c D A nL kc ks Q w tgt lv rest) (kf : ¬ 0 < x → mW p l e R s m args below meth c D A nL kc ks Q w (pc + 3) lv rest) : mW p l e R s m args below meth c D A nL kc ks Q w pc lv (.int x :: rest) := fun H locs ls a1 a2 a3 a4 => lv_if_gt C.1 C.2.1 hdg ht (fun hc => kt hc H locs ls a1 a2 a3 a4) (fun hc => kf hc H locs ls a1 a2 a3 a4)
theorem m_if_le (C : mC p s m args meth c D cy A cc nL own Ts ret0) {x : Int32} {off : Int} {tgt : Nat} (hdg : decode cc pc = .ok (.ifCond .le off, 3)) (ht : (pc : Int) + off = (tgt : Int)) (kt : x ≤ 0 → mW p l e R s m args below meth c D A nL kc ks Q w tgt lv rest) (kf : ¬ x ≤ 0 → mW p l e R s m args below meth c D A nL kc ks Q w (pc + 3) lv rest) : mW p l e R s m args below meth c D A nL kc ks Q w pc lv (.int x :: rest) := fun H locs ls a1 a2 a3 a4 => lv_if_le C.1 C.2.1 hdg ht (fun hc => kt hc H locs ls a1 a2 a3 a4) (fun hc => kf hc H locs ls a1 a2 a3 a4)
theorem m_icmp_eq (C : mC p s m args meth c D cy A cc nL own Ts ret0) {x y : Int32} {off : Int} {tgt : Nat} (hdg : decode cc pc = .ok (.if_icmp .eq off, 3)) (ht : (pc : Int) + off = (tgt : Int)) (kt : x = y → mW p l e R s m args below meth c D A nL kc ks Q w tgt lv rest) (kf : ¬ x = y → mW p l e R s m args below meth c D A nL kc ks Q w (pc + 3) lv rest) : mW p l e R s m args below meth c D A nL kc ks Q w pc lv (.int y :: .int x :: rest) := fun H locs ls a1 a2 a3 a4 => lv_icmp_eq C.1 C.2.1 hdg ht (fun hc => kt hc H locs ls a1 a2 a3 a4) (fun hc => kf hc H locs ls a1 a2 a3 a4)
theorem m_icmp_ne (C : mC p s m args meth c D cy A cc nL own Ts ret0) {x y : Int32} {off : Int} {tgt : Nat} (hdg : decode cc pc = .ok (.if_icmp .ne off, 3)) (ht : (pc : Int) + off = (tgt : Int)) (kt : ¬ x = y → mW p l e R s m args below meth c D A nL kc ks Q w tgt lv rest) (kf : x = y → mW p l e R s m args below meth c D A nL kc ks Q w (pc + 3) lv rest) : mW p l e R s m args below meth c D A nL kc ks Q w pc lv (.int y :: .int x :: rest) := fun H locs ls a1 a2 a3 a4 => lv_icmp_ne C.1 C.2.1 hdg ht (fun hc => kt hc H locs ls a1 a2 a3 a4) (fun hc => kf hc H locs ls a1 a2 a3 a4)
theorem m_icmp_lt (C : mC p s m args meth c D cy A cc nL own Ts ret0) {x y : Int32} {off : Int} {tgt : Nat} (hdg : decode cc pc = .ok (.if_icmp .lt off, 3)) (ht : (pc : Int) + off = (tgt : Int)) (kt : x < y → mW p l e R s m args below meth c D A nL kc ks Q w tgt lv rest) (kf : ¬ x < y → mW p l e R s m args below meth c D A nL kc ks Q w (pc + 3) lv rest) : mW p l e R s m args below meth c D A nL kc ks Q w pc lv (.int y :: .int x :: rest) := fun H locs ls a1 a2 a3 a4 => lv_icmp_lt C.1 C.2.1 hdg ht (fun hc => kt hc H locs ls a1 a2 a3 a4) (fun hc => kf hc H locs ls a1 a2 a3 a4)
theorem m_icmp_ge (C : mC p s m args meth c D cy A cc nL own Ts ret0) {x y : Int32} {off : Int} {tgt : Nat} (hdg : decode cc pc = .ok (.if_icmp .ge off, 3)) (ht : (pc : Int) + off = (tgt : Int)) (kt : y ≤ x → mW p l e R s m args below meth c D A nL kc ks Q w tgt lv rest) (kf : ¬ y ≤ x → mW p l e R s m args below meth c D A nL kc ks Q w (pc + 3) lv rest) : mW p l e R s m args below meth c D A nL kc ks Q w pc lv (.int y :: .int x :: rest) := fun H locs ls a1 a2 a3 a4 => lv_icmp_ge C.1 C.2.1 hdg ht (fun hc => kt hc H locs ls a1 a2 a3 a4) (fun hc => kf hc H locs ls a1 a2 a3 a4)
theorem m_icmp_gt (C : mC p s m args meth c D cy A cc nL own Ts ret0) {x y : Int32} {off : Int} {tgt : Nat} (hdg : decode cc pc = .ok (.if_icmp .gt off, 3)) (ht : (pc : Int) + off = (tgt : Int)) (kt : y < x → mW p l e R s m args below meth c D A nL kc ks Q w tgt lv rest) (kf : ¬ y < x → mW p l e R s m args below meth c D A nL kc ks Q w (pc + 3) lv rest) : mW p l e R s m args below meth c D A nL kc ks Q w pc lv (.int y :: .int x :: rest) := fun H locs ls a1 a2 a3 a4 => lv_icmp_gt C.1 C.2.1 hdg ht (fun hc => kt hc H locs ls a1 a2 a3 a4) (fun hc => kf hc H locs ls a1 a2 a3 a4)
theorem m_icmp_le (C : mC p s m args meth c D cy A cc nL own Ts ret0) {x y : Int32} {off : Int} {tgt : Nat} (hdg : decode cc pc = .ok (.if_icmp .le off, 3)) (ht : (pc : Int) + off = (tgt : Int)) (kt : x ≤ y → mW p l e R s m args below meth c D A nL kc ks Q w tgt lv rest) (kf : ¬ x ≤ y → mW p l e R s m args below meth c D A nL kc ks Q w (pc + 3) lv rest) : mW p l e R s m args below meth c D A nL kc ks Q w pc lv (.int y :: .int x :: rest) := fun H locs ls a1 a2 a3 a4 => lv_icmp_le C.1 C.2.1 hdg ht (fun hc => kt hc H locs ls a1 a2 a3 a4) (fun hc => kf hc H locs ls a1 a2 a3 a4)
theorem m_goto (C : mC p s m args meth c D cy A cc nL own Ts ret0) {off : Int} {tgt : Nat} (hdg : decode cc pc = .ok (.goto off, 3)) (ht : (pc : Int) + off = (tgt : Int)) (k : mW p l e R s m args below meth c D A nL kc ks Q w tgt lv rest) : mW p l e R s m args below meth c D A nL kc ks Q w pc lv rest := fun H locs ls a1 a2 a3 a4 => lv_goto C.1 C.2.1 hdg ht (k H locs ls a1 a2 a3 a4)
theorem m_ldc (C : mC p s m args meth c D cy A cc nL own Ts ret0) {index : Nat} {v : Int32} (hconst : (Jvm.Cond.constant own index v).before args s = true) (hdg : decode cc pc = .ok (.ldc index, 2)) (k : mW p l e R s m args below meth c D A nL kc ks Q w (pc + 2) lv (.int v :: rest)) : mW p l e R s m args below meth c D A nL kc ks Q w pc lv rest := fun H locs ls a1 a2 a3 a4 => lv_ldc C.1 C.2.1 C.2.2.2.1 hconst hdg (k H locs ls a1 a2 a3 a4)
theorem m_tableIn (C : mC p s m args meth c D cy A cc nL own Ts ret0) {dflt lo hi : Int} {offs : Array Int} {len : Nat} {x : Int32} {off : Int} {tgt : Nat} (hdg : decode cc pc = .ok (.tableswitch dflt lo hi offs, len)) (h1 : ¬ x.toInt < lo) (h2 : ¬ hi < x.toInt) (ho : offs[(x.toInt - lo).toNat]? = some off) (ht : (pc : Int) + off = (tgt : Int)) (k : mW p l e R s m args below meth c D A nL kc ks Q w tgt lv rest) : mW p l e R s m args below meth c D A nL kc ks Q w pc lv (.int x :: rest) := fun H locs ls a1 a2 a3 a4 => lv_tableIn C.1 C.2.1 hdg h1 h2 ho ht (k H locs ls a1 a2 a3 a4)
theorem m_tableOut (C : mC p s m args meth c D cy A cc nL own Ts ret0) {dflt lo hi : Int} {offs : Array Int} {len : Nat} {x : Int32} {tgt : Nat} (hdg : decode cc pc = .ok (.tableswitch dflt lo hi offs, len)) (h : x.toInt < lo ∨ hi < x.toInt) (ht : (pc : Int) + dflt = (tgt : Int)) (k : mW p l e R s m args below meth c D A nL kc ks Q w tgt lv rest) : mW p l e R s m args below meth c D A nL kc ks Q w pc lv (.int x :: rest) := fun H locs ls a1 a2 a3 a4 => lv_tableOut C.1 C.2.1 hdg h ht (k H locs ls a1 a2 a3 a4)
theorem m_topi {x : Int32} (k : ∀ y : Int32, y = x → mW p l e R s m args below meth c D A nL kc ks Q w pc lv (.int y :: rest)) : mW p l e R s m args below meth c D A nL kc ks Q w pc lv (.int x :: rest) := k x rfl
theorem m_iald (C : mC p s m args meth c D cy A cc nL own Ts ret0) (q0 : Nat) {a n : Nat} {f : Nat → Int32} (ha : w[q0]? = some (a, .inl (cy 0, n, .inl f))) {i : Int32} (hin : vp_in i n) (hdg : decode cc pc = .ok (.iaload, 1)) (kk : mW p l e R s m args below meth c D A nL kc ks Q w (pc + 1) lv (.int (f i.toNatClampNeg) :: rest)) : mW p l e R s m args below meth c D A nL kc ks Q w pc lv (.int i :: .ref a :: rest) := fun H locs ls a1 a2 a3 a4 => va_iald C.1 C.2.1 C.2.2.2.2.2.1 a1 q0 0 ha rfl hin hdg (kk H locs ls a1 a2 a3 a4)
theorem m_bald (C : mC p s m args meth c D cy A cc nL own Ts ret0) (q0 : Nat) {a n : Nat} {f : Nat → Int32} (ha : w[q0]? = some (a, .inl (cy 1, n, .inl f))) {i : Int32} (hin : vp_in i n) (hdg : decode cc pc = .ok (.baload, 1)) (kk : mW p l e R s m args below meth c D A nL kc ks Q w (pc + 1) lv (.int (f i.toNatClampNeg) :: rest)) : mW p l e R s m args below meth c D A nL kc ks Q w pc lv (.int i :: .ref a :: rest) := fun H locs ls a1 a2 a3 a4 => va_bald C.1 C.2.1 C.2.2.2.2.2.1 a1 q0 1 ha rfl hin hdg (kk H locs ls a1 a2 a3 a4)
theorem m_zald (C : mC p s m args meth c D cy A cc nL own Ts ret0) (q0 : Nat) {a n : Nat} {f : Nat → Int32} (ha : w[q0]? = some (a, .inl (cy 2, n, .inl f))) {i : Int32} (hin : vp_in i n) (hdg : decode cc pc = .ok (.baload, 1)) (kk : mW p l e R s m args below meth c D A nL kc ks Q w (pc + 1) lv (.int (f i.toNatClampNeg) :: rest)) : mW p l e R s m args below meth c D A nL kc ks Q w pc lv (.int i :: .ref a :: rest) := fun H locs ls a1 a2 a3 a4 => va_zald C.1 C.2.1 C.2.2.2.2.2.1 a1 q0 2 ha rfl hin hdg (kk H locs ls a1 a2 a3 a4)
theorem m_lald (C : mC p s m args meth c D cy A cc nL own Ts ret0) (q0 : Nat) {a n : Nat} {f : Nat → Int64} (ha : w[q0]? = some (a, .inl (cy 4, n, .inr (.inl f)))) {i : Int32} (hin : vp_in i n) (hdg : decode cc pc = .ok (.laload, 1)) (kk : mW p l e R s m args below meth c D A nL kc ks Q w (pc + 1) lv (.long (f i.toNatClampNeg) :: rest)) : mW p l e R s m args below meth c D A nL kc ks Q w pc lv (.int i :: .ref a :: rest) := fun H locs ls a1 a2 a3 a4 => va_lald C.1 C.2.1 C.2.2.2.2.2.1 a1 q0 4 ha rfl hin hdg (kk H locs ls a1 a2 a3 a4)
theorem m_aald (C : mC p s m args meth c D cy A cc nL own Ts ret0) (q0 : Nat) {a n : Nat} {f : Nat → Option Nat} (ha : w[q0]? = some (a, .inl (cy 3, n, .inr (.inr (.inr (.inr f)))))) {i : Int32} (hin : vp_in i n) (hdg : decode cc pc = .ok (.aaload, 1)) (kk : mW p l e R s m args below meth c D A nL kc ks Q w (pc + 1) lv (va_rf (f i.toNatClampNeg) :: rest)) : mW p l e R s m args below meth c D A nL kc ks Q w pc lv (.int i :: .ref a :: rest) := fun H locs ls a1 a2 a3 a4 => va_aldq C.1 C.2.1 C.2.2.2.2.2.1 a1 q0 3 ha rfl hin hdg (kk H locs ls a1 a2 a3 a4)
theorem m_iast (C : mC p s m args meth c D cy A cc nL own Ts ret0) (q0 : Nat) {a n : Nat} {f : Nat → Int32} (ha : w[q0]? = some (a, .inl (cy 0, n, .inl f))) {i : Int32} {x : Int32} (hin : vp_in i n) (hdg : decode cc pc = .ok (.iastore, 1)) (hw : w.set q0 (a, .inl (cy 0, n, .inl (upd f i.toNatClampNeg x))) = w') (kk : mW p l e R s m args below meth c D A nL kc ks Q w' (pc + 1) lv rest) : mW p l e R s m args below meth c D A nL kc ks Q w pc lv (.int x :: .int i :: .ref a :: rest) := fun H locs ls a1 a2 a3 a4 => va_iast C.1 C.2.1 C.2.2.2.2.2.1 a1 a2 a3 q0 0 ha rfl hin hdg (fun H1 locs1 b1 b2 b3 => kk H1 locs1 ls (hw ▸ b1) (hw ▸ b2) b3 a4)
theorem m_bast (C : mC p s m args meth c D cy A cc nL own Ts ret0) (q0 : Nat) {a n : Nat} {f : Nat → Int32} (ha : w[q0]? = some (a, .inl (cy 1, n, .inl f))) {i : Int32} {x : Int32} (hin : vp_in i n) (hdg : decode cc pc = .ok (.bastore, 1)) (hw : w.set q0 (a, .inl (cy 1, n, .inl (upd f i.toNatClampNeg (vp_nar .byte x)))) = w') (kk : mW p l e R s m args below meth c D A nL kc ks Q w' (pc + 1) lv rest) : mW p l e R s m args below meth c D A nL kc ks Q w pc lv (.int x :: .int i :: .ref a :: rest) := fun H locs ls a1 a2 a3 a4 => va_bast C.1 C.2.1 C.2.2.2.2.2.1 a1 a2 a3 q0 1 ha rfl hin hdg (fun H1 locs1 b1 b2 b3 => kk H1 locs1 ls (hw ▸ b1) (hw ▸ b2) b3 a4)
theorem m_zast (C : mC p s m args meth c D cy A cc nL own Ts ret0) (q0 : Nat) {a n : Nat} {f : Nat → Int32} (ha : w[q0]? = some (a, .inl (cy 2, n, .inl f))) {i : Int32} {x : Int32} (hin : vp_in i n) (hdg : decode cc pc = .ok (.bastore, 1)) (hw : w.set q0 (a, .inl (cy 2, n, .inl (upd f i.toNatClampNeg (vp_nar .boolean x)))) = w') (kk : mW p l e R s m args below meth c D A nL kc ks Q w' (pc + 1) lv rest) : mW p l e R s m args below meth c D A nL kc ks Q w pc lv (.int x :: .int i :: .ref a :: rest) := fun H locs ls a1 a2 a3 a4 => va_zast C.1 C.2.1 C.2.2.2.2.2.1 a1 a2 a3 q0 2 ha rfl hin hdg (fun H1 locs1 b1 b2 b3 => kk H1 locs1 ls (hw ▸ b1) (hw ▸ b2) b3 a4)
theorem m_last (C : mC p s m args meth c D cy A cc nL own Ts ret0) (q0 : Nat) {a n : Nat} {f : Nat → Int64} (ha : w[q0]? = some (a, .inl (cy 4, n, .inr (.inl f)))) {i : Int32} {x : Int64} (hin : vp_in i n) (hdg : decode cc pc = .ok (.lastore, 1)) (hw : w.set q0 (a, .inl (cy 4, n, .inr (.inl (vp_updL f i.toNatClampNeg x)))) = w') (kk : mW p l e R s m args below meth c D A nL kc ks Q w' (pc + 1) lv rest) : mW p l e R s m args below meth c D A nL kc ks Q w pc lv (.long x :: .int i :: .ref a :: rest) := fun H locs ls a1 a2 a3 a4 => va_last C.1 C.2.1 C.2.2.2.2.2.1 a1 a2 a3 q0 4 ha rfl hin hdg (fun H1 locs1 b1 b2 b3 => kk H1 locs1 ls (hw ▸ b1) (hw ▸ b2) b3 a4)
theorem m_alen (C : mC p s m args meth c D cy A cc nL own Ts ret0) (q0 t0 : Nat) {a : Nat} {cA : ClassId} {x : vp_A} (ha : w[q0]? = some (a, .inl (cA, x))) {ty : FieldType} (ht : (mTy cy)[t0]? = some (cA, ty)) {v : Int32} (hv : Int32.ofNat x.1 = v) (hdg : decode cc pc = .ok (.arraylength, 1)) (kk : mW p l e R s m args below meth c D A nL kc ks Q w (pc + 1) lv (.int v :: rest)) : mW p l e R s m args below meth c D A nL kc ks Q w pc lv (.ref a :: rest) := fun H locs ls a1 a2 a3 a4 => va_alen C.1 C.2.1 C.2.2.2.2.2.1 a1 q0 t0 ha ht hv hdg (kk H locs ls a1 a2 a3 a4)
theorem m_get (C : mC p s m args meth c D cy A cc nL own Ts ret0) {Cn : String} {T : u_T} {N ci index : Nat} (hin : ∀ w ∈ u_ws Cn T N, w ∈ Ts) (q0 : Nat) {a : Nat} {fs : List Value} (he : w[q0]? = some (a, .inr (ci, fs))) (hc : vwCl[ci]? = some (Cn, T, N)) (k : Nat) (hk : k < N) (hlink : Cond.fieldLink own index (T k).1 (T k).2.1 (T k).2.2.1 ∈ Ts) {v : Value} (hv : fs[k]? = some v) (hdg : decode cc pc = .ok (.getfield index, 3)) (kk : mW p l e R s m args below meth c D A nL kc ks Q w (pc + 3) lv (v :: rest)) : mW p l e R s m args below meth c D A nL kc ks Q w pc lv (.ref a :: rest) := fun H locs ls a1 a2 a3 a4 => va_get C.1 C.2.1 C.2.2.2.2.1 hin C.2.2.2.1 C.2.2.2.2.2.1 a1 q0 he hc k hk (C.2.2.2.2.1 _ hlink) (fun _ h => h) hv hdg (kk H locs ls a1 a2 a3 a4)
theorem m_getN (C : mC p s m args meth c D cy A cc nL own Ts ret0) {host : String} {Cn : String} {T : u_T} {N ci index : Nat} (hin : ∀ w ∈ u_ws Cn T N, w ∈ Ts) (q0 : Nat) {a : Nat} {fs : List Value} (he : w[q0]? = some (a, .inr (ci, fs))) (hc : vwCl[ci]? = some (Cn, T, N)) (k : Nat) (hk : k < N) (hlink : Cond.fieldLinkNest own index (T k).1 (T k).2.1 (T k).2.2.1 host ∈ nW) {v : Value} (hv : fs[k]? = some v) (hdg : decode cc pc = .ok (.getfield index, 3)) (kk : mW p l e R s m args below meth c D A nL kc ks Q w (pc + 3) lv (v :: rest)) : mW p l e R s m args below meth c D A nL kc ks Q w pc lv (.ref a :: rest) := fun H locs ls a1 a2 a3 a4 => va_getN C.1 C.2.1 C.2.2.2.2.1 hin C.2.2.2.1 C.2.2.2.2.2.1 a1 q0 he hc k hk (va_any rfl (C.2.2.2.2.2.2.2.2.2 _ hlink)) (fun _ h => h) hv hdg (kk H locs ls a1 a2 a3 a4)
theorem m_put (C : mC p s m args meth c D cy A cc nL own Ts ret0) {Cn : String} {T : u_T} {N ci index : Nat} (hin : ∀ w ∈ u_ws Cn T N, w ∈ Ts) (ty0 : Nat → FieldType) (hty : ∀ k, k < N → parseFieldDescriptor (T k).2.2.1 = some (ty0 k)) (hnm : ∀ a, a < N → ∀ b, b < N → a ≠ b → (T a).2.1 ≠ (T b).2.1) (q0 : Nat) {a : Nat} {fs : List Value} (he : w[q0]? = some (a, .inr (ci, fs))) (hc : vwCl[ci]? = some (Cn, T, N)) (k : Nat) (hk : k < N) (hlink : Cond.fieldLink own index (T k).1 (T k).2.1 (T k).2.2.1 ∈ Ts) (hfin : (T k).2.2.2 = false) {v : Value} (hn : narrow (ty0 k) v = v) (hfit : fits (ty0 k) v = true) (hl : k < fs.length) (hdg : decode cc pc = .ok (.putfield index, 3)) (hw : w.set q0 (a, .inr (ci, fs.set k v)) = w') (kk : mW p l e R s m args below meth c D A nL kc ks Q w' (pc + 3) lv rest) : mW p l e R s m args below meth c D A nL kc ks Q w pc lv (v :: .ref a :: rest) := fun H locs ls a1 a2 a3 a4 => va_put C.1 C.2.1 C.2.2.2.2.1 hin ty0 hty hnm C.2.2.2.1 C.2.2.2.2.2.1 a1 a2 a3 q0 he hc k hk (C.2.2.2.2.1 _ hlink) (fun _ h => h) hfin (hty k hk) hn hfit hl hdg (fun H1 locs1 b1 b2 b3 => kk H1 locs1 ls (hw ▸ b1) (hw ▸ b2) b3 a4)
theorem m_putN (C : mC p s m args meth c D cy A cc nL own Ts ret0) {host : String} {Cn : String} {T : u_T} {N ci index : Nat} (hin : ∀ w ∈ u_ws Cn T N, w ∈ Ts) (ty0 : Nat → FieldType) (hty : ∀ k, k < N → parseFieldDescriptor (T k).2.2.1 = some (ty0 k)) (hnm : ∀ a, a < N → ∀ b, b < N → a ≠ b → (T a).2.1 ≠ (T b).2.1) (q0 : Nat) {a : Nat} {fs : List Value} (he : w[q0]? = some (a, .inr (ci, fs))) (hc : vwCl[ci]? = some (Cn, T, N)) (k : Nat) (hk : k < N) (hlink : Cond.fieldLinkNest own index (T k).1 (T k).2.1 (T k).2.2.1 host ∈ nW) (hfin : (T k).2.2.2 = false) {v : Value} (hn : narrow (ty0 k) v = v) (hfit : fits (ty0 k) v = true) (hl : k < fs.length) (hdg : decode cc pc = .ok (.putfield index, 3)) (hw : w.set q0 (a, .inr (ci, fs.set k v)) = w') (kk : mW p l e R s m args below meth c D A nL kc ks Q w' (pc + 3) lv rest) : mW p l e R s m args below meth c D A nL kc ks Q w pc lv (v :: .ref a :: rest) := fun H locs ls a1 a2 a3 a4 => va_putN C.1 C.2.1 C.2.2.2.2.1 hin ty0 hty hnm C.2.2.2.1 C.2.2.2.2.2.1 a1 a2 a3 q0 he hc k hk (va_any rfl (C.2.2.2.2.2.2.2.2.2 _ hlink)) (fun _ h => h) hfin (hty k hk) hn hfit hl hdg (fun H1 locs1 b1 b2 b3 => kk H1 locs1 ls (hw ▸ b1) (hw ▸ b2) b3 a4)
theorem m_putF (C : mC p s m args meth c D cy A cc nL own Ts ret0) {Cn : String} {T : u_T} {N ci index : Nat} (hin : ∀ w ∈ u_ws Cn T N, w ∈ Ts) (ty0 : Nat → FieldType) (hty : ∀ k, k < N → parseFieldDescriptor (T k).2.2.1 = some (ty0 k)) (hnm : ∀ a, a < N → ∀ b, b < N → a ≠ b → (T a).2.1 ≠ (T b).2.1) (q0 : Nat) {a : Nat} {fs : List Value} (he : w[q0]? = some (a, .inr (ci, fs))) (hc : vwCl[ci]? = some (Cn, T, N)) (k : Nat) (hk : k < N) (hlink : Cond.fieldLink own index (T k).1 (T k).2.1 (T k).2.2.1 ∈ Ts) (hfin : (T k).2.2.2 = true) (hin2 : meth.name = "<init>") (hdecl : (T k).1 = own) {v : Value} (hn : narrow (ty0 k) v = v) (hfit : fits (ty0 k) v = true) (hl : k < fs.length) (hdg : decode cc pc = .ok (.putfield index, 3)) (hw : w.set q0 (a, .inr (ci, fs.set k v)) = w') (kk : mW p l e R s m args below meth c D A nL kc ks Q w' (pc + 3) lv rest) : mW p l e R s m args below meth c D A nL kc ks Q w pc lv (v :: .ref a :: rest) := fun H locs ls a1 a2 a3 a4 => va_putF C.1 C.2.1 C.2.2.2.2.1 hin ty0 hty hnm C.2.2.2.1 C.2.2.2.2.2.1 a1 a2 a3 q0 he hc k hk (C.2.2.2.2.1 _ hlink) (fun _ h => h) hfin hin2 hdecl (hty k hk) hn hfit hl hdg (fun H1 locs1 b1 b2 b3 => kk H1 locs1 ls (hw ▸ b1) (hw ▸ b2) b3 a4)
theorem m_newa (C : mC p s m args meth c D cy A cc nL own Ts ret0) {atype : ArrayType} (t0 : Nat) {ty : FieldType} (hty : newarray.typeOf atype = ty) (ht : (mTy cy)[t0]? = some (cy t0, ty)) (hpr : ∀ (U : State) (cA : ClassId), va_RA U cA ty → U.vm.findClass ("[" ++ ty.toString) = some cA) (harr : Cond.arrayClass (newarray.typeOf atype) ∈ Ts) {n : Int32} {N' : Nat} {a0 : vp_A} (ha : ∀ cA : ClassId, vp_cell cA a0 = arrV cA N' (fun _ => defaultValue ty)) (hn : ¬ n < 0) (hN : n.toNatClampNeg = N') (hbytes : N' * componentBytes ty ≤ 536870912) (hcells : kc + 1 ≤ R.cells) (hslots : ks + N' ≤ R.slots) (hdg : decode cc pc = .ok (.newarray atype, 2))
    (kk : ∀ q : Nat, mW p l e R s m args below meth c D A nL (kc + 1) (ks + N') Q (w ++ [(q, .inl (cy t0, a0))]) (pc + 2) lv (.ref q :: rest)) : mW p l e R s m args below meth c D A nL kc ks Q w pc lv (.int n :: rest) := by
  intro H locs ls a1 a2 a3 a4
  refine va_newa C.1 C.2.1 (C.2.2.2.2.1 _ harr) hty C.2.2.2.2.2.1 a1 a2 a3 C.2.2.2.2.2.2.1 ha hn hN hbytes hcells hslots hdg (fun q cA H1 hK b1 b2 b3 => ?_)
  have e1 : s.vm.findClass ("[" ++ ty.toString) = some cA := hpr s cA (hK.2 5 (cA, ty) rfl).2
  have e2 : s.vm.findClass ("[" ++ ty.toString) = some (cy t0) := hpr s (cy t0) (C.2.2.2.2.2.1.2 t0 (cy t0, ty) ht).2
  have e3 : cA = cy t0 := Option.some.inj (e1.symm.trans e2)
  subst e3
  exact kk q H1 locs ls b1 b2 b3 a4
theorem m_copy (C : mC p s m args meth c D cy A cc nL own Ts ret0) {index : Nat} (hlink : Cond.methodLink own index arraycopyName ∈ Ts) (hnat : Cond.native arraycopyName ∈ Ts) (hstat : Cond.static arraycopyName ∈ Ts) (hini : Cond.initialized "java/lang/System" ∈ Ts) (q0 q1 t0 t1 : Nat) {a a0 : Nat} {c0 c1 : ClassId} {n0 n1 : Nat} {f g : Nat → Int32} {ty : FieldType} (ha0 : w[q0]? = some (a0, .inl (c0, n0, .inl f))) (ha1 : w[q1]? = some (a, .inl (c1, n1, .inl g))) (ht0 : (mTy cy)[t0]? = some (c0, ty)) (ht1 : (mTy cy)[t1]? = some (c1, ty)) (hprim : refKind ty = false) {sp dp n : Int32} (h1 : ¬ sp < 0) (h2 : ¬ dp < 0) (h3 : ¬ n < 0) (h4 : sp.toNatClampNeg + n.toNatClampNeg ≤ n0) (h5 : dp.toNatClampNeg + n.toNatClampNeg ≤ n1) (hfit : ∀ i, i < n.toNatClampNeg → fits ty (.int (f (sp.toNatClampNeg + i))) = true) (hframes : 1 ≤ R.frames) (hlocals : (rest.map fun v => v.category).sum + (nativeFrameWords "java/lang/System" "arraycopy" 5 + 11) ≤ R.locals) (hdg : decode cc pc = .ok (.invokestatic index, 3)) (hw : w.set q1 (a, .inl (c1, n1, .inl (va_cpy f g sp.toNatClampNeg dp.toNatClampNeg n.toNatClampNeg))) = w') (kk : mW p l e R s m args below meth c D A nL kc ks Q w' (pc + 3) lv rest) : mW p l e R s m args below meth c D A nL kc ks Q w pc lv (.int n :: .int dp :: .ref a :: .int sp :: .ref a0 :: rest) := fun H locs ls a1 a2 a3 a4 => va_copyi C.1 C.2.1 (by rw [C.2.2.1, a4.1]) C.2.2.2.1 (C.2.2.2.2.1 _ hlink) (C.2.2.2.2.1 _ hnat) (C.2.2.2.2.1 _ hstat) (C.2.2.2.2.1 _ hini) C.2.2.2.2.2.1 a1 a2 a3 q0 q1 t0 t1 ha0 ha1 ht0 ht1 hprim h1 h2 h3 h4 h5 hfit hframes hlocals hdg (fun H1 locs1 b1 b2 b3 => kk H1 locs1 ls (hw ▸ b1) (hw ▸ b2) b3 a4)
theorem m_mmax (C : mC p s m args meth c D cy A cc nL own Ts ret0) {index : Nat} (hlink : Cond.methodLink own index Lib.Math.max.name ∈ Ts) (hstat : Cond.static Lib.Math.max.name ∈ Ts) (hini : Cond.initialized "java/lang/Math" ∈ Ts) (hcode : Cond.code Lib.Math.max.name Lib.Math.max.code 2 (some .int) ∈ Ts) (hframes : 1 ≤ R.frames) (hlocals : (rest.map fun v => v.category).sum + 13 ≤ R.locals) (hc : kc ≤ R.cells) (hs : ks ≤ R.slots) {x y : Int32} (hdg : decode cc pc = .ok (.invokestatic index, 3)) (kk : mW p l e R s m args below meth c D A nL kc ks Q w (pc + 3) lv (.int (if x < y then y else x) :: rest)) : mW p l e R s m args below meth c D A nL kc ks Q w pc lv (.int y :: .int x :: rest) := fun H locs ls a1 a2 a3 a4 => va_mmax C.1 C.2.1 (by rw [C.2.2.1, a4.1]) C.2.2.2.1 (C.2.2.2.2.1 _ hlink) (C.2.2.2.2.1 _ hstat) (C.2.2.2.2.1 _ hini) (C.2.2.2.2.1 _ hcode) hframes hlocals hc hs hdg (kk H locs ls a1 a2 a3 a4)
theorem m_mmin (C : mC p s m args meth c D cy A cc nL own Ts ret0) {index : Nat} (hlink : Cond.methodLink own index Lib.Math.min.name ∈ Ts) (hstat : Cond.static Lib.Math.min.name ∈ Ts) (hini : Cond.initialized "java/lang/Math" ∈ Ts) (hcode : Cond.code Lib.Math.min.name Lib.Math.min.code 2 (some .int) ∈ Ts) (hframes : 1 ≤ R.frames) (hlocals : (rest.map fun v => v.category).sum + 13 ≤ R.locals) (hc : kc ≤ R.cells) (hs : ks ≤ R.slots) {x y : Int32} (hdg : decode cc pc = .ok (.invokestatic index, 3)) (kk : mW p l e R s m args below meth c D A nL kc ks Q w (pc + 3) lv (.int (if y < x then y else x) :: rest)) : mW p l e R s m args below meth c D A nL kc ks Q w pc lv (.int y :: .int x :: rest) := fun H locs ls a1 a2 a3 a4 => va_mmin C.1 C.2.1 (by rw [C.2.2.1, a4.1]) C.2.2.2.1 (C.2.2.2.2.1 _ hlink) (C.2.2.2.2.1 _ hstat) (C.2.2.2.2.1 _ hini) (C.2.2.2.2.1 _ hcode) hframes hlocals hc hs hdg (kk H locs ls a1 a2 a3 a4)
/-- the end that a body owes -/
def mQ (D : va_G) (Φ : Option Value → va_W → Prop) (A : Nat → Prop) (below : List Frame) (args : Array Value) (s : State) (mc ms : Nat) : State → Prop :=
  MQ below (fun _ st oc t => (∃ (r : Option Value) (w' : va_W), oc = .returned r ∧ Φ r w' ∧ va_P D vwCl w' t.heap ∧ va_D A w') ∧ va_F A st t) args s mc ms A
/-- a contract: y called with av in the world w answers r and leaves w', Φ r w'; at most mc cells of ms slots are new -/
def mM (l : Launch) (D : va_G) (cy : Nat → ClassId) (y : MethodName) (ws : List Cond) (d mc ms : Nat) (av : List Value) (w : va_W) (Φ : Option Value → va_W → Prop) : Prop :=
  ∀ sz : Nat, Met l y ws { frames := d, cells := mc, slots := ms, locals := 40 * d } (va_Pc av (fun U => U.heap.size = sz ∧ va_P D vwCl w U.heap ∧ va_K D vwCl (mTy cy) U ∧ va_D (fun _ => True) w ∧ nK U)) (fun _ st oc t => (∃ (r : Option Value) (w' : va_W), oc = .returned r ∧ Φ r w' ∧ va_P D vwCl w' t.heap ∧ va_D (va_A w sz) w') ∧ va_F (va_A w sz) st t) mc ms (va_A w sz)
theorem mM.of {y : MethodName} {ws ws' : List Cond} {d mc ms : Nat} {av : List Value} {Φ : Option Value → va_W → Prop} (hy : plainName y.cls = true) (hw : ws = Cond.code y cc nL ret0 :: ws') (hlen : (lg_sl av).length ≤ nL)
    (body : ∀ (p : Program) (e : Env) (s : State) (m : MethodId) (args : Array Value) (below : List Frame) (meth : Method) (c : Code) (A : Nat → Prop), mC p s m args meth c D cy A cc nL y.cls ws ret0 → (y.name = "<init>" → meth.name = "<init>") → mW p l e { frames := d, cells := mc, slots := ms, locals := 40 * d } s m args below meth c D A nL 0 0 (mQ D Φ A below args s mc ms) w 0 (lv_args 0 av) []) : mM l D cy y ws d mc ms av w Φ := by
  intro sz
  refine Met.ofW (cc := cc) (maxL := nL) (ret := ret0) hy hw ?_
  intro p e s m args below meth c s₁ B hml hv
  obtain ⟨rfl, hsz, hP, hK, hD0, hNk⟩ := hv
  subst hsz
  have hl := lv_entry av (n := nL) hlen
  rw [lg_entry_eq]
  have hC : mC p s m av.toArray meth c D cy (va_A w s.heap.size) cc nL y.cls ws ret0 := ⟨B.exec, B.bytes, hml, findClass_of_methodNamed B.named, atoms_spec (ws := ws) B.pre, hK, fun q h => Or.inr h, B.returns, B.notSynchronized, hNk⟩
  exact body p e s m av.toArray below meth c (va_A w s.heap.size) hC (fun h => (name_of_methodNamed B.named B.method).1.trans h) s.heap [] _ hP hD0.self va_S.rf hl
theorem m_iret (C : mC p s m args meth c D cy A cc nL own Ts (some .int)) {Φ : Option Value → va_W → Prop} {mc ms : Nat} {v : Int32} (hdg : decode cc pc = .ok (.ireturn, 1)) (h1 : kc ≤ mc) (h2 : ks ≤ ms) (hq : Φ (some (.int v)) w) : mW p l e R s m args below meth c D A nL kc ks (mQ D Φ A below args s mc ms) w pc lv [.int v] := by
  intro H locs ls a1 a2 a3 a4
  refine W.widen h1 h2 ?_
  exact W.iret C.1 C.2.1 C.2.2.2.2.2.2.2.1 (fun t ht hW => ⟨⟨_, w, rfl, hq, by rw [ht]; exact a1, a2⟩, a3.F ht⟩) a3.2.2 hdg C.2.2.2.2.2.2.2.2.1
theorem m_zret (C : mC p s m args meth c D cy A cc nL own Ts (some .boolean)) {Φ : Option Value → va_W → Prop} {mc ms : Nat} {v : Int32} (hdg : decode cc pc = .ok (.ireturn, 1)) (h1 : kc ≤ mc) (h2 : ks ≤ ms) (hn : narrow .boolean (.int v) = .int v) (hq : Φ (some (.int v)) w) : mW p l e R s m args below meth c D A nL kc ks (mQ D Φ A below args s mc ms) w pc lv [.int v] := by
  intro H locs ls a1 a2 a3 a4
  refine W.widen h1 h2 ?_
  exact W.zret C.1 C.2.1 C.2.2.2.2.2.2.2.1 hn (fun t ht hW => ⟨⟨_, w, rfl, hq, by rw [ht]; exact a1, a2⟩, a3.F ht⟩) a3.2.2 hdg C.2.2.2.2.2.2.2.2.1
theorem m_vret (C : mC p s m args meth c D cy A cc nL own Ts none) {Φ : Option Value → va_W → Prop} {mc ms : Nat} (hdg : decode cc pc = .ok (.return_, 1)) (h1 : kc ≤ mc) (h2 : ks ≤ ms) (hq : Φ none w) : mW p l e R s m args below meth c D A nL kc ks (mQ D Φ A below args s mc ms) w pc lv [] := by
  intro H locs ls a1 a2 a3 a4
  refine W.widen h1 h2 ?_
  exact W.vret C.1 C.2.1 C.2.2.2.2.2.2.2.1 (fun t ht hW => ⟨⟨_, w, rfl, hq, by rw [ht]; exact a1, a2⟩, a3.F ht⟩) a3.2.2 hdg C.2.2.2.2.2.2.2.2.1
theorem m_aret {rt : FieldType} (C : mC p s m args meth c D cy A cc nL own Ts (some rt)) (hrt : (∃ n, rt = .object n) ∨ ∃ t, rt = .array t) {Φ : Option Value → va_W → Prop} {mc ms a : Nat} (hdg : decode cc pc = .ok (.areturn, 1)) (h1 : kc ≤ mc) (h2 : ks ≤ ms) (hq : Φ (some (.ref a)) w) : mW p l e R s m args below meth c D A nL kc ks (mQ D Φ A below args s mc ms) w pc lv [.ref a] := by
  intro H locs ls a1 a2 a3 a4
  refine W.widen h1 h2 ?_
  exact W.aret C.1 C.2.1 C.2.2.2.2.2.2.2.1 hrt (Or.inr ⟨_, rfl⟩) (fun t ht hW => ⟨⟨_, w, rfl, hq, by rw [ht]; exact a1, a2⟩, a3.F ht⟩) a3.2.2 hdg C.2.2.2.2.2.2.2.2.1
theorem m_blind {av : List Value} {sz : Nat} : FrameBlind (va_Pc av (fun U => U.heap.size = sz ∧ va_P D vwCl w U.heap ∧ va_K D vwCl (mTy cy) U ∧ va_D (fun _ => True) w ∧ nK U)) := by
  intro a U g mk q
  obtain ⟨q0, q1, qP, qK, qD, qN⟩ := q
  exact ⟨q0, q1, qP, va_K.moved (u := U) (U := U.calling g mk a) (Vm.Alike.refl U.vm) qK, qD, nK.warm (s := U) (U := U.calling g mk a) (State.WarmedH.refl U) qN⟩
/-- behind a call -/
theorem m_behind {H : Heap} {locs : List Loc} {ls : Array Slot} {mc ms : Nat} {st0 : List Value} {Φ : Option Value → va_W → Prop} (C : mC p s m args meth c D cy A cc nL own Ts ret0) (a1 : va_P D vwCl w H) (a2 : va_D A w) (a3 : va_S A s.heap H locs) (a4 : lv_has ls nL lv)
    (hr : va_Run p l e R s m args below meth c H locs kc ks mc ms (F0 m pc ls st0) rest (fun (st : State) (oc : Outcome) (t : State) => (∃ (r : Option Value) (w' : va_W), oc = .returned r ∧ Φ r w' ∧ va_P D vwCl w' t.heap ∧ va_D (va_A w H.size) w') ∧ va_F (va_A w H.size) st t) (va_A w H.size))
    (kk : ∀ (r : Option Value) (w' : va_W), Φ r w' → mW p l e R s m args below meth c D A nL (kc + mc) (ks + ms) Q w' (pc + 3) lv (r.toList ++ rest)) : W p l e R s m args below meth c H locs kc ks Q (F0 m pc ls st0) := by
  intro T hT X
  have hfr : ∀ q, va_A w H.size q → A q := fun q hq => by
    rcases hq with ⟨k, e9, hk⟩ | hq
    · exact a2.2 k _ hk
    · exact C.2.2.2.2.2.2.1 q (Nat.le_trans a3.1 hq)
  obtain ⟨v, st₀, t, T', L, h0, X', hL, e1, e2, ⟨⟨r, w', hv, hp, hb, hd⟩, hz, hk⟩, st⟩ := hr T hT X
  cases hv
  rw [h0] at hz hk
  obtain ⟨t2, b1, b2⟩ := kk v w' hp T'.heap (locs ++ L) ls (by rw [e1]; exact hb) ⟨hd.1, fun k q h9 => hfr _ (hd.2 k q h9)⟩
    ⟨Nat.le_trans a3.1 (by rw [e1]; exact hz), fun q h1 h2 => by rw [e1, hk q (Nat.lt_of_lt_of_le h1 a3.1) (fun z => h2 (hfr q z))]; exact a3.2.1 q h1 h2, fun q hq => by
      rcases List.mem_append.mp hq with h | h
      · exact a3.2.2 q h
      · exact hfr _ (hL q h)⟩ a4 T' rfl X'
  exact ⟨t2, st t2 b1, b2⟩
theorem m_callV (C : mC p s m args meth c D cy A cc nL own Ts ret0) {y : MethodName} {ws' : List Cond} {d' mc' ms' n index maxL : Nat} {bytes : ByteArray} {ret : Option FieldType} {b : Nat} {As : List Value} {Φ : Option Value → va_W → Prop} (hM : mM l D cy y ws' d' mc' ms' (.ref b :: As) w Φ) {Cn : String} {T : u_T} {N ci : Nat} {fs : List Value} (cw : CallW R s args own Cn index y bytes maxL ret ws' { frames := d', cells := mc', slots := ms', locals := 40 * d' } mc' ms' n) (q0 : Nat) (he : w[q0]? = some (b, .inr (ci, fs))) (hc : vwCl[ci]? = some (Cn, T, N)) (hn : As.length = n) {st0 : List Value} (hst : st0 = As.reverse ++ .ref b :: rest) (hrm : (rest.map fun v => v.category).sum ≤ 8) (hdg : decode cc pc = .ok (.invokevirtual index, 3)) (hf : kc + mc' ≤ R.cells ∧ ks + ms' ≤ R.slots)
    (kk : ∀ (r : Option Value) (w' : va_W), Φ r w' → mW p l e R s m args below meth c D A nL (kc + mc') (ks + ms') Q w' (pc + 3) lv (r.toList ++ rest)) : mW p l e R s m args below meth c D A nL kc ks Q w pc lv st0 := by
  intro H locs ls a1 a2 a3 a4
  have hK := C.2.2.2.2.2.1
  exact m_behind C a1 a2 a3 a4 (va_runV (g := F0 m pc ls st0) ⟨C.1, C.2.1, C.2.2.1, C.2.2.2.1, C.2.2.2.2.1⟩ (hM H.size) cw ⟨m_blind, va_recv hK a1 hc he, fun U hU hW => ⟨rfl, by rw [hU], by rw [hU]; exact a1, va_K.moved hW.alike hK, a2.weaken (fun _ _ _ _ => trivial), nK.warm hW C.2.2.2.2.2.2.2.2.2⟩⟩ rfl hn a4.1 hst (lv_room (m := m) (pc := pc) (ls := ls) (rest := st0) hrm) hdg hf) kk
theorem m_callS (C : mC p s m args meth c D cy A cc nL own Ts ret0) {y : MethodName} {ws' : List Cond} {d' mc' ms' n index maxL : Nat} {bytes : ByteArray} {ret : Option FieldType} {As : List Value} {Φ : Option Value → va_W → Prop} (hM : mM l D cy y ws' d' mc' ms' As w Φ) (cw : CallB R s args own index y bytes maxL ret ws' { frames := d', cells := mc', slots := ms', locals := 40 * d' } mc' ms' n ∧ (Cond.static y).before args s = true) (hn : As.length = n) {st0 : List Value} (hst : st0 = As.reverse ++ rest) (hrm : (rest.map fun v => v.category).sum ≤ 8) (hdg : decode cc pc = .ok (.invokestatic index, 3)) (hf : kc + mc' ≤ R.cells ∧ ks + ms' ≤ R.slots)
    (kk : ∀ (r : Option Value) (w' : va_W), Φ r w' → mW p l e R s m args below meth c D A nL (kc + mc') (ks + ms') Q w' (pc + 3) lv (r.toList ++ rest)) : mW p l e R s m args below meth c D A nL kc ks Q w pc lv st0 := by
  intro H locs ls a1 a2 a3 a4
  have hK := C.2.2.2.2.2.1
  exact m_behind C a1 a2 a3 a4 (va_runS (g := F0 m pc ls st0) ⟨C.1, C.2.1, C.2.2.1, C.2.2.2.1, C.2.2.2.2.1⟩ (hM H.size) cw ⟨m_blind, fun U hU hW => ⟨rfl, by rw [hU], by rw [hU]; exact a1, va_K.moved hW.alike hK, a2.weaken (fun _ _ _ _ => trivial), nK.warm hW C.2.2.2.2.2.2.2.2.2⟩⟩ rfl hn a4.1 hst (lv_room (m := m) (pc := pc) (ls := ls) (rest := st0) hrm) hdg hf) kk
theorem m_join {P : Nat} {wM : va_W} {lvM : List (Nat × Value)} {stM st : List Value} (hJ : mW p l e R s m args below meth c D A nL kc ks Q wM P lvM stM) (k : mW p l e R s m args below meth c D A nL kc ks Q wM P lvM stM → mW p l e R s m args below meth c D A nL kc ks Q w pc lv st) : mW p l e R s m args below meth c D A nL kc ks Q w pc lv st := k hJ
theorem m_ind {σ : Type} (I : Nat → σ → Prop) (wf : σ → va_W) (P : Nat) (lf : σ → List (Nat × Value)) (hs : ∀ (n : Nat) (z : σ), I n z → (∀ (n' : Nat) (z' : σ), n' < n → I n' z' → mW p l e R s m args below meth c D A nL kc ks Q (wf z') P (lf z') []) → mW p l e R s m args below meth c D A nL kc ks Q (wf z) P (lf z) []) (n : Nat) (z : σ) (h : I n z) : mW p l e R s m args below meth c D A nL kc ks Q (wf z) P (lf z) [] := by
  induction n using Nat.strongRecOn generalizing z with
  | ind n ih => exact hs n z h (fun n' z' hn h' => ih n' hn z' h')
end ML
end
section
/-! THE WORLD of class, reference and law by places: 0 CutYard, 1 Cutter, 2 Stock, 3 files, 4 hand, 5 work, 6 taken, 7 seen, 8 uses, 9 lengths, 10 hashes, 11 next, 12 heads, 13 room, 14+i Content i, 30+i its numbers, 46 CutYardModel, 47 hand, 48 row, 49 ends, 50 numbers, 51 fresh, 52 sizes, 53 bytes, 54 counts, 55 parts, 56 uses, 57 lengths, 58 contents, 59 out.
v k j: what place k holds at j (an object's int field by its slot, an array's element); ln k: an array's length; ad k: the address. -/
abbrev gV : Type := Nat → Nat → Int32
def gIs (k : Nat) : Bool := (6 ≤ k && k ≤ 12) || (30 ≤ k && k ≤ 45) || (47 ≤ k && k ≤ 50) || (52 ≤ k && k ≤ 58)
def gBs (k : Nat) : Bool := k == 4 || k == 5 || k == 13
def gE (cy : Nat → ClassId) (ad ln : Nat → Nat) (v : gV) (ou : Nat → Int64) (k : Nat) : va_E :=
  if gIs k = true then .inl (cy 0, ln k, .inl (v k))
  else if gBs k = true then .inl (cy 1, ln k, .inl (v k))
  else if 14 ≤ k ∧ k < 30 then .inr (0, [.ref (ad (k + 16)), .int (v k 1), .int (v k 2)])
  else if k = 0 then .inr (3, [.ref (ad 1), .ref (ad 2), .ref (ad 3), .ref (ad 4), .int (v 0 4), .ref (ad 5), .ref (ad 6), .ref (ad 7)])
  else if k = 1 then .inr (1, [.int (v 1 0), .int (v 1 1), .int (v 1 2)])
  else if k = 2 then .inr (2, [.ref (ad 8), .ref (ad 9), .ref (ad 10), .ref (ad 11), .ref (ad 12), .ref (ad 13), .int (v 2 6), .int (v 2 7), .int (v 2 8)])
  else if k = 3 then .inl (cy 3, 16, .inr (.inr (.inr (.inr (fun i => some (ad (14 + i % 16)))))))
  else if k = 46 then .inr (4, [.int (v 46 0), .int (v 46 1), .int (v 46 2), .int (v 46 3), .int (v 46 4), .ref (ad 47), .int (v 46 6), .ref (ad 48), .int (v 46 8), .ref (ad 49), .ref (ad 50), .ref (ad 51), .ref (ad 52), .ref (ad 53), .ref (ad 54), .ref (ad 55), .ref (ad 56), .ref (ad 57), .ref (ad 58)])
  else if k = 51 then .inl (cy 2, ln 51, .inl (v 51))
  else .inl (cy 4, 1, .inr (.inl ou))
def gW (cy : Nat → ClassId) (ad ln : Nat → Nat) (v : gV) (ou : Nat → Int64) : va_W := (List.range 60).map (fun k => (ad k, gE cy ad ln v ou k))
section GW
variable {cy : Nat → ClassId} {ad ln : Nat → Nat} {v : gV} {ou : Nat → Int64}
theorem gW_at (k : Nat) (hk : k < 60) : (gW cy ad ln v ou)[k]? = some (ad k, gE cy ad ln v ou k) := by
  unfold gW
  rw [List.getElem?_map, List.getElem?_range hk]
  rfl
theorem gE_v {v' : gV} {k : Nat} (h : v' k = v k) : gE cy ad ln v' ou k = gE cy ad ln v ou k := by
  unfold gE
  by_cases h0 : k = 0
  · subst h0; simp [h]
  by_cases h1 : k = 1
  · subst h1; simp [h]
  by_cases h2 : k = 2
  · subst h2; simp [h]
  by_cases h46 : k = 46
  · subst h46; simp [h]
  by_cases h51 : k = 51
  · subst h51; simp [h]
  simp [h, h0, h1, h2, h46, h51]
theorem gW_set {k : Nat} (hk : k < 60) {f : Nat → Int32} {e : va_E} (he : gE cy ad ln (va_up v k f) ou k = e) : (gW cy ad ln v ou).set k (ad k, e) = gW cy ad ln (va_up v k f) ou := by
  apply List.ext_getElem?
  intro j
  by_cases hj : j = k
  · subst hj
    rw [List.getElem?_set_self (by simp [gW]; exact hk), gW_at _ hk, he]
  · rw [List.getElem?_set_ne (fun q => hj q.symm)]
    by_cases hj60 : j < 60
    · rw [gW_at _ hj60, gW_at _ hj60, gE_v (va_up_ne v f hj)]
    · rw [List.getElem?_eq_none (by simp [gW]; omega), List.getElem?_eq_none (by simp [gW]; omega)]
theorem gE_I {k : Nat} (hk : gIs k = true) : gE cy ad ln v ou k = .inl (cy 0, ln k, .inl (v k)) := by unfold gE; rw [if_pos hk]
theorem gE_B {k : Nat} (hk : gBs k = true) : gE cy ad ln v ou k = .inl (cy 1, ln k, .inl (v k)) := by
  unfold gE
  have : gIs k = false := by
    simp [gBs] at hk
    rcases hk with (rfl | rfl) | rfl <;> rfl
  rw [this, if_neg (by decide), if_pos hk]
theorem gIs_lt {k : Nat} (hk : gIs k = true) : k < 60 := by simp [gIs] at hk; omega
theorem gBs_lt {k : Nat} (hk : gBs k = true) : k < 60 := by simp [gBs] at hk; omega
theorem gp_I {k : Nat} (hk : gIs k = true) : (gW cy ad ln v ou)[k]? = some (ad k, .inl (cy 0, ln k, .inl (v k))) := by rw [gW_at k (gIs_lt hk), gE_I hk]
theorem gp_B {k : Nat} (hk : gBs k = true) : (gW cy ad ln v ou)[k]? = some (ad k, .inl (cy 1, ln k, .inl (v k))) := by rw [gW_at k (gBs_lt hk), gE_B hk]
theorem gs_I {k : Nat} (hk : gIs k = true) {f : Nat → Int32} : (gW cy ad ln v ou).set k (ad k, .inl (cy 0, ln k, .inl f)) = gW cy ad ln (va_up v k f) ou := gW_set (gIs_lt hk) (by rw [gE_I hk, va_up_self])
theorem gs_B {k : Nat} (hk : gBs k = true) {f : Nat → Int32} : (gW cy ad ln v ou).set k (ad k, .inl (cy 1, ln k, .inl f)) = gW cy ad ln (va_up v k f) ou := gW_set (gBs_lt hk) (by rw [gE_B hk, va_up_self])
theorem gp_Z : (gW cy ad ln v ou)[51]? = some (ad 51, .inl (cy 2, ln 51, .inl (v 51))) := rfl
theorem gs_Z {f : Nat → Int32} : (gW cy ad ln v ou).set 51 (ad 51, .inl (cy 2, ln 51, .inl f)) = gW cy ad ln (va_up v 51 f) ou := gW_set (by decide) rfl
theorem gp_0 : (gW cy ad ln v ou)[0]? = some (ad 0, .inr (3, [.ref (ad 1), .ref (ad 2), .ref (ad 3), .ref (ad 4), .int (v 0 4), .ref (ad 5), .ref (ad 6), .ref (ad 7)])) := rfl
theorem gp_1 : (gW cy ad ln v ou)[1]? = some (ad 1, .inr (1, [.int (v 1 0), .int (v 1 1), .int (v 1 2)])) := rfl
theorem gp_2 : (gW cy ad ln v ou)[2]? = some (ad 2, .inr (2, [.ref (ad 8), .ref (ad 9), .ref (ad 10), .ref (ad 11), .ref (ad 12), .ref (ad 13), .int (v 2 6), .int (v 2 7), .int (v 2 8)])) := rfl
theorem gp_3 : (gW cy ad ln v ou)[3]? = some (ad 3, .inl (cy 3, 16, .inr (.inr (.inr (.inr (fun i => some (ad (14 + i % 16)))))))) := rfl
theorem gp_46 : (gW cy ad ln v ou)[46]? = some (ad 46, .inr (4, [.int (v 46 0), .int (v 46 1), .int (v 46 2), .int (v 46 3), .int (v 46 4), .ref (ad 47), .int (v 46 6), .ref (ad 48), .int (v 46 8), .ref (ad 49), .ref (ad 50), .ref (ad 51), .ref (ad 52), .ref (ad 53), .ref (ad 54), .ref (ad 55), .ref (ad 56), .ref (ad 57), .ref (ad 58)])) := rfl
theorem gp_C {k : Nat} (h1 : 14 ≤ k) (h2 : k < 30) : (gW cy ad ln v ou)[k]? = some (ad k, .inr (0, [.ref (ad (k + 16)), .int (v k 1), .int (v k 2)])) := by
  rw [gW_at k (by omega)]
  unfold gE
  have e1 : gIs k = false := by simp [gIs]; omega
  have e2 : gBs k = false := by simp [gBs]; omega
  rw [e1, e2]
  simp [h1, h2]
theorem gs_C1 {k : Nat} (h1 : 14 ≤ k) (h2 : k < 30) {x : Int32} : (gW cy ad ln v ou).set k (ad k, .inr (0, [.ref (ad (k + 16)), .int x, .int (v k 2)])) = gW cy ad ln (va_up v k (upd (v k) 1 x)) ou := gW_set (by omega) (by
  have h := gp_C (cy := cy) (ad := ad) (ln := ln) (ou := ou) (v := va_up v k (upd (v k) 1 x)) h1 h2
  rw [gW_at k (by omega)] at h
  have h := (Prod.mk.inj (Option.some.inj h)).2
  rw [h, va_up_self]
  rfl)
theorem gs_C2 {k : Nat} (h1 : 14 ≤ k) (h2 : k < 30) {x : Int32} : (gW cy ad ln v ou).set k (ad k, .inr (0, [.ref (ad (k + 16)), .int (v k 1), .int x])) = gW cy ad ln (va_up v k (upd (v k) 2 x)) ou := gW_set (by omega) (by
  have h := gp_C (cy := cy) (ad := ad) (ln := ln) (ou := ou) (v := va_up v k (upd (v k) 2 x)) h1 h2
  rw [gW_at k (by omega)] at h
  have h := (Prod.mk.inj (Option.some.inj h)).2
  rw [h, va_up_self]
  rfl)
theorem gs_o {k : Nat} (hk : k < 60) {f : Nat → Int32} {e : va_E} (he : gE cy ad ln (va_up v k f) ou k = e) {w : va_W} (hw : gW cy ad ln (va_up v k f) ou = w) : (gW cy ad ln v ou).set k (ad k, e) = w := (gW_set hk he).trans hw
end GW
def ius (a b : Int32) : Int32 := (a.toUInt32 >>> (b.toUInt32 &&& Int32.toUInt32 31)).toInt32
end
section
theorem mM.mono {l : Launch} {D : va_G} {cy : Nat → ClassId} {y : MethodName} {ws : List Cond} {d mc ms : Nat} {av : List Value} {w : va_W} {Φ Φ' : Option Value → va_W → Prop} (h : mM l D cy y ws d mc ms av w Φ) (hq : ∀ (r : Option Value) (w' : va_W), Φ r w' → Φ' r w') : mM l D cy y ws d mc ms av w Φ' := by
  intro sz p e ha hc hk s m args below hf happ hP hK
  obtain ⟨n, o, h1, h2, h3, ⟨⟨⟨r, w', e1, e2, e3, e4⟩, hF⟩, h5⟩⟩ := h sz p e ha hc hk s m args below hf happ hP hK
  exact ⟨n, o, h1, h2, h3, ⟨⟨⟨r, w', e1, hq _ _ e2, e3, e4⟩, hF⟩, h5⟩⟩
section PU
variable {l : Launch} {D : va_G} {cy : Nat → ClassId} {y : MethodName} {ws : List Cond} {d mc ms : Nat} {av : List Value} {w : va_W} {ad ln : Nat → Nat} {ou : Nat → Int64}
theorem pu_i {x0 : Int32} {v0 : gV} (h : mM l D cy y ws d mc ms av w (fun r w1 => ∃ (x1 : Int32) (v1 : gV), r = some (.int x1) ∧ (x1 = x0 ∧ v1 = v0) ∧ w1 = gW cy ad ln v1 ou)) : mM l D cy y ws d mc ms av w (fun r w1 => r = some (.int x0) ∧ w1 = gW cy ad ln v0 ou) :=
  h.mono (fun r w1 q => by obtain ⟨x1, v1, e1, ⟨e2, e3⟩, e4⟩ := q; subst e2; subst e3; exact ⟨e1, e4⟩)
theorem pu_v {v0 : gV} (h : mM l D cy y ws d mc ms av w (fun r w1 => ∃ v1 : gV, r = none ∧ v1 = v0 ∧ w1 = gW cy ad ln v1 ou)) : mM l D cy y ws d mc ms av w (fun r w1 => r = none ∧ w1 = gW cy ad ln v0 ou) :=
  h.mono (fun r w1 q => by obtain ⟨v1, e1, e3, e4⟩ := q; subst e3; exact ⟨e1, e4⟩)
end PU
theorem nz0 : narrow .boolean (.int 0) = .int 0 := rfl
theorem nz1 : narrow .boolean (.int 1) = .int 1 := rfl
theorem nz_if {c : Prop} [Decidable c] {a b : Int32} (ha : narrow .boolean (.int a) = .int a) (hb : narrow .boolean (.int b) = .int b) : narrow .boolean (.int (if c then a else b)) = .int (if c then a else b) := by
  split
  · exact ha
  · exact hb
theorem gC_lo (i : Nat) : 14 ≤ 14 + i % 16 := Nat.le_add_right _ _
theorem gC_hi (i : Nat) : 14 + i % 16 < 30 := by
  have := Nat.mod_lt i (show 0 < 16 by decide)
  omega
theorem gIs_N {k : Nat} (h1 : 14 ≤ k) (h2 : k < 30) : gIs (k + 16) = true := by simp [gIs]; omega
/-! closed forms of the leaves -/
def pmk (b : Int32) : Int32 := ((b + 1) * (-1640531527)) ^^^ ius ((b + 1) * (-1640531527)) 15
def ptn (x k : Int32) : Int32 := (x <<< (k &&& 31)) ||| ius x (32 - k)
def pin (a b c : Int32) : Int32 := if a < b then 0 else if c < a then 0 else 1
def phs (v : gV) (n : Int32) : Int32 := if n < 0 then 0 else if 400 ≤ n then 0 else if v 8 n.toNatClampNeg ≤ 0 then 0 else 1
def ptr (a b c : Int32) : Int32 := if a = 0 then (if b = 0 then (if c = 0 then 0 else 3) else 2) else 1
def prf (a b c : Int32) : Int32 := if ptr a b c ≤ 0 then 0 else 1
def vrf (v : gV) (a b c : Int32) : gV := va_up v 46 (upd (v 46) 0 (ptr a b c))
theorem pin_nz (a b c : Int32) : narrow .boolean (.int (pin a b c)) = .int (pin a b c) := nz_if nz0 (nz_if nz0 nz1)
theorem phs_nz (v : gV) (n : Int32) : narrow .boolean (.int (phs v n)) = .int (phs v n) := nz_if nz0 (nz_if nz0 (nz_if nz0 nz1))
theorem ph_in {n : Int32} (h1 : ¬ n < 0) (h2 : ¬ 400 ≤ n) : vp_in n 400 := by
  rw [vp_in_iff]
  rw [Int32.lt_iff_toInt_lt, Int32.toInt_zero] at h1
  rw [Int32.le_iff_toInt_le] at h2
  have : (400 : Int32).toInt = 400 := rfl
  omega
def pus (v : gV) (n : Int32) : Int32 := if phs v n = 0 then 0 else v 8 n.toNatClampNeg
def plo (v : gV) (n : Int32) : Int32 := if phs v n = 0 then 0 else v 9 n.toNatClampNeg
theorem phs_in {v : gV} {n : Int32} (h : ¬ phs v n = 0) : vp_in n 400 := by
  unfold phs at h
  split at h
  · exact absurd rfl h
  · rename_i h1
    split at h
    · exact absurd rfl h
    · rename_i h2
      exact ph_in h1 h2
end
section
theorem hiX2_has_X2 : ∀ w ∈ wsX20, w ∈ wsX2_has := by decide +kernel
def wp_X2_has (ln : Nat → Nat) (v : gV) (a1 : Int32) (post : Int32 → gV → Prop) : Prop :=
  ((¬ (a1 < 0)) → (¬ (400 ≤ a1)) → vp_in a1 (ln 8)) ∧ (narrow .boolean (.int (if a1 < 0 then 0 else if 400 ≤ a1 then 0 else if (v 8 a1.toNatClampNeg) ≤ 0 then 0 else 1)) = .int (if a1 < 0 then 0 else if 400 ≤ a1 then 0 else if (v 8 a1.toNatClampNeg) ≤ 0 then 0 else 1) ∧ post (if a1 < 0 then 0 else if 400 ≤ a1 then 0 else if (v 8 a1.toNatClampNeg) ≤ 0 then 0 else 1) v)
set_option maxHeartbeats 4000000 in
set_option maxRecDepth 100000 in
theorem s_X2_has (l : Launch) (D : va_G) (cy : Nat → ClassId) (ad ln : Nat → Nat) (v : gV) (ou : Nat → Int64) (a1 : Int32) {post : Int32 → gV → Prop} (h : wp_X2_has ln v a1 post) : mM l D cy yX2_has wsX2_has 1 0 0 [.ref (ad 2), .int a1] (gW cy ad ln v ou) (fun r w1 => ∃ (x1 : Int32) (v1 : gV), r = some (.int x1) ∧ post x1 v1 ∧ w1 = gW cy ad ln v1 ou) := by
  unfold wp_X2_has at h
  refine mM.of (cc := cX2_has) (nL := 2) (ret0 := (some .boolean)) (by decide +kernel) rfl (Nat.le_of_ble_eq_true rfl) ?_
  intro p e s m args below meth c A C hini
  refine mW.sub (lv' := [(0, .ref (ad 2)), (1, .int a1)]) [0, 1] rfl ?_
  refine m_iload_n C dX2_has_0 rfl 1 rfl ?_
  obtain ⟨b3, h⟩ := h
  refine m_join (P := 25) (wM := gW cy ad ln v ou) (lvM := [(0, .ref (ad 2)), (1, .int a1)]) (stM := [.int (if a1 < 0 then 0 else if 400 ≤ a1 then 0 else if (v 8 a1.toNatClampNeg) ≤ 0 then 0 else 1)]) ?_ (fun hJ25_5 => ?_)
  · obtain ⟨hz, h⟩ := h
    exact m_zret C dX2_has_25 (Nat.le_of_ble_eq_true rfl) (Nat.le_of_ble_eq_true rfl) hz ⟨_, _, rfl, h, rfl⟩
  · refine m_if_lt (tgt := 24) C dX2_has_1 (by decide) (fun c1 => ?_) (fun c1 => ?_)
    · refine m_iconst (v := 0) C dX2_has_24 (by decide) ?_
      refine mW.sub (lv' := [(0, .ref (ad 2)), (1, .int a1)]) [0, 1] rfl ?_
      exact mW.eq rfl rfl (by simp only [if_pos c1]) rfl hJ25_5
    · refine m_iload_n C dX2_has_4 rfl 1 rfl ?_
      refine m_sipush (v := 400) C dX2_has_5 (by decide) ?_
      refine m_icmp_ge (tgt := 24) C dX2_has_8 (by decide) (fun c2 => ?_) (fun c2 => ?_)
      · refine m_iconst (v := 0) C dX2_has_24 (by decide) ?_
        refine mW.sub (lv' := [(0, .ref (ad 2)), (1, .int a1)]) [0, 1] rfl ?_
        exact mW.eq rfl rfl (by simp only [if_neg c1, if_pos c2]) rfl hJ25_5
      · refine m_aload_n C dX2_has_11 rfl 0 rfl ?_
        refine m_get (T := TX2) (N := 9) C hiX2_has_X2 2 gp_2 rfl 0 (by decide) (by decide +kernel) rfl dX2_has_12 ?_
        refine m_iload_n C dX2_has_15 rfl 1 rfl ?_
        refine m_iald C 8 (gp_I (by decide)) (b3 c1 c2) dX2_has_16 ?_
        refine m_if_le (tgt := 24) C dX2_has_17 (by decide) (fun c4 => ?_) (fun c4 => ?_)
        · refine m_iconst (v := 0) C dX2_has_24 (by decide) ?_
          refine mW.sub (lv' := [(0, .ref (ad 2)), (1, .int a1)]) [0, 1] rfl ?_
          exact mW.eq rfl rfl (by simp only [if_neg c1, if_neg c2, if_pos c4]) rfl hJ25_5
        · refine m_iconst (v := 1) C dX2_has_20 (by decide) ?_
          refine m_goto (tgt := 25) C dX2_has_21 (by decide) ?_
          refine mW.sub (lv' := [(0, .ref (ad 2)), (1, .int a1)]) [0, 1] rfl ?_
          exact mW.eq rfl rfl (by simp only [if_neg c1, if_neg c2, if_neg c4]) rfl hJ25_5
def wp_X1_mark (ln : Nat → Nat) (v : gV) (a1 : Int32) (post : Int32 → gV → Prop) : Prop :=
  ∀ x1 : Int32, x1 = (((a1 &&& 255) + 1) * (-1640531527)) → (post (x1 ^^^ (ius x1 15)) v)
set_option maxHeartbeats 4000000 in
set_option maxRecDepth 100000 in
theorem s_X1_mark (l : Launch) (D : va_G) (cy : Nat → ClassId) (ad ln : Nat → Nat) (v : gV) (ou : Nat → Int64) (a1 : Int32) {post : Int32 → gV → Prop} (h : wp_X1_mark ln v a1 post) : mM l D cy yX1_mark wsX1_mark 1 0 0 [.int a1] (gW cy ad ln v ou) (fun r w1 => ∃ (x1 : Int32) (v1 : gV), r = some (.int x1) ∧ post x1 v1 ∧ w1 = gW cy ad ln v1 ou) := by
  unfold wp_X1_mark at h
  refine mM.of (cc := cX1_mark) (nL := 2) (ret0 := (some .int)) (by decide +kernel) rfl (Nat.le_of_ble_eq_true rfl) ?_
  intro p e s m args below meth c A C hini
  refine mW.sub (lv' := [(0, .int a1)]) [0] rfl ?_
  refine m_iload_n C dX1_mark_0 rfl 0 rfl ?_
  refine m_sipush (v := 255) C dX1_mark_1 (by decide) ?_
  refine m_iand C dX1_mark_4 ?_
  refine m_iconst (v := 1) C dX1_mark_5 (by decide) ?_
  refine m_iadd C dX1_mark_6 ?_
  refine m_ldc (v := (-1640531527)) C (C.2.2.2.2.1 (.constant RX1 32 (-1640531527)) (by decide +kernel)) dX1_mark_7 ?_
  refine m_imul C dX1_mark_9 ?_
  refine m_topi (fun x1 ex1 => ?_)
  have h := h x1 ex1
  refine m_istore_n (lv' := [(1, .int x1), (0, .int a1)]) C dX1_mark_10 rfl (by decide) rfl ?_
  refine m_iload_n C dX1_mark_11 rfl 0 rfl ?_
  refine m_iload_n C dX1_mark_12 rfl 0 rfl ?_
  refine m_bipush (v := 15) C dX1_mark_13 (by decide) ?_
  refine m_iushr (v := ius x1 15) C dX1_mark_15 rfl ?_
  refine m_ixor C dX1_mark_16 ?_
  exact m_iret C dX1_mark_17 (Nat.le_of_ble_eq_true rfl) (Nat.le_of_ble_eq_true rfl) ⟨_, _, rfl, h, rfl⟩
def wp_X1_turned (ln : Nat → Nat) (v : gV) (a1 : Int32) (a2 : Int32) (post : Int32 → gV → Prop) : Prop :=
  post ((a1 <<< (a2 &&& 31)) ||| (ius a1 (32 - a2))) v
set_option maxHeartbeats 4000000 in
set_option maxRecDepth 100000 in
theorem s_X1_turned (l : Launch) (D : va_G) (cy : Nat → ClassId) (ad ln : Nat → Nat) (v : gV) (ou : Nat → Int64) (a1 : Int32) (a2 : Int32) {post : Int32 → gV → Prop} (h : wp_X1_turned ln v a1 a2 post) : mM l D cy yX1_turned wsX1_turned 1 0 0 [.int a1, .int a2] (gW cy ad ln v ou) (fun r w1 => ∃ (x1 : Int32) (v1 : gV), r = some (.int x1) ∧ post x1 v1 ∧ w1 = gW cy ad ln v1 ou) := by
  unfold wp_X1_turned at h
  refine mM.of (cc := cX1_turned) (nL := 2) (ret0 := (some .int)) (by decide +kernel) rfl (Nat.le_of_ble_eq_true rfl) ?_
  intro p e s m args below meth c A C hini
  refine mW.sub (lv' := [(0, .int a1), (1, .int a2)]) [0, 1] rfl ?_
  refine m_iload_n C dX1_turned_0 rfl 0 rfl ?_
  refine m_iload_n C dX1_turned_1 rfl 1 rfl ?_
  refine m_ishl C dX1_turned_2 ?_
  refine m_iload_n C dX1_turned_3 rfl 0 rfl ?_
  refine m_bipush (v := 32) C dX1_turned_4 (by decide) ?_
  refine m_iload_n C dX1_turned_6 rfl 1 rfl ?_
  refine m_isub C dX1_turned_7 ?_
  refine m_iushr (v := ius a1 (32 - a2)) C dX1_turned_8 rfl ?_
  refine m_ior C dX1_turned_9 ?_
  exact m_iret C dX1_turned_10 (Nat.le_of_ble_eq_true rfl) (Nat.le_of_ble_eq_true rfl) ⟨_, _, rfl, h, rfl⟩
def wp_X4_in (ln : Nat → Nat) (v : gV) (a1 : Int32) (a2 : Int32) (a3 : Int32) (post : Int32 → gV → Prop) : Prop :=
  (narrow .boolean (.int (if a1 < a2 then 0 else if a3 < a1 then 0 else 1)) = .int (if a1 < a2 then 0 else if a3 < a1 then 0 else 1) ∧ post (if a1 < a2 then 0 else if a3 < a1 then 0 else 1) v)
set_option maxHeartbeats 4000000 in
set_option maxRecDepth 100000 in
theorem s_X4_in (l : Launch) (D : va_G) (cy : Nat → ClassId) (ad ln : Nat → Nat) (v : gV) (ou : Nat → Int64) (a1 : Int32) (a2 : Int32) (a3 : Int32) {post : Int32 → gV → Prop} (h : wp_X4_in ln v a1 a2 a3 post) : mM l D cy yX4_in wsX4_in 1 0 0 [.int a1, .int a2, .int a3] (gW cy ad ln v ou) (fun r w1 => ∃ (x1 : Int32) (v1 : gV), r = some (.int x1) ∧ post x1 v1 ∧ w1 = gW cy ad ln v1 ou) := by
  unfold wp_X4_in at h
  refine mM.of (cc := cX4_in) (nL := 3) (ret0 := (some .boolean)) (by decide +kernel) rfl (Nat.le_of_ble_eq_true rfl) ?_
  intro p e s m args below meth c A C hini
  refine mW.sub (lv' := [(0, .int a1), (1, .int a2), (2, .int a3)]) [0, 1, 2] rfl ?_
  refine m_iload_n C dX4_in_0 rfl 0 rfl ?_
  refine m_iload_n C dX4_in_1 rfl 1 rfl ?_
  refine m_join (P := 15) (wM := gW cy ad ln v ou) (lvM := [(0, .int a1), (1, .int a2), (2, .int a3)]) (stM := [.int (if a1 < a2 then 0 else if a3 < a1 then 0 else 1)]) ?_ (fun hJ15_3 => ?_)
  · obtain ⟨hz, h⟩ := h
    exact m_zret C dX4_in_15 (Nat.le_of_ble_eq_true rfl) (Nat.le_of_ble_eq_true rfl) hz ⟨_, _, rfl, h, rfl⟩
  · refine m_icmp_lt (tgt := 14) C dX4_in_2 (by decide) (fun c1 => ?_) (fun c1 => ?_)
    · refine m_iconst (v := 0) C dX4_in_14 (by decide) ?_
      refine mW.sub (lv' := [(0, .int a1), (1, .int a2), (2, .int a3)]) [0, 1, 2] rfl ?_
      exact mW.eq rfl rfl (by simp only [if_pos c1]) rfl hJ15_3
    · refine m_iload_n C dX4_in_5 rfl 0 rfl ?_
      refine m_iload_n C dX4_in_6 rfl 2 rfl ?_
      refine m_icmp_gt (tgt := 14) C dX4_in_7 (by decide) (fun c2 => ?_) (fun c2 => ?_)
      · refine m_iconst (v := 0) C dX4_in_14 (by decide) ?_
        refine mW.sub (lv' := [(0, .int a1), (1, .int a2), (2, .int a3)]) [0, 1, 2] rfl ?_
        exact mW.eq rfl rfl (by simp only [if_neg c1, if_pos c2]) rfl hJ15_3
      · refine m_iconst (v := 1) C dX4_in_10 (by decide) ?_
        refine m_goto (tgt := 15) C dX4_in_11 (by decide) ?_
        refine mW.sub (lv' := [(0, .int a1), (1, .int a2), (2, .int a3)]) [0, 1, 2] rfl ?_
        exact mW.eq rfl rfl (by simp only [if_neg c1, if_neg c2]) rfl hJ15_3
theorem hiX4_refuse_X4 : ∀ w ∈ wsX40, w ∈ wsX4_refuse := by decide +kernel
def wp_X4_refuse (ln : Nat → Nat) (v : gV) (a1 : Int32) (a2 : Int32) (a3 : Int32) (post : Int32 → gV → Prop) : Prop :=
  (∀ v5 : gV, v5 = va_up v 46 (upd (v 46) 0 (if a1 = 0 then if a2 = 0 then if a3 = 0 then 0 else 3 else 2 else 1)) → ((narrow .boolean (.int (if (v5 46 0) ≤ 0 then 0 else 1)) = .int (if (v5 46 0) ≤ 0 then 0 else 1) ∧ post (if (v5 46 0) ≤ 0 then 0 else 1) v5)))
set_option maxHeartbeats 4000000 in
set_option maxRecDepth 100000 in
theorem s_X4_refuse (l : Launch) (D : va_G) (cy : Nat → ClassId) (ad ln : Nat → Nat) (v : gV) (ou : Nat → Int64) (a1 : Int32) (a2 : Int32) (a3 : Int32) {post : Int32 → gV → Prop} (h : wp_X4_refuse ln v a1 a2 a3 post) : mM l D cy yX4_refuse wsX4_refuse 1 0 0 [.ref (ad 46), .int a1, .int a2, .int a3] (gW cy ad ln v ou) (fun r w1 => ∃ (x1 : Int32) (v1 : gV), r = some (.int x1) ∧ post x1 v1 ∧ w1 = gW cy ad ln v1 ou) := by
  unfold wp_X4_refuse at h
  refine mM.of (cc := cX4_refuse) (nL := 4) (ret0 := (some .boolean)) (by decide +kernel) rfl (Nat.le_of_ble_eq_true rfl) ?_
  intro p e s m args below meth c A C hini
  refine mW.sub (lv' := [(0, .ref (ad 46)), (1, .int a1), (2, .int a2), (3, .int a3)]) [0, 1, 2, 3] rfl ?_
  refine m_aload_n C dX4_refuse_0 rfl 0 rfl ?_
  refine m_iload_n C dX4_refuse_1 rfl 1 rfl ?_
  refine m_join (P := 26) (wM := gW cy ad ln v ou) (lvM := [(0, .ref (ad 46)), (1, .int a1), (2, .int a2), (3, .int a3)]) (stM := [.int (if a1 = 0 then if a2 = 0 then if a3 = 0 then 0 else 3 else 2 else 1), .ref (ad 46)]) ?_ (fun hJ26_4 => ?_)
  · obtain ⟨v5, ev5⟩ : ∃ z : gV, z = va_up v 46 (upd (v 46) 0 (if a1 = 0 then if a2 = 0 then if a3 = 0 then 0 else 3 else 2 else 1)) := ⟨_, rfl⟩
    have h := h v5 ev5
    refine m_put (w' := gW cy ad ln v5 ou) (T := TX4) (N := 19) C hiX4_refuse_X4 tyX4 tyX4_ok nmX4 46 gp_46 rfl 0 (by decide) (by decide +kernel) rfl rfl rfl (Nat.le_of_ble_eq_true rfl) dX4_refuse_26 (by rw [ev5]; exact gW_set (k := 46) (by decide) rfl) ?_
    refine m_aload_n C dX4_refuse_29 rfl 0 rfl ?_
    refine m_get (T := TX4) (N := 19) C hiX4_refuse_X4 46 gp_46 rfl 0 (by decide) (by decide +kernel) rfl dX4_refuse_30 ?_
    refine m_join (P := 41) (wM := gW cy ad ln v5 ou) (lvM := [(0, .ref (ad 46)), (1, .int a1), (2, .int a2), (3, .int a3)]) (stM := [.int (if (v5 46 0) ≤ 0 then 0 else 1)]) ?_ (fun hJ41_7 => ?_)
    · obtain ⟨hz, h⟩ := h
      exact m_zret C dX4_refuse_41 (Nat.le_of_ble_eq_true rfl) (Nat.le_of_ble_eq_true rfl) hz ⟨_, _, rfl, h, rfl⟩
    · refine m_if_le (tgt := 40) C dX4_refuse_33 (by decide) (fun c6 => ?_) (fun c6 => ?_)
      · refine m_iconst (v := 0) C dX4_refuse_40 (by decide) ?_
        refine mW.sub (lv' := [(0, .ref (ad 46)), (1, .int a1), (2, .int a2), (3, .int a3)]) [0, 1, 2, 3] rfl ?_
        exact mW.eq rfl rfl (by simp only [if_pos c6]) rfl hJ41_7
      · refine m_iconst (v := 1) C dX4_refuse_36 (by decide) ?_
        refine m_goto (tgt := 41) C dX4_refuse_37 (by decide) ?_
        refine mW.sub (lv' := [(0, .ref (ad 46)), (1, .int a1), (2, .int a2), (3, .int a3)]) [0, 1, 2, 3] rfl ?_
        exact mW.eq rfl rfl (by simp only [if_neg c6]) rfl hJ41_7
  · refine m_if_eq (tgt := 9) C dX4_refuse_2 (by decide) (fun c1 => ?_) (fun c1 => ?_)
    · refine m_iload_n C dX4_refuse_9 rfl 2 rfl ?_
      refine m_if_eq (tgt := 17) C dX4_refuse_10 (by decide) (fun c2 => ?_) (fun c2 => ?_)
      · refine m_iload_n C dX4_refuse_17 rfl 3 rfl ?_
        refine m_if_eq (tgt := 25) C dX4_refuse_18 (by decide) (fun c3 => ?_) (fun c3 => ?_)
        · refine m_iconst (v := 0) C dX4_refuse_25 (by decide) ?_
          refine mW.sub (lv' := [(0, .ref (ad 46)), (1, .int a1), (2, .int a2), (3, .int a3)]) [0, 1, 2, 3] rfl ?_
          exact mW.eq rfl rfl (by simp only [if_pos c1, if_pos c2, if_pos c3]) rfl hJ26_4
        · refine m_iconst (v := 3) C dX4_refuse_21 (by decide) ?_
          refine m_goto (tgt := 26) C dX4_refuse_22 (by decide) ?_
          refine mW.sub (lv' := [(0, .ref (ad 46)), (1, .int a1), (2, .int a2), (3, .int a3)]) [0, 1, 2, 3] rfl ?_
          exact mW.eq rfl rfl (by simp only [if_pos c1, if_pos c2, if_neg c3]) rfl hJ26_4
      · refine m_iconst (v := 2) C dX4_refuse_13 (by decide) ?_
        refine m_goto (tgt := 26) C dX4_refuse_14 (by decide) ?_
        refine mW.sub (lv' := [(0, .ref (ad 46)), (1, .int a1), (2, .int a2), (3, .int a3)]) [0, 1, 2, 3] rfl ?_
        exact mW.eq rfl rfl (by simp only [if_pos c1, if_neg c2]) rfl hJ26_4
    · refine m_iconst (v := 1) C dX4_refuse_5 (by decide) ?_
      refine m_goto (tgt := 26) C dX4_refuse_6 (by decide) ?_
      refine mW.sub (lv' := [(0, .ref (ad 46)), (1, .int a1), (2, .int a2), (3, .int a3)]) [0, 1, 2, 3] rfl ?_
      exact mW.eq rfl rfl (by simp only [if_neg c1]) rfl hJ26_4
theorem hiX4_thrown_X4 : ∀ w ∈ wsX40, w ∈ wsX4_thrown := by decide +kernel
def wp_X4_thrown (ln : Nat → Nat) (v : gV) (post : Int32 → gV → Prop) : Prop :=
  post (v 46 0) v
set_option maxHeartbeats 4000000 in
set_option maxRecDepth 100000 in
theorem s_X4_thrown (l : Launch) (D : va_G) (cy : Nat → ClassId) (ad ln : Nat → Nat) (v : gV) (ou : Nat → Int64) {post : Int32 → gV → Prop} (h : wp_X4_thrown ln v  post) : mM l D cy yX4_thrown wsX4_thrown 1 0 0 [.ref (ad 46)] (gW cy ad ln v ou) (fun r w1 => ∃ (x1 : Int32) (v1 : gV), r = some (.int x1) ∧ post x1 v1 ∧ w1 = gW cy ad ln v1 ou) := by
  unfold wp_X4_thrown at h
  refine mM.of (cc := cX4_thrown) (nL := 1) (ret0 := (some .int)) (by decide +kernel) rfl (Nat.le_of_ble_eq_true rfl) ?_
  intro p e s m args below meth c A C hini
  refine mW.sub (lv' := [(0, .ref (ad 46))]) [0] rfl ?_
  refine m_aload_n C dX4_thrown_0 rfl 0 rfl ?_
  refine m_get (T := TX4) (N := 19) C hiX4_thrown_X4 46 gp_46 rfl 0 (by decide) (by decide +kernel) rfl dX4_thrown_1 ?_
  exact m_iret C dX4_thrown_4 (Nat.le_of_ble_eq_true rfl) (Nat.le_of_ble_eq_true rfl) ⟨_, _, rfl, h, rfl⟩
def wp_X4_mark (ln : Nat → Nat) (v : gV) (a1 : Int32) (post : Int32 → gV → Prop) : Prop :=
  post (((a1 + 1) * (-1640531527)) ^^^ (ius ((a1 + 1) * (-1640531527)) 15)) v
set_option maxHeartbeats 4000000 in
set_option maxRecDepth 100000 in
theorem s_X4_mark (l : Launch) (D : va_G) (cy : Nat → ClassId) (ad ln : Nat → Nat) (v : gV) (ou : Nat → Int64) (a1 : Int32) {post : Int32 → gV → Prop} (h : wp_X4_mark ln v a1 post) : mM l D cy yX4_mark wsX4_mark 1 0 0 [.int a1] (gW cy ad ln v ou) (fun r w1 => ∃ (x1 : Int32) (v1 : gV), r = some (.int x1) ∧ post x1 v1 ∧ w1 = gW cy ad ln v1 ou) := by
  unfold wp_X4_mark at h
  refine mM.of (cc := cX4_mark) (nL := 2) (ret0 := (some .int)) (by decide +kernel) rfl (Nat.le_of_ble_eq_true rfl) ?_
  intro p e s m args below meth c A C hini
  refine mW.sub (lv' := [(0, .int a1)]) [0] rfl ?_
  refine m_iload_n C dX4_mark_0 rfl 0 rfl ?_
  refine m_iconst (v := 1) C dX4_mark_1 (by decide) ?_
  refine m_iadd C dX4_mark_2 ?_
  refine m_ldc (v := (-1640531527)) C (C.2.2.2.2.1 (.constant RX4 71 (-1640531527)) (by decide +kernel)) dX4_mark_3 ?_
  refine m_imul C dX4_mark_5 ?_
  refine m_istore_n (lv' := [(1, .int ((a1 + 1) * (-1640531527))), (0, .int a1)]) C dX4_mark_6 rfl (by decide) rfl ?_
  refine m_iload_n C dX4_mark_7 rfl 0 rfl ?_
  refine m_iload_n C dX4_mark_8 rfl 0 rfl ?_
  refine m_bipush (v := 15) C dX4_mark_9 (by decide) ?_
  refine m_iushr (v := ius ((a1 + 1) * (-1640531527)) 15) C dX4_mark_11 rfl ?_
  refine m_ixor C dX4_mark_12 ?_
  exact m_iret C dX4_mark_13 (Nat.le_of_ble_eq_true rfl) (Nat.le_of_ble_eq_true rfl) ⟨_, _, rfl, h, rfl⟩
theorem hiX0_empty_X0 : ∀ w ∈ wsX00, w ∈ wsX0_empty := by decide +kernel
def wp_X0_empty (ln : Nat → Nat) (v : gV) (P : Nat) (post : gV → Prop) : Prop :=
  ∀ v1 : gV, v1 = va_up v P (upd (v P) 1 0) → (∀ v2 : gV, v2 = va_up v1 P (upd (v1 P) 2 0) → (post v2))
set_option maxHeartbeats 4000000 in
set_option maxRecDepth 100000 in
theorem s_X0_empty (l : Launch) (D : va_G) (cy : Nat → ClassId) (ad ln : Nat → Nat) (v : gV) (ou : Nat → Int64) (P : Nat) (hP1 : 14 ≤ P) (hP2 : P < 30) {post : gV → Prop} (h : wp_X0_empty ln v P post) : mM l D cy yX0_empty wsX0_empty 1 0 0 [.ref (ad P)] (gW cy ad ln v ou) (fun r w1 => ∃ v1 : gV, r = none ∧ post v1 ∧ w1 = gW cy ad ln v1 ou) := by
  unfold wp_X0_empty at h
  refine mM.of (cc := cX0_empty) (nL := 1) (ret0 := none) (by decide +kernel) rfl (Nat.le_of_ble_eq_true rfl) ?_
  intro p e s m args below meth c A C hini
  refine mW.sub (lv' := [(0, .ref (ad P))]) [0] rfl ?_
  refine m_aload_n C dX0_empty_0 rfl 0 rfl ?_
  refine m_iconst (v := 0) C dX0_empty_1 (by decide) ?_
  obtain ⟨v1, ev1⟩ : ∃ z : gV, z = va_up v P (upd (v P) 1 0) := ⟨_, rfl⟩
  have h := h v1 ev1
  refine m_put (w' := gW cy ad ln v1 ou) (T := TX0) (N := 3) C hiX0_empty_X0 tyX0 tyX0_ok nmX0 P (gp_C hP1 hP2) rfl 1 (by decide) (by decide +kernel) rfl rfl rfl (Nat.le_of_ble_eq_true rfl) dX0_empty_2 (by rw [ev1]; exact gs_C1 hP1 hP2) ?_
  refine m_aload_n C dX0_empty_5 rfl 0 rfl ?_
  refine m_iconst (v := 0) C dX0_empty_6 (by decide) ?_
  obtain ⟨v2, ev2⟩ : ∃ z : gV, z = va_up v1 P (upd (v1 P) 2 0) := ⟨_, rfl⟩
  have h := h v2 ev2
  refine m_put (w' := gW cy ad ln v2 ou) (T := TX0) (N := 3) C hiX0_empty_X0 tyX0 tyX0_ok nmX0 P (gp_C hP1 hP2) rfl 2 (by decide) (by decide +kernel) rfl rfl rfl (Nat.le_of_ble_eq_true rfl) dX0_empty_7 (by rw [ev2]; exact gs_C2 hP1 hP2) ?_
  exact m_vret C dX0_empty_10 (Nat.le_of_ble_eq_true rfl) (Nat.le_of_ble_eq_true rfl) ⟨_, rfl, h, rfl⟩
theorem hiX1_setRule_X1 : ∀ w ∈ wsX10, w ∈ wsX1_setRule := by decide +kernel
def wp_X1_setRule (ln : Nat → Nat) (v : gV) (a1 : Int32) (a2 : Int32) (a3 : Int32) (post : gV → Prop) : Prop :=
  ∀ v1 : gV, v1 = va_up v 1 (upd (v 1) 0 ((1 <<< (a1 &&& 31)) - 1)) → (∀ v2 : gV, v2 = va_up v1 1 (upd (v1 1) 1 a2) → (∀ v3 : gV, v3 = va_up v2 1 (upd (v2 1) 2 a3) → (post v3)))
set_option maxHeartbeats 4000000 in
set_option maxRecDepth 100000 in
theorem s_X1_setRule (l : Launch) (D : va_G) (cy : Nat → ClassId) (ad ln : Nat → Nat) (v : gV) (ou : Nat → Int64) (a1 : Int32) (a2 : Int32) (a3 : Int32) {post : gV → Prop} (h : wp_X1_setRule ln v a1 a2 a3 post) : mM l D cy yX1_setRule wsX1_setRule 1 0 0 [.ref (ad 1), .int a1, .int a2, .int a3] (gW cy ad ln v ou) (fun r w1 => ∃ v1 : gV, r = none ∧ post v1 ∧ w1 = gW cy ad ln v1 ou) := by
  unfold wp_X1_setRule at h
  refine mM.of (cc := cX1_setRule) (nL := 4) (ret0 := none) (by decide +kernel) rfl (Nat.le_of_ble_eq_true rfl) ?_
  intro p e s m args below meth c A C hini
  refine mW.sub (lv' := [(0, .ref (ad 1)), (1, .int a1), (2, .int a2), (3, .int a3)]) [0, 1, 2, 3] rfl ?_
  refine m_aload_n C dX1_setRule_0 rfl 0 rfl ?_
  refine m_iconst (v := 1) C dX1_setRule_1 (by decide) ?_
  refine m_iload_n C dX1_setRule_2 rfl 1 rfl ?_
  refine m_ishl C dX1_setRule_3 ?_
  refine m_iconst (v := 1) C dX1_setRule_4 (by decide) ?_
  refine m_isub C dX1_setRule_5 ?_
  obtain ⟨v1, ev1⟩ : ∃ z : gV, z = va_up v 1 (upd (v 1) 0 ((1 <<< (a1 &&& 31)) - 1)) := ⟨_, rfl⟩
  have h := h v1 ev1
  refine m_put (w' := gW cy ad ln v1 ou) (T := TX1) (N := 3) C hiX1_setRule_X1 tyX1 tyX1_ok nmX1 1 gp_1 rfl 0 (by decide) (by decide +kernel) rfl rfl rfl (Nat.le_of_ble_eq_true rfl) dX1_setRule_6 (by rw [ev1]; exact gW_set (k := 1) (by decide) rfl) ?_
  refine m_aload_n C dX1_setRule_9 rfl 0 rfl ?_
  refine m_iload_n C dX1_setRule_10 rfl 2 rfl ?_
  obtain ⟨v2, ev2⟩ : ∃ z : gV, z = va_up v1 1 (upd (v1 1) 1 a2) := ⟨_, rfl⟩
  have h := h v2 ev2
  refine m_put (w' := gW cy ad ln v2 ou) (T := TX1) (N := 3) C hiX1_setRule_X1 tyX1 tyX1_ok nmX1 1 gp_1 rfl 1 (by decide) (by decide +kernel) rfl rfl rfl (Nat.le_of_ble_eq_true rfl) dX1_setRule_11 (by rw [ev2]; exact gW_set (k := 1) (by decide) rfl) ?_
  refine m_aload_n C dX1_setRule_14 rfl 0 rfl ?_
  refine m_iload_n C dX1_setRule_15 rfl 3 rfl ?_
  obtain ⟨v3, ev3⟩ : ∃ z : gV, z = va_up v2 1 (upd (v2 1) 2 a3) := ⟨_, rfl⟩
  have h := h v3 ev3
  refine m_put (w' := gW cy ad ln v3 ou) (T := TX1) (N := 3) C hiX1_setRule_X1 tyX1 tyX1_ok nmX1 1 gp_1 rfl 2 (by decide) (by decide +kernel) rfl rfl rfl (Nat.le_of_ble_eq_true rfl) dX1_setRule_16 (by rw [ev3]; exact gW_set (k := 1) (by decide) rfl) ?_
  exact m_vret C dX1_setRule_19 (Nat.le_of_ble_eq_true rfl) (Nat.le_of_ble_eq_true rfl) ⟨_, rfl, h, rfl⟩
end
section
theorem p_X1_mark (l : Launch) (D : va_G) (cy : Nat → ClassId) (ad ln : Nat → Nat) (v : gV) (ou : Nat → Int64) (a1 : Int32) : mM l D cy yX1_mark wsX1_mark 1 0 0 [.int a1] (gW cy ad ln v ou) (fun r w1 => r = some (.int (pmk (a1 &&& 255))) ∧ w1 = gW cy ad ln v ou) := by
  refine pu_i (s_X1_mark l D cy ad ln v ou a1 ?_)
  unfold wp_X1_mark
  intro x1 e1
  subst e1
  exact ⟨rfl, rfl⟩

theorem p_X1_turned (l : Launch) (D : va_G) (cy : Nat → ClassId) (ad ln : Nat → Nat) (v : gV) (ou : Nat → Int64) (a1 : Int32) (a2 : Int32) : mM l D cy yX1_turned wsX1_turned 1 0 0 [.int a1, .int a2] (gW cy ad ln v ou) (fun r w1 => r = some (.int (ptn a1 a2)) ∧ w1 = gW cy ad ln v ou) := by
  refine pu_i (s_X1_turned l D cy ad ln v ou a1 a2 ?_)
  unfold wp_X1_turned
  exact ⟨rfl, rfl⟩

theorem p_X4_mark (l : Launch) (D : va_G) (cy : Nat → ClassId) (ad ln : Nat → Nat) (v : gV) (ou : Nat → Int64) (a1 : Int32) : mM l D cy yX4_mark wsX4_mark 1 0 0 [.int a1] (gW cy ad ln v ou) (fun r w1 => r = some (.int (pmk a1)) ∧ w1 = gW cy ad ln v ou) := by
  refine pu_i (s_X4_mark l D cy ad ln v ou a1 ?_)
  unfold wp_X4_mark
  exact ⟨rfl, rfl⟩

theorem p_X4_in (l : Launch) (D : va_G) (cy : Nat → ClassId) (ad ln : Nat → Nat) (v : gV) (ou : Nat → Int64) (a1 : Int32) (a2 : Int32) (a3 : Int32) : mM l D cy yX4_in wsX4_in 1 0 0 [.int a1, .int a2, .int a3] (gW cy ad ln v ou) (fun r w1 => r = some (.int (pin a1 a2 a3)) ∧ w1 = gW cy ad ln v ou) := by
  refine pu_i (s_X4_in l D cy ad ln v ou a1 a2 a3 ?_)
  unfold wp_X4_in
  exact ⟨pin_nz a1 a2 a3, rfl, rfl⟩

theorem p_X4_refuse (l : Launch) (D : va_G) (cy : Nat → ClassId) (ad ln : Nat → Nat) (v : gV) (ou : Nat → Int64) (a1 : Int32) (a2 : Int32) (a3 : Int32) : mM l D cy yX4_refuse wsX4_refuse 1 0 0 [.ref (ad 46), .int a1, .int a2, .int a3] (gW cy ad ln v ou) (fun r w1 => r = some (.int (prf a1 a2 a3)) ∧ w1 = gW cy ad ln (vrf v a1 a2 a3) ou) := by
  refine pu_i (s_X4_refuse l D cy ad ln v ou a1 a2 a3 ?_)
  unfold wp_X4_refuse
  intro v5 e5
  subst e5
  exact ⟨nz_if nz0 nz1, rfl, rfl⟩

theorem p_X4_thrown (l : Launch) (D : va_G) (cy : Nat → ClassId) (ad ln : Nat → Nat) (v : gV) (ou : Nat → Int64) : mM l D cy yX4_thrown wsX4_thrown 1 0 0 [.ref (ad 46)] (gW cy ad ln v ou) (fun r w1 => r = some (.int (v 46 0)) ∧ w1 = gW cy ad ln v ou) := by
  refine pu_i (s_X4_thrown l D cy ad ln v ou  ?_)
  unfold wp_X4_thrown
  exact ⟨rfl, rfl⟩

theorem p_X2_has (l : Launch) (D : va_G) (cy : Nat → ClassId) (ad ln : Nat → Nat) (v : gV) (ou : Nat → Int64) (a1 : Int32) (h8 : ln 8 = 400) : mM l D cy yX2_has wsX2_has 1 0 0 [.ref (ad 2), .int a1] (gW cy ad ln v ou) (fun r w1 => r = some (.int (phs v a1)) ∧ w1 = gW cy ad ln v ou) := by
  refine pu_i (s_X2_has l D cy ad ln v ou a1 ?_)
  unfold wp_X2_has
  refine ⟨fun q1 q2 => ?_, phs_nz v a1, rfl, rfl⟩
  rw [h8]
  exact ph_in q1 q2
end
section
def wp_X4_isFile (ln : Nat → Nat) (v : gV) (a1 : Int32) (post : Int32 → gV → Prop) : Prop :=
  narrow .boolean (.int (pin a1 0 15)) = .int (pin a1 0 15) ∧ post (pin a1 0 15) v
set_option maxHeartbeats 4000000 in
set_option maxRecDepth 100000 in
theorem s_X4_isFile (l : Launch) (D : va_G) (cy : Nat → ClassId) (ad ln : Nat → Nat) (v : gV) (ou : Nat → Int64) (a1 : Int32) {post : Int32 → gV → Prop} (h : wp_X4_isFile ln v a1 post) : mM l D cy yX4_isFile wsX4_isFile 2 0 0 [.int a1] (gW cy ad ln v ou) (fun r w1 => ∃ (x1 : Int32) (v1 : gV), r = some (.int x1) ∧ post x1 v1 ∧ w1 = gW cy ad ln v1 ou) := by
  unfold wp_X4_isFile at h
  refine mM.of (cc := cX4_isFile) (nL := 1) (ret0 := (some .boolean)) (by decide +kernel) rfl (Nat.le_of_ble_eq_true rfl) ?_
  intro p e s m args below meth c A C hini
  refine mW.sub (lv' := [(0, .int a1)]) [0] rfl ?_
  refine m_iload_n C dX4_isFile_0 rfl 0 rfl ?_
  refine m_iconst (v := 0) C dX4_isFile_1 (by decide) ?_
  refine m_bipush (v := 15) C dX4_isFile_2 (by decide) ?_
  refine m_callS C (p_X4_in l D cy ad ln v ou a1 0 15) (va_cwS 3 C.2.2.2.2.1 gX4_isFile_X4_in rfl rfl rfl (by decide +kernel) ⟨Nat.le_of_ble_eq_true rfl, Nat.le_of_ble_eq_true rfl⟩) rfl rfl (Nat.le_of_ble_eq_true rfl) dX4_isFile_4 ⟨by decide, by decide⟩ (fun r w1 h1 => ?_)
  obtain ⟨rfl, rfl⟩ := h1
  refine mW.eq (st' := [.int (pin a1 0 15)]) rfl rfl rfl rfl ?_
  obtain ⟨hz, h⟩ := h
  exact m_zret C dX4_isFile_7 (Nat.le_of_ble_eq_true rfl) (Nat.le_of_ble_eq_true rfl) hz ⟨_, _, rfl, h, rfl⟩
theorem hiX2_usesOf_X2 : ∀ w ∈ wsX20, w ∈ wsX2_usesOf := by decide +kernel
def wp_X2_usesOf (ln : Nat → Nat) (v : gV) (a1 : Int32) (post : Int32 → gV → Prop) : Prop :=
  ln 8 = 400 ∧ (((¬ ((phs v a1) = 0)) → vp_in a1 (ln 8)) ∧ (post (if (phs v a1) = 0 then 0 else v 8 a1.toNatClampNeg) v))
set_option maxHeartbeats 4000000 in
set_option maxRecDepth 100000 in
theorem s_X2_usesOf (l : Launch) (D : va_G) (cy : Nat → ClassId) (ad ln : Nat → Nat) (v : gV) (ou : Nat → Int64) (a1 : Int32) {post : Int32 → gV → Prop} (h : wp_X2_usesOf ln v a1 post) : mM l D cy yX2_usesOf wsX2_usesOf 2 0 0 [.ref (ad 2), .int a1] (gW cy ad ln v ou) (fun r w1 => ∃ (x1 : Int32) (v1 : gV), r = some (.int x1) ∧ post x1 v1 ∧ w1 = gW cy ad ln v1 ou) := by
  unfold wp_X2_usesOf at h
  refine mM.of (cc := cX2_usesOf) (nL := 2) (ret0 := (some .int)) (by decide +kernel) rfl (Nat.le_of_ble_eq_true rfl) ?_
  intro p e s m args below meth c A C hini
  refine mW.sub (lv' := [(0, .ref (ad 2)), (1, .int a1)]) [0, 1] rfl ?_
  refine m_aload_n C dX2_usesOf_0 rfl 0 rfl ?_
  refine m_iload_n C dX2_usesOf_1 rfl 1 rfl ?_
  obtain ⟨b1, h⟩ := h
  refine m_callV C (p_X2_has l D cy ad ln v ou a1 b1) (cwV 1 C.2.2.2.2.1 gX2_usesOf_X2_has rfl rfl rfl (by decide +kernel) ⟨Nat.le_of_ble_eq_true rfl, Nat.le_of_ble_eq_true rfl⟩) 2 gp_2 rfl rfl rfl (Nat.le_of_ble_eq_true rfl) dX2_usesOf_2 ⟨by decide, by decide⟩ (fun r w1 h1 => ?_)
  obtain ⟨rfl, rfl⟩ := h1
  refine mW.eq (st' := [.int (phs v a1)]) rfl rfl rfl rfl ?_
  obtain ⟨b3, h⟩ := h
  refine m_join (P := 18) (wM := gW cy ad ln v ou) (lvM := [(0, .ref (ad 2)), (1, .int a1)]) (stM := [.int (if (phs v a1) = 0 then 0 else v 8 a1.toNatClampNeg)]) ?_ (fun hJ18_4 => ?_)
  · exact m_iret C dX2_usesOf_18 (Nat.le_of_ble_eq_true rfl) (Nat.le_of_ble_eq_true rfl) ⟨_, _, rfl, h, rfl⟩
  · refine m_if_eq (tgt := 17) C dX2_usesOf_5 (by decide) (fun c2 => ?_) (fun c2 => ?_)
    · refine m_iconst (v := 0) C dX2_usesOf_17 (by decide) ?_
      refine mW.sub (lv' := [(0, .ref (ad 2)), (1, .int a1)]) [0, 1] rfl ?_
      exact mW.eq rfl rfl (by simp only [if_pos c2]) rfl hJ18_4
    · refine m_aload_n C dX2_usesOf_8 rfl 0 rfl ?_
      refine m_get (T := TX2) (N := 9) C hiX2_usesOf_X2 2 gp_2 rfl 0 (by decide) (by decide +kernel) rfl dX2_usesOf_9 ?_
      refine m_iload_n C dX2_usesOf_12 rfl 1 rfl ?_
      refine m_iald C 8 (gp_I (by decide)) (b3 c2) dX2_usesOf_13 ?_
      refine m_goto (tgt := 18) C dX2_usesOf_14 (by decide) ?_
      refine mW.sub (lv' := [(0, .ref (ad 2)), (1, .int a1)]) [0, 1] rfl ?_
      exact mW.eq rfl rfl (by simp only [if_neg c2]) rfl hJ18_4
theorem hiX2_lengthOf_X2 : ∀ w ∈ wsX20, w ∈ wsX2_lengthOf := by decide +kernel
def wp_X2_lengthOf (ln : Nat → Nat) (v : gV) (a1 : Int32) (post : Int32 → gV → Prop) : Prop :=
  ln 8 = 400 ∧ (((¬ ((phs v a1) = 0)) → vp_in a1 (ln 9)) ∧ (post (if (phs v a1) = 0 then 0 else v 9 a1.toNatClampNeg) v))
set_option maxHeartbeats 4000000 in
set_option maxRecDepth 100000 in
theorem s_X2_lengthOf (l : Launch) (D : va_G) (cy : Nat → ClassId) (ad ln : Nat → Nat) (v : gV) (ou : Nat → Int64) (a1 : Int32) {post : Int32 → gV → Prop} (h : wp_X2_lengthOf ln v a1 post) : mM l D cy yX2_lengthOf wsX2_lengthOf 2 0 0 [.ref (ad 2), .int a1] (gW cy ad ln v ou) (fun r w1 => ∃ (x1 : Int32) (v1 : gV), r = some (.int x1) ∧ post x1 v1 ∧ w1 = gW cy ad ln v1 ou) := by
  unfold wp_X2_lengthOf at h
  refine mM.of (cc := cX2_lengthOf) (nL := 2) (ret0 := (some .int)) (by decide +kernel) rfl (Nat.le_of_ble_eq_true rfl) ?_
  intro p e s m args below meth c A C hini
  refine mW.sub (lv' := [(0, .ref (ad 2)), (1, .int a1)]) [0, 1] rfl ?_
  refine m_aload_n C dX2_lengthOf_0 rfl 0 rfl ?_
  refine m_iload_n C dX2_lengthOf_1 rfl 1 rfl ?_
  obtain ⟨b1, h⟩ := h
  refine m_callV C (p_X2_has l D cy ad ln v ou a1 b1) (cwV 1 C.2.2.2.2.1 gX2_lengthOf_X2_has rfl rfl rfl (by decide +kernel) ⟨Nat.le_of_ble_eq_true rfl, Nat.le_of_ble_eq_true rfl⟩) 2 gp_2 rfl rfl rfl (Nat.le_of_ble_eq_true rfl) dX2_lengthOf_2 ⟨by decide, by decide⟩ (fun r w1 h1 => ?_)
  obtain ⟨rfl, rfl⟩ := h1
  refine mW.eq (st' := [.int (phs v a1)]) rfl rfl rfl rfl ?_
  obtain ⟨b3, h⟩ := h
  refine m_join (P := 18) (wM := gW cy ad ln v ou) (lvM := [(0, .ref (ad 2)), (1, .int a1)]) (stM := [.int (if (phs v a1) = 0 then 0 else v 9 a1.toNatClampNeg)]) ?_ (fun hJ18_4 => ?_)
  · exact m_iret C dX2_lengthOf_18 (Nat.le_of_ble_eq_true rfl) (Nat.le_of_ble_eq_true rfl) ⟨_, _, rfl, h, rfl⟩
  · refine m_if_eq (tgt := 17) C dX2_lengthOf_5 (by decide) (fun c2 => ?_) (fun c2 => ?_)
    · refine m_iconst (v := 0) C dX2_lengthOf_17 (by decide) ?_
      refine mW.sub (lv' := [(0, .ref (ad 2)), (1, .int a1)]) [0, 1] rfl ?_
      exact mW.eq rfl rfl (by simp only [if_pos c2]) rfl hJ18_4
    · refine m_aload_n C dX2_lengthOf_8 rfl 0 rfl ?_
      refine m_get (T := TX2) (N := 9) C hiX2_lengthOf_X2 2 gp_2 rfl 1 (by decide) (by decide +kernel) rfl dX2_lengthOf_9 ?_
      refine m_iload_n C dX2_lengthOf_12 rfl 1 rfl ?_
      refine m_iald C 9 (gp_I (by decide)) (b3 c2) dX2_lengthOf_13 ?_
      refine m_goto (tgt := 18) C dX2_lengthOf_14 (by decide) ?_
      refine mW.sub (lv' := [(0, .ref (ad 2)), (1, .int a1)]) [0, 1] rfl ?_
      exact mW.eq rfl rfl (by simp only [if_neg c2]) rfl hJ18_4
def wp_X2_hashOf (ln : Nat → Nat) (v : gV) (r1 : Nat) (a2 : Int32) (a3 : Int32) (post : Int32 → gV → Prop) : Prop :=
  ∃ I5 : Nat → Int32 → Int32 → Prop, (∃ n, I5 n 0 a2) ∧ ∀ (n : Nat) (x1 : Int32) (x2 : Int32), I5 n x1 x2 → (((a3 ≤ x2) → (post (x1 ^^^ (ius x1 9)) v)) ∧ (¬ (a3 ≤ x2) → (vp_in x2 (ln r1) ∧ (∀ x5 : Int32, x5 = ((x1 * 31) + (v r1 x2.toNatClampNeg)) → (∃ n', n' < n ∧ I5 n' x5 (x2 + 1))))))
set_option maxHeartbeats 4000000 in
set_option maxRecDepth 100000 in
theorem s_X2_hashOf (l : Launch) (D : va_G) (cy : Nat → ClassId) (ad ln : Nat → Nat) (v : gV) (ou : Nat → Int64) (r1 : Nat) (a2 : Int32) (a3 : Int32) (hr1 : gBs r1 = true) {post : Int32 → gV → Prop} (h : wp_X2_hashOf ln v r1 a2 a3 post) : mM l D cy yX2_hashOf wsX2_hashOf 1 0 0 [.ref (ad r1), .int a2, .int a3] (gW cy ad ln v ou) (fun r w1 => ∃ (x1 : Int32) (v1 : gV), r = some (.int x1) ∧ post x1 v1 ∧ w1 = gW cy ad ln v1 ou) := by
  unfold wp_X2_hashOf at h
  refine mM.of (cc := cX2_hashOf) (nL := 5) (ret0 := (some .int)) (by decide +kernel) rfl (Nat.le_of_ble_eq_true rfl) ?_
  intro p e s m args below meth c A C hini
  refine mW.sub (lv' := [(0, .ref (ad r1)), (1, .int a2), (2, .int a3)]) [0, 1, 2] rfl ?_
  refine m_iconst (v := 0) C dX2_hashOf_0 (by decide) ?_
  refine m_istore_n (lv' := [(3, .int 0), (0, .ref (ad r1)), (1, .int a2), (2, .int a3)]) C dX2_hashOf_1 rfl (by decide) rfl ?_
  refine m_iload_n C dX2_hashOf_2 rfl 2 rfl ?_
  refine m_istore (lv' := [(4, .int a2), (3, .int 0), (0, .ref (ad r1)), (1, .int a2), (2, .int a3)]) C dX2_hashOf_3 (by decide) rfl ?_
  obtain ⟨I5, ⟨n0, h0⟩, hI⟩ := h
  refine mW.sub (lv' := [(0, .ref (ad r1)), (1, .int a2), (2, .int a3), (3, .int 0), (4, .int a2)]) [2, 3, 4, 1, 0] rfl ?_
  refine m_ind (σ := Int32 × Int32) (fun n z => I5 n z.1 z.2) (fun z => gW cy ad ln v ou) 5 (fun z => [(0, .ref (ad r1)), (1, .int a2), (2, .int a3), (3, .int z.1), (4, .int z.2)]) ?_ n0 (0, a2) h0
  intro n z hi ih
  obtain ⟨x1, x2⟩ := z
  have h := hI n x1 x2 hi
  show mW _ _ _ _ _ _ _ _ _ _ _ _ _ _ _ _ (gW cy ad ln v ou) 5 [(0, .ref (ad r1)), (1, .int a2), (2, .int a3), (3, .int x1), (4, .int x2)] []
  refine m_iload C dX2_hashOf_5 4 rfl ?_
  refine m_iload_n C dX2_hashOf_7 rfl 2 rfl ?_
  refine m_icmp_ge (tgt := 27) C dX2_hashOf_8 (by decide) (fun c3 => ?_) (fun c3 => ?_)
  · have h := h.1 c3
    refine m_iload_n C dX2_hashOf_27 rfl 3 rfl ?_
    refine m_iload_n C dX2_hashOf_28 rfl 3 rfl ?_
    refine m_bipush (v := 9) C dX2_hashOf_29 (by decide) ?_
    refine m_iushr (v := ius x1 9) C dX2_hashOf_31 rfl ?_
    refine m_ixor C dX2_hashOf_32 ?_
    exact m_iret C dX2_hashOf_33 (Nat.le_of_ble_eq_true rfl) (Nat.le_of_ble_eq_true rfl) ⟨_, _, rfl, h, rfl⟩
  · have h := h.2 c3
    refine m_iload_n C dX2_hashOf_11 rfl 3 rfl ?_
    refine m_bipush (v := 31) C dX2_hashOf_12 (by decide) ?_
    refine m_imul C dX2_hashOf_14 ?_
    refine m_aload_n C dX2_hashOf_15 rfl 0 rfl ?_
    refine m_iload C dX2_hashOf_16 4 rfl ?_
    obtain ⟨b4, h⟩ := h
    refine m_bald C r1 (gp_B hr1) b4 dX2_hashOf_18 ?_
    refine m_iadd C dX2_hashOf_19 ?_
    refine m_topi (fun x5 ex5 => ?_)
    have h := h x5 ex5
    refine m_istore_n (lv' := [(3, .int x5), (0, .ref (ad r1)), (1, .int a2), (2, .int a3), (4, .int x2)]) C dX2_hashOf_20 rfl (by decide) rfl ?_
    refine m_iinc (lv' := [(4, .int (x2 + 1)), (3, .int x5), (0, .ref (ad r1)), (1, .int a2), (2, .int a3)]) C dX2_hashOf_21 (k := 4) rfl rfl (by decide) rfl ?_
    refine m_goto (tgt := 5) C dX2_hashOf_24 (by decide) ?_
    obtain ⟨n6, hn, h⟩ := h
    exact mW.sub [2, 3, 4, 1, 0] rfl (ih n6 (x5, (x2 + 1)) hn h)
theorem hiX2_sameBytes_X2 : ∀ w ∈ wsX20, w ∈ wsX2_sameBytes := by decide +kernel
def wp_X2_sameBytes (ln : Nat → Nat) (v : gV) (a1 : Int32) (r2 : Nat) (a3 : Int32) (post : Int32 → gV → Prop) : Prop :=
  ∃ I9 : Nat → Int32 → Prop, (∃ n, I9 n 0) ∧ ∀ (n : Nat) (x1 : Int32), I9 n x1 → (vp_in a1 (ln 9) ∧ ((((v 9 a1.toNatClampNeg) ≤ x1) → (narrow .boolean (.int 1) = .int 1 ∧ post 1 v)) ∧ (¬ ((v 9 a1.toNatClampNeg) ≤ x1) → (vp_in ((a1 * 64) + x1) (ln 13) ∧ (vp_in (a3 + x1) (ln r2) ∧ ((((v 13 ((a1 * 64) + x1).toNatClampNeg) = (v r2 (a3 + x1).toNatClampNeg)) → (∃ n', n' < n ∧ I9 n' (x1 + 1))) ∧ (¬ ((v 13 ((a1 * 64) + x1).toNatClampNeg) = (v r2 (a3 + x1).toNatClampNeg)) → (narrow .boolean (.int 0) = .int 0 ∧ post 0 v))))))))
set_option maxHeartbeats 4000000 in
set_option maxRecDepth 100000 in
theorem s_X2_sameBytes (l : Launch) (D : va_G) (cy : Nat → ClassId) (ad ln : Nat → Nat) (v : gV) (ou : Nat → Int64) (a1 : Int32) (r2 : Nat) (a3 : Int32) (hr2 : gBs r2 = true) {post : Int32 → gV → Prop} (h : wp_X2_sameBytes ln v a1 r2 a3 post) : mM l D cy yX2_sameBytes wsX2_sameBytes 1 0 0 [.ref (ad 2), .int a1, .ref (ad r2), .int a3] (gW cy ad ln v ou) (fun r w1 => ∃ (x1 : Int32) (v1 : gV), r = some (.int x1) ∧ post x1 v1 ∧ w1 = gW cy ad ln v1 ou) := by
  unfold wp_X2_sameBytes at h
  refine mM.of (cc := cX2_sameBytes) (nL := 6) (ret0 := (some .boolean)) (by decide +kernel) rfl (Nat.le_of_ble_eq_true rfl) ?_
  intro p e s m args below meth c A C hini
  refine mW.sub (lv' := [(0, .ref (ad 2)), (1, .int a1), (2, .ref (ad r2)), (3, .int a3)]) [0, 1, 2, 3] rfl ?_
  refine m_iload_n C dX2_sameBytes_0 rfl 1 rfl ?_
  refine m_bipush (v := 64) C dX2_sameBytes_1 (by decide) ?_
  refine m_imul C dX2_sameBytes_3 ?_
  refine m_istore (lv' := [(4, .int (a1 * 64)), (0, .ref (ad 2)), (1, .int a1), (2, .ref (ad r2)), (3, .int a3)]) C dX2_sameBytes_4 (by decide) rfl ?_
  refine m_iconst (v := 0) C dX2_sameBytes_6 (by decide) ?_
  refine m_istore (lv' := [(5, .int 0), (4, .int (a1 * 64)), (0, .ref (ad 2)), (1, .int a1), (2, .ref (ad r2)), (3, .int a3)]) C dX2_sameBytes_7 (by decide) rfl ?_
  obtain ⟨I9, ⟨n0, h0⟩, hI⟩ := h
  refine mW.sub (lv' := [(0, .ref (ad 2)), (1, .int a1), (2, .ref (ad r2)), (3, .int a3), (4, .int (a1 * 64)), (5, .int 0)]) [2, 3, 4, 5, 1, 0] rfl ?_
  refine m_ind (σ := Int32) (fun n z => I9 n z) (fun z => gW cy ad ln v ou) 9 (fun z => [(0, .ref (ad 2)), (1, .int a1), (2, .ref (ad r2)), (3, .int a3), (4, .int (a1 * 64)), (5, .int z)]) ?_ n0 (0) h0
  intro n x1 hi ih
  have h := hI n x1 hi
  show mW _ _ _ _ _ _ _ _ _ _ _ _ _ _ _ _ (gW cy ad ln v ou) 9 [(0, .ref (ad 2)), (1, .int a1), (2, .ref (ad r2)), (3, .int a3), (4, .int (a1 * 64)), (5, .int x1)] []
  refine m_iload C dX2_sameBytes_9 5 rfl ?_
  refine m_aload_n C dX2_sameBytes_11 rfl 0 rfl ?_
  refine m_get (T := TX2) (N := 9) C hiX2_sameBytes_X2 2 gp_2 rfl 1 (by decide) (by decide +kernel) rfl dX2_sameBytes_12 ?_
  refine m_iload_n C dX2_sameBytes_15 rfl 1 rfl ?_
  obtain ⟨b2, h⟩ := h
  refine m_iald C 9 (gp_I (by decide)) b2 dX2_sameBytes_16 ?_
  refine m_icmp_ge (tgt := 47) C dX2_sameBytes_17 (by decide) (fun c3 => ?_) (fun c3 => ?_)
  · have h := h.1 c3
    refine m_iconst (v := 1) C dX2_sameBytes_47 (by decide) ?_
    obtain ⟨hz, h⟩ := h
    exact m_zret C dX2_sameBytes_48 (Nat.le_of_ble_eq_true rfl) (Nat.le_of_ble_eq_true rfl) hz ⟨_, _, rfl, h, rfl⟩
  · have h := h.2 c3
    refine m_aload_n C dX2_sameBytes_20 rfl 0 rfl ?_
    refine m_get (T := TX2) (N := 9) C hiX2_sameBytes_X2 2 gp_2 rfl 5 (by decide) (by decide +kernel) rfl dX2_sameBytes_21 ?_
    refine m_iload C dX2_sameBytes_24 4 rfl ?_
    refine m_iload C dX2_sameBytes_26 5 rfl ?_
    refine m_iadd C dX2_sameBytes_28 ?_
    obtain ⟨b4, h⟩ := h
    refine m_bald C 13 (gp_B (by decide)) b4 dX2_sameBytes_29 ?_
    refine m_aload_n C dX2_sameBytes_30 rfl 2 rfl ?_
    refine m_iload_n C dX2_sameBytes_31 rfl 3 rfl ?_
    refine m_iload C dX2_sameBytes_32 5 rfl ?_
    refine m_iadd C dX2_sameBytes_34 ?_
    obtain ⟨b5, h⟩ := h
    refine m_bald C r2 (gp_B hr2) b5 dX2_sameBytes_35 ?_
    refine m_icmp_eq (tgt := 41) C dX2_sameBytes_36 (by decide) (fun c6 => ?_) (fun c6 => ?_)
    · have h := h.1 c6
      refine m_iinc (lv' := [(5, .int (x1 + 1)), (0, .ref (ad 2)), (1, .int a1), (2, .ref (ad r2)), (3, .int a3), (4, .int (a1 * 64))]) C dX2_sameBytes_41 (k := 5) rfl rfl (by decide) rfl ?_
      refine m_goto (tgt := 9) C dX2_sameBytes_44 (by decide) ?_
      obtain ⟨n7, hn, h⟩ := h
      exact mW.sub [1, 2, 3, 4, 5, 0] rfl (ih n7 ((x1 + 1)) hn h)
    · have h := h.2 c6
      refine m_iconst (v := 0) C dX2_sameBytes_39 (by decide) ?_
      obtain ⟨hz, h⟩ := h
      exact m_zret C dX2_sameBytes_40 (Nat.le_of_ble_eq_true rfl) (Nat.le_of_ble_eq_true rfl) hz ⟨_, _, rfl, h, rfl⟩
theorem hiX2_leastFree_X2 : ∀ w ∈ wsX20, w ∈ wsX2_leastFree := by decide +kernel
def wp_X2_leastFree (ln : Nat → Nat) (v : gV) (post : Int32 → gV → Prop) : Prop :=
  ∃ I0 : Nat → gV → Prop, (∃ n, I0 n v) ∧ ∀ (n : Nat) (v1 : gV), I0 n v1 → (((400 ≤ (v1 2 6)) → ((post (if 400 ≤ (v1 2 6) then (-1) else v1 2 6) v1))) ∧ (¬ (400 ≤ (v1 2 6)) → (vp_in (v1 2 6) (ln 8) ∧ ((((v1 8 (v1 2 6).toNatClampNeg) ≤ 0) → ((post (if 400 ≤ (v1 2 6) then (-1) else v1 2 6) v1))) ∧ (¬ ((v1 8 (v1 2 6).toNatClampNeg) ≤ 0) → (∀ v9 : gV, v9 = va_up v1 2 (upd (v1 2) 6 ((v1 2 6) + 1)) → (∃ n', n' < n ∧ I0 n' v9)))))))
set_option maxHeartbeats 4000000 in
set_option maxRecDepth 100000 in
theorem s_X2_leastFree (l : Launch) (D : va_G) (cy : Nat → ClassId) (ad ln : Nat → Nat) (v : gV) (ou : Nat → Int64) {post : Int32 → gV → Prop} (h : wp_X2_leastFree ln v  post) : mM l D cy yX2_leastFree wsX2_leastFree 1 0 0 [.ref (ad 2)] (gW cy ad ln v ou) (fun r w1 => ∃ (x1 : Int32) (v1 : gV), r = some (.int x1) ∧ post x1 v1 ∧ w1 = gW cy ad ln v1 ou) := by
  unfold wp_X2_leastFree at h
  refine mM.of (cc := cX2_leastFree) (nL := 1) (ret0 := (some .int)) (by decide +kernel) rfl (Nat.le_of_ble_eq_true rfl) ?_
  intro p e s m args below meth c A C hini
  refine mW.sub (lv' := [(0, .ref (ad 2))]) [0] rfl ?_
  obtain ⟨I0, ⟨n0, h0⟩, hI⟩ := h
  refine mW.sub (lv' := [(0, .ref (ad 2))]) [0] rfl ?_
  refine m_ind (σ := gV) (fun n z => I0 n z) (fun z => gW cy ad ln z ou) 0 (fun z => [(0, .ref (ad 2))]) ?_ n0 (v) h0
  intro n v1 hi ih
  have h := hI n v1 hi
  show mW _ _ _ _ _ _ _ _ _ _ _ _ _ _ _ _ (gW cy ad ln v1 ou) 0 [(0, .ref (ad 2))] []
  refine m_aload_n C dX2_leastFree_0 rfl 0 rfl ?_
  refine m_get (T := TX2) (N := 9) C hiX2_leastFree_X2 2 gp_2 rfl 6 (by decide) (by decide +kernel) rfl dX2_leastFree_1 ?_
  refine m_sipush (v := 400) C dX2_leastFree_4 (by decide) ?_
  refine m_icmp_ge (tgt := 35) C dX2_leastFree_7 (by decide) (fun c2 => ?_) (fun c2 => ?_)
  · have h := h.1 c2
    refine m_aload_n C dX2_leastFree_35 rfl 0 rfl ?_
    refine m_get (T := TX2) (N := 9) C hiX2_leastFree_X2 2 gp_2 rfl 6 (by decide) (by decide +kernel) rfl dX2_leastFree_36 ?_
    refine m_sipush (v := 400) C dX2_leastFree_39 (by decide) ?_
    refine m_join (P := 53) (wM := gW cy ad ln v1 ou) (lvM := [(0, .ref (ad 2))]) (stM := [.int (if 400 ≤ (v1 2 6) then (-1) else v1 2 6)]) ?_ (fun hJ53_4 => ?_)
    · exact m_iret C dX2_leastFree_53 (Nat.le_of_ble_eq_true rfl) (Nat.le_of_ble_eq_true rfl) ⟨_, _, rfl, h, rfl⟩
    · refine m_icmp_ge (tgt := 52) C dX2_leastFree_42 (by decide) (fun c3 => ?_) (fun c3 => ?_)
      · refine m_iconst (v := (-1)) C dX2_leastFree_52 (by decide) ?_
        refine mW.sub (lv' := [(0, .ref (ad 2))]) [0] rfl ?_
        exact mW.eq rfl rfl (by simp only [if_pos c3]) rfl hJ53_4
      · refine m_aload_n C dX2_leastFree_45 rfl 0 rfl ?_
        refine m_get (T := TX2) (N := 9) C hiX2_leastFree_X2 2 gp_2 rfl 6 (by decide) (by decide +kernel) rfl dX2_leastFree_46 ?_
        refine m_goto (tgt := 53) C dX2_leastFree_49 (by decide) ?_
        refine mW.sub (lv' := [(0, .ref (ad 2))]) [0] rfl ?_
        exact mW.eq rfl rfl (by simp only [if_neg c3]) rfl hJ53_4
  · have h := h.2 c2
    refine m_aload_n C dX2_leastFree_10 rfl 0 rfl ?_
    refine m_get (T := TX2) (N := 9) C hiX2_leastFree_X2 2 gp_2 rfl 0 (by decide) (by decide +kernel) rfl dX2_leastFree_11 ?_
    refine m_aload_n C dX2_leastFree_14 rfl 0 rfl ?_
    refine m_get (T := TX2) (N := 9) C hiX2_leastFree_X2 2 gp_2 rfl 6 (by decide) (by decide +kernel) rfl dX2_leastFree_15 ?_
    obtain ⟨b5, h⟩ := h
    refine m_iald C 8 (gp_I (by decide)) b5 dX2_leastFree_18 ?_
    refine m_if_le (tgt := 35) C dX2_leastFree_19 (by decide) (fun c6 => ?_) (fun c6 => ?_)
    · have h := h.1 c6
      refine m_aload_n C dX2_leastFree_35 rfl 0 rfl ?_
      refine m_get (T := TX2) (N := 9) C hiX2_leastFree_X2 2 gp_2 rfl 6 (by decide) (by decide +kernel) rfl dX2_leastFree_36 ?_
      refine m_sipush (v := 400) C dX2_leastFree_39 (by decide) ?_
      refine m_join (P := 53) (wM := gW cy ad ln v1 ou) (lvM := [(0, .ref (ad 2))]) (stM := [.int (if 400 ≤ (v1 2 6) then (-1) else v1 2 6)]) ?_ (fun hJ53_8 => ?_)
      · exact m_iret C dX2_leastFree_53 (Nat.le_of_ble_eq_true rfl) (Nat.le_of_ble_eq_true rfl) ⟨_, _, rfl, h, rfl⟩
      · refine m_icmp_ge (tgt := 52) C dX2_leastFree_42 (by decide) (fun c7 => ?_) (fun c7 => ?_)
        · refine m_iconst (v := (-1)) C dX2_leastFree_52 (by decide) ?_
          refine mW.sub (lv' := [(0, .ref (ad 2))]) [0] rfl ?_
          exact mW.eq rfl rfl (by simp only [if_pos c7]) rfl hJ53_8
        · refine m_aload_n C dX2_leastFree_45 rfl 0 rfl ?_
          refine m_get (T := TX2) (N := 9) C hiX2_leastFree_X2 2 gp_2 rfl 6 (by decide) (by decide +kernel) rfl dX2_leastFree_46 ?_
          refine m_goto (tgt := 53) C dX2_leastFree_49 (by decide) ?_
          refine mW.sub (lv' := [(0, .ref (ad 2))]) [0] rfl ?_
          exact mW.eq rfl rfl (by simp only [if_neg c7]) rfl hJ53_8
    · have h := h.2 c6
      refine m_aload_n C dX2_leastFree_22 rfl 0 rfl ?_
      refine m_dup C dX2_leastFree_23 rfl ?_
      refine m_get (T := TX2) (N := 9) C hiX2_leastFree_X2 2 gp_2 rfl 6 (by decide) (by decide +kernel) rfl dX2_leastFree_24 ?_
      refine m_iconst (v := 1) C dX2_leastFree_27 (by decide) ?_
      refine m_iadd C dX2_leastFree_28 ?_
      obtain ⟨v9, ev9⟩ : ∃ z : gV, z = va_up v1 2 (upd (v1 2) 6 ((v1 2 6) + 1)) := ⟨_, rfl⟩
      have h := h v9 ev9
      refine m_put (w' := gW cy ad ln v9 ou) (T := TX2) (N := 9) C hiX2_leastFree_X2 tyX2 tyX2_ok nmX2 2 gp_2 rfl 6 (by decide) (by decide +kernel) rfl rfl rfl (Nat.le_of_ble_eq_true rfl) dX2_leastFree_29 (by rw [ev9]; exact gW_set (k := 2) (by decide) rfl) ?_
      refine m_goto (tgt := 0) C dX2_leastFree_32 (by decide) ?_
      obtain ⟨n10, hn, h⟩ := h
      exact mW.sub [0] rfl (ih n10 (v9) hn h)
theorem hiX2_useAgain_X2 : ∀ w ∈ wsX20, w ∈ wsX2_useAgain := by decide +kernel
def wp_X2_useAgain (ln : Nat → Nat) (v : gV) (a1 : Int32) (post : gV → Prop) : Prop :=
  ln 8 = 400 ∧ ((((phs v a1) = 0) → (post v)) ∧ (¬ ((phs v a1) = 0) → (vp_in a1 (ln 8) ∧ (vp_in a1 (ln 8) ∧ ∀ v5 : gV, v5 = va_up v 8 (upd (v 8) a1.toNatClampNeg ((v 8 a1.toNatClampNeg) + 1)) → (post v5)))))
set_option maxHeartbeats 4000000 in
set_option maxRecDepth 100000 in
theorem s_X2_useAgain (l : Launch) (D : va_G) (cy : Nat → ClassId) (ad ln : Nat → Nat) (v : gV) (ou : Nat → Int64) (a1 : Int32) {post : gV → Prop} (h : wp_X2_useAgain ln v a1 post) : mM l D cy yX2_useAgain wsX2_useAgain 2 0 0 [.ref (ad 2), .int a1] (gW cy ad ln v ou) (fun r w1 => ∃ v1 : gV, r = none ∧ post v1 ∧ w1 = gW cy ad ln v1 ou) := by
  unfold wp_X2_useAgain at h
  refine mM.of (cc := cX2_useAgain) (nL := 2) (ret0 := none) (by decide +kernel) rfl (Nat.le_of_ble_eq_true rfl) ?_
  intro p e s m args below meth c A C hini
  refine mW.sub (lv' := [(0, .ref (ad 2)), (1, .int a1)]) [0, 1] rfl ?_
  refine m_aload_n C dX2_useAgain_0 rfl 0 rfl ?_
  refine m_iload_n C dX2_useAgain_1 rfl 1 rfl ?_
  obtain ⟨b1, h⟩ := h
  refine m_callV C (p_X2_has l D cy ad ln v ou a1 b1) (cwV 1 C.2.2.2.2.1 gX2_useAgain_X2_has rfl rfl rfl (by decide +kernel) ⟨Nat.le_of_ble_eq_true rfl, Nat.le_of_ble_eq_true rfl⟩) 2 gp_2 rfl rfl rfl (Nat.le_of_ble_eq_true rfl) dX2_useAgain_2 ⟨by decide, by decide⟩ (fun r w1 h1 => ?_)
  obtain ⟨rfl, rfl⟩ := h1
  refine mW.eq (st' := [.int (phs v a1)]) rfl rfl rfl rfl ?_
  refine m_if_eq (tgt := 18) C dX2_useAgain_5 (by decide) (fun c2 => ?_) (fun c2 => ?_)
  · have h := h.1 c2
    exact m_vret C dX2_useAgain_18 (Nat.le_of_ble_eq_true rfl) (Nat.le_of_ble_eq_true rfl) ⟨_, rfl, h, rfl⟩
  · have h := h.2 c2
    refine m_aload_n C dX2_useAgain_8 rfl 0 rfl ?_
    refine m_get (T := TX2) (N := 9) C hiX2_useAgain_X2 2 gp_2 rfl 0 (by decide) (by decide +kernel) rfl dX2_useAgain_9 ?_
    refine m_iload_n C dX2_useAgain_12 rfl 1 rfl ?_
    refine m_dup2_11 C dX2_useAgain_13 rfl rfl ?_
    obtain ⟨b3, h⟩ := h
    refine m_iald C 8 (gp_I (by decide)) b3 dX2_useAgain_14 ?_
    refine m_iconst (v := 1) C dX2_useAgain_15 (by decide) ?_
    refine m_iadd C dX2_useAgain_16 ?_
    obtain ⟨b4, h⟩ := h
    obtain ⟨v5, ev5⟩ : ∃ z : gV, z = va_up v 8 (upd (v 8) a1.toNatClampNeg ((v 8 a1.toNatClampNeg) + 1)) := ⟨_, rfl⟩
    have h := h v5 ev5
    refine m_iast (w' := gW cy ad ln v5 ou) C 8 (gp_I (by decide)) b4 dX2_useAgain_17 (by rw [ev5]; exact gs_I (by decide)) ?_
    exact m_vret C dX2_useAgain_18 (Nat.le_of_ble_eq_true rfl) (Nat.le_of_ble_eq_true rfl) ⟨_, rfl, h, rfl⟩
theorem hiX4_beginOf_X4 : ∀ w ∈ wsX40, w ∈ wsX4_beginOf := by decide +kernel
def wp_X4_beginOf (ln : Nat → Nat) (v : gV) (a1 : Int32) (post : Int32 → gV → Prop) : Prop :=
  ((¬ (a1 = 0)) → vp_in (a1 - 1) (ln 49)) ∧ (post (if a1 = 0 then 0 else v 49 (a1 - 1).toNatClampNeg) v)
set_option maxHeartbeats 4000000 in
set_option maxRecDepth 100000 in
theorem s_X4_beginOf (l : Launch) (D : va_G) (cy : Nat → ClassId) (ad ln : Nat → Nat) (v : gV) (ou : Nat → Int64) (a1 : Int32) {post : Int32 → gV → Prop} (h : wp_X4_beginOf ln v a1 post) : mM l D cy yX4_beginOf wsX4_beginOf 1 0 0 [.ref (ad 46), .int a1] (gW cy ad ln v ou) (fun r w1 => ∃ (x1 : Int32) (v1 : gV), r = some (.int x1) ∧ post x1 v1 ∧ w1 = gW cy ad ln v1 ou) := by
  unfold wp_X4_beginOf at h
  refine mM.of (cc := cX4_beginOf) (nL := 2) (ret0 := (some .int)) (by decide +kernel) rfl (Nat.le_of_ble_eq_true rfl) ?_
  intro p e s m args below meth c A C hini
  refine mW.sub (lv' := [(0, .ref (ad 46)), (1, .int a1)]) [0, 1] rfl ?_
  refine m_iload_n C dX4_beginOf_0 rfl 1 rfl ?_
  obtain ⟨b2, h⟩ := h
  refine m_join (P := 16) (wM := gW cy ad ln v ou) (lvM := [(0, .ref (ad 46)), (1, .int a1)]) (stM := [.int (if a1 = 0 then 0 else v 49 (a1 - 1).toNatClampNeg)]) ?_ (fun hJ16_3 => ?_)
  · exact m_iret C dX4_beginOf_16 (Nat.le_of_ble_eq_true rfl) (Nat.le_of_ble_eq_true rfl) ⟨_, _, rfl, h, rfl⟩
  · refine m_if_ne (tgt := 8) C dX4_beginOf_1 (by decide) (fun c1 => ?_) (fun c1 => ?_)
    · refine m_aload_n C dX4_beginOf_8 rfl 0 rfl ?_
      refine m_get (T := TX4) (N := 19) C hiX4_beginOf_X4 46 gp_46 rfl 9 (by decide) (by decide +kernel) rfl dX4_beginOf_9 ?_
      refine m_iload_n C dX4_beginOf_12 rfl 1 rfl ?_
      refine m_iconst (v := 1) C dX4_beginOf_13 (by decide) ?_
      refine m_isub C dX4_beginOf_14 ?_
      refine m_iald C 49 (gp_I (by decide)) (b2 c1) dX4_beginOf_15 ?_
      refine mW.sub (lv' := [(0, .ref (ad 46)), (1, .int a1)]) [0, 1] rfl ?_
      exact mW.eq rfl rfl (by simp only [if_neg c1]) rfl hJ16_3
    · refine m_iconst (v := 0) C dX4_beginOf_4 (by decide) ?_
      refine m_goto (tgt := 16) C dX4_beginOf_5 (by decide) ?_
      refine mW.sub (lv' := [(0, .ref (ad 46)), (1, .int a1)]) [0, 1] rfl ?_
      exact mW.eq rfl rfl (by simp only [if_pos c1]) rfl hJ16_3
theorem hiX4_has_X4 : ∀ w ∈ wsX40, w ∈ wsX4_has := by decide +kernel
def wp_X4_has (ln : Nat → Nat) (v : gV) (a1 : Int32) (a2 : Int32) (post : Int32 → gV → Prop) : Prop :=
  ∃ I5 : Nat → Int32 → Int32 → Prop, (∃ n, I5 n 0 0) ∧ ∀ (n : Nat) (x1 : Int32) (x2 : Int32), I5 n x1 x2 → (vp_in a1 (ln 54) ∧ ((((v 54 a1.toNatClampNeg) ≤ x2) → (narrow .boolean (.int x1) = .int x1 ∧ post x1 v)) ∧ (¬ ((v 54 a1.toNatClampNeg) ≤ x2) → (((x1 = 0) → vp_in ((1500 * a1) + x2) (ln 55)) ∧ (∀ x9 : Int32, x9 = (if x1 = 0 then if (v 55 ((1500 * a1) + x2).toNatClampNeg) = a2 then 1 else 0 else 1) → (∃ n', n' < n ∧ I5 n' x9 (x2 + 1)))))))
set_option maxHeartbeats 4000000 in
set_option maxRecDepth 100000 in
theorem s_X4_has (l : Launch) (D : va_G) (cy : Nat → ClassId) (ad ln : Nat → Nat) (v : gV) (ou : Nat → Int64) (a1 : Int32) (a2 : Int32) {post : Int32 → gV → Prop} (h : wp_X4_has ln v a1 a2 post) : mM l D cy yX4_has wsX4_has 1 0 0 [.ref (ad 46), .int a1, .int a2] (gW cy ad ln v ou) (fun r w1 => ∃ (x1 : Int32) (v1 : gV), r = some (.int x1) ∧ post x1 v1 ∧ w1 = gW cy ad ln v1 ou) := by
  unfold wp_X4_has at h
  refine mM.of (cc := cX4_has) (nL := 5) (ret0 := (some .boolean)) (by decide +kernel) rfl (Nat.le_of_ble_eq_true rfl) ?_
  intro p e s m args below meth c A C hini
  refine mW.sub (lv' := [(0, .ref (ad 46)), (1, .int a1), (2, .int a2)]) [0, 1, 2] rfl ?_
  refine m_iconst (v := 0) C dX4_has_0 (by decide) ?_
  refine m_istore_n (lv' := [(3, .int 0), (0, .ref (ad 46)), (1, .int a1), (2, .int a2)]) C dX4_has_1 rfl (by decide) rfl ?_
  refine m_iconst (v := 0) C dX4_has_2 (by decide) ?_
  refine m_istore (lv' := [(4, .int 0), (3, .int 0), (0, .ref (ad 46)), (1, .int a1), (2, .int a2)]) C dX4_has_3 (by decide) rfl ?_
  obtain ⟨I5, ⟨n0, h0⟩, hI⟩ := h
  refine mW.sub (lv' := [(0, .ref (ad 46)), (1, .int a1), (2, .int a2), (3, .int 0), (4, .int 0)]) [2, 3, 4, 1, 0] rfl ?_
  refine m_ind (σ := Int32 × Int32) (fun n z => I5 n z.1 z.2) (fun z => gW cy ad ln v ou) 5 (fun z => [(0, .ref (ad 46)), (1, .int a1), (2, .int a2), (3, .int z.1), (4, .int z.2)]) ?_ n0 (0, 0) h0
  intro n z hi ih
  obtain ⟨x1, x2⟩ := z
  have h := hI n x1 x2 hi
  show mW _ _ _ _ _ _ _ _ _ _ _ _ _ _ _ _ (gW cy ad ln v ou) 5 [(0, .ref (ad 46)), (1, .int a1), (2, .int a2), (3, .int x1), (4, .int x2)] []
  refine m_iload C dX4_has_5 4 rfl ?_
  refine m_aload_n C dX4_has_7 rfl 0 rfl ?_
  refine m_get (T := TX4) (N := 19) C hiX4_has_X4 46 gp_46 rfl 14 (by decide) (by decide +kernel) rfl dX4_has_8 ?_
  refine m_iload_n C dX4_has_11 rfl 1 rfl ?_
  obtain ⟨b3, h⟩ := h
  refine m_iald C 54 (gp_I (by decide)) b3 dX4_has_12 ?_
  refine m_icmp_ge (tgt := 49) C dX4_has_13 (by decide) (fun c4 => ?_) (fun c4 => ?_)
  · have h := h.1 c4
    refine m_iload_n C dX4_has_49 rfl 3 rfl ?_
    obtain ⟨hz, h⟩ := h
    exact m_zret C dX4_has_50 (Nat.le_of_ble_eq_true rfl) (Nat.le_of_ble_eq_true rfl) hz ⟨_, _, rfl, h, rfl⟩
  · have h := h.2 c4
    refine m_iload_n C dX4_has_16 rfl 3 rfl ?_
    obtain ⟨b6, h⟩ := h
    refine m_join (P := 42) (wM := gW cy ad ln v ou) (lvM := [(0, .ref (ad 46)), (1, .int a1), (2, .int a2), (3, .int x1), (4, .int x2)]) (stM := [.int (if x1 = 0 then if (v 55 ((1500 * a1) + x2).toNatClampNeg) = a2 then 1 else 0 else 1)]) ?_ (fun hJ42_8 => ?_)
    · refine m_topi (fun x9 ex9 => ?_)
      have h := h x9 ex9
      refine m_istore_n (lv' := [(3, .int x9), (0, .ref (ad 46)), (1, .int a1), (2, .int a2), (4, .int x2)]) C dX4_has_42 rfl (by decide) rfl ?_
      refine m_iinc (lv' := [(4, .int (x2 + 1)), (3, .int x9), (0, .ref (ad 46)), (1, .int a1), (2, .int a2)]) C dX4_has_43 (k := 4) rfl rfl (by decide) rfl ?_
      refine m_goto (tgt := 5) C dX4_has_46 (by decide) ?_
      obtain ⟨n10, hn, h⟩ := h
      exact mW.sub [2, 3, 4, 1, 0] rfl (ih n10 (x9, (x2 + 1)) hn h)
    · refine m_if_ne (tgt := 37) C dX4_has_17 (by decide) (fun c5 => ?_) (fun c5 => ?_)
      · refine m_iconst (v := 1) C dX4_has_37 (by decide) ?_
        refine m_goto (tgt := 42) C dX4_has_38 (by decide) ?_
        refine mW.sub (lv' := [(0, .ref (ad 46)), (1, .int a1), (2, .int a2), (3, .int x1), (4, .int x2)]) [0, 1, 2, 3, 4] rfl ?_
        exact mW.eq rfl rfl (by simp only [if_neg c5]) rfl hJ42_8
      · refine m_aload_n C dX4_has_20 rfl 0 rfl ?_
        refine m_get (T := TX4) (N := 19) C hiX4_has_X4 46 gp_46 rfl 15 (by decide) (by decide +kernel) rfl dX4_has_21 ?_
        refine m_sipush (v := 1500) C dX4_has_24 (by decide) ?_
        refine m_iload_n C dX4_has_27 rfl 1 rfl ?_
        refine m_imul C dX4_has_28 ?_
        refine m_iload C dX4_has_29 4 rfl ?_
        refine m_iadd C dX4_has_31 ?_
        refine m_iald C 55 (gp_I (by decide)) (b6 c5) dX4_has_32 ?_
        refine m_iload_n C dX4_has_33 rfl 2 rfl ?_
        refine m_icmp_ne (tgt := 41) C dX4_has_34 (by decide) (fun c7 => ?_) (fun c7 => ?_)
        · refine m_iconst (v := 0) C dX4_has_41 (by decide) ?_
          refine mW.sub (lv' := [(0, .ref (ad 46)), (1, .int a1), (2, .int a2), (3, .int x1), (4, .int x2)]) [0, 1, 2, 3, 4] rfl ?_
          exact mW.eq rfl rfl (by simp only [if_pos c5, if_neg c7]) rfl hJ42_8
        · refine m_iconst (v := 1) C dX4_has_37 (by decide) ?_
          refine m_goto (tgt := 42) C dX4_has_38 (by decide) ?_
          refine mW.sub (lv' := [(0, .ref (ad 46)), (1, .int a1), (2, .int a2), (3, .int x1), (4, .int x2)]) [0, 1, 2, 3, 4] rfl ?_
          exact mW.eq rfl rfl (by simp only [if_pos c5, if_pos c7]) rfl hJ42_8
theorem hiX4_sum_X4 : ∀ w ∈ wsX40, w ∈ wsX4_sum := by decide +kernel
def wp_X4_sum (ln : Nat → Nat) (v : gV) (a1 : Int32) (a2 : Int32) (post : Int32 → gV → Prop) : Prop :=
  ∃ I5 : Nat → Int32 → Int32 → Prop, (∃ n, I5 n 0 0) ∧ ∀ (n : Nat) (x1 : Int32) (x2 : Int32), I5 n x1 x2 → (((8 ≤ x2) → (post x1 v)) ∧ (¬ (8 ≤ x2) → (((((a2 - 1) - x2) < a1) → (post x1 v)) ∧ (¬ (((a2 - 1) - x2) < a1) → (vp_in ((a2 - 1) - x2) (ln 48) ∧ (∀ x6 : Int32, x6 = (pmk (v 48 ((a2 - 1) - x2).toNatClampNeg)) → ((∀ x9 : Int32, x9 = (x1 ^^^ ((x6 <<< (x2 &&& 31)) ||| (if x2 = 0 then 0 else ius x6 (32 - x2)))) → (∃ n', n' < n ∧ I5 n' x9 (x2 + 1))))))))))
set_option maxHeartbeats 4000000 in
set_option maxRecDepth 100000 in
theorem s_X4_sum (l : Launch) (D : va_G) (cy : Nat → ClassId) (ad ln : Nat → Nat) (v : gV) (ou : Nat → Int64) (a1 : Int32) (a2 : Int32) {post : Int32 → gV → Prop} (h : wp_X4_sum ln v a1 a2 post) : mM l D cy yX4_sum wsX4_sum 2 0 0 [.ref (ad 46), .int a1, .int a2] (gW cy ad ln v ou) (fun r w1 => ∃ (x1 : Int32) (v1 : gV), r = some (.int x1) ∧ post x1 v1 ∧ w1 = gW cy ad ln v1 ou) := by
  unfold wp_X4_sum at h
  refine mM.of (cc := cX4_sum) (nL := 6) (ret0 := (some .int)) (by decide +kernel) rfl (Nat.le_of_ble_eq_true rfl) ?_
  intro p e s m args below meth c A C hini
  refine mW.sub (lv' := [(0, .ref (ad 46)), (1, .int a1), (2, .int a2)]) [0, 1, 2] rfl ?_
  refine m_iconst (v := 0) C dX4_sum_0 (by decide) ?_
  refine m_istore_n (lv' := [(3, .int 0), (0, .ref (ad 46)), (1, .int a1), (2, .int a2)]) C dX4_sum_1 rfl (by decide) rfl ?_
  refine m_iconst (v := 0) C dX4_sum_2 (by decide) ?_
  refine m_istore (lv' := [(4, .int 0), (3, .int 0), (0, .ref (ad 46)), (1, .int a1), (2, .int a2)]) C dX4_sum_3 (by decide) rfl ?_
  obtain ⟨I5, ⟨n0, h0⟩, hI⟩ := h
  refine mW.sub (lv' := [(0, .ref (ad 46)), (1, .int a1), (2, .int a2), (3, .int 0), (4, .int 0)]) [2, 3, 4, 1, 0] rfl ?_
  refine m_ind (σ := Int32 × Int32) (fun n z => I5 n z.1 z.2) (fun z => gW cy ad ln v ou) 5 (fun z => [(0, .ref (ad 46)), (1, .int a1), (2, .int a2), (3, .int z.1), (4, .int z.2)]) ?_ n0 (0, 0) h0
  intro n z hi ih
  obtain ⟨x1, x2⟩ := z
  have h := hI n x1 x2 hi
  show mW _ _ _ _ _ _ _ _ _ _ _ _ _ _ _ _ (gW cy ad ln v ou) 5 [(0, .ref (ad 46)), (1, .int a1), (2, .int a2), (3, .int x1), (4, .int x2)] []
  refine m_iload C dX4_sum_5 4 rfl ?_
  refine m_bipush (v := 8) C dX4_sum_7 (by decide) ?_
  refine m_icmp_ge (tgt := 70) C dX4_sum_9 (by decide) (fun c3 => ?_) (fun c3 => ?_)
  · have h := h.1 c3
    refine m_iload_n C dX4_sum_70 rfl 3 rfl ?_
    exact m_iret C dX4_sum_71 (Nat.le_of_ble_eq_true rfl) (Nat.le_of_ble_eq_true rfl) ⟨_, _, rfl, h, rfl⟩
  · have h := h.2 c3
    refine m_iload_n C dX4_sum_12 rfl 2 rfl ?_
    refine m_iconst (v := 1) C dX4_sum_13 (by decide) ?_
    refine m_isub C dX4_sum_14 ?_
    refine m_iload C dX4_sum_15 4 rfl ?_
    refine m_isub C dX4_sum_17 ?_
    refine m_iload_n C dX4_sum_18 rfl 1 rfl ?_
    refine m_icmp_lt (tgt := 70) C dX4_sum_19 (by decide) (fun c4 => ?_) (fun c4 => ?_)
    · have h := h.1 c4
      refine m_iload_n C dX4_sum_70 rfl 3 rfl ?_
      exact m_iret C dX4_sum_71 (Nat.le_of_ble_eq_true rfl) (Nat.le_of_ble_eq_true rfl) ⟨_, _, rfl, h, rfl⟩
    · have h := h.2 c4
      refine m_aload_n C dX4_sum_22 rfl 0 rfl ?_
      refine m_get (T := TX4) (N := 19) C hiX4_sum_X4 46 gp_46 rfl 7 (by decide) (by decide +kernel) rfl dX4_sum_23 ?_
      refine m_iload_n C dX4_sum_26 rfl 2 rfl ?_
      refine m_iconst (v := 1) C dX4_sum_27 (by decide) ?_
      refine m_isub C dX4_sum_28 ?_
      refine m_iload C dX4_sum_29 4 rfl ?_
      refine m_isub C dX4_sum_31 ?_
      obtain ⟨b5, h⟩ := h
      refine m_iald C 48 (gp_I (by decide)) b5 dX4_sum_32 ?_
      refine m_callS C (p_X4_mark l D cy ad ln v ou (v 48 ((a2 - 1) - x2).toNatClampNeg)) (va_cwS 1 C.2.2.2.2.1 gX4_sum_X4_mark rfl rfl rfl (by decide +kernel) ⟨Nat.le_of_ble_eq_true rfl, Nat.le_of_ble_eq_true rfl⟩) rfl rfl (Nat.le_of_ble_eq_true rfl) dX4_sum_33 ⟨by decide, by decide⟩ (fun r w1 h1 => ?_)
      obtain ⟨rfl, rfl⟩ := h1
      refine mW.eq (st' := [.int (pmk (v 48 ((a2 - 1) - x2).toNatClampNeg))]) rfl rfl rfl rfl ?_
      refine m_topi (fun x6 ex6 => ?_)
      have h := h x6 ex6
      refine m_istore (lv' := [(5, .int x6), (0, .ref (ad 46)), (1, .int a1), (2, .int a2), (3, .int x1), (4, .int x2)]) C dX4_sum_36 (by decide) rfl ?_
      refine m_iload_n C dX4_sum_38 rfl 4 rfl ?_
      refine m_iload C dX4_sum_39 0 rfl ?_
      refine m_iload C dX4_sum_41 5 rfl ?_
      refine m_ishl C dX4_sum_43 ?_
      refine m_iload C dX4_sum_44 5 rfl ?_
      refine m_join (P := 61) (wM := gW cy ad ln v ou) (lvM := [(5, .int x6), (0, .ref (ad 46)), (1, .int a1), (2, .int a2), (3, .int x1), (4, .int x2)]) (stM := [.int (if x2 = 0 then 0 else ius x6 (32 - x2)), .int (x6 <<< (x2 &&& 31)), .int x1]) ?_ (fun hJ61_8 => ?_)
      · refine m_ior C dX4_sum_61 ?_
        refine m_ixor C dX4_sum_62 ?_
        refine m_topi (fun x9 ex9 => ?_)
        have h := h x9 ex9
        refine m_istore_n (lv' := [(3, .int x9), (5, .int x6), (0, .ref (ad 46)), (1, .int a1), (2, .int a2), (4, .int x2)]) C dX4_sum_63 rfl (by decide) rfl ?_
        refine m_iinc (lv' := [(4, .int (x2 + 1)), (3, .int x9), (5, .int x6), (0, .ref (ad 46)), (1, .int a1), (2, .int a2)]) C dX4_sum_64 (k := 5) rfl rfl (by decide) rfl ?_
        refine m_goto (tgt := 5) C dX4_sum_67 (by decide) ?_
        obtain ⟨n10, hn, h⟩ := h
        exact mW.sub [3, 4, 5, 1, 0] rfl (ih n10 (x9, (x2 + 1)) hn h)
      · refine m_if_ne (tgt := 53) C dX4_sum_46 (by decide) (fun c7 => ?_) (fun c7 => ?_)
        · refine m_iload C dX4_sum_53 0 rfl ?_
          refine m_bipush (v := 32) C dX4_sum_55 (by decide) ?_
          refine m_iload C dX4_sum_57 5 rfl ?_
          refine m_isub C dX4_sum_59 ?_
          refine m_iushr (v := ius x6 (32 - x2)) C dX4_sum_60 rfl ?_
          refine mW.sub (lv' := [(5, .int x6), (0, .ref (ad 46)), (1, .int a1), (2, .int a2), (3, .int x1), (4, .int x2)]) [0, 1, 2, 3, 4, 5] rfl ?_
          exact mW.eq rfl rfl (by simp only [if_neg c7]) rfl hJ61_8
        · refine m_iconst (v := 0) C dX4_sum_49 (by decide) ?_
          refine m_goto (tgt := 61) C dX4_sum_50 (by decide) ?_
          refine mW.sub (lv' := [(5, .int x6), (0, .ref (ad 46)), (1, .int a1), (2, .int a2), (3, .int x1), (4, .int x2)]) [0, 1, 2, 3, 4, 5] rfl ?_
          exact mW.eq rfl rfl (by simp only [if_pos c7]) rfl hJ61_8
theorem hiX4_isPart_X4 : ∀ w ∈ wsX40, w ∈ wsX4_isPart := by decide +kernel
def wp_X4_isPart (ln : Nat → Nat) (v : gV) (a1 : Int32) (a2 : Int32) (a3 : Int32) (post : Int32 → gV → Prop) : Prop :=
  vp_in a1 (ln 56) ∧ (((0 < (v 56 a1.toNatClampNeg)) → vp_in a1 (ln 57)) ∧ ((¬ (0 < (v 56 a1.toNatClampNeg))) → vp_in a1 (ln 51)) ∧ ((¬ (0 < (v 56 a1.toNatClampNeg))) → (¬ ((v 51 a1.toNatClampNeg) = 0)) → vp_in a1 (ln 57)) ∧ (∀ x10 : Int32, x10 = (if 0 < (v 56 a1.toNatClampNeg) then if (v 57 a1.toNatClampNeg) = (a3 - a2) then 1 else 0 else if (v 51 a1.toNatClampNeg) = 0 then 0 else if (v 57 a1.toNatClampNeg) = (a3 - a2) then 1 else 0) → (∃ I40 : Nat → Int32 → Int32 → Prop, (∃ n, I40 n x10 0) ∧ ∀ (n : Nat) (x11 : Int32) (x12 : Int32), I40 n x11 x12 → ((((a3 - a2) ≤ x12) → (narrow .boolean (.int x11) = .int x11 ∧ post x11 v)) ∧ (¬ ((a3 - a2) ≤ x12) → (((x11 = 0) → (narrow .boolean (.int x11) = .int x11 ∧ post x11 v)) ∧ (¬ (x11 = 0) → (vp_in ((64 * a1) + x12) (ln 58) ∧ (vp_in (a2 + x12) (ln 48) ∧ ((∀ x19 : Int32, x19 = (if (v 58 ((64 * a1) + x12).toNatClampNeg) = (v 48 (a2 + x12).toNatClampNeg) then 1 else 0) → (∃ n', n' < n ∧ I40 n' x19 (x12 + 1)))))))))))))
set_option maxHeartbeats 4000000 in
set_option maxRecDepth 100000 in
theorem s_X4_isPart (l : Launch) (D : va_G) (cy : Nat → ClassId) (ad ln : Nat → Nat) (v : gV) (ou : Nat → Int64) (a1 : Int32) (a2 : Int32) (a3 : Int32) {post : Int32 → gV → Prop} (h : wp_X4_isPart ln v a1 a2 a3 post) : mM l D cy yX4_isPart wsX4_isPart 1 0 0 [.ref (ad 46), .int a1, .int a2, .int a3] (gW cy ad ln v ou) (fun r w1 => ∃ (x1 : Int32) (v1 : gV), r = some (.int x1) ∧ post x1 v1 ∧ w1 = gW cy ad ln v1 ou) := by
  unfold wp_X4_isPart at h
  refine mM.of (cc := cX4_isPart) (nL := 6) (ret0 := (some .boolean)) (by decide +kernel) rfl (Nat.le_of_ble_eq_true rfl) ?_
  intro p e s m args below meth c A C hini
  refine mW.sub (lv' := [(0, .ref (ad 46)), (1, .int a1), (2, .int a2), (3, .int a3)]) [0, 1, 2, 3] rfl ?_
  refine m_aload_n C dX4_isPart_0 rfl 0 rfl ?_
  refine m_get (T := TX4) (N := 19) C hiX4_isPart_X4 46 gp_46 rfl 16 (by decide) (by decide +kernel) rfl dX4_isPart_1 ?_
  refine m_iload_n C dX4_isPart_4 rfl 1 rfl ?_
  obtain ⟨b1, h⟩ := h
  refine m_iald C 56 (gp_I (by decide)) b1 dX4_isPart_5 ?_
  obtain ⟨b3, h⟩ := h
  obtain ⟨b5, h⟩ := h
  obtain ⟨b7, h⟩ := h
  refine m_join (P := 35) (wM := gW cy ad ln v ou) (lvM := [(0, .ref (ad 46)), (1, .int a1), (2, .int a2), (3, .int a3)]) (stM := [.int (if 0 < (v 56 a1.toNatClampNeg) then if (v 57 a1.toNatClampNeg) = (a3 - a2) then 1 else 0 else if (v 51 a1.toNatClampNeg) = 0 then 0 else if (v 57 a1.toNatClampNeg) = (a3 - a2) then 1 else 0)]) ?_ (fun hJ35_9 => ?_)
  · refine m_topi (fun x10 ex10 => ?_)
    have h := h x10 ex10
    refine m_istore (lv' := [(4, .int x10), (0, .ref (ad 46)), (1, .int a1), (2, .int a2), (3, .int a3)]) C dX4_isPart_35 (by decide) rfl ?_
    refine m_iconst (v := 0) C dX4_isPart_37 (by decide) ?_
    refine m_istore (lv' := [(5, .int 0), (4, .int x10), (0, .ref (ad 46)), (1, .int a1), (2, .int a2), (3, .int a3)]) C dX4_isPart_38 (by decide) rfl ?_
    obtain ⟨I40, ⟨n0, h0⟩, hI⟩ := h
    refine mW.sub (lv' := [(0, .ref (ad 46)), (1, .int a1), (2, .int a2), (3, .int a3), (4, .int x10), (5, .int 0)]) [2, 3, 4, 5, 1, 0] rfl ?_
    refine m_ind (σ := Int32 × Int32) (fun n z => I40 n z.1 z.2) (fun z => gW cy ad ln v ou) 40 (fun z => [(0, .ref (ad 46)), (1, .int a1), (2, .int a2), (3, .int a3), (4, .int z.1), (5, .int z.2)]) ?_ n0 (x10, 0) h0
    intro n z hi ih
    obtain ⟨x11, x12⟩ := z
    have h := hI n x11 x12 hi
    show mW _ _ _ _ _ _ _ _ _ _ _ _ _ _ _ _ (gW cy ad ln v ou) 40 [(0, .ref (ad 46)), (1, .int a1), (2, .int a2), (3, .int a3), (4, .int x11), (5, .int x12)] []
    refine m_iload C dX4_isPart_40 5 rfl ?_
    refine m_iload_n C dX4_isPart_42 rfl 3 rfl ?_
    refine m_iload_n C dX4_isPart_43 rfl 2 rfl ?_
    refine m_isub C dX4_isPart_44 ?_
    refine m_icmp_ge (tgt := 90) C dX4_isPart_45 (by decide) (fun c13 => ?_) (fun c13 => ?_)
    · have h := h.1 c13
      refine m_iload C dX4_isPart_90 4 rfl ?_
      obtain ⟨hz, h⟩ := h
      exact m_zret C dX4_isPart_92 (Nat.le_of_ble_eq_true rfl) (Nat.le_of_ble_eq_true rfl) hz ⟨_, _, rfl, h, rfl⟩
    · have h := h.2 c13
      refine m_iload C dX4_isPart_48 4 rfl ?_
      refine m_if_eq (tgt := 90) C dX4_isPart_50 (by decide) (fun c14 => ?_) (fun c14 => ?_)
      · have h := h.1 c14
        refine m_iload C dX4_isPart_90 4 rfl ?_
        obtain ⟨hz, h⟩ := h
        exact m_zret C dX4_isPart_92 (Nat.le_of_ble_eq_true rfl) (Nat.le_of_ble_eq_true rfl) hz ⟨_, _, rfl, h, rfl⟩
      · have h := h.2 c14
        refine m_aload_n C dX4_isPart_53 rfl 0 rfl ?_
        refine m_get (T := TX4) (N := 19) C hiX4_isPart_X4 46 gp_46 rfl 18 (by decide) (by decide +kernel) rfl dX4_isPart_54 ?_
        refine m_bipush (v := 64) C dX4_isPart_57 (by decide) ?_
        refine m_iload_n C dX4_isPart_59 rfl 1 rfl ?_
        refine m_imul C dX4_isPart_60 ?_
        refine m_iload C dX4_isPart_61 5 rfl ?_
        refine m_iadd C dX4_isPart_63 ?_
        obtain ⟨b15, h⟩ := h
        refine m_iald C 58 (gp_I (by decide)) b15 dX4_isPart_64 ?_
        refine m_aload_n C dX4_isPart_65 rfl 0 rfl ?_
        refine m_get (T := TX4) (N := 19) C hiX4_isPart_X4 46 gp_46 rfl 7 (by decide) (by decide +kernel) rfl dX4_isPart_66 ?_
        refine m_iload_n C dX4_isPart_69 rfl 2 rfl ?_
        refine m_iload C dX4_isPart_70 5 rfl ?_
        refine m_iadd C dX4_isPart_72 ?_
        obtain ⟨b16, h⟩ := h
        refine m_iald C 48 (gp_I (by decide)) b16 dX4_isPart_73 ?_
        refine m_join (P := 82) (wM := gW cy ad ln v ou) (lvM := [(0, .ref (ad 46)), (1, .int a1), (2, .int a2), (3, .int a3), (4, .int x11), (5, .int x12)]) (stM := [.int (if (v 58 ((64 * a1) + x12).toNatClampNeg) = (v 48 (a2 + x12).toNatClampNeg) then 1 else 0)]) ?_ (fun hJ82_18 => ?_)
        · refine m_topi (fun x19 ex19 => ?_)
          have h := h x19 ex19
          refine m_istore (lv' := [(4, .int x19), (0, .ref (ad 46)), (1, .int a1), (2, .int a2), (3, .int a3), (5, .int x12)]) C dX4_isPart_82 (by decide) rfl ?_
          refine m_iinc (lv' := [(5, .int (x12 + 1)), (4, .int x19), (0, .ref (ad 46)), (1, .int a1), (2, .int a2), (3, .int a3)]) C dX4_isPart_84 (k := 5) rfl rfl (by decide) rfl ?_
          refine m_goto (tgt := 40) C dX4_isPart_87 (by decide) ?_
          obtain ⟨n20, hn, h⟩ := h
          exact mW.sub [2, 3, 4, 5, 1, 0] rfl (ih n20 (x19, (x12 + 1)) hn h)
        · refine m_icmp_ne (tgt := 81) C dX4_isPart_74 (by decide) (fun c17 => ?_) (fun c17 => ?_)
          · refine m_iconst (v := 0) C dX4_isPart_81 (by decide) ?_
            refine mW.sub (lv' := [(0, .ref (ad 46)), (1, .int a1), (2, .int a2), (3, .int a3), (4, .int x11), (5, .int x12)]) [0, 1, 2, 3, 4, 5] rfl ?_
            exact mW.eq rfl rfl (by simp only [if_neg c17]) rfl hJ82_18
          · refine m_iconst (v := 1) C dX4_isPart_77 (by decide) ?_
            refine m_goto (tgt := 82) C dX4_isPart_78 (by decide) ?_
            refine mW.sub (lv' := [(0, .ref (ad 46)), (1, .int a1), (2, .int a2), (3, .int a3), (4, .int x11), (5, .int x12)]) [0, 1, 2, 3, 4, 5] rfl ?_
            exact mW.eq rfl rfl (by simp only [if_pos c17]) rfl hJ82_18
  · refine m_if_gt (tgt := 18) C dX4_isPart_6 (by decide) (fun c2 => ?_) (fun c2 => ?_)
    · refine m_aload_n C dX4_isPart_18 rfl 0 rfl ?_
      refine m_get (T := TX4) (N := 19) C hiX4_isPart_X4 46 gp_46 rfl 17 (by decide) (by decide +kernel) rfl dX4_isPart_19 ?_
      refine m_iload_n C dX4_isPart_22 rfl 1 rfl ?_
      refine m_iald C 57 (gp_I (by decide)) (b3 c2) dX4_isPart_23 ?_
      refine m_iload_n C dX4_isPart_24 rfl 3 rfl ?_
      refine m_iload_n C dX4_isPart_25 rfl 2 rfl ?_
      refine m_isub C dX4_isPart_26 ?_
      refine m_icmp_ne (tgt := 34) C dX4_isPart_27 (by decide) (fun c4 => ?_) (fun c4 => ?_)
      · refine m_iconst (v := 0) C dX4_isPart_34 (by decide) ?_
        refine mW.sub (lv' := [(0, .ref (ad 46)), (1, .int a1), (2, .int a2), (3, .int a3)]) [0, 1, 2, 3] rfl ?_
        exact mW.eq rfl rfl (by simp only [if_pos c2, if_neg c4]) rfl hJ35_9
      · refine m_iconst (v := 1) C dX4_isPart_30 (by decide) ?_
        refine m_goto (tgt := 35) C dX4_isPart_31 (by decide) ?_
        refine mW.sub (lv' := [(0, .ref (ad 46)), (1, .int a1), (2, .int a2), (3, .int a3)]) [0, 1, 2, 3] rfl ?_
        exact mW.eq rfl rfl (by simp only [if_pos c2, if_pos c4]) rfl hJ35_9
    · refine m_aload_n C dX4_isPart_9 rfl 0 rfl ?_
      refine m_get (T := TX4) (N := 19) C hiX4_isPart_X4 46 gp_46 rfl 11 (by decide) (by decide +kernel) rfl dX4_isPart_10 ?_
      refine m_iload_n C dX4_isPart_13 rfl 1 rfl ?_
      refine m_zald C 51 gp_Z (b5 c2) dX4_isPart_14 ?_
      refine m_if_eq (tgt := 34) C dX4_isPart_15 (by decide) (fun c6 => ?_) (fun c6 => ?_)
      · refine m_iconst (v := 0) C dX4_isPart_34 (by decide) ?_
        refine mW.sub (lv' := [(0, .ref (ad 46)), (1, .int a1), (2, .int a2), (3, .int a3)]) [0, 1, 2, 3] rfl ?_
        exact mW.eq rfl rfl (by simp only [if_neg c2, if_pos c6]) rfl hJ35_9
      · refine m_aload_n C dX4_isPart_18 rfl 0 rfl ?_
        refine m_get (T := TX4) (N := 19) C hiX4_isPart_X4 46 gp_46 rfl 17 (by decide) (by decide +kernel) rfl dX4_isPart_19 ?_
        refine m_iload_n C dX4_isPart_22 rfl 1 rfl ?_
        refine m_iald C 57 (gp_I (by decide)) (b7 c2 c6) dX4_isPart_23 ?_
        refine m_iload_n C dX4_isPart_24 rfl 3 rfl ?_
        refine m_iload_n C dX4_isPart_25 rfl 2 rfl ?_
        refine m_isub C dX4_isPart_26 ?_
        refine m_icmp_ne (tgt := 34) C dX4_isPart_27 (by decide) (fun c8 => ?_) (fun c8 => ?_)
        · refine m_iconst (v := 0) C dX4_isPart_34 (by decide) ?_
          refine mW.sub (lv' := [(0, .ref (ad 46)), (1, .int a1), (2, .int a2), (3, .int a3)]) [0, 1, 2, 3] rfl ?_
          exact mW.eq rfl rfl (by simp only [if_neg c2, if_neg c6, if_neg c8]) rfl hJ35_9
        · refine m_iconst (v := 1) C dX4_isPart_30 (by decide) ?_
          refine m_goto (tgt := 35) C dX4_isPart_31 (by decide) ?_
          refine mW.sub (lv' := [(0, .ref (ad 46)), (1, .int a1), (2, .int a2), (3, .int a3)]) [0, 1, 2, 3] rfl ?_
          exact mW.eq rfl rfl (by simp only [if_neg c2, if_neg c6, if_pos c8]) rfl hJ35_9
theorem hiX0_hasNumber_X0 : ∀ w ∈ wsX00, w ∈ wsX0_hasNumber := by decide +kernel
def wp_X0_hasNumber (ln : Nat → Nat) (v : gV) (P : Nat) (a1 : Int32) (post : Int32 → gV → Prop) : Prop :=
  ∃ I2 : Nat → Int32 → Prop, (∃ n, I2 n 0) ∧ ∀ (n : Nat) (x1 : Int32), I2 n x1 → ((((v P 1) ≤ x1) → (narrow .boolean (.int 0) = .int 0 ∧ post 0 v)) ∧ (¬ ((v P 1) ≤ x1) → (vp_in x1 (ln (P + 16)) ∧ ((((v (P + 16) x1.toNatClampNeg) = a1) → (narrow .boolean (.int 1) = .int 1 ∧ post 1 v)) ∧ (¬ ((v (P + 16) x1.toNatClampNeg) = a1) → (∃ n', n' < n ∧ I2 n' (x1 + 1)))))))
set_option maxHeartbeats 4000000 in
set_option maxRecDepth 100000 in
theorem s_X0_hasNumber (l : Launch) (D : va_G) (cy : Nat → ClassId) (ad ln : Nat → Nat) (v : gV) (ou : Nat → Int64) (P : Nat) (a1 : Int32) (hP1 : 14 ≤ P) (hP2 : P < 30) {post : Int32 → gV → Prop} (h : wp_X0_hasNumber ln v P a1 post) : mM l D cy yX0_hasNumber wsX0_hasNumber 1 0 0 [.ref (ad P), .int a1] (gW cy ad ln v ou) (fun r w1 => ∃ (x1 : Int32) (v1 : gV), r = some (.int x1) ∧ post x1 v1 ∧ w1 = gW cy ad ln v1 ou) := by
  unfold wp_X0_hasNumber at h
  refine mM.of (cc := cX0_hasNumber) (nL := 3) (ret0 := (some .boolean)) (by decide +kernel) rfl (Nat.le_of_ble_eq_true rfl) ?_
  intro p e s m args below meth c A C hini
  refine mW.sub (lv' := [(0, .ref (ad P)), (1, .int a1)]) [0, 1] rfl ?_
  refine m_iconst (v := 0) C dX0_hasNumber_0 (by decide) ?_
  refine m_istore_n (lv' := [(2, .int 0), (0, .ref (ad P)), (1, .int a1)]) C dX0_hasNumber_1 rfl (by decide) rfl ?_
  obtain ⟨I2, ⟨n0, h0⟩, hI⟩ := h
  refine mW.sub (lv' := [(0, .ref (ad P)), (1, .int a1), (2, .int 0)]) [1, 2, 0] rfl ?_
  refine m_ind (σ := Int32) (fun n z => I2 n z) (fun z => gW cy ad ln v ou) 2 (fun z => [(0, .ref (ad P)), (1, .int a1), (2, .int z)]) ?_ n0 (0) h0
  intro n x1 hi ih
  have h := hI n x1 hi
  show mW _ _ _ _ _ _ _ _ _ _ _ _ _ _ _ _ (gW cy ad ln v ou) 2 [(0, .ref (ad P)), (1, .int a1), (2, .int x1)] []
  refine m_iload_n C dX0_hasNumber_2 rfl 2 rfl ?_
  refine m_aload_n C dX0_hasNumber_3 rfl 0 rfl ?_
  refine m_get (T := TX0) (N := 3) C hiX0_hasNumber_X0 P (gp_C hP1 hP2) rfl 1 (by decide) (by decide +kernel) rfl dX0_hasNumber_4 ?_
  refine m_icmp_ge (tgt := 28) C dX0_hasNumber_7 (by decide) (fun c2 => ?_) (fun c2 => ?_)
  · have h := h.1 c2
    refine m_iconst (v := 0) C dX0_hasNumber_28 (by decide) ?_
    obtain ⟨hz, h⟩ := h
    exact m_zret C dX0_hasNumber_29 (Nat.le_of_ble_eq_true rfl) (Nat.le_of_ble_eq_true rfl) hz ⟨_, _, rfl, h, rfl⟩
  · have h := h.2 c2
    refine m_aload_n C dX0_hasNumber_10 rfl 0 rfl ?_
    refine m_get (T := TX0) (N := 3) C hiX0_hasNumber_X0 P (gp_C hP1 hP2) rfl 0 (by decide) (by decide +kernel) rfl dX0_hasNumber_11 ?_
    refine m_iload_n C dX0_hasNumber_14 rfl 2 rfl ?_
    obtain ⟨b3, h⟩ := h
    refine m_iald C (P + 16) (gp_I (gIs_N hP1 hP2)) b3 dX0_hasNumber_15 ?_
    refine m_iload_n C dX0_hasNumber_16 rfl 1 rfl ?_
    refine m_icmp_ne (tgt := 22) C dX0_hasNumber_17 (by decide) (fun c4 => ?_) (fun c4 => ?_)
    · have h := h.2 c4
      refine m_iinc (lv' := [(2, .int (x1 + 1)), (0, .ref (ad P)), (1, .int a1)]) C dX0_hasNumber_22 (k := 2) rfl rfl (by decide) rfl ?_
      refine m_goto (tgt := 2) C dX0_hasNumber_25 (by decide) ?_
      obtain ⟨n5, hn, h⟩ := h
      exact mW.sub [1, 2, 0] rfl (ih n5 ((x1 + 1)) hn h)
    · have h := h.1 c4
      refine m_iconst (v := 1) C dX0_hasNumber_20 (by decide) ?_
      obtain ⟨hz, h⟩ := h
      exact m_zret C dX0_hasNumber_21 (Nat.le_of_ble_eq_true rfl) (Nat.le_of_ble_eq_true rfl) hz ⟨_, _, rfl, h, rfl⟩
theorem hiX1_endOfPart_X1 : ∀ w ∈ wsX10, w ∈ wsX1_endOfPart := by decide +kernel
def wp_X1_endOfPart (ln : Nat → Nat) (v : gV) (r1 : Nat) (a2 : Int32) (a3 : Int32) (post : Int32 → gV → Prop) : Prop :=
  ∀ x1 : Int32, x1 = (if a2 + (v 1 2) < a3 then a2 + (v 1 2) else a3) → (∃ I18 : Nat → Int32 → Int32 → Prop, (∃ n, I18 n 0 a2) ∧ ∀ (n : Nat) (x2 : Int32) (x3 : Int32), I18 n x2 x3 → (((x1 ≤ x3) → (post x1 v)) ∧ (¬ (x1 ≤ x3) → (vp_in x3 (ln r1) ∧ (∀ x6 : Int32, x6 = ((ptn x2 1) ^^^ (pmk ((v r1 x3.toNatClampNeg) &&& 255))) → (((¬ ((x3 - a2) < 8)) → vp_in (x3 - 8) (ln r1)) ∧ (((((x3 - a2) + 1) < (v 1 1)) → (∃ n', n' < n ∧ I18 n' (if (x3 - a2) < 8 then x6 else x6 ^^^ (ptn (pmk ((v r1 (x3 - 8).toNatClampNeg) &&& 255)) 8)) (x3 + 1))) ∧ (¬ (((x3 - a2) + 1) < (v 1 1)) → (((((if (x3 - a2) < 8 then x6 else x6 ^^^ (ptn (pmk ((v r1 (x3 - 8).toNatClampNeg) &&& 255)) 8)) &&& (v 1 0)) = 0) → (post (x3 + 1) v)) ∧ (¬ (((if (x3 - a2) < 8 then x6 else x6 ^^^ (ptn (pmk ((v r1 (x3 - 8).toNatClampNeg) &&& 255)) 8)) &&& (v 1 0)) = 0) → (∃ n', n' < n ∧ I18 n' (if (x3 - a2) < 8 then x6 else x6 ^^^ (ptn (pmk ((v r1 (x3 - 8).toNatClampNeg) &&& 255)) 8)) (x3 + 1))))))))))))
set_option maxHeartbeats 4000000 in
set_option maxRecDepth 100000 in
theorem s_X1_endOfPart (l : Launch) (D : va_G) (cy : Nat → ClassId) (ad ln : Nat → Nat) (v : gV) (ou : Nat → Int64) (r1 : Nat) (a2 : Int32) (a3 : Int32) (hr1 : gBs r1 = true) {post : Int32 → gV → Prop} (h : wp_X1_endOfPart ln v r1 a2 a3 post) : mM l D cy yX1_endOfPart wsX1_endOfPart 2 0 0 [.ref (ad 1), .ref (ad r1), .int a2, .int a3] (gW cy ad ln v ou) (fun r w1 => ∃ (x1 : Int32) (v1 : gV), r = some (.int x1) ∧ post x1 v1 ∧ w1 = gW cy ad ln v1 ou) := by
  unfold wp_X1_endOfPart at h
  refine mM.of (cc := cX1_endOfPart) (nL := 7) (ret0 := (some .int)) (by decide +kernel) rfl (Nat.le_of_ble_eq_true rfl) ?_
  intro p e s m args below meth c A C hini
  refine mW.sub (lv' := [(0, .ref (ad 1)), (1, .ref (ad r1)), (2, .int a2), (3, .int a3)]) [0, 1, 2, 3] rfl ?_
  refine m_iload_n C dX1_endOfPart_0 rfl 3 rfl ?_
  refine m_iload_n C dX1_endOfPart_1 rfl 2 rfl ?_
  refine m_aload_n C dX1_endOfPart_2 rfl 0 rfl ?_
  refine m_get (T := TX1) (N := 3) C hiX1_endOfPart_X1 1 gp_1 rfl 2 (by decide) (by decide +kernel) rfl dX1_endOfPart_3 ?_
  refine m_iadd C dX1_endOfPart_6 ?_
  refine m_mmin (index := 19) C (by decide +kernel) (by decide +kernel) (by decide +kernel) (by decide +kernel) (by decide) (Nat.le_of_ble_eq_true rfl) (Nat.le_of_ble_eq_true rfl) (Nat.le_of_ble_eq_true rfl) dX1_endOfPart_7 ?_
  refine m_topi (fun x1 ex1 => ?_)
  have h := h x1 ex1
  refine m_istore (lv' := [(4, .int x1), (0, .ref (ad 1)), (1, .ref (ad r1)), (2, .int a2), (3, .int a3)]) C dX1_endOfPart_10 (by decide) rfl ?_
  refine m_iconst (v := 0) C dX1_endOfPart_12 (by decide) ?_
  refine m_istore (lv' := [(5, .int 0), (4, .int x1), (0, .ref (ad 1)), (1, .ref (ad r1)), (2, .int a2), (3, .int a3)]) C dX1_endOfPart_13 (by decide) rfl ?_
  refine m_iload_n C dX1_endOfPart_15 rfl 4 rfl ?_
  refine m_istore (lv' := [(6, .int a2), (5, .int 0), (4, .int x1), (0, .ref (ad 1)), (1, .ref (ad r1)), (2, .int a2), (3, .int a3)]) C dX1_endOfPart_16 (by decide) rfl ?_
  obtain ⟨I18, ⟨n0, h0⟩, hI⟩ := h
  refine mW.sub (lv' := [(0, .ref (ad 1)), (1, .ref (ad r1)), (2, .int a2), (3, .int a3), (4, .int x1), (5, .int 0), (6, .int a2)]) [3, 4, 5, 6, 2, 1, 0] rfl ?_
  refine m_ind (σ := Int32 × Int32) (fun n z => I18 n z.1 z.2) (fun z => gW cy ad ln v ou) 18 (fun z => [(0, .ref (ad 1)), (1, .ref (ad r1)), (2, .int a2), (3, .int a3), (4, .int x1), (5, .int z.1), (6, .int z.2)]) ?_ n0 (0, a2) h0
  intro n z hi ih
  obtain ⟨x2, x3⟩ := z
  have h := hI n x2 x3 hi
  show mW _ _ _ _ _ _ _ _ _ _ _ _ _ _ _ _ (gW cy ad ln v ou) 18 [(0, .ref (ad 1)), (1, .ref (ad r1)), (2, .int a2), (3, .int a3), (4, .int x1), (5, .int x2), (6, .int x3)] []
  refine m_iload C dX1_endOfPart_18 6 rfl ?_
  refine m_iload C dX1_endOfPart_20 4 rfl ?_
  refine m_icmp_ge (tgt := 104) C dX1_endOfPart_22 (by decide) (fun c4 => ?_) (fun c4 => ?_)
  · have h := h.1 c4
    refine m_iload C dX1_endOfPart_104 4 rfl ?_
    exact m_iret C dX1_endOfPart_106 (Nat.le_of_ble_eq_true rfl) (Nat.le_of_ble_eq_true rfl) ⟨_, _, rfl, h, rfl⟩
  · have h := h.2 c4
    refine m_iload C dX1_endOfPart_25 5 rfl ?_
    refine m_iconst (v := 1) C dX1_endOfPart_27 (by decide) ?_
    refine m_callS C (p_X1_turned l D cy ad ln v ou x2 1) (va_cwS 2 C.2.2.2.2.1 gX1_endOfPart_X1_turned rfl rfl rfl (by decide +kernel) ⟨Nat.le_of_ble_eq_true rfl, Nat.le_of_ble_eq_true rfl⟩) rfl rfl (Nat.le_of_ble_eq_true rfl) dX1_endOfPart_28 ⟨by decide, by decide⟩ (fun r w1 h1 => ?_)
    obtain ⟨rfl, rfl⟩ := h1
    refine mW.eq (st' := [.int (ptn x2 1)]) rfl rfl rfl rfl ?_
    refine m_aload_n C dX1_endOfPart_31 rfl 1 rfl ?_
    refine m_iload C dX1_endOfPart_32 6 rfl ?_
    obtain ⟨b5, h⟩ := h
    refine m_bald C r1 (gp_B hr1) b5 dX1_endOfPart_34 ?_
    refine m_callS C (p_X1_mark l D cy ad ln v ou (v r1 x3.toNatClampNeg)) (va_cwS 1 C.2.2.2.2.1 gX1_endOfPart_X1_mark rfl rfl rfl (by decide +kernel) ⟨Nat.le_of_ble_eq_true rfl, Nat.le_of_ble_eq_true rfl⟩) rfl rfl (Nat.le_of_ble_eq_true rfl) dX1_endOfPart_35 ⟨by decide, by decide⟩ (fun r w1 h1 => ?_)
    obtain ⟨rfl, rfl⟩ := h1
    refine mW.eq (st' := [.int (pmk ((v r1 x3.toNatClampNeg) &&& 255)), .int (ptn x2 1)]) rfl rfl rfl rfl ?_
    refine m_ixor C dX1_endOfPart_38 ?_
    refine m_topi (fun x6 ex6 => ?_)
    have h := h x6 ex6
    refine m_istore (lv' := [(5, .int x6), (0, .ref (ad 1)), (1, .ref (ad r1)), (2, .int a2), (3, .int a3), (4, .int x1), (6, .int x3)]) C dX1_endOfPart_39 (by decide) rfl ?_
    refine m_iload C dX1_endOfPart_41 6 rfl ?_
    refine m_iload_n C dX1_endOfPart_43 rfl 3 rfl ?_
    refine m_isub C dX1_endOfPart_44 ?_
    refine m_bipush (v := 8) C dX1_endOfPart_45 (by decide) ?_
    obtain ⟨b8, h⟩ := h
    refine m_join (P := 70) (wM := gW cy ad ln v ou) (lvM := [(5, .int (if (x3 - a2) < 8 then x6 else x6 ^^^ (ptn (pmk ((v r1 (x3 - 8).toNatClampNeg) &&& 255)) 8))), (0, .ref (ad 1)), (1, .ref (ad r1)), (2, .int a2), (3, .int a3), (4, .int x1), (6, .int x3)]) (stM := []) ?_ (fun hJ70_9 => ?_)
    · refine m_iload C dX1_endOfPart_70 6 rfl ?_
      refine m_iload_n C dX1_endOfPart_72 rfl 3 rfl ?_
      refine m_isub C dX1_endOfPart_73 ?_
      refine m_iconst (v := 1) C dX1_endOfPart_74 (by decide) ?_
      refine m_iadd C dX1_endOfPart_75 ?_
      refine m_aload_n C dX1_endOfPart_76 rfl 1 rfl ?_
      refine m_get (T := TX1) (N := 3) C hiX1_endOfPart_X1 1 gp_1 rfl 1 (by decide) (by decide +kernel) rfl dX1_endOfPart_77 ?_
      refine m_icmp_lt (tgt := 98) C dX1_endOfPart_80 (by decide) (fun c10 => ?_) (fun c10 => ?_)
      · have h := h.1 c10
        refine m_iinc (lv' := [(6, .int (x3 + 1)), (5, .int (if (x3 - a2) < 8 then x6 else x6 ^^^ (ptn (pmk ((v r1 (x3 - 8).toNatClampNeg) &&& 255)) 8))), (0, .ref (ad 1)), (1, .ref (ad r1)), (2, .int a2), (3, .int a3), (4, .int x1)]) C dX1_endOfPart_98 (k := 6) rfl rfl (by decide) rfl ?_
        refine m_goto (tgt := 18) C dX1_endOfPart_101 (by decide) ?_
        obtain ⟨n11, hn, h⟩ := h
        exact mW.sub [2, 3, 4, 5, 6, 1, 0] rfl (ih n11 ((if (x3 - a2) < 8 then x6 else x6 ^^^ (ptn (pmk ((v r1 (x3 - 8).toNatClampNeg) &&& 255)) 8)), (x3 + 1)) hn h)
      · have h := h.2 c10
        refine m_iload C dX1_endOfPart_83 0 rfl ?_
        refine m_aload_n C dX1_endOfPart_85 rfl 1 rfl ?_
        refine m_get (T := TX1) (N := 3) C hiX1_endOfPart_X1 1 gp_1 rfl 0 (by decide) (by decide +kernel) rfl dX1_endOfPart_86 ?_
        refine m_iand C dX1_endOfPart_89 ?_
        refine m_if_ne (tgt := 98) C dX1_endOfPart_90 (by decide) (fun c12 => ?_) (fun c12 => ?_)
        · have h := h.2 c12
          refine m_iinc (lv' := [(6, .int (x3 + 1)), (5, .int (if (x3 - a2) < 8 then x6 else x6 ^^^ (ptn (pmk ((v r1 (x3 - 8).toNatClampNeg) &&& 255)) 8))), (0, .ref (ad 1)), (1, .ref (ad r1)), (2, .int a2), (3, .int a3), (4, .int x1)]) C dX1_endOfPart_98 (k := 6) rfl rfl (by decide) rfl ?_
          refine m_goto (tgt := 18) C dX1_endOfPart_101 (by decide) ?_
          obtain ⟨n13, hn, h⟩ := h
          exact mW.sub [2, 3, 4, 5, 6, 1, 0] rfl (ih n13 ((if (x3 - a2) < 8 then x6 else x6 ^^^ (ptn (pmk ((v r1 (x3 - 8).toNatClampNeg) &&& 255)) 8)), (x3 + 1)) hn h)
        · have h := h.1 c12
          refine m_iload C dX1_endOfPart_93 6 rfl ?_
          refine m_iconst (v := 1) C dX1_endOfPart_95 (by decide) ?_
          refine m_iadd C dX1_endOfPart_96 ?_
          exact m_iret C dX1_endOfPart_97 (Nat.le_of_ble_eq_true rfl) (Nat.le_of_ble_eq_true rfl) ⟨_, _, rfl, h, rfl⟩
    · refine m_icmp_lt (tgt := 70) C dX1_endOfPart_47 (by decide) (fun c7 => ?_) (fun c7 => ?_)
      · refine mW.sub (lv' := [(5, .int x6), (0, .ref (ad 1)), (1, .ref (ad r1)), (2, .int a2), (3, .int a3), (4, .int x1), (6, .int x3)]) [0, 1, 2, 3, 4, 5, 6] rfl ?_
        exact mW.eq rfl (by simp only [if_pos c7]) rfl rfl hJ70_9
      · refine m_iload C dX1_endOfPart_50 0 rfl ?_
        refine m_aload_n C dX1_endOfPart_52 rfl 2 rfl ?_
        refine m_iload C dX1_endOfPart_53 6 rfl ?_
        refine m_bipush (v := 8) C dX1_endOfPart_55 (by decide) ?_
        refine m_isub C dX1_endOfPart_57 ?_
        refine m_bald C r1 (gp_B hr1) (b8 c7) dX1_endOfPart_58 ?_
        refine m_callS C (p_X1_mark l D cy ad ln v ou (v r1 (x3 - 8).toNatClampNeg)) (va_cwS 1 C.2.2.2.2.1 gX1_endOfPart_X1_mark rfl rfl rfl (by decide +kernel) ⟨Nat.le_of_ble_eq_true rfl, Nat.le_of_ble_eq_true rfl⟩) rfl rfl (Nat.le_of_ble_eq_true rfl) dX1_endOfPart_59 ⟨by decide, by decide⟩ (fun r w1 h1 => ?_)
        obtain ⟨rfl, rfl⟩ := h1
        refine mW.eq (st' := [.int (pmk ((v r1 (x3 - 8).toNatClampNeg) &&& 255)), .int x6]) rfl rfl rfl rfl ?_
        refine m_bipush (v := 8) C dX1_endOfPart_62 (by decide) ?_
        refine m_callS C (p_X1_turned l D cy ad ln v ou (pmk ((v r1 (x3 - 8).toNatClampNeg) &&& 255)) 8) (va_cwS 2 C.2.2.2.2.1 gX1_endOfPart_X1_turned rfl rfl rfl (by decide +kernel) ⟨Nat.le_of_ble_eq_true rfl, Nat.le_of_ble_eq_true rfl⟩) rfl rfl (Nat.le_of_ble_eq_true rfl) dX1_endOfPart_64 ⟨by decide, by decide⟩ (fun r w1 h1 => ?_)
        obtain ⟨rfl, rfl⟩ := h1
        refine mW.eq (st' := [.int (ptn (pmk ((v r1 (x3 - 8).toNatClampNeg) &&& 255)) 8), .int x6]) rfl rfl rfl rfl ?_
        refine m_ixor C dX1_endOfPart_67 ?_
        refine m_istore (lv' := [(5, .int (x6 ^^^ (ptn (pmk ((v r1 (x3 - 8).toNatClampNeg) &&& 255)) 8))), (0, .ref (ad 1)), (1, .ref (ad r1)), (2, .int a2), (3, .int a3), (4, .int x1), (6, .int x3)]) C dX1_endOfPart_68 (by decide) rfl ?_
        refine mW.sub (lv' := [(5, .int (x6 ^^^ (ptn (pmk ((v r1 (x3 - 8).toNatClampNeg) &&& 255)) 8))), (0, .ref (ad 1)), (1, .ref (ad r1)), (2, .int a2), (3, .int a3), (4, .int x1), (6, .int x3)]) [0, 1, 2, 3, 4, 5, 6] rfl ?_
        exact mW.eq rfl (by simp only [if_neg c7]) rfl rfl hJ70_9
end
section
theorem p_X4_isFile (l : Launch) (D : va_G) (cy : Nat → ClassId) (ad ln : Nat → Nat) (v : gV) (ou : Nat → Int64) (a1 : Int32) : mM l D cy yX4_isFile wsX4_isFile 2 0 0 [.int a1] (gW cy ad ln v ou) (fun r w1 => r = some (.int (pin a1 0 15)) ∧ w1 = gW cy ad ln v ou) := by
  refine pu_i (s_X4_isFile l D cy ad ln v ou a1 ?_)
  unfold wp_X4_isFile
  exact ⟨pin_nz a1 0 15, rfl, rfl⟩

theorem p_X2_usesOf (l : Launch) (D : va_G) (cy : Nat → ClassId) (ad ln : Nat → Nat) (v : gV) (ou : Nat → Int64) (a1 : Int32) (h8 : ln 8 = 400) : mM l D cy yX2_usesOf wsX2_usesOf 2 0 0 [.ref (ad 2), .int a1] (gW cy ad ln v ou) (fun r w1 => r = some (.int (pus v a1)) ∧ w1 = gW cy ad ln v ou) := by
  refine pu_i (s_X2_usesOf l D cy ad ln v ou a1 ?_)
  unfold wp_X2_usesOf
  refine ⟨h8, ?_, rfl, rfl⟩
  intro q
  rw [h8]
  exact phs_in q

theorem p_X2_lengthOf (l : Launch) (D : va_G) (cy : Nat → ClassId) (ad ln : Nat → Nat) (v : gV) (ou : Nat → Int64) (a1 : Int32) (h8 : ln 8 = 400) (h9 : ln 9 = 400) : mM l D cy yX2_lengthOf wsX2_lengthOf 2 0 0 [.ref (ad 2), .int a1] (gW cy ad ln v ou) (fun r w1 => r = some (.int (plo v a1)) ∧ w1 = gW cy ad ln v ou) := by
  refine pu_i (s_X2_lengthOf l D cy ad ln v ou a1 ?_)
  unfold wp_X2_lengthOf
  refine ⟨h8, ?_, rfl, rfl⟩
  intro q
  rw [h9]
  exact phs_in q
end
section
theorem hiX2_byteOf_X2 : ∀ w ∈ wsX20, w ∈ wsX2_byteOf := by decide +kernel
def wp_X2_byteOf (ln : Nat → Nat) (v : gV) (a1 : Int32) (a2 : Int32) (post : Int32 → gV → Prop) : Prop :=
  ((a2 < 0) → (post (-1) v)) ∧ (¬ (a2 < 0) → (ln 8 = 400 ∧ (ln 9 = 400 ∧ (((a2 < (plo v a1)) → (vp_in ((a1 * 64) + a2) (ln 13) ∧ (post ((v 13 ((a1 * 64) + a2).toNatClampNeg) &&& 255) v))) ∧ (¬ (a2 < (plo v a1)) → (post (-1) v))))))
set_option maxHeartbeats 4000000 in
set_option maxRecDepth 100000 in
theorem s_X2_byteOf (l : Launch) (D : va_G) (cy : Nat → ClassId) (ad ln : Nat → Nat) (v : gV) (ou : Nat → Int64) (a1 : Int32) (a2 : Int32) {post : Int32 → gV → Prop} (h : wp_X2_byteOf ln v a1 a2 post) : mM l D cy yX2_byteOf wsX2_byteOf 3 0 0 [.ref (ad 2), .int a1, .int a2] (gW cy ad ln v ou) (fun r w1 => ∃ (x1 : Int32) (v1 : gV), r = some (.int x1) ∧ post x1 v1 ∧ w1 = gW cy ad ln v1 ou) := by
  unfold wp_X2_byteOf at h
  refine mM.of (cc := cX2_byteOf) (nL := 3) (ret0 := (some .int)) (by decide +kernel) rfl (Nat.le_of_ble_eq_true rfl) ?_
  intro p e s m args below meth c A C hini
  refine mW.sub (lv' := [(0, .ref (ad 2)), (1, .int a1), (2, .int a2)]) [0, 1, 2] rfl ?_
  refine m_iload_n C dX2_byteOf_0 rfl 2 rfl ?_
  refine m_if_lt (tgt := 13) C dX2_byteOf_1 (by decide) (fun c1 => ?_) (fun c1 => ?_)
  · have h := h.1 c1
    refine m_iconst (v := (-1)) C dX2_byteOf_13 (by decide) ?_
    exact m_iret C dX2_byteOf_14 (Nat.le_of_ble_eq_true rfl) (Nat.le_of_ble_eq_true rfl) ⟨_, _, rfl, h, rfl⟩
  · have h := h.2 c1
    refine m_iload_n C dX2_byteOf_4 rfl 2 rfl ?_
    refine m_aload_n C dX2_byteOf_5 rfl 0 rfl ?_
    refine m_iload_n C dX2_byteOf_6 rfl 1 rfl ?_
    obtain ⟨b2, h⟩ := h
    obtain ⟨b3, h⟩ := h
    refine m_callV C (p_X2_lengthOf l D cy ad ln v ou a1 b2 b3) (cwV 1 C.2.2.2.2.1 gX2_byteOf_X2_lengthOf rfl rfl rfl (by decide +kernel) ⟨Nat.le_of_ble_eq_true rfl, Nat.le_of_ble_eq_true rfl⟩) 2 gp_2 rfl rfl rfl (Nat.le_of_ble_eq_true rfl) dX2_byteOf_7 ⟨by decide, by decide⟩ (fun r w1 h1 => ?_)
    obtain ⟨rfl, rfl⟩ := h1
    refine mW.eq (st' := [.int (plo v a1), .int a2]) rfl rfl rfl rfl ?_
    refine m_icmp_lt (tgt := 15) C dX2_byteOf_10 (by decide) (fun c4 => ?_) (fun c4 => ?_)
    · have h := h.1 c4
      refine m_aload_n C dX2_byteOf_15 rfl 0 rfl ?_
      refine m_get (T := TX2) (N := 9) C hiX2_byteOf_X2 2 gp_2 rfl 5 (by decide) (by decide +kernel) rfl dX2_byteOf_16 ?_
      refine m_iload_n C dX2_byteOf_19 rfl 1 rfl ?_
      refine m_bipush (v := 64) C dX2_byteOf_20 (by decide) ?_
      refine m_imul C dX2_byteOf_22 ?_
      refine m_iload_n C dX2_byteOf_23 rfl 2 rfl ?_
      refine m_iadd C dX2_byteOf_24 ?_
      obtain ⟨b5, h⟩ := h
      refine m_bald C 13 (gp_B (by decide)) b5 dX2_byteOf_25 ?_
      refine m_sipush (v := 255) C dX2_byteOf_26 (by decide) ?_
      refine m_iand C dX2_byteOf_29 ?_
      exact m_iret C dX2_byteOf_30 (Nat.le_of_ble_eq_true rfl) (Nat.le_of_ble_eq_true rfl) ⟨_, _, rfl, h, rfl⟩
    · have h := h.2 c4
      refine m_iconst (v := (-1)) C dX2_byteOf_13 (by decide) ?_
      exact m_iret C dX2_byteOf_14 (Nat.le_of_ble_eq_true rfl) (Nat.le_of_ble_eq_true rfl) ⟨_, _, rfl, h, rfl⟩
theorem hiX2_writeOut_X2 : ∀ w ∈ wsX20, w ∈ wsX2_writeOut := by decide +kernel
def wp_X2_writeOut (ln : Nat → Nat) (v : gV) (a1 : Int32) (r2 : Nat) (a3 : Int32) (post : Int32 → gV → Prop) : Prop :=
  ln 8 = 400 ∧ (ln 9 = 400 ∧ ((((plo v a1) = 0) → (post 0 v)) ∧ (¬ ((plo v a1) = 0) → (((a3 < 0) → (post 0 v)) ∧ (¬ (a3 < 0) → ((((plo v a1) ≤ ((Int32.ofNat (ln r2)) - a3)) → ((¬ (a1 * 64) < 0) ∧ ((¬ a3 < 0) ∧ ((¬ (plo v a1) < 0) ∧ (((a1 * 64).toNatClampNeg + (plo v a1).toNatClampNeg ≤ ln 13) ∧ ((a3.toNatClampNeg + (plo v a1).toNatClampNeg ≤ ln r2) ∧ ((∀ i, i < (plo v a1).toNatClampNeg → fits .byte (.int (v 13 ((a1 * 64).toNatClampNeg + i))) = true) ∧ (∀ v6 : gV, v6 = va_up v r2 (va_cpy (v 13) (v r2) (a1 * 64).toNatClampNeg a3.toNatClampNeg (plo v a1).toNatClampNeg) → (post (plo v a1) v6))))))))) ∧ (¬ ((plo v a1) ≤ ((Int32.ofNat (ln r2)) - a3)) → (post 0 v))))))))
set_option maxHeartbeats 4000000 in
set_option maxRecDepth 100000 in
theorem s_X2_writeOut (l : Launch) (D : va_G) (cy : Nat → ClassId) (ad ln : Nat → Nat) (v : gV) (ou : Nat → Int64) (a1 : Int32) (r2 : Nat) (a3 : Int32) (hr2 : gBs r2 = true) {post : Int32 → gV → Prop} (h : wp_X2_writeOut ln v a1 r2 a3 post) : mM l D cy yX2_writeOut wsX2_writeOut 3 0 0 [.ref (ad 2), .int a1, .ref (ad r2), .int a3] (gW cy ad ln v ou) (fun r w1 => ∃ (x1 : Int32) (v1 : gV), r = some (.int x1) ∧ post x1 v1 ∧ w1 = gW cy ad ln v1 ou) := by
  unfold wp_X2_writeOut at h
  refine mM.of (cc := cX2_writeOut) (nL := 5) (ret0 := (some .int)) (by decide +kernel) rfl (Nat.le_of_ble_eq_true rfl) ?_
  intro p e s m args below meth c A C hini
  refine mW.sub (lv' := [(0, .ref (ad 2)), (1, .int a1), (2, .ref (ad r2)), (3, .int a3)]) [0, 1, 2, 3] rfl ?_
  refine m_aload_n C dX2_writeOut_0 rfl 0 rfl ?_
  refine m_iload_n C dX2_writeOut_1 rfl 1 rfl ?_
  obtain ⟨b1, h⟩ := h
  obtain ⟨b2, h⟩ := h
  refine m_callV C (p_X2_lengthOf l D cy ad ln v ou a1 b1 b2) (cwV 1 C.2.2.2.2.1 gX2_writeOut_X2_lengthOf rfl rfl rfl (by decide +kernel) ⟨Nat.le_of_ble_eq_true rfl, Nat.le_of_ble_eq_true rfl⟩) 2 gp_2 rfl rfl rfl (Nat.le_of_ble_eq_true rfl) dX2_writeOut_2 ⟨by decide, by decide⟩ (fun r w1 h1 => ?_)
  obtain ⟨rfl, rfl⟩ := h1
  refine mW.eq (st' := [.int (plo v a1)]) rfl rfl rfl rfl ?_
  refine m_istore (lv' := [(4, .int (plo v a1)), (0, .ref (ad 2)), (1, .int a1), (2, .ref (ad r2)), (3, .int a3)]) C dX2_writeOut_5 (by decide) rfl ?_
  refine m_iload C dX2_writeOut_7 0 rfl ?_
  refine m_if_eq (tgt := 25) C dX2_writeOut_9 (by decide) (fun c3 => ?_) (fun c3 => ?_)
  · have h := h.1 c3
    refine m_iconst (v := 0) C dX2_writeOut_25 (by decide) ?_
    exact m_iret C dX2_writeOut_26 (Nat.le_of_ble_eq_true rfl) (Nat.le_of_ble_eq_true rfl) ⟨_, _, rfl, h, rfl⟩
  · have h := h.2 c3
    refine m_iload_n C dX2_writeOut_12 rfl 4 rfl ?_
    refine m_if_lt (tgt := 25) C dX2_writeOut_13 (by decide) (fun c4 => ?_) (fun c4 => ?_)
    · have h := h.1 c4
      refine m_iconst (v := 0) C dX2_writeOut_25 (by decide) ?_
      exact m_iret C dX2_writeOut_26 (Nat.le_of_ble_eq_true rfl) (Nat.le_of_ble_eq_true rfl) ⟨_, _, rfl, h, rfl⟩
    · have h := h.2 c4
      refine m_iload C dX2_writeOut_16 0 rfl ?_
      refine m_aload_n C dX2_writeOut_18 rfl 3 rfl ?_
      refine m_alen C r2 1 (gp_B hr2) rfl rfl dX2_writeOut_19 ?_
      refine m_iload_n C dX2_writeOut_20 rfl 4 rfl ?_
      refine m_isub C dX2_writeOut_21 ?_
      refine m_icmp_le (tgt := 27) C dX2_writeOut_22 (by decide) (fun c5 => ?_) (fun c5 => ?_)
      · have h := h.1 c5
        refine m_aload_n C dX2_writeOut_27 rfl 1 rfl ?_
        refine m_get (T := TX2) (N := 9) C hiX2_writeOut_X2 2 gp_2 rfl 5 (by decide) (by decide +kernel) rfl dX2_writeOut_28 ?_
        refine m_iload_n C dX2_writeOut_31 rfl 2 rfl ?_
        refine m_bipush (v := 64) C dX2_writeOut_32 (by decide) ?_
        refine m_imul C dX2_writeOut_34 ?_
        refine m_aload_n C dX2_writeOut_35 rfl 3 rfl ?_
        refine m_iload_n C dX2_writeOut_36 rfl 4 rfl ?_
        refine m_iload C dX2_writeOut_37 0 rfl ?_
        obtain ⟨b7, h⟩ := h
        obtain ⟨b8, h⟩ := h
        obtain ⟨b9, h⟩ := h
        obtain ⟨b10, h⟩ := h
        obtain ⟨b11, h⟩ := h
        obtain ⟨b12, h⟩ := h
        obtain ⟨v6, ev6⟩ : ∃ z : gV, z = va_up v r2 (va_cpy (v 13) (v r2) (a1 * 64).toNatClampNeg a3.toNatClampNeg (plo v a1).toNatClampNeg) := ⟨_, rfl⟩
        have h := h v6 ev6
        refine m_copy (w' := gW cy ad ln v6 ou) C (by decide +kernel) (by decide +kernel) (by decide +kernel) (by decide +kernel) 13 r2 1 1 (gp_B (by decide)) (gp_B hr2) rfl rfl rfl b7 b8 b9 b10 b11 b12 (Nat.le_of_ble_eq_true rfl) (Nat.le_of_ble_eq_true rfl) dX2_writeOut_39 (by rw [ev6]; exact gs_B hr2) ?_
        refine m_iload C dX2_writeOut_42 0 rfl ?_
        exact m_iret C dX2_writeOut_44 (Nat.le_of_ble_eq_true rfl) (Nat.le_of_ble_eq_true rfl) ⟨_, _, rfl, h, rfl⟩
      · have h := h.2 c5
        refine m_iconst (v := 0) C dX2_writeOut_25 (by decide) ?_
        exact m_iret C dX2_writeOut_26 (Nat.le_of_ble_eq_true rfl) (Nat.le_of_ble_eq_true rfl) ⟨_, _, rfl, h, rfl⟩
theorem hiX2_find_X2 : ∀ w ∈ wsX20, w ∈ wsX2_find := by decide +kernel
def wp_X2_find (ln : Nat → Nat) (v : gV) (a1 : Int32) (r2 : Nat) (a3 : Int32) (a4 : Int32) (post : Int32 → gV → Prop) : Prop :=
  vp_in (a1 &&& 511) (ln 12) ∧ (∀ x2 : Int32, x2 = (v 12 (a1 &&& 511).toNatClampNeg) → (∃ I15 : Nat → Int32 → Int32 → gV → Prop, (∃ n, I15 n x2 0 v) ∧ ∀ (n : Nat) (x3 : Int32) (x4 : Int32) (v5 : gV), I15 n x3 x4 v5 → (((400 ≤ x4) → (post (-1) v5)) ∧ (¬ (400 ≤ x4) → (ln 8 = 400 ∧ ((((phs v5 x3) = 0) → (post (-1) v5)) ∧ (¬ ((phs v5 x3) = 0) → (vp_in x3 (ln 10) ∧ ((((v5 10 x3.toNatClampNeg) = a1) → (vp_in x3 (ln 9) ∧ ((((v5 9 x3.toNatClampNeg) = a4) → (wp_X2_sameBytes ln v5 x3 r2 a3 (fun (x17 : Int32) (v18 : gV) => (((x17 = 0) → (vp_in x3 (ln 11) ∧ (∃ n', n' < n ∧ I15 n' (v18 11 x3.toNatClampNeg) (x4 + 1) v18))) ∧ (¬ (x17 = 0) → (post x3 v18)))))) ∧ (¬ ((v5 9 x3.toNatClampNeg) = a4) → (vp_in x3 (ln 11) ∧ (∃ n', n' < n ∧ I15 n' (v5 11 x3.toNatClampNeg) (x4 + 1) v5)))))) ∧ (¬ ((v5 10 x3.toNatClampNeg) = a1) → (vp_in x3 (ln 11) ∧ (∃ n', n' < n ∧ I15 n' (v5 11 x3.toNatClampNeg) (x4 + 1) v5))))))))))))
set_option maxHeartbeats 4000000 in
set_option maxRecDepth 100000 in
theorem s_X2_find (l : Launch) (D : va_G) (cy : Nat → ClassId) (ad ln : Nat → Nat) (v : gV) (ou : Nat → Int64) (a1 : Int32) (r2 : Nat) (a3 : Int32) (a4 : Int32) (hr2 : gBs r2 = true) {post : Int32 → gV → Prop} (h : wp_X2_find ln v a1 r2 a3 a4 post) : mM l D cy yX2_find wsX2_find 2 0 0 [.ref (ad 2), .int a1, .ref (ad r2), .int a3, .int a4] (gW cy ad ln v ou) (fun r w1 => ∃ (x1 : Int32) (v1 : gV), r = some (.int x1) ∧ post x1 v1 ∧ w1 = gW cy ad ln v1 ou) := by
  unfold wp_X2_find at h
  refine mM.of (cc := cX2_find) (nL := 7) (ret0 := (some .int)) (by decide +kernel) rfl (Nat.le_of_ble_eq_true rfl) ?_
  intro p e s m args below meth c A C hini
  refine mW.sub (lv' := [(0, .ref (ad 2)), (1, .int a1), (2, .ref (ad r2)), (3, .int a3), (4, .int a4)]) [0, 1, 2, 3, 4] rfl ?_
  refine m_aload_n C dX2_find_0 rfl 0 rfl ?_
  refine m_get (T := TX2) (N := 9) C hiX2_find_X2 2 gp_2 rfl 4 (by decide) (by decide +kernel) rfl dX2_find_1 ?_
  refine m_iload_n C dX2_find_4 rfl 1 rfl ?_
  refine m_sipush (v := 511) C dX2_find_5 (by decide) ?_
  refine m_iand C dX2_find_8 ?_
  obtain ⟨b1, h⟩ := h
  refine m_iald C 12 (gp_I (by decide)) b1 dX2_find_9 ?_
  refine m_topi (fun x2 ex2 => ?_)
  have h := h x2 ex2
  refine m_istore (lv' := [(5, .int x2), (0, .ref (ad 2)), (1, .int a1), (2, .ref (ad r2)), (3, .int a3), (4, .int a4)]) C dX2_find_10 (by decide) rfl ?_
  refine m_iconst (v := 0) C dX2_find_12 (by decide) ?_
  refine m_istore (lv' := [(6, .int 0), (5, .int x2), (0, .ref (ad 2)), (1, .int a1), (2, .ref (ad r2)), (3, .int a3), (4, .int a4)]) C dX2_find_13 (by decide) rfl ?_
  obtain ⟨I15, ⟨n0, h0⟩, hI⟩ := h
  refine mW.sub (lv' := [(0, .ref (ad 2)), (1, .int a1), (2, .ref (ad r2)), (3, .int a3), (4, .int a4), (5, .int x2), (6, .int 0)]) [2, 3, 4, 5, 6, 1, 0] rfl ?_
  refine m_ind (σ := Int32 × Int32 × gV) (fun n z => I15 n z.1 z.2.1 z.2.2) (fun z => gW cy ad ln z.2.2 ou) 15 (fun z => [(0, .ref (ad 2)), (1, .int a1), (2, .ref (ad r2)), (3, .int a3), (4, .int a4), (5, .int z.1), (6, .int z.2.1)]) ?_ n0 (x2, 0, v) h0
  intro n z hi ih
  obtain ⟨x3, x4, v5⟩ := z
  have h := hI n x3 x4 v5 hi
  show mW _ _ _ _ _ _ _ _ _ _ _ _ _ _ _ _ (gW cy ad ln v5 ou) 15 [(0, .ref (ad 2)), (1, .int a1), (2, .ref (ad r2)), (3, .int a3), (4, .int a4), (5, .int x3), (6, .int x4)] []
  refine m_iload C dX2_find_15 6 rfl ?_
  refine m_sipush (v := 400) C dX2_find_17 (by decide) ?_
  refine m_icmp_ge (tgt := 84) C dX2_find_20 (by decide) (fun c6 => ?_) (fun c6 => ?_)
  · have h := h.1 c6
    refine m_iconst (v := (-1)) C dX2_find_84 (by decide) ?_
    exact m_iret C dX2_find_85 (Nat.le_of_ble_eq_true rfl) (Nat.le_of_ble_eq_true rfl) ⟨_, _, rfl, h, rfl⟩
  · have h := h.2 c6
    refine m_aload_n C dX2_find_23 rfl 0 rfl ?_
    refine m_iload C dX2_find_24 5 rfl ?_
    obtain ⟨b7, h⟩ := h
    refine m_callV C (p_X2_has l D cy ad ln v5 ou x3 b7) (cwV 1 C.2.2.2.2.1 gX2_find_X2_has rfl rfl rfl (by decide +kernel) ⟨Nat.le_of_ble_eq_true rfl, Nat.le_of_ble_eq_true rfl⟩) 2 gp_2 rfl rfl rfl (Nat.le_of_ble_eq_true rfl) dX2_find_26 ⟨by decide, by decide⟩ (fun r w1 h1 => ?_)
    obtain ⟨rfl, rfl⟩ := h1
    refine mW.eq (st' := [.int (phs v5 x3)]) rfl rfl rfl rfl ?_
    refine m_if_eq (tgt := 84) C dX2_find_29 (by decide) (fun c8 => ?_) (fun c8 => ?_)
    · have h := h.1 c8
      refine m_iconst (v := (-1)) C dX2_find_84 (by decide) ?_
      exact m_iret C dX2_find_85 (Nat.le_of_ble_eq_true rfl) (Nat.le_of_ble_eq_true rfl) ⟨_, _, rfl, h, rfl⟩
    · have h := h.2 c8
      refine m_aload_n C dX2_find_32 rfl 0 rfl ?_
      refine m_get (T := TX2) (N := 9) C hiX2_find_X2 2 gp_2 rfl 2 (by decide) (by decide +kernel) rfl dX2_find_33 ?_
      refine m_iload C dX2_find_36 5 rfl ?_
      obtain ⟨b9, h⟩ := h
      refine m_iald C 10 (gp_I (by decide)) b9 dX2_find_38 ?_
      refine m_iload_n C dX2_find_39 rfl 1 rfl ?_
      refine m_icmp_ne (tgt := 69) C dX2_find_40 (by decide) (fun c10 => ?_) (fun c10 => ?_)
      · have h := h.2 c10
        refine m_aload_n C dX2_find_69 rfl 0 rfl ?_
        refine m_get (T := TX2) (N := 9) C hiX2_find_X2 2 gp_2 rfl 3 (by decide) (by decide +kernel) rfl dX2_find_70 ?_
        refine m_iload C dX2_find_73 5 rfl ?_
        obtain ⟨b11, h⟩ := h
        refine m_iald C 11 (gp_I (by decide)) b11 dX2_find_75 ?_
        refine m_istore (lv' := [(5, .int (v5 11 x3.toNatClampNeg)), (0, .ref (ad 2)), (1, .int a1), (2, .ref (ad r2)), (3, .int a3), (4, .int a4), (6, .int x4)]) C dX2_find_76 (by decide) rfl ?_
        refine m_iinc (lv' := [(6, .int (x4 + 1)), (5, .int (v5 11 x3.toNatClampNeg)), (0, .ref (ad 2)), (1, .int a1), (2, .ref (ad r2)), (3, .int a3), (4, .int a4)]) C dX2_find_78 (k := 6) rfl rfl (by decide) rfl ?_
        refine m_goto (tgt := 15) C dX2_find_81 (by decide) ?_
        obtain ⟨n12, hn, h⟩ := h
        exact mW.sub [2, 3, 4, 5, 6, 1, 0] rfl (ih n12 ((v5 11 x3.toNatClampNeg), (x4 + 1), v5) hn h)
      · have h := h.1 c10
        refine m_aload_n C dX2_find_43 rfl 0 rfl ?_
        refine m_get (T := TX2) (N := 9) C hiX2_find_X2 2 gp_2 rfl 1 (by decide) (by decide +kernel) rfl dX2_find_44 ?_
        refine m_iload C dX2_find_47 5 rfl ?_
        obtain ⟨b13, h⟩ := h
        refine m_iald C 9 (gp_I (by decide)) b13 dX2_find_49 ?_
        refine m_iload C dX2_find_50 4 rfl ?_
        refine m_icmp_ne (tgt := 69) C dX2_find_52 (by decide) (fun c14 => ?_) (fun c14 => ?_)
        · have h := h.2 c14
          refine m_aload_n C dX2_find_69 rfl 0 rfl ?_
          refine m_get (T := TX2) (N := 9) C hiX2_find_X2 2 gp_2 rfl 3 (by decide) (by decide +kernel) rfl dX2_find_70 ?_
          refine m_iload C dX2_find_73 5 rfl ?_
          obtain ⟨b15, h⟩ := h
          refine m_iald C 11 (gp_I (by decide)) b15 dX2_find_75 ?_
          refine m_istore (lv' := [(5, .int (v5 11 x3.toNatClampNeg)), (0, .ref (ad 2)), (1, .int a1), (2, .ref (ad r2)), (3, .int a3), (4, .int a4), (6, .int x4)]) C dX2_find_76 (by decide) rfl ?_
          refine m_iinc (lv' := [(6, .int (x4 + 1)), (5, .int (v5 11 x3.toNatClampNeg)), (0, .ref (ad 2)), (1, .int a1), (2, .ref (ad r2)), (3, .int a3), (4, .int a4)]) C dX2_find_78 (k := 6) rfl rfl (by decide) rfl ?_
          refine m_goto (tgt := 15) C dX2_find_81 (by decide) ?_
          obtain ⟨n16, hn, h⟩ := h
          exact mW.sub [2, 3, 4, 5, 6, 1, 0] rfl (ih n16 ((v5 11 x3.toNatClampNeg), (x4 + 1), v5) hn h)
        · have h := h.1 c14
          refine m_aload_n C dX2_find_55 rfl 0 rfl ?_
          refine m_iload C dX2_find_56 5 rfl ?_
          refine m_aload_n C dX2_find_58 rfl 2 rfl ?_
          refine m_iload_n C dX2_find_59 rfl 3 rfl ?_
          refine m_callV C (s_X2_sameBytes l D cy ad ln v5 ou x3 r2 a3 hr2 h) (cwV 3 C.2.2.2.2.1 gX2_find_X2_sameBytes rfl rfl rfl (by decide +kernel) ⟨Nat.le_of_ble_eq_true rfl, Nat.le_of_ble_eq_true rfl⟩) 2 gp_2 rfl rfl rfl (Nat.le_of_ble_eq_true rfl) dX2_find_60 ⟨by decide, by decide⟩ (fun r w1 h1 => ?_)
          obtain ⟨x17, v18, rfl, h, rfl⟩ := h1
          refine mW.eq (st' := [.int x17]) rfl rfl rfl rfl ?_
          refine m_if_eq (tgt := 69) C dX2_find_63 (by decide) (fun c19 => ?_) (fun c19 => ?_)
          · have h := h.1 c19
            refine m_aload_n C dX2_find_69 rfl 0 rfl ?_
            refine m_get (T := TX2) (N := 9) C hiX2_find_X2 2 gp_2 rfl 3 (by decide) (by decide +kernel) rfl dX2_find_70 ?_
            refine m_iload C dX2_find_73 5 rfl ?_
            obtain ⟨b20, h⟩ := h
            refine m_iald C 11 (gp_I (by decide)) b20 dX2_find_75 ?_
            refine m_istore (lv' := [(5, .int (v18 11 x3.toNatClampNeg)), (0, .ref (ad 2)), (1, .int a1), (2, .ref (ad r2)), (3, .int a3), (4, .int a4), (6, .int x4)]) C dX2_find_76 (by decide) rfl ?_
            refine m_iinc (lv' := [(6, .int (x4 + 1)), (5, .int (v18 11 x3.toNatClampNeg)), (0, .ref (ad 2)), (1, .int a1), (2, .ref (ad r2)), (3, .int a3), (4, .int a4)]) C dX2_find_78 (k := 6) rfl rfl (by decide) rfl ?_
            refine m_goto (tgt := 15) C dX2_find_81 (by decide) ?_
            obtain ⟨n21, hn, h⟩ := h
            exact mW.sub [2, 3, 4, 5, 6, 1, 0] rfl (ih n21 ((v18 11 x3.toNatClampNeg), (x4 + 1), v18) hn h)
          · have h := h.2 c19
            refine m_iload C dX2_find_66 5 rfl ?_
            exact m_iret C dX2_find_68 (Nat.le_of_ble_eq_true rfl) (Nat.le_of_ble_eq_true rfl) ⟨_, _, rfl, h, rfl⟩
theorem hiX2_unchain_X2 : ∀ w ∈ wsX20, w ∈ wsX2_unchain := by decide +kernel
def wp_X2_unchain (ln : Nat → Nat) (v : gV) (a1 : Int32) (post : gV → Prop) : Prop :=
  vp_in a1 (ln 10) ∧ (∀ x2 : Int32, x2 = ((v 10 a1.toNatClampNeg) &&& 511) → (vp_in x2 (ln 12) ∧ ((((v 12 x2.toNatClampNeg) = a1) → (vp_in a1 (ln 11) ∧ (vp_in x2 (ln 12) ∧ ∀ v20 : gV, v20 = va_up v 12 (upd (v 12) x2.toNatClampNeg (v 11 a1.toNatClampNeg)) → (post v20)))) ∧ (¬ ((v 12 x2.toNatClampNeg) = a1) → (vp_in x2 (ln 12) ∧ (∃ I44 : Nat → Int32 → Int32 → Prop, (∃ n, I44 n (v 12 x2.toNatClampNeg) 0) ∧ ∀ (n : Nat) (x6 : Int32) (x7 : Int32), I44 n x6 x7 → (((400 ≤ x7) → (post v)) ∧ (¬ (400 ≤ x7) → (ln 8 = 400 ∧ ((((phs v x6) = 0) → (post v)) ∧ (¬ ((phs v x6) = 0) → (vp_in x6 (ln 11) ∧ ((((v 11 x6.toNatClampNeg) = a1) → (vp_in a1 (ln 11) ∧ (vp_in x6 (ln 11) ∧ ∀ v17 : gV, v17 = va_up v 11 (upd (v 11) x6.toNatClampNeg (v 11 a1.toNatClampNeg)) → (post v17)))) ∧ (¬ ((v 11 x6.toNatClampNeg) = a1) → (vp_in x6 (ln 11) ∧ (∃ n', n' < n ∧ I44 n' (v 11 x6.toNatClampNeg) (x7 + 1)))))))))))))))))
set_option maxHeartbeats 4000000 in
set_option maxRecDepth 100000 in
theorem s_X2_unchain (l : Launch) (D : va_G) (cy : Nat → ClassId) (ad ln : Nat → Nat) (v : gV) (ou : Nat → Int64) (a1 : Int32) {post : gV → Prop} (h : wp_X2_unchain ln v a1 post) : mM l D cy yX2_unchain wsX2_unchain 2 0 0 [.ref (ad 2), .int a1] (gW cy ad ln v ou) (fun r w1 => ∃ v1 : gV, r = none ∧ post v1 ∧ w1 = gW cy ad ln v1 ou) := by
  unfold wp_X2_unchain at h
  refine mM.of (cc := cX2_unchain) (nL := 5) (ret0 := none) (by decide +kernel) rfl (Nat.le_of_ble_eq_true rfl) ?_
  intro p e s m args below meth c A C hini
  refine mW.sub (lv' := [(0, .ref (ad 2)), (1, .int a1)]) [0, 1] rfl ?_
  refine m_aload_n C dX2_unchain_0 rfl 0 rfl ?_
  refine m_get (T := TX2) (N := 9) C hiX2_unchain_X2 2 gp_2 rfl 2 (by decide) (by decide +kernel) rfl dX2_unchain_1 ?_
  refine m_iload_n C dX2_unchain_4 rfl 1 rfl ?_
  obtain ⟨b1, h⟩ := h
  refine m_iald C 10 (gp_I (by decide)) b1 dX2_unchain_5 ?_
  refine m_sipush (v := 511) C dX2_unchain_6 (by decide) ?_
  refine m_iand C dX2_unchain_9 ?_
  refine m_topi (fun x2 ex2 => ?_)
  have h := h x2 ex2
  refine m_istore_n (lv' := [(2, .int x2), (0, .ref (ad 2)), (1, .int a1)]) C dX2_unchain_10 rfl (by decide) rfl ?_
  refine m_aload_n C dX2_unchain_11 rfl 1 rfl ?_
  refine m_get (T := TX2) (N := 9) C hiX2_unchain_X2 2 gp_2 rfl 4 (by decide) (by decide +kernel) rfl dX2_unchain_12 ?_
  refine m_iload_n C dX2_unchain_15 rfl 0 rfl ?_
  obtain ⟨b3, h⟩ := h
  refine m_iald C 12 (gp_I (by decide)) b3 dX2_unchain_16 ?_
  refine m_iload_n C dX2_unchain_17 rfl 2 rfl ?_
  refine m_icmp_ne (tgt := 34) C dX2_unchain_18 (by decide) (fun c4 => ?_) (fun c4 => ?_)
  · have h := h.2 c4
    refine m_aload_n C dX2_unchain_34 rfl 1 rfl ?_
    refine m_get (T := TX2) (N := 9) C hiX2_unchain_X2 2 gp_2 rfl 4 (by decide) (by decide +kernel) rfl dX2_unchain_35 ?_
    refine m_iload_n C dX2_unchain_38 rfl 0 rfl ?_
    obtain ⟨b5, h⟩ := h
    refine m_iald C 12 (gp_I (by decide)) b5 dX2_unchain_39 ?_
    refine m_istore_n (lv' := [(3, .int (v 12 x2.toNatClampNeg)), (2, .int x2), (0, .ref (ad 2)), (1, .int a1)]) C dX2_unchain_40 rfl (by decide) rfl ?_
    refine m_iconst (v := 0) C dX2_unchain_41 (by decide) ?_
    refine m_istore (lv' := [(4, .int 0), (3, .int (v 12 x2.toNatClampNeg)), (2, .int x2), (0, .ref (ad 2)), (1, .int a1)]) C dX2_unchain_42 (by decide) rfl ?_
    obtain ⟨I44, ⟨n0, h0⟩, hI⟩ := h
    refine mW.sub (lv' := [(0, .ref (ad 2)), (1, .int a1), (2, .int x2), (3, .int (v 12 x2.toNatClampNeg)), (4, .int 0)]) [3, 4, 2, 1, 0] rfl ?_
    refine m_ind (σ := Int32 × Int32) (fun n z => I44 n z.1 z.2) (fun z => gW cy ad ln v ou) 44 (fun z => [(0, .ref (ad 2)), (1, .int a1), (2, .int x2), (3, .int z.1), (4, .int z.2)]) ?_ n0 ((v 12 x2.toNatClampNeg), 0) h0
    intro n z hi ih
    obtain ⟨x6, x7⟩ := z
    have h := hI n x6 x7 hi
    show mW _ _ _ _ _ _ _ _ _ _ _ _ _ _ _ _ (gW cy ad ln v ou) 44 [(0, .ref (ad 2)), (1, .int a1), (2, .int x2), (3, .int x6), (4, .int x7)] []
    refine m_iload C dX2_unchain_44 4 rfl ?_
    refine m_sipush (v := 400) C dX2_unchain_46 (by decide) ?_
    refine m_icmp_ge (tgt := 96) C dX2_unchain_49 (by decide) (fun c8 => ?_) (fun c8 => ?_)
    · have h := h.1 c8
      exact m_vret C dX2_unchain_96 (Nat.le_of_ble_eq_true rfl) (Nat.le_of_ble_eq_true rfl) ⟨_, rfl, h, rfl⟩
    · have h := h.2 c8
      refine m_aload_n C dX2_unchain_52 rfl 0 rfl ?_
      refine m_iload_n C dX2_unchain_53 rfl 3 rfl ?_
      obtain ⟨b9, h⟩ := h
      refine m_callV C (p_X2_has l D cy ad ln v ou x6 b9) (cwV 1 C.2.2.2.2.1 gX2_unchain_X2_has rfl rfl rfl (by decide +kernel) ⟨Nat.le_of_ble_eq_true rfl, Nat.le_of_ble_eq_true rfl⟩) 2 gp_2 rfl rfl rfl (Nat.le_of_ble_eq_true rfl) dX2_unchain_54 ⟨by decide, by decide⟩ (fun r w1 h1 => ?_)
      obtain ⟨rfl, rfl⟩ := h1
      refine mW.eq (st' := [.int (phs v x6)]) rfl rfl rfl rfl ?_
      refine m_if_eq (tgt := 96) C dX2_unchain_57 (by decide) (fun c10 => ?_) (fun c10 => ?_)
      · have h := h.1 c10
        exact m_vret C dX2_unchain_96 (Nat.le_of_ble_eq_true rfl) (Nat.le_of_ble_eq_true rfl) ⟨_, rfl, h, rfl⟩
      · have h := h.2 c10
        refine m_aload_n C dX2_unchain_60 rfl 0 rfl ?_
        refine m_get (T := TX2) (N := 9) C hiX2_unchain_X2 2 gp_2 rfl 3 (by decide) (by decide +kernel) rfl dX2_unchain_61 ?_
        refine m_iload_n C dX2_unchain_64 rfl 3 rfl ?_
        obtain ⟨b11, h⟩ := h
        refine m_iald C 11 (gp_I (by decide)) b11 dX2_unchain_65 ?_
        refine m_iload_n C dX2_unchain_66 rfl 1 rfl ?_
        refine m_icmp_ne (tgt := 83) C dX2_unchain_67 (by decide) (fun c12 => ?_) (fun c12 => ?_)
        · have h := h.2 c12
          refine m_aload_n C dX2_unchain_83 rfl 0 rfl ?_
          refine m_get (T := TX2) (N := 9) C hiX2_unchain_X2 2 gp_2 rfl 3 (by decide) (by decide +kernel) rfl dX2_unchain_84 ?_
          refine m_iload_n C dX2_unchain_87 rfl 3 rfl ?_
          obtain ⟨b13, h⟩ := h
          refine m_iald C 11 (gp_I (by decide)) b13 dX2_unchain_88 ?_
          refine m_istore_n (lv' := [(3, .int (v 11 x6.toNatClampNeg)), (0, .ref (ad 2)), (1, .int a1), (2, .int x2), (4, .int x7)]) C dX2_unchain_89 rfl (by decide) rfl ?_
          refine m_iinc (lv' := [(4, .int (x7 + 1)), (3, .int (v 11 x6.toNatClampNeg)), (0, .ref (ad 2)), (1, .int a1), (2, .int x2)]) C dX2_unchain_90 (k := 4) rfl rfl (by decide) rfl ?_
          refine m_goto (tgt := 44) C dX2_unchain_93 (by decide) ?_
          obtain ⟨n14, hn, h⟩ := h
          exact mW.sub [2, 3, 4, 1, 0] rfl (ih n14 ((v 11 x6.toNatClampNeg), (x7 + 1)) hn h)
        · have h := h.1 c12
          refine m_aload_n C dX2_unchain_70 rfl 0 rfl ?_
          refine m_get (T := TX2) (N := 9) C hiX2_unchain_X2 2 gp_2 rfl 3 (by decide) (by decide +kernel) rfl dX2_unchain_71 ?_
          refine m_iload_n C dX2_unchain_74 rfl 3 rfl ?_
          refine m_aload_n C dX2_unchain_75 rfl 0 rfl ?_
          refine m_get (T := TX2) (N := 9) C hiX2_unchain_X2 2 gp_2 rfl 3 (by decide) (by decide +kernel) rfl dX2_unchain_76 ?_
          refine m_iload_n C dX2_unchain_79 rfl 1 rfl ?_
          obtain ⟨b15, h⟩ := h
          refine m_iald C 11 (gp_I (by decide)) b15 dX2_unchain_80 ?_
          obtain ⟨b16, h⟩ := h
          obtain ⟨v17, ev17⟩ : ∃ z : gV, z = va_up v 11 (upd (v 11) x6.toNatClampNeg (v 11 a1.toNatClampNeg)) := ⟨_, rfl⟩
          have h := h v17 ev17
          refine m_iast (w' := gW cy ad ln v17 ou) C 11 (gp_I (by decide)) b16 dX2_unchain_81 (by rw [ev17]; exact gs_I (by decide)) ?_
          exact m_vret C dX2_unchain_82 (Nat.le_of_ble_eq_true rfl) (Nat.le_of_ble_eq_true rfl) ⟨_, rfl, h, rfl⟩
  · have h := h.1 c4
    refine m_aload_n C dX2_unchain_21 rfl 1 rfl ?_
    refine m_get (T := TX2) (N := 9) C hiX2_unchain_X2 2 gp_2 rfl 4 (by decide) (by decide +kernel) rfl dX2_unchain_22 ?_
    refine m_iload_n C dX2_unchain_25 rfl 0 rfl ?_
    refine m_aload_n C dX2_unchain_26 rfl 1 rfl ?_
    refine m_get (T := TX2) (N := 9) C hiX2_unchain_X2 2 gp_2 rfl 3 (by decide) (by decide +kernel) rfl dX2_unchain_27 ?_
    refine m_iload_n C dX2_unchain_30 rfl 2 rfl ?_
    obtain ⟨b18, h⟩ := h
    refine m_iald C 11 (gp_I (by decide)) b18 dX2_unchain_31 ?_
    obtain ⟨b19, h⟩ := h
    obtain ⟨v20, ev20⟩ : ∃ z : gV, z = va_up v 12 (upd (v 12) x2.toNatClampNeg (v 11 a1.toNatClampNeg)) := ⟨_, rfl⟩
    have h := h v20 ev20
    refine m_iast (w' := gW cy ad ln v20 ou) C 12 (gp_I (by decide)) b19 dX2_unchain_32 (by rw [ev20]; exact gs_I (by decide)) ?_
    exact m_vret C dX2_unchain_33 (Nat.le_of_ble_eq_true rfl) (Nat.le_of_ble_eq_true rfl) ⟨_, rfl, h, rfl⟩
theorem hiX2_giveBack_X2 : ∀ w ∈ wsX20, w ∈ wsX2_giveBack := by decide +kernel
def wp_X2_giveBack (ln : Nat → Nat) (v : gV) (a1 : Int32) (post : gV → Prop) : Prop :=
  ln 8 = 400 ∧ ((((phs v a1) = 0) → (post v)) ∧ (¬ ((phs v a1) = 0) → (vp_in a1 (ln 8) ∧ (vp_in a1 (ln 8) ∧ ∀ v5 : gV, v5 = va_up v 8 (upd (v 8) a1.toNatClampNeg ((v 8 a1.toNatClampNeg) - 1)) → (vp_in a1 (ln 8) ∧ ((((v5 8 a1.toNatClampNeg) = 0) → (wp_X2_unchain ln v5 a1 (fun (v9 : gV) => (∀ v10 : gV, v10 = va_up v9 2 (upd (v9 2) 6 (if a1 < v9 2 6 then a1 else v9 2 6)) → (∀ v11 : gV, v11 = va_up v10 2 (upd (v10 2) 7 ((v10 2 7) - 1)) → (vp_in a1 (ln 9) ∧ (∀ v13 : gV, v13 = va_up v11 2 (upd (v11 2) 8 ((v11 2 8) - (v11 9 a1.toNatClampNeg))) → (post v13)))))))) ∧ (¬ ((v5 8 a1.toNatClampNeg) = 0) → (post v5))))))))
set_option maxHeartbeats 4000000 in
set_option maxRecDepth 100000 in
theorem s_X2_giveBack (l : Launch) (D : va_G) (cy : Nat → ClassId) (ad ln : Nat → Nat) (v : gV) (ou : Nat → Int64) (a1 : Int32) {post : gV → Prop} (h : wp_X2_giveBack ln v a1 post) : mM l D cy yX2_giveBack wsX2_giveBack 3 0 0 [.ref (ad 2), .int a1] (gW cy ad ln v ou) (fun r w1 => ∃ v1 : gV, r = none ∧ post v1 ∧ w1 = gW cy ad ln v1 ou) := by
  unfold wp_X2_giveBack at h
  refine mM.of (cc := cX2_giveBack) (nL := 2) (ret0 := none) (by decide +kernel) rfl (Nat.le_of_ble_eq_true rfl) ?_
  intro p e s m args below meth c A C hini
  refine mW.sub (lv' := [(0, .ref (ad 2)), (1, .int a1)]) [0, 1] rfl ?_
  refine m_aload_n C dX2_giveBack_0 rfl 0 rfl ?_
  refine m_iload_n C dX2_giveBack_1 rfl 1 rfl ?_
  obtain ⟨b1, h⟩ := h
  refine m_callV C (p_X2_has l D cy ad ln v ou a1 b1) (cwV 1 C.2.2.2.2.1 gX2_giveBack_X2_has rfl rfl rfl (by decide +kernel) ⟨Nat.le_of_ble_eq_true rfl, Nat.le_of_ble_eq_true rfl⟩) 2 gp_2 rfl rfl rfl (Nat.le_of_ble_eq_true rfl) dX2_giveBack_2 ⟨by decide, by decide⟩ (fun r w1 h1 => ?_)
  obtain ⟨rfl, rfl⟩ := h1
  refine mW.eq (st' := [.int (phs v a1)]) rfl rfl rfl rfl ?_
  refine m_if_ne (tgt := 9) C dX2_giveBack_5 (by decide) (fun c2 => ?_) (fun c2 => ?_)
  · have h := h.2 c2
    refine m_aload_n C dX2_giveBack_9 rfl 0 rfl ?_
    refine m_get (T := TX2) (N := 9) C hiX2_giveBack_X2 2 gp_2 rfl 0 (by decide) (by decide +kernel) rfl dX2_giveBack_10 ?_
    refine m_iload_n C dX2_giveBack_13 rfl 1 rfl ?_
    refine m_dup2_11 C dX2_giveBack_14 rfl rfl ?_
    obtain ⟨b3, h⟩ := h
    refine m_iald C 8 (gp_I (by decide)) b3 dX2_giveBack_15 ?_
    refine m_iconst (v := 1) C dX2_giveBack_16 (by decide) ?_
    refine m_isub C dX2_giveBack_17 ?_
    obtain ⟨b4, h⟩ := h
    obtain ⟨v5, ev5⟩ : ∃ z : gV, z = va_up v 8 (upd (v 8) a1.toNatClampNeg ((v 8 a1.toNatClampNeg) - 1)) := ⟨_, rfl⟩
    have h := h v5 ev5
    refine m_iast (w' := gW cy ad ln v5 ou) C 8 (gp_I (by decide)) b4 dX2_giveBack_18 (by rw [ev5]; exact gs_I (by decide)) ?_
    refine m_aload_n C dX2_giveBack_19 rfl 0 rfl ?_
    refine m_get (T := TX2) (N := 9) C hiX2_giveBack_X2 2 gp_2 rfl 0 (by decide) (by decide +kernel) rfl dX2_giveBack_20 ?_
    refine m_iload_n C dX2_giveBack_23 rfl 1 rfl ?_
    obtain ⟨b6, h⟩ := h
    refine m_iald C 8 (gp_I (by decide)) b6 dX2_giveBack_24 ?_
    refine m_if_ne (tgt := 70) C dX2_giveBack_25 (by decide) (fun c7 => ?_) (fun c7 => ?_)
    · have h := h.2 c7
      exact m_vret C dX2_giveBack_70 (Nat.le_of_ble_eq_true rfl) (Nat.le_of_ble_eq_true rfl) ⟨_, rfl, h, rfl⟩
    · have h := h.1 c7
      refine m_aload_n C dX2_giveBack_28 rfl 0 rfl ?_
      refine m_iload_n C dX2_giveBack_29 rfl 1 rfl ?_
      refine m_callV C (s_X2_unchain l D cy ad ln v5 ou a1  h) (cwV 1 C.2.2.2.2.1 gX2_giveBack_X2_unchain rfl rfl rfl (by decide +kernel) ⟨Nat.le_of_ble_eq_true rfl, Nat.le_of_ble_eq_true rfl⟩) 2 gp_2 rfl rfl rfl (Nat.le_of_ble_eq_true rfl) dX2_giveBack_30 ⟨by decide, by decide⟩ (fun r w1 h1 => ?_)
      obtain ⟨v9, rfl, h, rfl⟩ := h1
      refine mW.eq (st' := []) rfl rfl rfl rfl ?_
      refine m_aload_n C dX2_giveBack_33 rfl 0 rfl ?_
      refine m_aload_n C dX2_giveBack_34 rfl 0 rfl ?_
      refine m_get (T := TX2) (N := 9) C hiX2_giveBack_X2 2 gp_2 rfl 6 (by decide) (by decide +kernel) rfl dX2_giveBack_35 ?_
      refine m_iload_n C dX2_giveBack_38 rfl 1 rfl ?_
      refine m_mmin (index := 79) C (by decide +kernel) (by decide +kernel) (by decide +kernel) (by decide +kernel) (by decide) (Nat.le_of_ble_eq_true rfl) (Nat.le_of_ble_eq_true rfl) (Nat.le_of_ble_eq_true rfl) dX2_giveBack_39 ?_
      obtain ⟨v10, ev10⟩ : ∃ z : gV, z = va_up v9 2 (upd (v9 2) 6 (if a1 < v9 2 6 then a1 else v9 2 6)) := ⟨_, rfl⟩
      have h := h v10 ev10
      refine m_put (w' := gW cy ad ln v10 ou) (T := TX2) (N := 9) C hiX2_giveBack_X2 tyX2 tyX2_ok nmX2 2 gp_2 rfl 6 (by decide) (by decide +kernel) rfl rfl rfl (Nat.le_of_ble_eq_true rfl) dX2_giveBack_42 (by rw [ev10]; exact gW_set (k := 2) (by decide) rfl) ?_
      refine m_aload_n C dX2_giveBack_45 rfl 0 rfl ?_
      refine m_dup C dX2_giveBack_46 rfl ?_
      refine m_get (T := TX2) (N := 9) C hiX2_giveBack_X2 2 gp_2 rfl 7 (by decide) (by decide +kernel) rfl dX2_giveBack_47 ?_
      refine m_iconst (v := 1) C dX2_giveBack_50 (by decide) ?_
      refine m_isub C dX2_giveBack_51 ?_
      obtain ⟨v11, ev11⟩ : ∃ z : gV, z = va_up v10 2 (upd (v10 2) 7 ((v10 2 7) - 1)) := ⟨_, rfl⟩
      have h := h v11 ev11
      refine m_put (w' := gW cy ad ln v11 ou) (T := TX2) (N := 9) C hiX2_giveBack_X2 tyX2 tyX2_ok nmX2 2 gp_2 rfl 7 (by decide) (by decide +kernel) rfl rfl rfl (Nat.le_of_ble_eq_true rfl) dX2_giveBack_52 (by rw [ev11]; exact gW_set (k := 2) (by decide) rfl) ?_
      refine m_aload_n C dX2_giveBack_55 rfl 0 rfl ?_
      refine m_dup C dX2_giveBack_56 rfl ?_
      refine m_get (T := TX2) (N := 9) C hiX2_giveBack_X2 2 gp_2 rfl 8 (by decide) (by decide +kernel) rfl dX2_giveBack_57 ?_
      refine m_aload_n C dX2_giveBack_60 rfl 0 rfl ?_
      refine m_get (T := TX2) (N := 9) C hiX2_giveBack_X2 2 gp_2 rfl 1 (by decide) (by decide +kernel) rfl dX2_giveBack_61 ?_
      refine m_iload_n C dX2_giveBack_64 rfl 1 rfl ?_
      obtain ⟨b12, h⟩ := h
      refine m_iald C 9 (gp_I (by decide)) b12 dX2_giveBack_65 ?_
      refine m_isub C dX2_giveBack_66 ?_
      obtain ⟨v13, ev13⟩ : ∃ z : gV, z = va_up v11 2 (upd (v11 2) 8 ((v11 2 8) - (v11 9 a1.toNatClampNeg))) := ⟨_, rfl⟩
      have h := h v13 ev13
      refine m_put (w' := gW cy ad ln v13 ou) (T := TX2) (N := 9) C hiX2_giveBack_X2 tyX2 tyX2_ok nmX2 2 gp_2 rfl 8 (by decide) (by decide +kernel) rfl rfl rfl (Nat.le_of_ble_eq_true rfl) dX2_giveBack_67 (by rw [ev13]; exact gW_set (k := 2) (by decide) rfl) ?_
      exact m_vret C dX2_giveBack_70 (Nat.le_of_ble_eq_true rfl) (Nat.le_of_ble_eq_true rfl) ⟨_, rfl, h, rfl⟩
  · have h := h.1 c2
    exact m_vret C dX2_giveBack_8 (Nat.le_of_ble_eq_true rfl) (Nat.le_of_ble_eq_true rfl) ⟨_, rfl, h, rfl⟩
theorem hiX4_begin_X4 : ∀ w ∈ wsX40, w ∈ wsX4_begin := by decide +kernel
def wp_X4_begin (ln : Nat → Nat) (v : gV) (a1 : Int32) (a2 : Int32) (a3 : Int32) (post : gV → Prop) : Prop :=
  (∀ x5 : Int32, x5 = (if (pin a1 1 8) = 0 then 0 else if (pin a2 1 32) = 0 then 0 else if (pin a3 a2 64) = 0 then 0 else 1) → ((∀ v8 : gV, v8 = vrf v (if x5 = 0 then 1 else 0) 0 0 → ((((prf (if x5 = 0 then 1 else 0) 0 0) = 0) → (∀ v10 : gV, v10 = va_up v8 46 (upd (v8 46) 1 a1) → (∀ v11 : gV, v11 = va_up v10 46 (upd (v10 46) 2 a2) → (∀ v12 : gV, v12 = va_up v11 46 (upd (v11 46) 3 a3) → (∃ I74 : Nat → Int32 → gV → Prop, (∃ n, I74 n 0 v12) ∧ ∀ (n : Nat) (x13 : Int32) (v14 : gV), I74 n x13 v14 → (((16 ≤ x13) → (∃ I106 : Nat → Int32 → gV → Prop, (∃ n, I106 n 0 v14) ∧ ∀ (n : Nat) (x16 : Int32) (v17 : gV), I106 n x16 v17 → (((400 ≤ x16) → (post v17)) ∧ (¬ (400 ≤ x16) → (vp_in x16 (ln 56) ∧ ∀ v20 : gV, v20 = va_up v17 56 (upd (v17 56) x16.toNatClampNeg 0) → (∃ n', n' < n ∧ I106 n' (x16 + 1) v20)))))) ∧ (¬ (16 ≤ x13) → (vp_in x13 (ln 52) ∧ ∀ v23 : gV, v23 = va_up v14 52 (upd (v14 52) x13.toNatClampNeg 0) → (vp_in x13 (ln 54) ∧ ∀ v25 : gV, v25 = va_up v23 54 (upd (v23 54) x13.toNatClampNeg 0) → (∃ n', n' < n ∧ I74 n' (x13 + 1) v25)))))))))) ∧ (¬ ((prf (if x5 = 0 then 1 else 0) 0 0) = 0) → (post v8))))))
set_option maxHeartbeats 4000000 in
set_option maxRecDepth 100000 in
theorem s_X4_begin (l : Launch) (D : va_G) (cy : Nat → ClassId) (ad ln : Nat → Nat) (v : gV) (ou : Nat → Int64) (a1 : Int32) (a2 : Int32) (a3 : Int32) {post : gV → Prop} (h : wp_X4_begin ln v a1 a2 a3 post) : mM l D cy yX4_begin wsX4_begin 2 0 0 [.ref (ad 46), .int a1, .int a2, .int a3] (gW cy ad ln v ou) (fun r w1 => ∃ v1 : gV, r = none ∧ post v1 ∧ w1 = gW cy ad ln v1 ou) := by
  unfold wp_X4_begin at h
  refine mM.of (cc := cX4_begin) (nL := 6) (ret0 := none) (by decide +kernel) rfl (Nat.le_of_ble_eq_true rfl) ?_
  intro p e s m args below meth c A C hini
  refine mW.sub (lv' := [(0, .ref (ad 46)), (1, .int a1), (2, .int a2), (3, .int a3)]) [0, 1, 2, 3] rfl ?_
  refine m_iload_n C dX4_begin_0 rfl 1 rfl ?_
  refine m_iconst (v := 1) C dX4_begin_1 (by decide) ?_
  refine m_bipush (v := 8) C dX4_begin_2 (by decide) ?_
  refine m_callS C (p_X4_in l D cy ad ln v ou a1 1 8) (va_cwS 3 C.2.2.2.2.1 gX4_begin_X4_in rfl rfl rfl (by decide +kernel) ⟨Nat.le_of_ble_eq_true rfl, Nat.le_of_ble_eq_true rfl⟩) rfl rfl (Nat.le_of_ble_eq_true rfl) dX4_begin_4 ⟨by decide, by decide⟩ (fun r w1 h1 => ?_)
  obtain ⟨rfl, rfl⟩ := h1
  refine mW.eq (st' := [.int (pin a1 1 8)]) rfl rfl rfl rfl ?_
  refine m_join (P := 35) (wM := gW cy ad ln v ou) (lvM := [(0, .ref (ad 46)), (1, .int a1), (2, .int a2), (3, .int a3)]) (stM := [.int (if (pin a1 1 8) = 0 then 0 else if (pin a2 1 32) = 0 then 0 else if (pin a3 a2 64) = 0 then 0 else 1)]) ?_ (fun hJ35_4 => ?_)
  · refine m_topi (fun x5 ex5 => ?_)
    have h := h x5 ex5
    refine m_istore (lv' := [(4, .int x5), (0, .ref (ad 46)), (1, .int a1), (2, .int a2), (3, .int a3)]) C dX4_begin_35 (by decide) rfl ?_
    refine m_aload_n C dX4_begin_37 rfl 1 rfl ?_
    refine m_iload C dX4_begin_38 0 rfl ?_
    refine m_join (P := 48) (wM := gW cy ad ln v ou) (lvM := [(4, .int x5), (0, .ref (ad 46)), (1, .int a1), (2, .int a2), (3, .int a3)]) (stM := [.int (if x5 = 0 then 1 else 0), .ref (ad 46)]) ?_ (fun hJ48_7 => ?_)
    · refine m_iconst (v := 0) C dX4_begin_48 (by decide) ?_
      refine m_iconst (v := 0) C dX4_begin_49 (by decide) ?_
      refine m_callV C (p_X4_refuse l D cy ad ln v ou (if x5 = 0 then 1 else 0) 0 0) (cwV 3 C.2.2.2.2.1 gX4_begin_X4_refuse rfl rfl rfl (by decide +kernel) ⟨Nat.le_of_ble_eq_true rfl, Nat.le_of_ble_eq_true rfl⟩) 46 gp_46 rfl rfl rfl (Nat.le_of_ble_eq_true rfl) dX4_begin_50 ⟨by decide, by decide⟩ (fun r w1 h1 => ?_)
      obtain ⟨v8, ev8⟩ : ∃ z : gV, z = vrf v (if x5 = 0 then 1 else 0) 0 0 := ⟨_, rfl⟩
      rw [← ev8] at h1
      obtain ⟨rfl, rfl⟩ := h1
      refine mW.eq (st' := [.int (prf (if x5 = 0 then 1 else 0) 0 0)]) rfl rfl rfl rfl ?_
      have h := h v8 ev8
      refine m_if_ne (tgt := 128) C dX4_begin_53 (by decide) (fun c9 => ?_) (fun c9 => ?_)
      · have h := h.2 c9
        exact m_vret C dX4_begin_128 (Nat.le_of_ble_eq_true rfl) (Nat.le_of_ble_eq_true rfl) ⟨_, rfl, h, rfl⟩
      · have h := h.1 c9
        refine m_aload_n C dX4_begin_56 rfl 1 rfl ?_
        refine m_iload_n C dX4_begin_57 rfl 2 rfl ?_
        obtain ⟨v10, ev10⟩ : ∃ z : gV, z = va_up v8 46 (upd (v8 46) 1 a1) := ⟨_, rfl⟩
        have h := h v10 ev10
        refine m_put (w' := gW cy ad ln v10 ou) (T := TX4) (N := 19) C hiX4_begin_X4 tyX4 tyX4_ok nmX4 46 gp_46 rfl 1 (by decide) (by decide +kernel) rfl rfl rfl (Nat.le_of_ble_eq_true rfl) dX4_begin_58 (by rw [ev10]; exact gW_set (k := 46) (by decide) rfl) ?_
        refine m_aload_n C dX4_begin_61 rfl 1 rfl ?_
        refine m_iload_n C dX4_begin_62 rfl 3 rfl ?_
        obtain ⟨v11, ev11⟩ : ∃ z : gV, z = va_up v10 46 (upd (v10 46) 2 a2) := ⟨_, rfl⟩
        have h := h v11 ev11
        refine m_put (w' := gW cy ad ln v11 ou) (T := TX4) (N := 19) C hiX4_begin_X4 tyX4 tyX4_ok nmX4 46 gp_46 rfl 2 (by decide) (by decide +kernel) rfl rfl rfl (Nat.le_of_ble_eq_true rfl) dX4_begin_63 (by rw [ev11]; exact gW_set (k := 46) (by decide) rfl) ?_
        refine m_aload_n C dX4_begin_66 rfl 1 rfl ?_
        refine m_iload_n C dX4_begin_67 rfl 4 rfl ?_
        obtain ⟨v12, ev12⟩ : ∃ z : gV, z = va_up v11 46 (upd (v11 46) 3 a3) := ⟨_, rfl⟩
        have h := h v12 ev12
        refine m_put (w' := gW cy ad ln v12 ou) (T := TX4) (N := 19) C hiX4_begin_X4 tyX4 tyX4_ok nmX4 46 gp_46 rfl 3 (by decide) (by decide +kernel) rfl rfl rfl (Nat.le_of_ble_eq_true rfl) dX4_begin_68 (by rw [ev12]; exact gW_set (k := 46) (by decide) rfl) ?_
        refine m_iconst (v := 0) C dX4_begin_71 (by decide) ?_
        refine m_istore (lv' := [(5, .int 0), (4, .int x5), (0, .ref (ad 46)), (1, .int a1), (2, .int a2), (3, .int a3)]) C dX4_begin_72 (by decide) rfl ?_
        obtain ⟨I74, ⟨n0, h0⟩, hI⟩ := h
        refine mW.sub (lv' := [(0, .ref (ad 46)), (1, .int a1), (2, .int a2), (3, .int a3), (4, .int x5), (5, .int 0)]) [2, 3, 4, 5, 1, 0] rfl ?_
        refine m_ind (σ := Int32 × gV) (fun n z => I74 n z.1 z.2) (fun z => gW cy ad ln z.2 ou) 74 (fun z => [(0, .ref (ad 46)), (1, .int a1), (2, .int a2), (3, .int a3), (4, .int x5), (5, .int z.1)]) ?_ n0 (0, v12) h0
        intro n z hi ih
        obtain ⟨x13, v14⟩ := z
        have h := hI n x13 v14 hi
        show mW _ _ _ _ _ _ _ _ _ _ _ _ _ _ _ _ (gW cy ad ln v14 ou) 74 [(0, .ref (ad 46)), (1, .int a1), (2, .int a2), (3, .int a3), (4, .int x5), (5, .int x13)] []
        refine m_iload C dX4_begin_74 5 rfl ?_
        refine m_bipush (v := 16) C dX4_begin_76 (by decide) ?_
        refine m_icmp_ge (tgt := 103) C dX4_begin_78 (by decide) (fun c15 => ?_) (fun c15 => ?_)
        · have h := h.1 c15
          refine m_iconst (v := 0) C dX4_begin_103 (by decide) ?_
          refine m_istore (lv' := [(5, .int 0), (0, .ref (ad 46)), (1, .int a1), (2, .int a2), (3, .int a3), (4, .int x5)]) C dX4_begin_104 (by decide) rfl ?_
          obtain ⟨I106, ⟨n0, h0⟩, hI⟩ := h
          refine mW.sub (lv' := [(0, .ref (ad 46)), (1, .int a1), (2, .int a2), (3, .int a3), (4, .int x5), (5, .int 0)]) [1, 2, 3, 4, 5, 0] rfl ?_
          refine m_ind (σ := Int32 × gV) (fun n z => I106 n z.1 z.2) (fun z => gW cy ad ln z.2 ou) 106 (fun z => [(0, .ref (ad 46)), (1, .int a1), (2, .int a2), (3, .int a3), (4, .int x5), (5, .int z.1)]) ?_ n0 (0, v14) h0
          intro n z hi ih
          obtain ⟨x16, v17⟩ := z
          have h := hI n x16 v17 hi
          show mW _ _ _ _ _ _ _ _ _ _ _ _ _ _ _ _ (gW cy ad ln v17 ou) 106 [(0, .ref (ad 46)), (1, .int a1), (2, .int a2), (3, .int a3), (4, .int x5), (5, .int x16)] []
          refine m_iload C dX4_begin_106 5 rfl ?_
          refine m_sipush (v := 400) C dX4_begin_108 (by decide) ?_
          refine m_icmp_ge (tgt := 128) C dX4_begin_111 (by decide) (fun c18 => ?_) (fun c18 => ?_)
          · have h := h.1 c18
            exact m_vret C dX4_begin_128 (Nat.le_of_ble_eq_true rfl) (Nat.le_of_ble_eq_true rfl) ⟨_, rfl, h, rfl⟩
          · have h := h.2 c18
            refine m_aload_n C dX4_begin_114 rfl 0 rfl ?_
            refine m_get (T := TX4) (N := 19) C hiX4_begin_X4 46 gp_46 rfl 16 (by decide) (by decide +kernel) rfl dX4_begin_115 ?_
            refine m_iload C dX4_begin_118 5 rfl ?_
            refine m_iconst (v := 0) C dX4_begin_120 (by decide) ?_
            obtain ⟨b19, h⟩ := h
            obtain ⟨v20, ev20⟩ : ∃ z : gV, z = va_up v17 56 (upd (v17 56) x16.toNatClampNeg 0) := ⟨_, rfl⟩
            have h := h v20 ev20
            refine m_iast (w' := gW cy ad ln v20 ou) C 56 (gp_I (by decide)) b19 dX4_begin_121 (by rw [ev20]; exact gs_I (by decide)) ?_
            refine m_iinc (lv' := [(5, .int (x16 + 1)), (0, .ref (ad 46)), (1, .int a1), (2, .int a2), (3, .int a3), (4, .int x5)]) C dX4_begin_122 (k := 5) rfl rfl (by decide) rfl ?_
            refine m_goto (tgt := 106) C dX4_begin_125 (by decide) ?_
            obtain ⟨n21, hn, h⟩ := h
            exact mW.sub [1, 2, 3, 4, 5, 0] rfl (ih n21 ((x16 + 1), v20) hn h)
        · have h := h.2 c15
          refine m_aload_n C dX4_begin_81 rfl 0 rfl ?_
          refine m_get (T := TX4) (N := 19) C hiX4_begin_X4 46 gp_46 rfl 12 (by decide) (by decide +kernel) rfl dX4_begin_82 ?_
          refine m_iload C dX4_begin_85 5 rfl ?_
          refine m_iconst (v := 0) C dX4_begin_87 (by decide) ?_
          obtain ⟨b22, h⟩ := h
          obtain ⟨v23, ev23⟩ : ∃ z : gV, z = va_up v14 52 (upd (v14 52) x13.toNatClampNeg 0) := ⟨_, rfl⟩
          have h := h v23 ev23
          refine m_iast (w' := gW cy ad ln v23 ou) C 52 (gp_I (by decide)) b22 dX4_begin_88 (by rw [ev23]; exact gs_I (by decide)) ?_
          refine m_aload_n C dX4_begin_89 rfl 0 rfl ?_
          refine m_get (T := TX4) (N := 19) C hiX4_begin_X4 46 gp_46 rfl 14 (by decide) (by decide +kernel) rfl dX4_begin_90 ?_
          refine m_iload C dX4_begin_93 5 rfl ?_
          refine m_iconst (v := 0) C dX4_begin_95 (by decide) ?_
          obtain ⟨b24, h⟩ := h
          obtain ⟨v25, ev25⟩ : ∃ z : gV, z = va_up v23 54 (upd (v23 54) x13.toNatClampNeg 0) := ⟨_, rfl⟩
          have h := h v25 ev25
          refine m_iast (w' := gW cy ad ln v25 ou) C 54 (gp_I (by decide)) b24 dX4_begin_96 (by rw [ev25]; exact gs_I (by decide)) ?_
          refine m_iinc (lv' := [(5, .int (x13 + 1)), (0, .ref (ad 46)), (1, .int a1), (2, .int a2), (3, .int a3), (4, .int x5)]) C dX4_begin_97 (k := 5) rfl rfl (by decide) rfl ?_
          refine m_goto (tgt := 74) C dX4_begin_100 (by decide) ?_
          obtain ⟨n26, hn, h⟩ := h
          exact mW.sub [1, 2, 3, 4, 5, 0] rfl (ih n26 ((x13 + 1), v25) hn h)
    · refine m_if_ne (tgt := 47) C dX4_begin_40 (by decide) (fun c6 => ?_) (fun c6 => ?_)
      · refine m_iconst (v := 0) C dX4_begin_47 (by decide) ?_
        refine mW.sub (lv' := [(4, .int x5), (0, .ref (ad 46)), (1, .int a1), (2, .int a2), (3, .int a3)]) [0, 1, 2, 3, 4] rfl ?_
        exact mW.eq rfl rfl (by simp only [if_neg c6]) rfl hJ48_7
      · refine m_iconst (v := 1) C dX4_begin_43 (by decide) ?_
        refine m_goto (tgt := 48) C dX4_begin_44 (by decide) ?_
        refine mW.sub (lv' := [(4, .int x5), (0, .ref (ad 46)), (1, .int a1), (2, .int a2), (3, .int a3)]) [0, 1, 2, 3, 4] rfl ?_
        exact mW.eq rfl rfl (by simp only [if_pos c6]) rfl hJ48_7
  · refine m_if_eq (tgt := 34) C dX4_begin_7 (by decide) (fun c1 => ?_) (fun c1 => ?_)
    · refine m_iconst (v := 0) C dX4_begin_34 (by decide) ?_
      refine mW.sub (lv' := [(0, .ref (ad 46)), (1, .int a1), (2, .int a2), (3, .int a3)]) [0, 1, 2, 3] rfl ?_
      exact mW.eq rfl rfl (by simp only [if_pos c1]) rfl hJ35_4
    · refine m_iload_n C dX4_begin_10 rfl 2 rfl ?_
      refine m_iconst (v := 1) C dX4_begin_11 (by decide) ?_
      refine m_bipush (v := 32) C dX4_begin_12 (by decide) ?_
      refine m_callS C (p_X4_in l D cy ad ln v ou a2 1 32) (va_cwS 3 C.2.2.2.2.1 gX4_begin_X4_in rfl rfl rfl (by decide +kernel) ⟨Nat.le_of_ble_eq_true rfl, Nat.le_of_ble_eq_true rfl⟩) rfl rfl (Nat.le_of_ble_eq_true rfl) dX4_begin_14 ⟨by decide, by decide⟩ (fun r w1 h1 => ?_)
      obtain ⟨rfl, rfl⟩ := h1
      refine mW.eq (st' := [.int (pin a2 1 32)]) rfl rfl rfl rfl ?_
      refine m_if_eq (tgt := 34) C dX4_begin_17 (by decide) (fun c2 => ?_) (fun c2 => ?_)
      · refine m_iconst (v := 0) C dX4_begin_34 (by decide) ?_
        refine mW.sub (lv' := [(0, .ref (ad 46)), (1, .int a1), (2, .int a2), (3, .int a3)]) [0, 1, 2, 3] rfl ?_
        exact mW.eq rfl rfl (by simp only [if_neg c1, if_pos c2]) rfl hJ35_4
      · refine m_iload_n C dX4_begin_20 rfl 3 rfl ?_
        refine m_iload_n C dX4_begin_21 rfl 2 rfl ?_
        refine m_bipush (v := 64) C dX4_begin_22 (by decide) ?_
        refine m_callS C (p_X4_in l D cy ad ln v ou a3 a2 64) (va_cwS 3 C.2.2.2.2.1 gX4_begin_X4_in rfl rfl rfl (by decide +kernel) ⟨Nat.le_of_ble_eq_true rfl, Nat.le_of_ble_eq_true rfl⟩) rfl rfl (Nat.le_of_ble_eq_true rfl) dX4_begin_24 ⟨by decide, by decide⟩ (fun r w1 h1 => ?_)
        obtain ⟨rfl, rfl⟩ := h1
        refine mW.eq (st' := [.int (pin a3 a2 64)]) rfl rfl rfl rfl ?_
        refine m_if_eq (tgt := 34) C dX4_begin_27 (by decide) (fun c3 => ?_) (fun c3 => ?_)
        · refine m_iconst (v := 0) C dX4_begin_34 (by decide) ?_
          refine mW.sub (lv' := [(0, .ref (ad 46)), (1, .int a1), (2, .int a2), (3, .int a3)]) [0, 1, 2, 3] rfl ?_
          exact mW.eq rfl rfl (by simp only [if_neg c1, if_neg c2, if_pos c3]) rfl hJ35_4
        · refine m_iconst (v := 1) C dX4_begin_30 (by decide) ?_
          refine m_goto (tgt := 35) C dX4_begin_31 (by decide) ?_
          refine mW.sub (lv' := [(0, .ref (ad 46)), (1, .int a1), (2, .int a2), (3, .int a3)]) [0, 1, 2, 3] rfl ?_
          exact mW.eq rfl rfl (by simp only [if_neg c1, if_neg c2, if_neg c3]) rfl hJ35_4
theorem hiX4_put_X4 : ∀ w ∈ wsX40, w ∈ wsX4_put := by decide +kernel
def wp_X4_put (ln : Nat → Nat) (v : gV) (a1 : Int32) (a2 : Int32) (post : Int32 → gV → Prop) : Prop :=
  ((∀ v6 : gV, v6 = vrf v (if (pin a1 1 4) = 0 then 1 else 0) (if (pin a1 1 4) = 0 then 0 else if ((v 46 4) + a1) ≤ 1500 then 0 else 1) 0 → ((((prf (if (pin a1 1 4) = 0 then 1 else 0) (if (pin a1 1 4) = 0 then 0 else if ((v 46 4) + a1) ≤ 1500 then 0 else 1) 0) = 0) → (∃ I50 : Nat → Int32 → gV → Prop, (∃ n, I50 n 0 v6) ∧ ∀ (n : Nat) (x8 : Int32) (v9 : gV), I50 n x8 v9 → (((a1 ≤ x8) → (post (v9 46 4) v9)) ∧ (¬ (a1 ≤ x8) → (vp_in (v9 46 4) (ln 47) ∧ ∀ v12 : gV, v12 = va_up v9 47 (upd (v9 47) (v9 46 4).toNatClampNeg ((a2 >>> ((8 * x8) &&& 31)) &&& 255)) → (∀ v13 : gV, v13 = va_up v12 46 (upd (v12 46) 4 ((v12 46 4) + 1)) → (∃ n', n' < n ∧ I50 n' (x8 + 1) v13))))))) ∧ (¬ ((prf (if (pin a1 1 4) = 0 then 1 else 0) (if (pin a1 1 4) = 0 then 0 else if ((v 46 4) + a1) ≤ 1500 then 0 else 1) 0) = 0) → (post 0 v6)))))
set_option maxHeartbeats 4000000 in
set_option maxRecDepth 100000 in
theorem s_X4_put (l : Launch) (D : va_G) (cy : Nat → ClassId) (ad ln : Nat → Nat) (v : gV) (ou : Nat → Int64) (a1 : Int32) (a2 : Int32) {post : Int32 → gV → Prop} (h : wp_X4_put ln v a1 a2 post) : mM l D cy yX4_put wsX4_put 2 0 0 [.ref (ad 46), .int a1, .int a2] (gW cy ad ln v ou) (fun r w1 => ∃ (x1 : Int32) (v1 : gV), r = some (.int x1) ∧ post x1 v1 ∧ w1 = gW cy ad ln v1 ou) := by
  unfold wp_X4_put at h
  refine mM.of (cc := cX4_put) (nL := 5) (ret0 := (some .int)) (by decide +kernel) rfl (Nat.le_of_ble_eq_true rfl) ?_
  intro p e s m args below meth c A C hini
  refine mW.sub (lv' := [(0, .ref (ad 46)), (1, .int a1), (2, .int a2)]) [0, 1, 2] rfl ?_
  refine m_iload_n C dX4_put_0 rfl 1 rfl ?_
  refine m_iconst (v := 1) C dX4_put_1 (by decide) ?_
  refine m_iconst (v := 4) C dX4_put_2 (by decide) ?_
  refine m_callS C (p_X4_in l D cy ad ln v ou a1 1 4) (va_cwS 3 C.2.2.2.2.1 gX4_put_X4_in rfl rfl rfl (by decide +kernel) ⟨Nat.le_of_ble_eq_true rfl, Nat.le_of_ble_eq_true rfl⟩) rfl rfl (Nat.le_of_ble_eq_true rfl) dX4_put_3 ⟨by decide, by decide⟩ (fun r w1 h1 => ?_)
  obtain ⟨rfl, rfl⟩ := h1
  refine mW.eq (st' := [.int (pin a1 1 4)]) rfl rfl rfl rfl ?_
  refine m_istore_n (lv' := [(3, .int (pin a1 1 4)), (0, .ref (ad 46)), (1, .int a1), (2, .int a2)]) C dX4_put_6 rfl (by decide) rfl ?_
  refine m_aload_n C dX4_put_7 rfl 1 rfl ?_
  refine m_iload_n C dX4_put_8 rfl 0 rfl ?_
  refine m_join (P := 17) (wM := gW cy ad ln v ou) (lvM := [(3, .int (pin a1 1 4)), (0, .ref (ad 46)), (1, .int a1), (2, .int a2)]) (stM := [.int (if (pin a1 1 4) = 0 then 1 else 0), .ref (ad 46)]) ?_ (fun hJ17_2 => ?_)
  · refine m_iload_n C dX4_put_17 rfl 0 rfl ?_
    refine m_join (P := 38) (wM := gW cy ad ln v ou) (lvM := [(3, .int (pin a1 1 4)), (0, .ref (ad 46)), (1, .int a1), (2, .int a2)]) (stM := [.int (if (pin a1 1 4) = 0 then 0 else if ((v 46 4) + a1) ≤ 1500 then 0 else 1), .int (if (pin a1 1 4) = 0 then 1 else 0), .ref (ad 46)]) ?_ (fun hJ38_5 => ?_)
    · refine m_iconst (v := 0) C dX4_put_38 (by decide) ?_
      refine m_callV C (p_X4_refuse l D cy ad ln v ou (if (pin a1 1 4) = 0 then 1 else 0) (if (pin a1 1 4) = 0 then 0 else if ((v 46 4) + a1) ≤ 1500 then 0 else 1) 0) (cwV 3 C.2.2.2.2.1 gX4_put_X4_refuse rfl rfl rfl (by decide +kernel) ⟨Nat.le_of_ble_eq_true rfl, Nat.le_of_ble_eq_true rfl⟩) 46 gp_46 rfl rfl rfl (Nat.le_of_ble_eq_true rfl) dX4_put_39 ⟨by decide, by decide⟩ (fun r w1 h1 => ?_)
      obtain ⟨v6, ev6⟩ : ∃ z : gV, z = vrf v (if (pin a1 1 4) = 0 then 1 else 0) (if (pin a1 1 4) = 0 then 0 else if ((v 46 4) + a1) ≤ 1500 then 0 else 1) 0 := ⟨_, rfl⟩
      rw [← ev6] at h1
      obtain ⟨rfl, rfl⟩ := h1
      refine mW.eq (st' := [.int (prf (if (pin a1 1 4) = 0 then 1 else 0) (if (pin a1 1 4) = 0 then 0 else if ((v 46 4) + a1) ≤ 1500 then 0 else 1) 0)]) rfl rfl rfl rfl ?_
      have h := h v6 ev6
      refine m_if_eq (tgt := 47) C dX4_put_42 (by decide) (fun c7 => ?_) (fun c7 => ?_)
      · have h := h.1 c7
        refine m_iconst (v := 0) C dX4_put_47 (by decide) ?_
        refine m_istore (lv' := [(4, .int 0), (3, .int (pin a1 1 4)), (0, .ref (ad 46)), (1, .int a1), (2, .int a2)]) C dX4_put_48 (by decide) rfl ?_
        obtain ⟨I50, ⟨n0, h0⟩, hI⟩ := h
        refine mW.sub (lv' := [(0, .ref (ad 46)), (1, .int a1), (2, .int a2), (3, .int (pin a1 1 4)), (4, .int 0)]) [2, 3, 4, 1, 0] rfl ?_
        refine m_ind (σ := Int32 × gV) (fun n z => I50 n z.1 z.2) (fun z => gW cy ad ln z.2 ou) 50 (fun z => [(0, .ref (ad 46)), (1, .int a1), (2, .int a2), (3, .int (pin a1 1 4)), (4, .int z.1)]) ?_ n0 (0, v6) h0
        intro n z hi ih
        obtain ⟨x8, v9⟩ := z
        have h := hI n x8 v9 hi
        show mW _ _ _ _ _ _ _ _ _ _ _ _ _ _ _ _ (gW cy ad ln v9 ou) 50 [(0, .ref (ad 46)), (1, .int a1), (2, .int a2), (3, .int (pin a1 1 4)), (4, .int x8)] []
        refine m_iload C dX4_put_50 4 rfl ?_
        refine m_iload_n C dX4_put_52 rfl 1 rfl ?_
        refine m_icmp_ge (tgt := 92) C dX4_put_53 (by decide) (fun c10 => ?_) (fun c10 => ?_)
        · have h := h.1 c10
          refine m_aload_n C dX4_put_92 rfl 0 rfl ?_
          refine m_get (T := TX4) (N := 19) C hiX4_put_X4 46 gp_46 rfl 4 (by decide) (by decide +kernel) rfl dX4_put_93 ?_
          exact m_iret C dX4_put_96 (Nat.le_of_ble_eq_true rfl) (Nat.le_of_ble_eq_true rfl) ⟨_, _, rfl, h, rfl⟩
        · have h := h.2 c10
          refine m_aload_n C dX4_put_56 rfl 0 rfl ?_
          refine m_get (T := TX4) (N := 19) C hiX4_put_X4 46 gp_46 rfl 5 (by decide) (by decide +kernel) rfl dX4_put_57 ?_
          refine m_aload_n C dX4_put_60 rfl 0 rfl ?_
          refine m_get (T := TX4) (N := 19) C hiX4_put_X4 46 gp_46 rfl 4 (by decide) (by decide +kernel) rfl dX4_put_61 ?_
          refine m_iload_n C dX4_put_64 rfl 2 rfl ?_
          refine m_bipush (v := 8) C dX4_put_65 (by decide) ?_
          refine m_iload C dX4_put_67 4 rfl ?_
          refine m_imul C dX4_put_69 ?_
          refine m_ishr C dX4_put_70 ?_
          refine m_sipush (v := 255) C dX4_put_71 (by decide) ?_
          refine m_iand C dX4_put_74 ?_
          obtain ⟨b11, h⟩ := h
          obtain ⟨v12, ev12⟩ : ∃ z : gV, z = va_up v9 47 (upd (v9 47) (v9 46 4).toNatClampNeg ((a2 >>> ((8 * x8) &&& 31)) &&& 255)) := ⟨_, rfl⟩
          have h := h v12 ev12
          refine m_iast (w' := gW cy ad ln v12 ou) C 47 (gp_I (by decide)) b11 dX4_put_75 (by rw [ev12]; exact gs_I (by decide)) ?_
          refine m_aload_n C dX4_put_76 rfl 0 rfl ?_
          refine m_dup C dX4_put_77 rfl ?_
          refine m_get (T := TX4) (N := 19) C hiX4_put_X4 46 gp_46 rfl 4 (by decide) (by decide +kernel) rfl dX4_put_78 ?_
          refine m_iconst (v := 1) C dX4_put_81 (by decide) ?_
          refine m_iadd C dX4_put_82 ?_
          obtain ⟨v13, ev13⟩ : ∃ z : gV, z = va_up v12 46 (upd (v12 46) 4 ((v12 46 4) + 1)) := ⟨_, rfl⟩
          have h := h v13 ev13
          refine m_put (w' := gW cy ad ln v13 ou) (T := TX4) (N := 19) C hiX4_put_X4 tyX4 tyX4_ok nmX4 46 gp_46 rfl 4 (by decide) (by decide +kernel) rfl rfl rfl (Nat.le_of_ble_eq_true rfl) dX4_put_83 (by rw [ev13]; exact gW_set (k := 46) (by decide) rfl) ?_
          refine m_iinc (lv' := [(4, .int (x8 + 1)), (0, .ref (ad 46)), (1, .int a1), (2, .int a2), (3, .int (pin a1 1 4))]) C dX4_put_86 (k := 4) rfl rfl (by decide) rfl ?_
          refine m_goto (tgt := 50) C dX4_put_89 (by decide) ?_
          obtain ⟨n14, hn, h⟩ := h
          exact mW.sub [1, 2, 3, 4, 0] rfl (ih n14 ((x8 + 1), v13) hn h)
      · have h := h.2 c7
        refine m_iconst (v := 0) C dX4_put_45 (by decide) ?_
        exact m_iret C dX4_put_46 (Nat.le_of_ble_eq_true rfl) (Nat.le_of_ble_eq_true rfl) ⟨_, _, rfl, h, rfl⟩
    · refine m_if_eq (tgt := 37) C dX4_put_18 (by decide) (fun c3 => ?_) (fun c3 => ?_)
      · refine m_iconst (v := 0) C dX4_put_37 (by decide) ?_
        refine mW.sub (lv' := [(3, .int (pin a1 1 4)), (0, .ref (ad 46)), (1, .int a1), (2, .int a2)]) [0, 1, 2, 3] rfl ?_
        exact mW.eq rfl rfl (by simp only [if_pos c3]) rfl hJ38_5
      · refine m_aload_n C dX4_put_21 rfl 1 rfl ?_
        refine m_get (T := TX4) (N := 19) C hiX4_put_X4 46 gp_46 rfl 4 (by decide) (by decide +kernel) rfl dX4_put_22 ?_
        refine m_iload_n C dX4_put_25 rfl 2 rfl ?_
        refine m_iadd C dX4_put_26 ?_
        refine m_sipush (v := 1500) C dX4_put_27 (by decide) ?_
        refine m_icmp_le (tgt := 37) C dX4_put_30 (by decide) (fun c4 => ?_) (fun c4 => ?_)
        · refine m_iconst (v := 0) C dX4_put_37 (by decide) ?_
          refine mW.sub (lv' := [(3, .int (pin a1 1 4)), (0, .ref (ad 46)), (1, .int a1), (2, .int a2)]) [0, 1, 2, 3] rfl ?_
          exact mW.eq rfl rfl (by simp only [if_neg c3, if_pos c4]) rfl hJ38_5
        · refine m_iconst (v := 1) C dX4_put_33 (by decide) ?_
          refine m_goto (tgt := 38) C dX4_put_34 (by decide) ?_
          refine mW.sub (lv' := [(3, .int (pin a1 1 4)), (0, .ref (ad 46)), (1, .int a1), (2, .int a2)]) [0, 1, 2, 3] rfl ?_
          exact mW.eq rfl rfl (by simp only [if_neg c3, if_neg c4]) rfl hJ38_5
  · refine m_if_ne (tgt := 16) C dX4_put_9 (by decide) (fun c1 => ?_) (fun c1 => ?_)
    · refine m_iconst (v := 0) C dX4_put_16 (by decide) ?_
      refine mW.sub (lv' := [(3, .int (pin a1 1 4)), (0, .ref (ad 46)), (1, .int a1), (2, .int a2)]) [0, 1, 2, 3] rfl ?_
      exact mW.eq rfl rfl (by simp only [if_neg c1]) rfl hJ17_2
    · refine m_iconst (v := 1) C dX4_put_12 (by decide) ?_
      refine m_goto (tgt := 17) C dX4_put_13 (by decide) ?_
      refine mW.sub (lv' := [(3, .int (pin a1 1 4)), (0, .ref (ad 46)), (1, .int a1), (2, .int a2)]) [0, 1, 2, 3] rfl ?_
      exact mW.eq rfl rfl (by simp only [if_pos c1]) rfl hJ17_2
theorem hiX4_size_X4 : ∀ w ∈ wsX40, w ∈ wsX4_size := by decide +kernel
def wp_X4_size (ln : Nat → Nat) (v : gV) (a1 : Int32) (post : Int32 → gV → Prop) : Prop :=
  (∀ v3 : gV, v3 = vrf v (if (pin a1 0 15) = 0 then 1 else 0) 0 0 → ((((prf (if (pin a1 0 15) = 0 then 1 else 0) 0 0) = 0) → vp_in a1 (ln 52)) ∧ (post (if (prf (if (pin a1 0 15) = 0 then 1 else 0) 0 0) = 0 then v3 52 a1.toNatClampNeg else 0) v3)))
set_option maxHeartbeats 4000000 in
set_option maxRecDepth 100000 in
theorem s_X4_size (l : Launch) (D : va_G) (cy : Nat → ClassId) (ad ln : Nat → Nat) (v : gV) (ou : Nat → Int64) (a1 : Int32) {post : Int32 → gV → Prop} (h : wp_X4_size ln v a1 post) : mM l D cy yX4_size wsX4_size 3 0 0 [.ref (ad 46), .int a1] (gW cy ad ln v ou) (fun r w1 => ∃ (x1 : Int32) (v1 : gV), r = some (.int x1) ∧ post x1 v1 ∧ w1 = gW cy ad ln v1 ou) := by
  unfold wp_X4_size at h
  refine mM.of (cc := cX4_size) (nL := 2) (ret0 := (some .int)) (by decide +kernel) rfl (Nat.le_of_ble_eq_true rfl) ?_
  intro p e s m args below meth c A C hini
  refine mW.sub (lv' := [(0, .ref (ad 46)), (1, .int a1)]) [0, 1] rfl ?_
  refine m_aload_n C dX4_size_0 rfl 0 rfl ?_
  refine m_iload_n C dX4_size_1 rfl 1 rfl ?_
  refine m_callS C (p_X4_isFile l D cy ad ln v ou a1) (va_cwS 1 C.2.2.2.2.1 gX4_size_X4_isFile rfl rfl rfl (by decide +kernel) ⟨Nat.le_of_ble_eq_true rfl, Nat.le_of_ble_eq_true rfl⟩) rfl rfl (Nat.le_of_ble_eq_true rfl) dX4_size_2 ⟨by decide, by decide⟩ (fun r w1 h1 => ?_)
  obtain ⟨rfl, rfl⟩ := h1
  refine mW.eq (st' := [.int (pin a1 0 15), .ref (ad 46)]) rfl rfl rfl rfl ?_
  refine m_join (P := 13) (wM := gW cy ad ln v ou) (lvM := [(0, .ref (ad 46)), (1, .int a1)]) (stM := [.int (if (pin a1 0 15) = 0 then 1 else 0), .ref (ad 46)]) ?_ (fun hJ13_2 => ?_)
  · refine m_iconst (v := 0) C dX4_size_13 (by decide) ?_
    refine m_iconst (v := 0) C dX4_size_14 (by decide) ?_
    refine m_callV C (p_X4_refuse l D cy ad ln v ou (if (pin a1 0 15) = 0 then 1 else 0) 0 0) (cwV 3 C.2.2.2.2.1 gX4_size_X4_refuse rfl rfl rfl (by decide +kernel) ⟨Nat.le_of_ble_eq_true rfl, Nat.le_of_ble_eq_true rfl⟩) 46 gp_46 rfl rfl rfl (Nat.le_of_ble_eq_true rfl) dX4_size_15 ⟨by decide, by decide⟩ (fun r w1 h1 => ?_)
    obtain ⟨v3, ev3⟩ : ∃ z : gV, z = vrf v (if (pin a1 0 15) = 0 then 1 else 0) 0 0 := ⟨_, rfl⟩
    rw [← ev3] at h1
    obtain ⟨rfl, rfl⟩ := h1
    refine mW.eq (st' := [.int (prf (if (pin a1 0 15) = 0 then 1 else 0) 0 0)]) rfl rfl rfl rfl ?_
    have h := h v3 ev3
    obtain ⟨b5, h⟩ := h
    refine m_join (P := 31) (wM := gW cy ad ln v3 ou) (lvM := [(0, .ref (ad 46)), (1, .int a1)]) (stM := [.int (if (prf (if (pin a1 0 15) = 0 then 1 else 0) 0 0) = 0 then v3 52 a1.toNatClampNeg else 0)]) ?_ (fun hJ31_6 => ?_)
    · exact m_iret C dX4_size_31 (Nat.le_of_ble_eq_true rfl) (Nat.le_of_ble_eq_true rfl) ⟨_, _, rfl, h, rfl⟩
    · refine m_if_eq (tgt := 25) C dX4_size_18 (by decide) (fun c4 => ?_) (fun c4 => ?_)
      · refine m_aload_n C dX4_size_25 rfl 0 rfl ?_
        refine m_get (T := TX4) (N := 19) C hiX4_size_X4 46 gp_46 rfl 12 (by decide) (by decide +kernel) rfl dX4_size_26 ?_
        refine m_iload_n C dX4_size_29 rfl 1 rfl ?_
        refine m_iald C 52 (gp_I (by decide)) (b5 c4) dX4_size_30 ?_
        refine mW.sub (lv' := [(0, .ref (ad 46)), (1, .int a1)]) [0, 1] rfl ?_
        exact mW.eq rfl rfl (by simp only [if_pos c4]) rfl hJ31_6
      · refine m_iconst (v := 0) C dX4_size_21 (by decide) ?_
        refine m_goto (tgt := 31) C dX4_size_22 (by decide) ?_
        refine mW.sub (lv' := [(0, .ref (ad 46)), (1, .int a1)]) [0, 1] rfl ?_
        exact mW.eq rfl rfl (by simp only [if_neg c4]) rfl hJ31_6
  · refine m_if_ne (tgt := 12) C dX4_size_5 (by decide) (fun c1 => ?_) (fun c1 => ?_)
    · refine m_iconst (v := 0) C dX4_size_12 (by decide) ?_
      refine mW.sub (lv' := [(0, .ref (ad 46)), (1, .int a1)]) [0, 1] rfl ?_
      exact mW.eq rfl rfl (by simp only [if_neg c1]) rfl hJ13_2
    · refine m_iconst (v := 1) C dX4_size_8 (by decide) ?_
      refine m_goto (tgt := 13) C dX4_size_9 (by decide) ?_
      refine mW.sub (lv' := [(0, .ref (ad 46)), (1, .int a1)]) [0, 1] rfl ?_
      exact mW.eq rfl rfl (by simp only [if_pos c1]) rfl hJ13_2
theorem hiX4_get_X4 : ∀ w ∈ wsX40, w ∈ wsX4_get := by decide +kernel
def wp_X4_get (ln : Nat → Nat) (v : gV) (a1 : Int32) (a2 : Int32) (post : Int32 → gV → Prop) : Prop :=
  ((¬ ((pin a1 0 15) = 0)) → ((pin a1 0 15) = 0) → vp_in 0 (ln 52)) ∧ ((¬ ((pin a1 0 15) = 0)) → (¬ ((pin a1 0 15) = 0)) → vp_in a1 (ln 52)) ∧ (∀ x8 : Int32, x8 = (if (pin a1 0 15) = 0 then 0 else if (pin a1 0 15) = 0 then if (pin a2 0 ((v 52 (0 : Int32).toNatClampNeg) - 1)) = 0 then 0 else 1 else if (pin a2 0 ((v 52 a1.toNatClampNeg) - 1)) = 0 then 0 else 1) → ((∀ v11 : gV, v11 = vrf v (if x8 = 0 then 1 else 0) 0 0 → ((((prf (if x8 = 0 then 1 else 0) 0 0) = 0) → vp_in ((1500 * a1) + a2) (ln 53)) ∧ (post (if (prf (if x8 = 0 then 1 else 0) 0 0) = 0 then v11 53 ((1500 * a1) + a2).toNatClampNeg else 0) v11)))))
set_option maxHeartbeats 4000000 in
set_option maxRecDepth 100000 in
theorem s_X4_get (l : Launch) (D : va_G) (cy : Nat → ClassId) (ad ln : Nat → Nat) (v : gV) (ou : Nat → Int64) (a1 : Int32) (a2 : Int32) {post : Int32 → gV → Prop} (h : wp_X4_get ln v a1 a2 post) : mM l D cy yX4_get wsX4_get 3 0 0 [.ref (ad 46), .int a1, .int a2] (gW cy ad ln v ou) (fun r w1 => ∃ (x1 : Int32) (v1 : gV), r = some (.int x1) ∧ post x1 v1 ∧ w1 = gW cy ad ln v1 ou) := by
  unfold wp_X4_get at h
  refine mM.of (cc := cX4_get) (nL := 4) (ret0 := (some .int)) (by decide +kernel) rfl (Nat.le_of_ble_eq_true rfl) ?_
  intro p e s m args below meth c A C hini
  refine mW.sub (lv' := [(0, .ref (ad 46)), (1, .int a1), (2, .int a2)]) [0, 1, 2] rfl ?_
  refine m_iload_n C dX4_get_0 rfl 1 rfl ?_
  refine m_callS C (p_X4_isFile l D cy ad ln v ou a1) (va_cwS 1 C.2.2.2.2.1 gX4_get_X4_isFile rfl rfl rfl (by decide +kernel) ⟨Nat.le_of_ble_eq_true rfl, Nat.le_of_ble_eq_true rfl⟩) rfl rfl (Nat.le_of_ble_eq_true rfl) dX4_get_1 ⟨by decide, by decide⟩ (fun r w1 h1 => ?_)
  obtain ⟨rfl, rfl⟩ := h1
  refine mW.eq (st' := [.int (pin a1 0 15)]) rfl rfl rfl rfl ?_
  obtain ⟨b3, h⟩ := h
  obtain ⟨b5, h⟩ := h
  refine m_join (P := 39) (wM := gW cy ad ln v ou) (lvM := [(0, .ref (ad 46)), (1, .int a1), (2, .int a2)]) (stM := [.int (if (pin a1 0 15) = 0 then 0 else if (pin a1 0 15) = 0 then if (pin a2 0 ((v 52 (0 : Int32).toNatClampNeg) - 1)) = 0 then 0 else 1 else if (pin a2 0 ((v 52 a1.toNatClampNeg) - 1)) = 0 then 0 else 1)]) ?_ (fun hJ39_7 => ?_)
  · refine m_topi (fun x8 ex8 => ?_)
    have h := h x8 ex8
    refine m_istore_n (lv' := [(3, .int x8), (0, .ref (ad 46)), (1, .int a1), (2, .int a2)]) C dX4_get_39 rfl (by decide) rfl ?_
    refine m_aload_n C dX4_get_40 rfl 1 rfl ?_
    refine m_iload_n C dX4_get_41 rfl 0 rfl ?_
    refine m_join (P := 50) (wM := gW cy ad ln v ou) (lvM := [(3, .int x8), (0, .ref (ad 46)), (1, .int a1), (2, .int a2)]) (stM := [.int (if x8 = 0 then 1 else 0), .ref (ad 46)]) ?_ (fun hJ50_10 => ?_)
    · refine m_iconst (v := 0) C dX4_get_50 (by decide) ?_
      refine m_iconst (v := 0) C dX4_get_51 (by decide) ?_
      refine m_callV C (p_X4_refuse l D cy ad ln v ou (if x8 = 0 then 1 else 0) 0 0) (cwV 3 C.2.2.2.2.1 gX4_get_X4_refuse rfl rfl rfl (by decide +kernel) ⟨Nat.le_of_ble_eq_true rfl, Nat.le_of_ble_eq_true rfl⟩) 46 gp_46 rfl rfl rfl (Nat.le_of_ble_eq_true rfl) dX4_get_52 ⟨by decide, by decide⟩ (fun r w1 h1 => ?_)
      obtain ⟨v11, ev11⟩ : ∃ z : gV, z = vrf v (if x8 = 0 then 1 else 0) 0 0 := ⟨_, rfl⟩
      rw [← ev11] at h1
      obtain ⟨rfl, rfl⟩ := h1
      refine mW.eq (st' := [.int (prf (if x8 = 0 then 1 else 0) 0 0)]) rfl rfl rfl rfl ?_
      have h := h v11 ev11
      obtain ⟨b13, h⟩ := h
      refine m_join (P := 74) (wM := gW cy ad ln v11 ou) (lvM := [(3, .int x8), (0, .ref (ad 46)), (1, .int a1), (2, .int a2)]) (stM := [.int (if (prf (if x8 = 0 then 1 else 0) 0 0) = 0 then v11 53 ((1500 * a1) + a2).toNatClampNeg else 0)]) ?_ (fun hJ74_14 => ?_)
      · exact m_iret C dX4_get_74 (Nat.le_of_ble_eq_true rfl) (Nat.le_of_ble_eq_true rfl) ⟨_, _, rfl, h, rfl⟩
      · refine m_if_eq (tgt := 62) C dX4_get_55 (by decide) (fun c12 => ?_) (fun c12 => ?_)
        · refine m_aload_n C dX4_get_62 rfl 1 rfl ?_
          refine m_get (T := TX4) (N := 19) C hiX4_get_X4 46 gp_46 rfl 13 (by decide) (by decide +kernel) rfl dX4_get_63 ?_
          refine m_sipush (v := 1500) C dX4_get_66 (by decide) ?_
          refine m_iload_n C dX4_get_69 rfl 2 rfl ?_
          refine m_imul C dX4_get_70 ?_
          refine m_iload_n C dX4_get_71 rfl 3 rfl ?_
          refine m_iadd C dX4_get_72 ?_
          refine m_iald C 53 (gp_I (by decide)) (b13 c12) dX4_get_73 ?_
          refine mW.sub (lv' := [(3, .int x8), (0, .ref (ad 46)), (1, .int a1), (2, .int a2)]) [0, 1, 2, 3] rfl ?_
          exact mW.eq rfl rfl (by simp only [if_pos c12]) rfl hJ74_14
        · refine m_iconst (v := 0) C dX4_get_58 (by decide) ?_
          refine m_goto (tgt := 74) C dX4_get_59 (by decide) ?_
          refine mW.sub (lv' := [(3, .int x8), (0, .ref (ad 46)), (1, .int a1), (2, .int a2)]) [0, 1, 2, 3] rfl ?_
          exact mW.eq rfl rfl (by simp only [if_neg c12]) rfl hJ74_14
    · refine m_if_ne (tgt := 49) C dX4_get_42 (by decide) (fun c9 => ?_) (fun c9 => ?_)
      · refine m_iconst (v := 0) C dX4_get_49 (by decide) ?_
        refine mW.sub (lv' := [(3, .int x8), (0, .ref (ad 46)), (1, .int a1), (2, .int a2)]) [0, 1, 2, 3] rfl ?_
        exact mW.eq rfl rfl (by simp only [if_neg c9]) rfl hJ50_10
      · refine m_iconst (v := 1) C dX4_get_45 (by decide) ?_
        refine m_goto (tgt := 50) C dX4_get_46 (by decide) ?_
        refine mW.sub (lv' := [(3, .int x8), (0, .ref (ad 46)), (1, .int a1), (2, .int a2)]) [0, 1, 2, 3] rfl ?_
        exact mW.eq rfl rfl (by simp only [if_pos c9]) rfl hJ50_10
  · refine m_if_eq (tgt := 38) C dX4_get_4 (by decide) (fun c1 => ?_) (fun c1 => ?_)
    · refine m_iconst (v := 0) C dX4_get_38 (by decide) ?_
      refine mW.sub (lv' := [(0, .ref (ad 46)), (1, .int a1), (2, .int a2)]) [0, 1, 2] rfl ?_
      exact mW.eq rfl rfl (by simp only [if_pos c1]) rfl hJ39_7
    · refine m_iload_n C dX4_get_7 rfl 2 rfl ?_
      refine m_iconst (v := 0) C dX4_get_8 (by decide) ?_
      refine m_aload_n C dX4_get_9 rfl 0 rfl ?_
      refine m_get (T := TX4) (N := 19) C hiX4_get_X4 46 gp_46 rfl 12 (by decide) (by decide +kernel) rfl dX4_get_10 ?_
      refine m_iload_n C dX4_get_13 rfl 1 rfl ?_
      refine m_callS C (p_X4_isFile l D cy ad ln v ou a1) (va_cwS 1 C.2.2.2.2.1 gX4_get_X4_isFile rfl rfl rfl (by decide +kernel) ⟨Nat.le_of_ble_eq_true rfl, Nat.le_of_ble_eq_true rfl⟩) rfl rfl (Nat.le_of_ble_eq_true rfl) dX4_get_14 ⟨by decide, by decide⟩ (fun r w1 h1 => ?_)
      obtain ⟨rfl, rfl⟩ := h1
      refine mW.eq (st' := [.int (pin a1 0 15), .ref (ad 52), .int 0, .int a2]) rfl rfl rfl rfl ?_
      refine m_if_eq (tgt := 24) C dX4_get_17 (by decide) (fun c2 => ?_) (fun c2 => ?_)
      · refine m_iconst (v := 0) C dX4_get_24 (by decide) ?_
        refine m_iald C 52 (gp_I (by decide)) (b3 c1 c2) dX4_get_25 ?_
        refine m_iconst (v := 1) C dX4_get_26 (by decide) ?_
        refine m_isub C dX4_get_27 ?_
        refine m_callS C (p_X4_in l D cy ad ln v ou a2 0 ((v 52 (0 : Int32).toNatClampNeg) - 1)) (va_cwS 3 C.2.2.2.2.1 gX4_get_X4_in rfl rfl rfl (by decide +kernel) ⟨Nat.le_of_ble_eq_true rfl, Nat.le_of_ble_eq_true rfl⟩) rfl rfl (Nat.le_of_ble_eq_true rfl) dX4_get_28 ⟨by decide, by decide⟩ (fun r w1 h1 => ?_)
        obtain ⟨rfl, rfl⟩ := h1
        refine mW.eq (st' := [.int (pin a2 0 ((v 52 (0 : Int32).toNatClampNeg) - 1))]) rfl rfl rfl rfl ?_
        refine m_if_eq (tgt := 38) C dX4_get_31 (by decide) (fun c4 => ?_) (fun c4 => ?_)
        · refine m_iconst (v := 0) C dX4_get_38 (by decide) ?_
          exact absurd c2 c1
        · refine m_iconst (v := 1) C dX4_get_34 (by decide) ?_
          refine m_goto (tgt := 39) C dX4_get_35 (by decide) ?_
          exact absurd c2 c1
      · refine m_iload_n C dX4_get_20 rfl 1 rfl ?_
        refine m_goto (tgt := 25) C dX4_get_21 (by decide) ?_
        refine m_iald C 52 (gp_I (by decide)) (b5 c1 c2) dX4_get_25 ?_
        refine m_iconst (v := 1) C dX4_get_26 (by decide) ?_
        refine m_isub C dX4_get_27 ?_
        refine m_callS C (p_X4_in l D cy ad ln v ou a2 0 ((v 52 a1.toNatClampNeg) - 1)) (va_cwS 3 C.2.2.2.2.1 gX4_get_X4_in rfl rfl rfl (by decide +kernel) ⟨Nat.le_of_ble_eq_true rfl, Nat.le_of_ble_eq_true rfl⟩) rfl rfl (Nat.le_of_ble_eq_true rfl) dX4_get_28 ⟨by decide, by decide⟩ (fun r w1 h1 => ?_)
        obtain ⟨rfl, rfl⟩ := h1
        refine mW.eq (st' := [.int (pin a2 0 ((v 52 a1.toNatClampNeg) - 1))]) rfl rfl rfl rfl ?_
        refine m_if_eq (tgt := 38) C dX4_get_31 (by decide) (fun c6 => ?_) (fun c6 => ?_)
        · refine m_iconst (v := 0) C dX4_get_38 (by decide) ?_
          refine mW.sub (lv' := [(0, .ref (ad 46)), (1, .int a1), (2, .int a2)]) [0, 1, 2] rfl ?_
          exact mW.eq rfl rfl (by simp only [if_neg c1, if_neg c2, if_pos c6]) rfl hJ39_7
        · refine m_iconst (v := 1) C dX4_get_34 (by decide) ?_
          refine m_goto (tgt := 39) C dX4_get_35 (by decide) ?_
          refine mW.sub (lv' := [(0, .ref (ad 46)), (1, .int a1), (2, .int a2)]) [0, 1, 2] rfl ?_
          exact mW.eq rfl rfl (by simp only [if_neg c1, if_neg c2, if_neg c6]) rfl hJ39_7
theorem hiX4_parts_X4 : ∀ w ∈ wsX40, w ∈ wsX4_parts := by decide +kernel
def wp_X4_parts (ln : Nat → Nat) (v : gV) (a1 : Int32) (post : Int32 → gV → Prop) : Prop :=
  (∀ v3 : gV, v3 = vrf v (if (pin a1 0 15) = 0 then 1 else 0) 0 0 → ((((prf (if (pin a1 0 15) = 0 then 1 else 0) 0 0) = 0) → vp_in a1 (ln 54)) ∧ (post (if (prf (if (pin a1 0 15) = 0 then 1 else 0) 0 0) = 0 then v3 54 a1.toNatClampNeg else 0) v3)))
set_option maxHeartbeats 4000000 in
set_option maxRecDepth 100000 in
theorem s_X4_parts (l : Launch) (D : va_G) (cy : Nat → ClassId) (ad ln : Nat → Nat) (v : gV) (ou : Nat → Int64) (a1 : Int32) {post : Int32 → gV → Prop} (h : wp_X4_parts ln v a1 post) : mM l D cy yX4_parts wsX4_parts 3 0 0 [.ref (ad 46), .int a1] (gW cy ad ln v ou) (fun r w1 => ∃ (x1 : Int32) (v1 : gV), r = some (.int x1) ∧ post x1 v1 ∧ w1 = gW cy ad ln v1 ou) := by
  unfold wp_X4_parts at h
  refine mM.of (cc := cX4_parts) (nL := 2) (ret0 := (some .int)) (by decide +kernel) rfl (Nat.le_of_ble_eq_true rfl) ?_
  intro p e s m args below meth c A C hini
  refine mW.sub (lv' := [(0, .ref (ad 46)), (1, .int a1)]) [0, 1] rfl ?_
  refine m_aload_n C dX4_parts_0 rfl 0 rfl ?_
  refine m_iload_n C dX4_parts_1 rfl 1 rfl ?_
  refine m_callS C (p_X4_isFile l D cy ad ln v ou a1) (va_cwS 1 C.2.2.2.2.1 gX4_parts_X4_isFile rfl rfl rfl (by decide +kernel) ⟨Nat.le_of_ble_eq_true rfl, Nat.le_of_ble_eq_true rfl⟩) rfl rfl (Nat.le_of_ble_eq_true rfl) dX4_parts_2 ⟨by decide, by decide⟩ (fun r w1 h1 => ?_)
  obtain ⟨rfl, rfl⟩ := h1
  refine mW.eq (st' := [.int (pin a1 0 15), .ref (ad 46)]) rfl rfl rfl rfl ?_
  refine m_join (P := 13) (wM := gW cy ad ln v ou) (lvM := [(0, .ref (ad 46)), (1, .int a1)]) (stM := [.int (if (pin a1 0 15) = 0 then 1 else 0), .ref (ad 46)]) ?_ (fun hJ13_2 => ?_)
  · refine m_iconst (v := 0) C dX4_parts_13 (by decide) ?_
    refine m_iconst (v := 0) C dX4_parts_14 (by decide) ?_
    refine m_callV C (p_X4_refuse l D cy ad ln v ou (if (pin a1 0 15) = 0 then 1 else 0) 0 0) (cwV 3 C.2.2.2.2.1 gX4_parts_X4_refuse rfl rfl rfl (by decide +kernel) ⟨Nat.le_of_ble_eq_true rfl, Nat.le_of_ble_eq_true rfl⟩) 46 gp_46 rfl rfl rfl (Nat.le_of_ble_eq_true rfl) dX4_parts_15 ⟨by decide, by decide⟩ (fun r w1 h1 => ?_)
    obtain ⟨v3, ev3⟩ : ∃ z : gV, z = vrf v (if (pin a1 0 15) = 0 then 1 else 0) 0 0 := ⟨_, rfl⟩
    rw [← ev3] at h1
    obtain ⟨rfl, rfl⟩ := h1
    refine mW.eq (st' := [.int (prf (if (pin a1 0 15) = 0 then 1 else 0) 0 0)]) rfl rfl rfl rfl ?_
    have h := h v3 ev3
    obtain ⟨b5, h⟩ := h
    refine m_join (P := 31) (wM := gW cy ad ln v3 ou) (lvM := [(0, .ref (ad 46)), (1, .int a1)]) (stM := [.int (if (prf (if (pin a1 0 15) = 0 then 1 else 0) 0 0) = 0 then v3 54 a1.toNatClampNeg else 0)]) ?_ (fun hJ31_6 => ?_)
    · exact m_iret C dX4_parts_31 (Nat.le_of_ble_eq_true rfl) (Nat.le_of_ble_eq_true rfl) ⟨_, _, rfl, h, rfl⟩
    · refine m_if_eq (tgt := 25) C dX4_parts_18 (by decide) (fun c4 => ?_) (fun c4 => ?_)
      · refine m_aload_n C dX4_parts_25 rfl 0 rfl ?_
        refine m_get (T := TX4) (N := 19) C hiX4_parts_X4 46 gp_46 rfl 14 (by decide) (by decide +kernel) rfl dX4_parts_26 ?_
        refine m_iload_n C dX4_parts_29 rfl 1 rfl ?_
        refine m_iald C 54 (gp_I (by decide)) (b5 c4) dX4_parts_30 ?_
        refine mW.sub (lv' := [(0, .ref (ad 46)), (1, .int a1)]) [0, 1] rfl ?_
        exact mW.eq rfl rfl (by simp only [if_pos c4]) rfl hJ31_6
      · refine m_iconst (v := 0) C dX4_parts_21 (by decide) ?_
        refine m_goto (tgt := 31) C dX4_parts_22 (by decide) ?_
        refine mW.sub (lv' := [(0, .ref (ad 46)), (1, .int a1)]) [0, 1] rfl ?_
        exact mW.eq rfl rfl (by simp only [if_neg c4]) rfl hJ31_6
  · refine m_if_ne (tgt := 12) C dX4_parts_5 (by decide) (fun c1 => ?_) (fun c1 => ?_)
    · refine m_iconst (v := 0) C dX4_parts_12 (by decide) ?_
      refine mW.sub (lv' := [(0, .ref (ad 46)), (1, .int a1)]) [0, 1] rfl ?_
      exact mW.eq rfl rfl (by simp only [if_neg c1]) rfl hJ13_2
    · refine m_iconst (v := 1) C dX4_parts_8 (by decide) ?_
      refine m_goto (tgt := 13) C dX4_parts_9 (by decide) ?_
      refine mW.sub (lv' := [(0, .ref (ad 46)), (1, .int a1)]) [0, 1] rfl ?_
      exact mW.eq rfl rfl (by simp only [if_pos c1]) rfl hJ13_2
theorem hiX4_part_X4 : ∀ w ∈ wsX40, w ∈ wsX4_part := by decide +kernel
def wp_X4_part (ln : Nat → Nat) (v : gV) (a1 : Int32) (a2 : Int32) (post : Int32 → gV → Prop) : Prop :=
  ((¬ ((pin a1 0 15) = 0)) → ((pin a1 0 15) = 0) → vp_in 0 (ln 54)) ∧ ((¬ ((pin a1 0 15) = 0)) → (¬ ((pin a1 0 15) = 0)) → vp_in a1 (ln 54)) ∧ (∀ x8 : Int32, x8 = (if (pin a1 0 15) = 0 then 0 else if (pin a1 0 15) = 0 then if (pin a2 0 ((v 54 (0 : Int32).toNatClampNeg) - 1)) = 0 then 0 else 1 else if (pin a2 0 ((v 54 a1.toNatClampNeg) - 1)) = 0 then 0 else 1) → ((∀ v11 : gV, v11 = vrf v (if x8 = 0 then 1 else 0) 0 0 → ((((prf (if x8 = 0 then 1 else 0) 0 0) = 0) → vp_in ((1500 * a1) + a2) (ln 55)) ∧ (post (if (prf (if x8 = 0 then 1 else 0) 0 0) = 0 then v11 55 ((1500 * a1) + a2).toNatClampNeg else 0) v11)))))
set_option maxHeartbeats 4000000 in
set_option maxRecDepth 100000 in
theorem s_X4_part (l : Launch) (D : va_G) (cy : Nat → ClassId) (ad ln : Nat → Nat) (v : gV) (ou : Nat → Int64) (a1 : Int32) (a2 : Int32) {post : Int32 → gV → Prop} (h : wp_X4_part ln v a1 a2 post) : mM l D cy yX4_part wsX4_part 3 0 0 [.ref (ad 46), .int a1, .int a2] (gW cy ad ln v ou) (fun r w1 => ∃ (x1 : Int32) (v1 : gV), r = some (.int x1) ∧ post x1 v1 ∧ w1 = gW cy ad ln v1 ou) := by
  unfold wp_X4_part at h
  refine mM.of (cc := cX4_part) (nL := 4) (ret0 := (some .int)) (by decide +kernel) rfl (Nat.le_of_ble_eq_true rfl) ?_
  intro p e s m args below meth c A C hini
  refine mW.sub (lv' := [(0, .ref (ad 46)), (1, .int a1), (2, .int a2)]) [0, 1, 2] rfl ?_
  refine m_iload_n C dX4_part_0 rfl 1 rfl ?_
  refine m_callS C (p_X4_isFile l D cy ad ln v ou a1) (va_cwS 1 C.2.2.2.2.1 gX4_part_X4_isFile rfl rfl rfl (by decide +kernel) ⟨Nat.le_of_ble_eq_true rfl, Nat.le_of_ble_eq_true rfl⟩) rfl rfl (Nat.le_of_ble_eq_true rfl) dX4_part_1 ⟨by decide, by decide⟩ (fun r w1 h1 => ?_)
  obtain ⟨rfl, rfl⟩ := h1
  refine mW.eq (st' := [.int (pin a1 0 15)]) rfl rfl rfl rfl ?_
  obtain ⟨b3, h⟩ := h
  obtain ⟨b5, h⟩ := h
  refine m_join (P := 39) (wM := gW cy ad ln v ou) (lvM := [(0, .ref (ad 46)), (1, .int a1), (2, .int a2)]) (stM := [.int (if (pin a1 0 15) = 0 then 0 else if (pin a1 0 15) = 0 then if (pin a2 0 ((v 54 (0 : Int32).toNatClampNeg) - 1)) = 0 then 0 else 1 else if (pin a2 0 ((v 54 a1.toNatClampNeg) - 1)) = 0 then 0 else 1)]) ?_ (fun hJ39_7 => ?_)
  · refine m_topi (fun x8 ex8 => ?_)
    have h := h x8 ex8
    refine m_istore_n (lv' := [(3, .int x8), (0, .ref (ad 46)), (1, .int a1), (2, .int a2)]) C dX4_part_39 rfl (by decide) rfl ?_
    refine m_aload_n C dX4_part_40 rfl 1 rfl ?_
    refine m_iload_n C dX4_part_41 rfl 0 rfl ?_
    refine m_join (P := 50) (wM := gW cy ad ln v ou) (lvM := [(3, .int x8), (0, .ref (ad 46)), (1, .int a1), (2, .int a2)]) (stM := [.int (if x8 = 0 then 1 else 0), .ref (ad 46)]) ?_ (fun hJ50_10 => ?_)
    · refine m_iconst (v := 0) C dX4_part_50 (by decide) ?_
      refine m_iconst (v := 0) C dX4_part_51 (by decide) ?_
      refine m_callV C (p_X4_refuse l D cy ad ln v ou (if x8 = 0 then 1 else 0) 0 0) (cwV 3 C.2.2.2.2.1 gX4_part_X4_refuse rfl rfl rfl (by decide +kernel) ⟨Nat.le_of_ble_eq_true rfl, Nat.le_of_ble_eq_true rfl⟩) 46 gp_46 rfl rfl rfl (Nat.le_of_ble_eq_true rfl) dX4_part_52 ⟨by decide, by decide⟩ (fun r w1 h1 => ?_)
      obtain ⟨v11, ev11⟩ : ∃ z : gV, z = vrf v (if x8 = 0 then 1 else 0) 0 0 := ⟨_, rfl⟩
      rw [← ev11] at h1
      obtain ⟨rfl, rfl⟩ := h1
      refine mW.eq (st' := [.int (prf (if x8 = 0 then 1 else 0) 0 0)]) rfl rfl rfl rfl ?_
      have h := h v11 ev11
      obtain ⟨b13, h⟩ := h
      refine m_join (P := 74) (wM := gW cy ad ln v11 ou) (lvM := [(3, .int x8), (0, .ref (ad 46)), (1, .int a1), (2, .int a2)]) (stM := [.int (if (prf (if x8 = 0 then 1 else 0) 0 0) = 0 then v11 55 ((1500 * a1) + a2).toNatClampNeg else 0)]) ?_ (fun hJ74_14 => ?_)
      · exact m_iret C dX4_part_74 (Nat.le_of_ble_eq_true rfl) (Nat.le_of_ble_eq_true rfl) ⟨_, _, rfl, h, rfl⟩
      · refine m_if_eq (tgt := 62) C dX4_part_55 (by decide) (fun c12 => ?_) (fun c12 => ?_)
        · refine m_aload_n C dX4_part_62 rfl 1 rfl ?_
          refine m_get (T := TX4) (N := 19) C hiX4_part_X4 46 gp_46 rfl 15 (by decide) (by decide +kernel) rfl dX4_part_63 ?_
          refine m_sipush (v := 1500) C dX4_part_66 (by decide) ?_
          refine m_iload_n C dX4_part_69 rfl 2 rfl ?_
          refine m_imul C dX4_part_70 ?_
          refine m_iload_n C dX4_part_71 rfl 3 rfl ?_
          refine m_iadd C dX4_part_72 ?_
          refine m_iald C 55 (gp_I (by decide)) (b13 c12) dX4_part_73 ?_
          refine mW.sub (lv' := [(3, .int x8), (0, .ref (ad 46)), (1, .int a1), (2, .int a2)]) [0, 1, 2, 3] rfl ?_
          exact mW.eq rfl rfl (by simp only [if_pos c12]) rfl hJ74_14
        · refine m_iconst (v := 0) C dX4_part_58 (by decide) ?_
          refine m_goto (tgt := 74) C dX4_part_59 (by decide) ?_
          refine mW.sub (lv' := [(3, .int x8), (0, .ref (ad 46)), (1, .int a1), (2, .int a2)]) [0, 1, 2, 3] rfl ?_
          exact mW.eq rfl rfl (by simp only [if_neg c12]) rfl hJ74_14
    · refine m_if_ne (tgt := 49) C dX4_part_42 (by decide) (fun c9 => ?_) (fun c9 => ?_)
      · refine m_iconst (v := 0) C dX4_part_49 (by decide) ?_
        refine mW.sub (lv' := [(3, .int x8), (0, .ref (ad 46)), (1, .int a1), (2, .int a2)]) [0, 1, 2, 3] rfl ?_
        exact mW.eq rfl rfl (by simp only [if_neg c9]) rfl hJ50_10
      · refine m_iconst (v := 1) C dX4_part_45 (by decide) ?_
        refine m_goto (tgt := 50) C dX4_part_46 (by decide) ?_
        refine mW.sub (lv' := [(3, .int x8), (0, .ref (ad 46)), (1, .int a1), (2, .int a2)]) [0, 1, 2, 3] rfl ?_
        exact mW.eq rfl rfl (by simp only [if_pos c9]) rfl hJ50_10
  · refine m_if_eq (tgt := 38) C dX4_part_4 (by decide) (fun c1 => ?_) (fun c1 => ?_)
    · refine m_iconst (v := 0) C dX4_part_38 (by decide) ?_
      refine mW.sub (lv' := [(0, .ref (ad 46)), (1, .int a1), (2, .int a2)]) [0, 1, 2] rfl ?_
      exact mW.eq rfl rfl (by simp only [if_pos c1]) rfl hJ39_7
    · refine m_iload_n C dX4_part_7 rfl 2 rfl ?_
      refine m_iconst (v := 0) C dX4_part_8 (by decide) ?_
      refine m_aload_n C dX4_part_9 rfl 0 rfl ?_
      refine m_get (T := TX4) (N := 19) C hiX4_part_X4 46 gp_46 rfl 14 (by decide) (by decide +kernel) rfl dX4_part_10 ?_
      refine m_iload_n C dX4_part_13 rfl 1 rfl ?_
      refine m_callS C (p_X4_isFile l D cy ad ln v ou a1) (va_cwS 1 C.2.2.2.2.1 gX4_part_X4_isFile rfl rfl rfl (by decide +kernel) ⟨Nat.le_of_ble_eq_true rfl, Nat.le_of_ble_eq_true rfl⟩) rfl rfl (Nat.le_of_ble_eq_true rfl) dX4_part_14 ⟨by decide, by decide⟩ (fun r w1 h1 => ?_)
      obtain ⟨rfl, rfl⟩ := h1
      refine mW.eq (st' := [.int (pin a1 0 15), .ref (ad 54), .int 0, .int a2]) rfl rfl rfl rfl ?_
      refine m_if_eq (tgt := 24) C dX4_part_17 (by decide) (fun c2 => ?_) (fun c2 => ?_)
      · refine m_iconst (v := 0) C dX4_part_24 (by decide) ?_
        refine m_iald C 54 (gp_I (by decide)) (b3 c1 c2) dX4_part_25 ?_
        refine m_iconst (v := 1) C dX4_part_26 (by decide) ?_
        refine m_isub C dX4_part_27 ?_
        refine m_callS C (p_X4_in l D cy ad ln v ou a2 0 ((v 54 (0 : Int32).toNatClampNeg) - 1)) (va_cwS 3 C.2.2.2.2.1 gX4_part_X4_in rfl rfl rfl (by decide +kernel) ⟨Nat.le_of_ble_eq_true rfl, Nat.le_of_ble_eq_true rfl⟩) rfl rfl (Nat.le_of_ble_eq_true rfl) dX4_part_28 ⟨by decide, by decide⟩ (fun r w1 h1 => ?_)
        obtain ⟨rfl, rfl⟩ := h1
        refine mW.eq (st' := [.int (pin a2 0 ((v 54 (0 : Int32).toNatClampNeg) - 1))]) rfl rfl rfl rfl ?_
        refine m_if_eq (tgt := 38) C dX4_part_31 (by decide) (fun c4 => ?_) (fun c4 => ?_)
        · refine m_iconst (v := 0) C dX4_part_38 (by decide) ?_
          exact absurd c2 c1
        · refine m_iconst (v := 1) C dX4_part_34 (by decide) ?_
          refine m_goto (tgt := 39) C dX4_part_35 (by decide) ?_
          exact absurd c2 c1
      · refine m_iload_n C dX4_part_20 rfl 1 rfl ?_
        refine m_goto (tgt := 25) C dX4_part_21 (by decide) ?_
        refine m_iald C 54 (gp_I (by decide)) (b5 c1 c2) dX4_part_25 ?_
        refine m_iconst (v := 1) C dX4_part_26 (by decide) ?_
        refine m_isub C dX4_part_27 ?_
        refine m_callS C (p_X4_in l D cy ad ln v ou a2 0 ((v 54 a1.toNatClampNeg) - 1)) (va_cwS 3 C.2.2.2.2.1 gX4_part_X4_in rfl rfl rfl (by decide +kernel) ⟨Nat.le_of_ble_eq_true rfl, Nat.le_of_ble_eq_true rfl⟩) rfl rfl (Nat.le_of_ble_eq_true rfl) dX4_part_28 ⟨by decide, by decide⟩ (fun r w1 h1 => ?_)
        obtain ⟨rfl, rfl⟩ := h1
        refine mW.eq (st' := [.int (pin a2 0 ((v 54 a1.toNatClampNeg) - 1))]) rfl rfl rfl rfl ?_
        refine m_if_eq (tgt := 38) C dX4_part_31 (by decide) (fun c6 => ?_) (fun c6 => ?_)
        · refine m_iconst (v := 0) C dX4_part_38 (by decide) ?_
          refine mW.sub (lv' := [(0, .ref (ad 46)), (1, .int a1), (2, .int a2)]) [0, 1, 2] rfl ?_
          exact mW.eq rfl rfl (by simp only [if_neg c1, if_neg c2, if_pos c6]) rfl hJ39_7
        · refine m_iconst (v := 1) C dX4_part_34 (by decide) ?_
          refine m_goto (tgt := 39) C dX4_part_35 (by decide) ?_
          refine mW.sub (lv' := [(0, .ref (ad 46)), (1, .int a1), (2, .int a2)]) [0, 1, 2] rfl ?_
          exact mW.eq rfl rfl (by simp only [if_neg c1, if_neg c2, if_neg c6]) rfl hJ39_7
theorem hiX4_about_X4 : ∀ w ∈ wsX40, w ∈ wsX4_about := by decide +kernel
def wp_X4_about (ln : Nat → Nat) (v : gV) (a1 : Int32) (a2 : Int32) (post : Int32 → gV → Prop) : Prop :=
  ((¬ ((pin a1 0 399) = 0)) → ((pin a1 0 399) = 0) → vp_in 0 (ln 56)) ∧ ((¬ ((pin a1 0 399) = 0)) → (¬ ((pin a1 0 399) = 0)) → vp_in a1 (ln 56)) ∧ (∀ x8 : Int32, x8 = (if (pin a1 0 399) = 0 then 0 else if (pin a1 0 399) = 0 then if (v 56 (0 : Int32).toNatClampNeg) ≤ 0 then 0 else 1 else if (v 56 a1.toNatClampNeg) ≤ 0 then 0 else 1) → (((∀ v14 : gV, v14 = vrf v (if x8 = 0 then 1 else 0) (if x8 = 0 then 0 else if (pin a2 0 2) = 0 then 1 else 0) 0 → ((((prf (if x8 = 0 then 1 else 0) (if x8 = 0 then 0 else if (pin a2 0 2) = 0 then 1 else 0) 0) = 0) → (∃ I84 : Nat → Int32 → Int32 → gV → Prop, (∃ n, I84 n 0 0 v14) ∧ ∀ (n : Nat) (x16 : Int32) (x17 : Int32) (v18 : gV), I84 n x16 x17 v18 → (((16 ≤ x17) → (((¬ (a2 = 0)) → (a2 = 1) → vp_in a1 (ln 56)) ∧ ((a2 = 0) → vp_in a1 (ln 57)) ∧ (post (if a2 = 0 then v18 57 a1.toNatClampNeg else if a2 = 1 then v18 56 a1.toNatClampNeg else x16) v18))) ∧ (¬ (16 ≤ x17) → (wp_X4_has ln v18 x17 a1 (fun (x25 : Int32) (v26 : gV) => ((∀ x29 : Int32, x29 = (if x25 = 0 then x16 else x16 + 1) → (∃ n', n' < n ∧ I84 n' x29 (x17 + 1) v26))))))))) ∧ (¬ ((prf (if x8 = 0 then 1 else 0) (if x8 = 0 then 0 else if (pin a2 0 2) = 0 then 1 else 0) 0) = 0) → (post 0 v14)))))))
set_option maxHeartbeats 4000000 in
set_option maxRecDepth 100000 in
theorem s_X4_about (l : Launch) (D : va_G) (cy : Nat → ClassId) (ad ln : Nat → Nat) (v : gV) (ou : Nat → Int64) (a1 : Int32) (a2 : Int32) {post : Int32 → gV → Prop} (h : wp_X4_about ln v a1 a2 post) : mM l D cy yX4_about wsX4_about 2 0 0 [.ref (ad 46), .int a1, .int a2] (gW cy ad ln v ou) (fun r w1 => ∃ (x1 : Int32) (v1 : gV), r = some (.int x1) ∧ post x1 v1 ∧ w1 = gW cy ad ln v1 ou) := by
  unfold wp_X4_about at h
  refine mM.of (cc := cX4_about) (nL := 6) (ret0 := (some .int)) (by decide +kernel) rfl (Nat.le_of_ble_eq_true rfl) ?_
  intro p e s m args below meth c A C hini
  refine mW.sub (lv' := [(0, .ref (ad 46)), (1, .int a1), (2, .int a2)]) [0, 1, 2] rfl ?_
  refine m_iload_n C dX4_about_0 rfl 1 rfl ?_
  refine m_iconst (v := 0) C dX4_about_1 (by decide) ?_
  refine m_sipush (v := 399) C dX4_about_2 (by decide) ?_
  refine m_callS C (p_X4_in l D cy ad ln v ou a1 0 399) (va_cwS 3 C.2.2.2.2.1 gX4_about_X4_in rfl rfl rfl (by decide +kernel) ⟨Nat.le_of_ble_eq_true rfl, Nat.le_of_ble_eq_true rfl⟩) rfl rfl (Nat.le_of_ble_eq_true rfl) dX4_about_5 ⟨by decide, by decide⟩ (fun r w1 h1 => ?_)
  obtain ⟨rfl, rfl⟩ := h1
  refine mW.eq (st' := [.int (pin a1 0 399)]) rfl rfl rfl rfl ?_
  obtain ⟨b3, h⟩ := h
  obtain ⟨b5, h⟩ := h
  refine m_join (P := 40) (wM := gW cy ad ln v ou) (lvM := [(0, .ref (ad 46)), (1, .int a1), (2, .int a2)]) (stM := [.int (if (pin a1 0 399) = 0 then 0 else if (pin a1 0 399) = 0 then if (v 56 (0 : Int32).toNatClampNeg) ≤ 0 then 0 else 1 else if (v 56 a1.toNatClampNeg) ≤ 0 then 0 else 1)]) ?_ (fun hJ40_7 => ?_)
  · refine m_topi (fun x8 ex8 => ?_)
    have h := h x8 ex8
    refine m_istore_n (lv' := [(3, .int x8), (0, .ref (ad 46)), (1, .int a1), (2, .int a2)]) C dX4_about_40 rfl (by decide) rfl ?_
    refine m_aload_n C dX4_about_41 rfl 1 rfl ?_
    refine m_iload_n C dX4_about_42 rfl 0 rfl ?_
    refine m_join (P := 51) (wM := gW cy ad ln v ou) (lvM := [(3, .int x8), (0, .ref (ad 46)), (1, .int a1), (2, .int a2)]) (stM := [.int (if x8 = 0 then 1 else 0), .ref (ad 46)]) ?_ (fun hJ51_10 => ?_)
    · refine m_iload_n C dX4_about_51 rfl 0 rfl ?_
      refine m_join (P := 69) (wM := gW cy ad ln v ou) (lvM := [(3, .int x8), (0, .ref (ad 46)), (1, .int a1), (2, .int a2)]) (stM := [.int (if x8 = 0 then 0 else if (pin a2 0 2) = 0 then 1 else 0), .int (if x8 = 0 then 1 else 0), .ref (ad 46)]) ?_ (fun hJ69_13 => ?_)
      · refine m_iconst (v := 0) C dX4_about_69 (by decide) ?_
        refine m_callV C (p_X4_refuse l D cy ad ln v ou (if x8 = 0 then 1 else 0) (if x8 = 0 then 0 else if (pin a2 0 2) = 0 then 1 else 0) 0) (cwV 3 C.2.2.2.2.1 gX4_about_X4_refuse rfl rfl rfl (by decide +kernel) ⟨Nat.le_of_ble_eq_true rfl, Nat.le_of_ble_eq_true rfl⟩) 46 gp_46 rfl rfl rfl (Nat.le_of_ble_eq_true rfl) dX4_about_70 ⟨by decide, by decide⟩ (fun r w1 h1 => ?_)
        obtain ⟨v14, ev14⟩ : ∃ z : gV, z = vrf v (if x8 = 0 then 1 else 0) (if x8 = 0 then 0 else if (pin a2 0 2) = 0 then 1 else 0) 0 := ⟨_, rfl⟩
        rw [← ev14] at h1
        obtain ⟨rfl, rfl⟩ := h1
        refine mW.eq (st' := [.int (prf (if x8 = 0 then 1 else 0) (if x8 = 0 then 0 else if (pin a2 0 2) = 0 then 1 else 0) 0)]) rfl rfl rfl rfl ?_
        have h := h v14 ev14
        refine m_if_eq (tgt := 78) C dX4_about_73 (by decide) (fun c15 => ?_) (fun c15 => ?_)
        · have h := h.1 c15
          refine m_iconst (v := 0) C dX4_about_78 (by decide) ?_
          refine m_istore (lv' := [(4, .int 0), (3, .int x8), (0, .ref (ad 46)), (1, .int a1), (2, .int a2)]) C dX4_about_79 (by decide) rfl ?_
          refine m_iconst (v := 0) C dX4_about_81 (by decide) ?_
          refine m_istore (lv' := [(5, .int 0), (4, .int 0), (3, .int x8), (0, .ref (ad 46)), (1, .int a1), (2, .int a2)]) C dX4_about_82 (by decide) rfl ?_
          obtain ⟨I84, ⟨n0, h0⟩, hI⟩ := h
          refine mW.sub (lv' := [(0, .ref (ad 46)), (1, .int a1), (2, .int a2), (3, .int x8), (4, .int 0), (5, .int 0)]) [3, 4, 5, 2, 1, 0] rfl ?_
          refine m_ind (σ := Int32 × Int32 × gV) (fun n z => I84 n z.1 z.2.1 z.2.2) (fun z => gW cy ad ln z.2.2 ou) 84 (fun z => [(0, .ref (ad 46)), (1, .int a1), (2, .int a2), (3, .int x8), (4, .int z.1), (5, .int z.2.1)]) ?_ n0 (0, 0, v14) h0
          intro n z hi ih
          obtain ⟨x16, x17, v18⟩ := z
          have h := hI n x16 x17 v18 hi
          show mW _ _ _ _ _ _ _ _ _ _ _ _ _ _ _ _ (gW cy ad ln v18 ou) 84 [(0, .ref (ad 46)), (1, .int a1), (2, .int a2), (3, .int x8), (4, .int x16), (5, .int x17)] []
          refine m_iload C dX4_about_84 5 rfl ?_
          refine m_bipush (v := 16) C dX4_about_86 (by decide) ?_
          refine m_icmp_ge (tgt := 118) C dX4_about_88 (by decide) (fun c19 => ?_) (fun c19 => ?_)
          · have h := h.1 c19
            refine m_iload_n C dX4_about_118 rfl 2 rfl ?_
            obtain ⟨b22, h⟩ := h
            obtain ⟨b23, h⟩ := h
            refine m_join (P := 147) (wM := gW cy ad ln v18 ou) (lvM := [(0, .ref (ad 46)), (1, .int a1), (2, .int a2), (3, .int x8), (4, .int x16), (5, .int x17)]) (stM := [.int (if a2 = 0 then v18 57 a1.toNatClampNeg else if a2 = 1 then v18 56 a1.toNatClampNeg else x16)]) ?_ (fun hJ147_24 => ?_)
            · exact m_iret C dX4_about_147 (Nat.le_of_ble_eq_true rfl) (Nat.le_of_ble_eq_true rfl) ⟨_, _, rfl, h, rfl⟩
            · refine m_if_ne (tgt := 131) C dX4_about_119 (by decide) (fun c20 => ?_) (fun c20 => ?_)
              · refine m_iload_n C dX4_about_131 rfl 2 rfl ?_
                refine m_iconst (v := 1) C dX4_about_132 (by decide) ?_
                refine m_icmp_ne (tgt := 145) C dX4_about_133 (by decide) (fun c21 => ?_) (fun c21 => ?_)
                · refine m_iload C dX4_about_145 4 rfl ?_
                  refine mW.sub (lv' := [(0, .ref (ad 46)), (1, .int a1), (2, .int a2), (3, .int x8), (4, .int x16), (5, .int x17)]) [0, 1, 2, 3, 4, 5] rfl ?_
                  exact mW.eq rfl rfl (by simp only [if_neg c20, if_neg c21]) rfl hJ147_24
                · refine m_aload_n C dX4_about_136 rfl 0 rfl ?_
                  refine m_get (T := TX4) (N := 19) C hiX4_about_X4 46 gp_46 rfl 16 (by decide) (by decide +kernel) rfl dX4_about_137 ?_
                  refine m_iload_n C dX4_about_140 rfl 1 rfl ?_
                  refine m_iald C 56 (gp_I (by decide)) (b22 c20 c21) dX4_about_141 ?_
                  refine m_goto (tgt := 147) C dX4_about_142 (by decide) ?_
                  refine mW.sub (lv' := [(0, .ref (ad 46)), (1, .int a1), (2, .int a2), (3, .int x8), (4, .int x16), (5, .int x17)]) [0, 1, 2, 3, 4, 5] rfl ?_
                  exact mW.eq rfl rfl (by simp only [if_neg c20, if_pos c21]) rfl hJ147_24
              · refine m_aload_n C dX4_about_122 rfl 0 rfl ?_
                refine m_get (T := TX4) (N := 19) C hiX4_about_X4 46 gp_46 rfl 17 (by decide) (by decide +kernel) rfl dX4_about_123 ?_
                refine m_iload_n C dX4_about_126 rfl 1 rfl ?_
                refine m_iald C 57 (gp_I (by decide)) (b23 c20) dX4_about_127 ?_
                refine m_goto (tgt := 147) C dX4_about_128 (by decide) ?_
                refine mW.sub (lv' := [(0, .ref (ad 46)), (1, .int a1), (2, .int a2), (3, .int x8), (4, .int x16), (5, .int x17)]) [0, 1, 2, 3, 4, 5] rfl ?_
                exact mW.eq rfl rfl (by simp only [if_pos c20]) rfl hJ147_24
          · have h := h.2 c19
            refine m_aload_n C dX4_about_91 rfl 0 rfl ?_
            refine m_iload C dX4_about_92 5 rfl ?_
            refine m_iload_n C dX4_about_94 rfl 1 rfl ?_
            refine m_callV C (s_X4_has l D cy ad ln v18 ou x17 a1  h) (cwV 2 C.2.2.2.2.1 gX4_about_X4_has rfl rfl rfl (by decide +kernel) ⟨Nat.le_of_ble_eq_true rfl, Nat.le_of_ble_eq_true rfl⟩) 46 gp_46 rfl rfl rfl (Nat.le_of_ble_eq_true rfl) dX4_about_95 ⟨by decide, by decide⟩ (fun r w1 h1 => ?_)
            obtain ⟨x25, v26, rfl, h, rfl⟩ := h1
            refine mW.eq (st' := [.int x25]) rfl rfl rfl rfl ?_
            refine m_join (P := 110) (wM := gW cy ad ln v26 ou) (lvM := [(0, .ref (ad 46)), (1, .int a1), (2, .int a2), (3, .int x8), (4, .int x16), (5, .int x17)]) (stM := [.int (if x25 = 0 then x16 else x16 + 1)]) ?_ (fun hJ110_28 => ?_)
            · refine m_topi (fun x29 ex29 => ?_)
              have h := h x29 ex29
              refine m_istore (lv' := [(4, .int x29), (0, .ref (ad 46)), (1, .int a1), (2, .int a2), (3, .int x8), (5, .int x17)]) C dX4_about_110 (by decide) rfl ?_
              refine m_iinc (lv' := [(5, .int (x17 + 1)), (4, .int x29), (0, .ref (ad 46)), (1, .int a1), (2, .int a2), (3, .int x8)]) C dX4_about_112 (k := 5) rfl rfl (by decide) rfl ?_
              refine m_goto (tgt := 84) C dX4_about_115 (by decide) ?_
              obtain ⟨n30, hn, h⟩ := h
              exact mW.sub [2, 3, 4, 5, 1, 0] rfl (ih n30 (x29, (x17 + 1), v26) hn h)
            · refine m_if_eq (tgt := 108) C dX4_about_98 (by decide) (fun c27 => ?_) (fun c27 => ?_)
              · refine m_iload C dX4_about_108 4 rfl ?_
                refine mW.sub (lv' := [(0, .ref (ad 46)), (1, .int a1), (2, .int a2), (3, .int x8), (4, .int x16), (5, .int x17)]) [0, 1, 2, 3, 4, 5] rfl ?_
                exact mW.eq rfl rfl (by simp only [if_pos c27]) rfl hJ110_28
              · refine m_iload C dX4_about_101 4 rfl ?_
                refine m_iconst (v := 1) C dX4_about_103 (by decide) ?_
                refine m_iadd C dX4_about_104 ?_
                refine m_goto (tgt := 110) C dX4_about_105 (by decide) ?_
                refine mW.sub (lv' := [(0, .ref (ad 46)), (1, .int a1), (2, .int a2), (3, .int x8), (4, .int x16), (5, .int x17)]) [0, 1, 2, 3, 4, 5] rfl ?_
                exact mW.eq rfl rfl (by simp only [if_neg c27]) rfl hJ110_28
        · have h := h.2 c15
          refine m_iconst (v := 0) C dX4_about_76 (by decide) ?_
          exact m_iret C dX4_about_77 (Nat.le_of_ble_eq_true rfl) (Nat.le_of_ble_eq_true rfl) ⟨_, _, rfl, h, rfl⟩
      · refine m_if_eq (tgt := 68) C dX4_about_52 (by decide) (fun c11 => ?_) (fun c11 => ?_)
        · refine m_iconst (v := 0) C dX4_about_68 (by decide) ?_
          refine mW.sub (lv' := [(3, .int x8), (0, .ref (ad 46)), (1, .int a1), (2, .int a2)]) [0, 1, 2, 3] rfl ?_
          exact mW.eq rfl rfl (by simp only [if_pos c11]) rfl hJ69_13
        · refine m_iload_n C dX4_about_55 rfl 3 rfl ?_
          refine m_iconst (v := 0) C dX4_about_56 (by decide) ?_
          refine m_iconst (v := 2) C dX4_about_57 (by decide) ?_
          refine m_callS C (p_X4_in l D cy ad ln v ou a2 0 2) (va_cwS 3 C.2.2.2.2.1 gX4_about_X4_in rfl rfl rfl (by decide +kernel) ⟨Nat.le_of_ble_eq_true rfl, Nat.le_of_ble_eq_true rfl⟩) rfl rfl (Nat.le_of_ble_eq_true rfl) dX4_about_58 ⟨by decide, by decide⟩ (fun r w1 h1 => ?_)
          obtain ⟨rfl, rfl⟩ := h1
          refine mW.eq (st' := [.int (pin a2 0 2), .int (if x8 = 0 then 1 else 0), .ref (ad 46)]) rfl rfl rfl rfl ?_
          refine m_if_ne (tgt := 68) C dX4_about_61 (by decide) (fun c12 => ?_) (fun c12 => ?_)
          · refine m_iconst (v := 0) C dX4_about_68 (by decide) ?_
            refine mW.sub (lv' := [(3, .int x8), (0, .ref (ad 46)), (1, .int a1), (2, .int a2)]) [0, 1, 2, 3] rfl ?_
            exact mW.eq rfl rfl (by simp only [if_neg c11, if_neg c12]) rfl hJ69_13
          · refine m_iconst (v := 1) C dX4_about_64 (by decide) ?_
            refine m_goto (tgt := 69) C dX4_about_65 (by decide) ?_
            refine mW.sub (lv' := [(3, .int x8), (0, .ref (ad 46)), (1, .int a1), (2, .int a2)]) [0, 1, 2, 3] rfl ?_
            exact mW.eq rfl rfl (by simp only [if_neg c11, if_pos c12]) rfl hJ69_13
    · refine m_if_ne (tgt := 50) C dX4_about_43 (by decide) (fun c9 => ?_) (fun c9 => ?_)
      · refine m_iconst (v := 0) C dX4_about_50 (by decide) ?_
        refine mW.sub (lv' := [(3, .int x8), (0, .ref (ad 46)), (1, .int a1), (2, .int a2)]) [0, 1, 2, 3] rfl ?_
        exact mW.eq rfl rfl (by simp only [if_neg c9]) rfl hJ51_10
      · refine m_iconst (v := 1) C dX4_about_46 (by decide) ?_
        refine m_goto (tgt := 51) C dX4_about_47 (by decide) ?_
        refine mW.sub (lv' := [(3, .int x8), (0, .ref (ad 46)), (1, .int a1), (2, .int a2)]) [0, 1, 2, 3] rfl ?_
        exact mW.eq rfl rfl (by simp only [if_pos c9]) rfl hJ51_10
  · refine m_if_eq (tgt := 39) C dX4_about_8 (by decide) (fun c1 => ?_) (fun c1 => ?_)
    · refine m_iconst (v := 0) C dX4_about_39 (by decide) ?_
      refine mW.sub (lv' := [(0, .ref (ad 46)), (1, .int a1), (2, .int a2)]) [0, 1, 2] rfl ?_
      exact mW.eq rfl rfl (by simp only [if_pos c1]) rfl hJ40_7
    · refine m_aload_n C dX4_about_11 rfl 0 rfl ?_
      refine m_get (T := TX4) (N := 19) C hiX4_about_X4 46 gp_46 rfl 16 (by decide) (by decide +kernel) rfl dX4_about_12 ?_
      refine m_iload_n C dX4_about_15 rfl 1 rfl ?_
      refine m_iconst (v := 0) C dX4_about_16 (by decide) ?_
      refine m_sipush (v := 399) C dX4_about_17 (by decide) ?_
      refine m_callS C (p_X4_in l D cy ad ln v ou a1 0 399) (va_cwS 3 C.2.2.2.2.1 gX4_about_X4_in rfl rfl rfl (by decide +kernel) ⟨Nat.le_of_ble_eq_true rfl, Nat.le_of_ble_eq_true rfl⟩) rfl rfl (Nat.le_of_ble_eq_true rfl) dX4_about_20 ⟨by decide, by decide⟩ (fun r w1 h1 => ?_)
      obtain ⟨rfl, rfl⟩ := h1
      refine mW.eq (st' := [.int (pin a1 0 399), .ref (ad 56)]) rfl rfl rfl rfl ?_
      refine m_if_eq (tgt := 30) C dX4_about_23 (by decide) (fun c2 => ?_) (fun c2 => ?_)
      · refine m_iconst (v := 0) C dX4_about_30 (by decide) ?_
        refine m_iald C 56 (gp_I (by decide)) (b3 c1 c2) dX4_about_31 ?_
        refine m_if_le (tgt := 39) C dX4_about_32 (by decide) (fun c4 => ?_) (fun c4 => ?_)
        · refine m_iconst (v := 0) C dX4_about_39 (by decide) ?_
          exact absurd c2 c1
        · refine m_iconst (v := 1) C dX4_about_35 (by decide) ?_
          refine m_goto (tgt := 40) C dX4_about_36 (by decide) ?_
          exact absurd c2 c1
      · refine m_iload_n C dX4_about_26 rfl 1 rfl ?_
        refine m_goto (tgt := 31) C dX4_about_27 (by decide) ?_
        refine m_iald C 56 (gp_I (by decide)) (b5 c1 c2) dX4_about_31 ?_
        refine m_if_le (tgt := 39) C dX4_about_32 (by decide) (fun c6 => ?_) (fun c6 => ?_)
        · refine m_iconst (v := 0) C dX4_about_39 (by decide) ?_
          refine mW.sub (lv' := [(0, .ref (ad 46)), (1, .int a1), (2, .int a2)]) [0, 1, 2] rfl ?_
          exact mW.eq rfl rfl (by simp only [if_neg c1, if_neg c2, if_pos c6]) rfl hJ40_7
        · refine m_iconst (v := 1) C dX4_about_35 (by decide) ?_
          refine m_goto (tgt := 40) C dX4_about_36 (by decide) ?_
          refine mW.sub (lv' := [(0, .ref (ad 46)), (1, .int a1), (2, .int a2)]) [0, 1, 2] rfl ?_
          exact mW.eq rfl rfl (by simp only [if_neg c1, if_neg c2, if_neg c6]) rfl hJ40_7
theorem hiX4_common_X4 : ∀ w ∈ wsX40, w ∈ wsX4_common := by decide +kernel
def wp_X4_common (ln : Nat → Nat) (v : gV) (a1 : Int32) (a2 : Int32) (post : Int32 → gV → Prop) : Prop :=
  (∀ v4 : gV, v4 = vrf v (if (pin a1 0 15) = 0 then 1 else if (pin a2 0 15) = 0 then 1 else 0) 0 0 → ((((prf (if (pin a1 0 15) = 0 then 1 else if (pin a2 0 15) = 0 then 1 else 0) 0 0) = 0) → (∃ I35 : Nat → Int32 → Int32 → gV → Prop, (∃ n, I35 n 0 0 v4) ∧ ∀ (n : Nat) (x6 : Int32) (x7 : Int32) (v8 : gV), I35 n x6 x7 v8 → (vp_in a1 (ln 54) ∧ ((((v8 54 a1.toNatClampNeg) ≤ x7) → (post x6 v8)) ∧ (¬ ((v8 54 a1.toNatClampNeg) ≤ x7) → (vp_in ((1500 * a1) + x7) (ln 55) ∧ (∀ x12 : Int32, x12 = (v8 55 ((1500 * a1) + x7).toNatClampNeg) → (wp_X4_has ln v8 a2 x12 (fun (x13 : Int32) (v14 : gV) => (((¬ (x13 = 0)) → vp_in x12 (ln 57)) ∧ (∀ x18 : Int32, x18 = (if x13 = 0 then x6 else x6 + (v14 57 x12.toNatClampNeg)) → (∃ n', n' < n ∧ I35 n' x18 (x7 + 1) v14)))))))))))) ∧ (¬ ((prf (if (pin a1 0 15) = 0 then 1 else if (pin a2 0 15) = 0 then 1 else 0) 0 0) = 0) → (post 0 v4))))
set_option maxHeartbeats 4000000 in
set_option maxRecDepth 100000 in
theorem s_X4_common (l : Launch) (D : va_G) (cy : Nat → ClassId) (ad ln : Nat → Nat) (v : gV) (ou : Nat → Int64) (a1 : Int32) (a2 : Int32) {post : Int32 → gV → Prop} (h : wp_X4_common ln v a1 a2 post) : mM l D cy yX4_common wsX4_common 3 0 0 [.ref (ad 46), .int a1, .int a2] (gW cy ad ln v ou) (fun r w1 => ∃ (x1 : Int32) (v1 : gV), r = some (.int x1) ∧ post x1 v1 ∧ w1 = gW cy ad ln v1 ou) := by
  unfold wp_X4_common at h
  refine mM.of (cc := cX4_common) (nL := 6) (ret0 := (some .int)) (by decide +kernel) rfl (Nat.le_of_ble_eq_true rfl) ?_
  intro p e s m args below meth c A C hini
  refine mW.sub (lv' := [(0, .ref (ad 46)), (1, .int a1), (2, .int a2)]) [0, 1, 2] rfl ?_
  refine m_aload_n C dX4_common_0 rfl 0 rfl ?_
  refine m_iload_n C dX4_common_1 rfl 1 rfl ?_
  refine m_callS C (p_X4_isFile l D cy ad ln v ou a1) (va_cwS 1 C.2.2.2.2.1 gX4_common_X4_isFile rfl rfl rfl (by decide +kernel) ⟨Nat.le_of_ble_eq_true rfl, Nat.le_of_ble_eq_true rfl⟩) rfl rfl (Nat.le_of_ble_eq_true rfl) dX4_common_2 ⟨by decide, by decide⟩ (fun r w1 h1 => ?_)
  obtain ⟨rfl, rfl⟩ := h1
  refine mW.eq (st' := [.int (pin a1 0 15), .ref (ad 46)]) rfl rfl rfl rfl ?_
  refine m_join (P := 20) (wM := gW cy ad ln v ou) (lvM := [(0, .ref (ad 46)), (1, .int a1), (2, .int a2)]) (stM := [.int (if (pin a1 0 15) = 0 then 1 else if (pin a2 0 15) = 0 then 1 else 0), .ref (ad 46)]) ?_ (fun hJ20_3 => ?_)
  · refine m_iconst (v := 0) C dX4_common_20 (by decide) ?_
    refine m_iconst (v := 0) C dX4_common_21 (by decide) ?_
    refine m_callV C (p_X4_refuse l D cy ad ln v ou (if (pin a1 0 15) = 0 then 1 else if (pin a2 0 15) = 0 then 1 else 0) 0 0) (cwV 3 C.2.2.2.2.1 gX4_common_X4_refuse rfl rfl rfl (by decide +kernel) ⟨Nat.le_of_ble_eq_true rfl, Nat.le_of_ble_eq_true rfl⟩) 46 gp_46 rfl rfl rfl (Nat.le_of_ble_eq_true rfl) dX4_common_22 ⟨by decide, by decide⟩ (fun r w1 h1 => ?_)
    obtain ⟨v4, ev4⟩ : ∃ z : gV, z = vrf v (if (pin a1 0 15) = 0 then 1 else if (pin a2 0 15) = 0 then 1 else 0) 0 0 := ⟨_, rfl⟩
    rw [← ev4] at h1
    obtain ⟨rfl, rfl⟩ := h1
    refine mW.eq (st' := [.int (prf (if (pin a1 0 15) = 0 then 1 else if (pin a2 0 15) = 0 then 1 else 0) 0 0)]) rfl rfl rfl rfl ?_
    have h := h v4 ev4
    refine m_if_eq (tgt := 30) C dX4_common_25 (by decide) (fun c5 => ?_) (fun c5 => ?_)
    · have h := h.1 c5
      refine m_iconst (v := 0) C dX4_common_30 (by decide) ?_
      refine m_istore_n (lv' := [(3, .int 0), (0, .ref (ad 46)), (1, .int a1), (2, .int a2)]) C dX4_common_31 rfl (by decide) rfl ?_
      refine m_iconst (v := 0) C dX4_common_32 (by decide) ?_
      refine m_istore (lv' := [(4, .int 0), (3, .int 0), (0, .ref (ad 46)), (1, .int a1), (2, .int a2)]) C dX4_common_33 (by decide) rfl ?_
      obtain ⟨I35, ⟨n0, h0⟩, hI⟩ := h
      refine mW.sub (lv' := [(0, .ref (ad 46)), (1, .int a1), (2, .int a2), (3, .int 0), (4, .int 0)]) [2, 3, 4, 1, 0] rfl ?_
      refine m_ind (σ := Int32 × Int32 × gV) (fun n z => I35 n z.1 z.2.1 z.2.2) (fun z => gW cy ad ln z.2.2 ou) 35 (fun z => [(0, .ref (ad 46)), (1, .int a1), (2, .int a2), (3, .int z.1), (4, .int z.2.1)]) ?_ n0 (0, 0, v4) h0
      intro n z hi ih
      obtain ⟨x6, x7, v8⟩ := z
      have h := hI n x6 x7 v8 hi
      show mW _ _ _ _ _ _ _ _ _ _ _ _ _ _ _ _ (gW cy ad ln v8 ou) 35 [(0, .ref (ad 46)), (1, .int a1), (2, .int a2), (3, .int x6), (4, .int x7)] []
      refine m_iload C dX4_common_35 4 rfl ?_
      refine m_aload_n C dX4_common_37 rfl 0 rfl ?_
      refine m_get (T := TX4) (N := 19) C hiX4_common_X4 46 gp_46 rfl 14 (by decide) (by decide +kernel) rfl dX4_common_38 ?_
      refine m_iload_n C dX4_common_41 rfl 1 rfl ?_
      obtain ⟨b9, h⟩ := h
      refine m_iald C 54 (gp_I (by decide)) b9 dX4_common_42 ?_
      refine m_icmp_ge (tgt := 91) C dX4_common_43 (by decide) (fun c10 => ?_) (fun c10 => ?_)
      · have h := h.1 c10
        refine m_iload_n C dX4_common_91 rfl 3 rfl ?_
        exact m_iret C dX4_common_92 (Nat.le_of_ble_eq_true rfl) (Nat.le_of_ble_eq_true rfl) ⟨_, _, rfl, h, rfl⟩
      · have h := h.2 c10
        refine m_aload_n C dX4_common_46 rfl 0 rfl ?_
        refine m_get (T := TX4) (N := 19) C hiX4_common_X4 46 gp_46 rfl 15 (by decide) (by decide +kernel) rfl dX4_common_47 ?_
        refine m_sipush (v := 1500) C dX4_common_50 (by decide) ?_
        refine m_iload_n C dX4_common_53 rfl 1 rfl ?_
        refine m_imul C dX4_common_54 ?_
        refine m_iload C dX4_common_55 4 rfl ?_
        refine m_iadd C dX4_common_57 ?_
        obtain ⟨b11, h⟩ := h
        refine m_iald C 55 (gp_I (by decide)) b11 dX4_common_58 ?_
        refine m_topi (fun x12 ex12 => ?_)
        have h := h x12 ex12
        refine m_istore (lv' := [(5, .int x12), (0, .ref (ad 46)), (1, .int a1), (2, .int a2), (3, .int x6), (4, .int x7)]) C dX4_common_59 (by decide) rfl ?_
        refine m_aload_n C dX4_common_61 rfl 1 rfl ?_
        refine m_iload_n C dX4_common_62 rfl 3 rfl ?_
        refine m_iload C dX4_common_63 0 rfl ?_
        refine m_callV C (s_X4_has l D cy ad ln v8 ou a2 x12  h) (cwV 2 C.2.2.2.2.1 gX4_common_X4_has rfl rfl rfl (by decide +kernel) ⟨Nat.le_of_ble_eq_true rfl, Nat.le_of_ble_eq_true rfl⟩) 46 gp_46 rfl rfl rfl (Nat.le_of_ble_eq_true rfl) dX4_common_65 ⟨by decide, by decide⟩ (fun r w1 h1 => ?_)
        obtain ⟨x13, v14, rfl, h, rfl⟩ := h1
        refine mW.eq (st' := [.int x13]) rfl rfl rfl rfl ?_
        obtain ⟨b16, h⟩ := h
        refine m_join (P := 84) (wM := gW cy ad ln v14 ou) (lvM := [(5, .int x12), (0, .ref (ad 46)), (1, .int a1), (2, .int a2), (3, .int x6), (4, .int x7)]) (stM := [.int (if x13 = 0 then x6 else x6 + (v14 57 x12.toNatClampNeg))]) ?_ (fun hJ84_17 => ?_)
        · refine m_topi (fun x18 ex18 => ?_)
          have h := h x18 ex18
          refine m_istore_n (lv' := [(3, .int x18), (5, .int x12), (0, .ref (ad 46)), (1, .int a1), (2, .int a2), (4, .int x7)]) C dX4_common_84 rfl (by decide) rfl ?_
          refine m_iinc (lv' := [(4, .int (x7 + 1)), (3, .int x18), (5, .int x12), (0, .ref (ad 46)), (1, .int a1), (2, .int a2)]) C dX4_common_85 (k := 5) rfl rfl (by decide) rfl ?_
          refine m_goto (tgt := 35) C dX4_common_88 (by decide) ?_
          obtain ⟨n19, hn, h⟩ := h
          exact mW.sub [3, 4, 5, 1, 0] rfl (ih n19 (x18, (x7 + 1), v14) hn h)
        · refine m_if_eq (tgt := 83) C dX4_common_68 (by decide) (fun c15 => ?_) (fun c15 => ?_)
          · refine m_iload_n C dX4_common_83 rfl 4 rfl ?_
            refine mW.sub (lv' := [(5, .int x12), (0, .ref (ad 46)), (1, .int a1), (2, .int a2), (3, .int x6), (4, .int x7)]) [0, 1, 2, 3, 4, 5] rfl ?_
            exact mW.eq rfl rfl (by simp only [if_pos c15]) rfl hJ84_17
          · refine m_iload_n C dX4_common_71 rfl 4 rfl ?_
            refine m_aload_n C dX4_common_72 rfl 1 rfl ?_
            refine m_get (T := TX4) (N := 19) C hiX4_common_X4 46 gp_46 rfl 17 (by decide) (by decide +kernel) rfl dX4_common_73 ?_
            refine m_iload C dX4_common_76 0 rfl ?_
            refine m_iald C 57 (gp_I (by decide)) (b16 c15) dX4_common_78 ?_
            refine m_iadd C dX4_common_79 ?_
            refine m_goto (tgt := 84) C dX4_common_80 (by decide) ?_
            refine mW.sub (lv' := [(5, .int x12), (0, .ref (ad 46)), (1, .int a1), (2, .int a2), (3, .int x6), (4, .int x7)]) [0, 1, 2, 3, 4, 5] rfl ?_
            exact mW.eq rfl rfl (by simp only [if_neg c15]) rfl hJ84_17
    · have h := h.2 c5
      refine m_iconst (v := 0) C dX4_common_28 (by decide) ?_
      exact m_iret C dX4_common_29 (Nat.le_of_ble_eq_true rfl) (Nat.le_of_ble_eq_true rfl) ⟨_, _, rfl, h, rfl⟩
  · refine m_if_eq (tgt := 15) C dX4_common_5 (by decide) (fun c1 => ?_) (fun c1 => ?_)
    · refine m_iconst (v := 1) C dX4_common_15 (by decide) ?_
      refine m_goto (tgt := 20) C dX4_common_16 (by decide) ?_
      refine mW.sub (lv' := [(0, .ref (ad 46)), (1, .int a1), (2, .int a2)]) [0, 1, 2] rfl ?_
      exact mW.eq rfl rfl (by simp only [if_pos c1]) rfl hJ20_3
    · refine m_iload_n C dX4_common_8 rfl 2 rfl ?_
      refine m_callS C (p_X4_isFile l D cy ad ln v ou a2) (va_cwS 1 C.2.2.2.2.1 gX4_common_X4_isFile rfl rfl rfl (by decide +kernel) ⟨Nat.le_of_ble_eq_true rfl, Nat.le_of_ble_eq_true rfl⟩) rfl rfl (Nat.le_of_ble_eq_true rfl) dX4_common_9 ⟨by decide, by decide⟩ (fun r w1 h1 => ?_)
      obtain ⟨rfl, rfl⟩ := h1
      refine mW.eq (st' := [.int (pin a2 0 15), .ref (ad 46)]) rfl rfl rfl rfl ?_
      refine m_if_ne (tgt := 19) C dX4_common_12 (by decide) (fun c2 => ?_) (fun c2 => ?_)
      · refine m_iconst (v := 0) C dX4_common_19 (by decide) ?_
        refine mW.sub (lv' := [(0, .ref (ad 46)), (1, .int a1), (2, .int a2)]) [0, 1, 2] rfl ?_
        exact mW.eq rfl rfl (by simp only [if_neg c1, if_neg c2]) rfl hJ20_3
      · refine m_iconst (v := 1) C dX4_common_15 (by decide) ?_
        refine m_goto (tgt := 20) C dX4_common_16 (by decide) ?_
        refine mW.sub (lv' := [(0, .ref (ad 46)), (1, .int a1), (2, .int a2)]) [0, 1, 2] rfl ?_
        exact mW.eq rfl rfl (by simp only [if_neg c1, if_pos c2]) rfl hJ20_3
theorem hiX4_all_X4 : ∀ w ∈ wsX40, w ∈ wsX4_all := by decide +kernel
def wp_X4_all (ln : Nat → Nat) (v : gV) (a1 : Int32) (post : Int32 → gV → Prop) : Prop :=
  (∀ v3 : gV, v3 = vrf v (if (pin a1 0 2) = 0 then 1 else 0) 0 0 → ((((prf (if (pin a1 0 2) = 0 then 1 else 0) 0 0) = 0) → (∃ I32 : Nat → Int32 → Int32 → Int32 → Prop, (∃ n, I32 n 0 0 0) ∧ ∀ (n : Nat) (x5 : Int32) (x6 : Int32) (x7 : Int32), I32 n x5 x6 x7 → (((400 ≤ x7) → ((post (if a1 = 0 then x5 else if a1 = 1 then x6 else v3 46 4) v3))) ∧ (¬ (400 ≤ x7) → (vp_in x7 (ln 56) ∧ ((∀ x15 : Int32, x15 = (if (v3 56 x7.toNatClampNeg) ≤ 0 then x5 else x5 + 1) → (vp_in x7 (ln 56) ∧ (((¬ ((v3 56 x7.toNatClampNeg) ≤ 0)) → vp_in x7 (ln 57)) ∧ (∀ x20 : Int32, x20 = (if (v3 56 x7.toNatClampNeg) ≤ 0 then x6 else x6 + (v3 57 x7.toNatClampNeg)) → (∃ n', n' < n ∧ I32 n' x15 x20 (x7 + 1)))))))))))) ∧ (¬ ((prf (if (pin a1 0 2) = 0 then 1 else 0) 0 0) = 0) → (post 0 v3))))
set_option maxHeartbeats 4000000 in
set_option maxRecDepth 100000 in
theorem s_X4_all (l : Launch) (D : va_G) (cy : Nat → ClassId) (ad ln : Nat → Nat) (v : gV) (ou : Nat → Int64) (a1 : Int32) {post : Int32 → gV → Prop} (h : wp_X4_all ln v a1 post) : mM l D cy yX4_all wsX4_all 2 0 0 [.ref (ad 46), .int a1] (gW cy ad ln v ou) (fun r w1 => ∃ (x1 : Int32) (v1 : gV), r = some (.int x1) ∧ post x1 v1 ∧ w1 = gW cy ad ln v1 ou) := by
  unfold wp_X4_all at h
  refine mM.of (cc := cX4_all) (nL := 5) (ret0 := (some .int)) (by decide +kernel) rfl (Nat.le_of_ble_eq_true rfl) ?_
  intro p e s m args below meth c A C hini
  refine mW.sub (lv' := [(0, .ref (ad 46)), (1, .int a1)]) [0, 1] rfl ?_
  refine m_aload_n C dX4_all_0 rfl 0 rfl ?_
  refine m_iload_n C dX4_all_1 rfl 1 rfl ?_
  refine m_iconst (v := 0) C dX4_all_2 (by decide) ?_
  refine m_iconst (v := 2) C dX4_all_3 (by decide) ?_
  refine m_callS C (p_X4_in l D cy ad ln v ou a1 0 2) (va_cwS 3 C.2.2.2.2.1 gX4_all_X4_in rfl rfl rfl (by decide +kernel) ⟨Nat.le_of_ble_eq_true rfl, Nat.le_of_ble_eq_true rfl⟩) rfl rfl (Nat.le_of_ble_eq_true rfl) dX4_all_4 ⟨by decide, by decide⟩ (fun r w1 h1 => ?_)
  obtain ⟨rfl, rfl⟩ := h1
  refine mW.eq (st' := [.int (pin a1 0 2), .ref (ad 46)]) rfl rfl rfl rfl ?_
  refine m_join (P := 15) (wM := gW cy ad ln v ou) (lvM := [(0, .ref (ad 46)), (1, .int a1)]) (stM := [.int (if (pin a1 0 2) = 0 then 1 else 0), .ref (ad 46)]) ?_ (fun hJ15_2 => ?_)
  · refine m_iconst (v := 0) C dX4_all_15 (by decide) ?_
    refine m_iconst (v := 0) C dX4_all_16 (by decide) ?_
    refine m_callV C (p_X4_refuse l D cy ad ln v ou (if (pin a1 0 2) = 0 then 1 else 0) 0 0) (cwV 3 C.2.2.2.2.1 gX4_all_X4_refuse rfl rfl rfl (by decide +kernel) ⟨Nat.le_of_ble_eq_true rfl, Nat.le_of_ble_eq_true rfl⟩) 46 gp_46 rfl rfl rfl (Nat.le_of_ble_eq_true rfl) dX4_all_17 ⟨by decide, by decide⟩ (fun r w1 h1 => ?_)
    obtain ⟨v3, ev3⟩ : ∃ z : gV, z = vrf v (if (pin a1 0 2) = 0 then 1 else 0) 0 0 := ⟨_, rfl⟩
    rw [← ev3] at h1
    obtain ⟨rfl, rfl⟩ := h1
    refine mW.eq (st' := [.int (prf (if (pin a1 0 2) = 0 then 1 else 0) 0 0)]) rfl rfl rfl rfl ?_
    have h := h v3 ev3
    refine m_if_eq (tgt := 25) C dX4_all_20 (by decide) (fun c4 => ?_) (fun c4 => ?_)
    · have h := h.1 c4
      refine m_iconst (v := 0) C dX4_all_25 (by decide) ?_
      refine m_istore_n (lv' := [(2, .int 0), (0, .ref (ad 46)), (1, .int a1)]) C dX4_all_26 rfl (by decide) rfl ?_
      refine m_iconst (v := 0) C dX4_all_27 (by decide) ?_
      refine m_istore_n (lv' := [(3, .int 0), (2, .int 0), (0, .ref (ad 46)), (1, .int a1)]) C dX4_all_28 rfl (by decide) rfl ?_
      refine m_iconst (v := 0) C dX4_all_29 (by decide) ?_
      refine m_istore (lv' := [(4, .int 0), (3, .int 0), (2, .int 0), (0, .ref (ad 46)), (1, .int a1)]) C dX4_all_30 (by decide) rfl ?_
      obtain ⟨I32, ⟨n0, h0⟩, hI⟩ := h
      refine mW.sub (lv' := [(0, .ref (ad 46)), (1, .int a1), (2, .int 0), (3, .int 0), (4, .int 0)]) [3, 4, 2, 1, 0] rfl ?_
      refine m_ind (σ := Int32 × Int32 × Int32) (fun n z => I32 n z.1 z.2.1 z.2.2) (fun z => gW cy ad ln v3 ou) 32 (fun z => [(0, .ref (ad 46)), (1, .int a1), (2, .int z.1), (3, .int z.2.1), (4, .int z.2.2)]) ?_ n0 (0, 0, 0) h0
      intro n z hi ih
      obtain ⟨x5, x6, x7⟩ := z
      have h := hI n x5 x6 x7 hi
      show mW _ _ _ _ _ _ _ _ _ _ _ _ _ _ _ _ (gW cy ad ln v3 ou) 32 [(0, .ref (ad 46)), (1, .int a1), (2, .int x5), (3, .int x6), (4, .int x7)] []
      refine m_iload C dX4_all_32 4 rfl ?_
      refine m_sipush (v := 400) C dX4_all_34 (by decide) ?_
      refine m_icmp_ge (tgt := 88) C dX4_all_37 (by decide) (fun c8 => ?_) (fun c8 => ?_)
      · have h := h.1 c8
        refine m_iload_n C dX4_all_88 rfl 1 rfl ?_
        refine m_join (P := 109) (wM := gW cy ad ln v3 ou) (lvM := [(0, .ref (ad 46)), (1, .int a1), (2, .int x5), (3, .int x6), (4, .int x7)]) (stM := [.int (if a1 = 0 then x5 else if a1 = 1 then x6 else v3 46 4)]) ?_ (fun hJ109_11 => ?_)
        · exact m_iret C dX4_all_109 (Nat.le_of_ble_eq_true rfl) (Nat.le_of_ble_eq_true rfl) ⟨_, _, rfl, h, rfl⟩
        · refine m_if_ne (tgt := 96) C dX4_all_89 (by decide) (fun c9 => ?_) (fun c9 => ?_)
          · refine m_iload_n C dX4_all_96 rfl 1 rfl ?_
            refine m_iconst (v := 1) C dX4_all_97 (by decide) ?_
            refine m_icmp_ne (tgt := 105) C dX4_all_98 (by decide) (fun c10 => ?_) (fun c10 => ?_)
            · refine m_aload_n C dX4_all_105 rfl 0 rfl ?_
              refine m_get (T := TX4) (N := 19) C hiX4_all_X4 46 gp_46 rfl 4 (by decide) (by decide +kernel) rfl dX4_all_106 ?_
              refine mW.sub (lv' := [(0, .ref (ad 46)), (1, .int a1), (2, .int x5), (3, .int x6), (4, .int x7)]) [0, 1, 2, 3, 4] rfl ?_
              exact mW.eq rfl rfl (by simp only [if_neg c9, if_neg c10]) rfl hJ109_11
            · refine m_iload_n C dX4_all_101 rfl 3 rfl ?_
              refine m_goto (tgt := 109) C dX4_all_102 (by decide) ?_
              refine mW.sub (lv' := [(0, .ref (ad 46)), (1, .int a1), (2, .int x5), (3, .int x6), (4, .int x7)]) [0, 1, 2, 3, 4] rfl ?_
              exact mW.eq rfl rfl (by simp only [if_neg c9, if_pos c10]) rfl hJ109_11
          · refine m_iload_n C dX4_all_92 rfl 2 rfl ?_
            refine m_goto (tgt := 109) C dX4_all_93 (by decide) ?_
            refine mW.sub (lv' := [(0, .ref (ad 46)), (1, .int a1), (2, .int x5), (3, .int x6), (4, .int x7)]) [0, 1, 2, 3, 4] rfl ?_
            exact mW.eq rfl rfl (by simp only [if_pos c9]) rfl hJ109_11
      · have h := h.2 c8
        refine m_aload_n C dX4_all_40 rfl 0 rfl ?_
        refine m_get (T := TX4) (N := 19) C hiX4_all_X4 46 gp_46 rfl 16 (by decide) (by decide +kernel) rfl dX4_all_41 ?_
        refine m_iload C dX4_all_44 4 rfl ?_
        obtain ⟨b12, h⟩ := h
        refine m_iald C 56 (gp_I (by decide)) b12 dX4_all_46 ?_
        refine m_join (P := 57) (wM := gW cy ad ln v3 ou) (lvM := [(0, .ref (ad 46)), (1, .int a1), (2, .int x5), (3, .int x6), (4, .int x7)]) (stM := [.int (if (v3 56 x7.toNatClampNeg) ≤ 0 then x5 else x5 + 1)]) ?_ (fun hJ57_14 => ?_)
        · refine m_topi (fun x15 ex15 => ?_)
          have h := h x15 ex15
          refine m_istore_n (lv' := [(2, .int x15), (0, .ref (ad 46)), (1, .int a1), (3, .int x6), (4, .int x7)]) C dX4_all_57 rfl (by decide) rfl ?_
          refine m_aload_n C dX4_all_58 rfl 1 rfl ?_
          refine m_get (T := TX4) (N := 19) C hiX4_all_X4 46 gp_46 rfl 16 (by decide) (by decide +kernel) rfl dX4_all_59 ?_
          refine m_iload C dX4_all_62 4 rfl ?_
          obtain ⟨b16, h⟩ := h
          refine m_iald C 56 (gp_I (by decide)) b16 dX4_all_64 ?_
          obtain ⟨b18, h⟩ := h
          refine m_join (P := 81) (wM := gW cy ad ln v3 ou) (lvM := [(2, .int x15), (0, .ref (ad 46)), (1, .int a1), (3, .int x6), (4, .int x7)]) (stM := [.int (if (v3 56 x7.toNatClampNeg) ≤ 0 then x6 else x6 + (v3 57 x7.toNatClampNeg))]) ?_ (fun hJ81_19 => ?_)
          · refine m_topi (fun x20 ex20 => ?_)
            have h := h x20 ex20
            refine m_istore_n (lv' := [(3, .int x20), (2, .int x15), (0, .ref (ad 46)), (1, .int a1), (4, .int x7)]) C dX4_all_81 rfl (by decide) rfl ?_
            refine m_iinc (lv' := [(4, .int (x7 + 1)), (3, .int x20), (2, .int x15), (0, .ref (ad 46)), (1, .int a1)]) C dX4_all_82 (k := 4) rfl rfl (by decide) rfl ?_
            refine m_goto (tgt := 32) C dX4_all_85 (by decide) ?_
            obtain ⟨n21, hn, h⟩ := h
            exact mW.sub [3, 4, 2, 1, 0] rfl (ih n21 (x15, x20, (x7 + 1)) hn h)
          · refine m_if_le (tgt := 80) C dX4_all_65 (by decide) (fun c17 => ?_) (fun c17 => ?_)
            · refine m_iload_n C dX4_all_80 rfl 3 rfl ?_
              refine mW.sub (lv' := [(2, .int x15), (0, .ref (ad 46)), (1, .int a1), (3, .int x6), (4, .int x7)]) [0, 1, 2, 3, 4] rfl ?_
              exact mW.eq rfl rfl (by simp only [if_pos c17]) rfl hJ81_19
            · refine m_iload_n C dX4_all_68 rfl 3 rfl ?_
              refine m_aload_n C dX4_all_69 rfl 1 rfl ?_
              refine m_get (T := TX4) (N := 19) C hiX4_all_X4 46 gp_46 rfl 17 (by decide) (by decide +kernel) rfl dX4_all_70 ?_
              refine m_iload C dX4_all_73 4 rfl ?_
              refine m_iald C 57 (gp_I (by decide)) (b18 c17) dX4_all_75 ?_
              refine m_iadd C dX4_all_76 ?_
              refine m_goto (tgt := 81) C dX4_all_77 (by decide) ?_
              refine mW.sub (lv' := [(2, .int x15), (0, .ref (ad 46)), (1, .int a1), (3, .int x6), (4, .int x7)]) [0, 1, 2, 3, 4] rfl ?_
              exact mW.eq rfl rfl (by simp only [if_neg c17]) rfl hJ81_19
        · refine m_if_le (tgt := 56) C dX4_all_47 (by decide) (fun c13 => ?_) (fun c13 => ?_)
          · refine m_iload_n C dX4_all_56 rfl 2 rfl ?_
            refine mW.sub (lv' := [(0, .ref (ad 46)), (1, .int a1), (2, .int x5), (3, .int x6), (4, .int x7)]) [0, 1, 2, 3, 4] rfl ?_
            exact mW.eq rfl rfl (by simp only [if_pos c13]) rfl hJ57_14
          · refine m_iload_n C dX4_all_50 rfl 2 rfl ?_
            refine m_iconst (v := 1) C dX4_all_51 (by decide) ?_
            refine m_iadd C dX4_all_52 ?_
            refine m_goto (tgt := 57) C dX4_all_53 (by decide) ?_
            refine mW.sub (lv' := [(0, .ref (ad 46)), (1, .int a1), (2, .int x5), (3, .int x6), (4, .int x7)]) [0, 1, 2, 3, 4] rfl ?_
            exact mW.eq rfl rfl (by simp only [if_neg c13]) rfl hJ57_14
    · have h := h.2 c4
      refine m_iconst (v := 0) C dX4_all_23 (by decide) ?_
      exact m_iret C dX4_all_24 (Nat.le_of_ble_eq_true rfl) (Nat.le_of_ble_eq_true rfl) ⟨_, _, rfl, h, rfl⟩
  · refine m_if_ne (tgt := 14) C dX4_all_7 (by decide) (fun c1 => ?_) (fun c1 => ?_)
    · refine m_iconst (v := 0) C dX4_all_14 (by decide) ?_
      refine mW.sub (lv' := [(0, .ref (ad 46)), (1, .int a1)]) [0, 1] rfl ?_
      exact mW.eq rfl rfl (by simp only [if_neg c1]) rfl hJ15_2
    · refine m_iconst (v := 1) C dX4_all_10 (by decide) ?_
      refine m_goto (tgt := 15) C dX4_all_11 (by decide) ?_
      refine mW.sub (lv' := [(0, .ref (ad 46)), (1, .int a1)]) [0, 1] rfl ?_
      exact mW.eq rfl rfl (by simp only [if_pos c1]) rfl hJ15_2
end
section
theorem hiX4_cut_X4 : ∀ w ∈ wsX40, w ∈ wsX4_cut := by decide +kernel
def wp_X4_cut (ln : Nat → Nat) (v : gV) (post : gV → Prop) : Prop :=
  ∀ v1 : gV, v1 = va_up v 46 (upd (v 46) 8 0) → (∃ I9 : Nat → Int32 → Int32 → gV → Prop, (∃ n, I9 n 0 1 v1) ∧ ∀ (n : Nat) (x2 : Int32) (x3 : Int32) (v4 : gV), I9 n x2 x3 v4 → ((((v4 46 6) < x3) → (post v4)) ∧ (¬ ((v4 46 6) < x3) → (((x3 = (v4 46 6)) → ((((1 : Int32) = 0) → (∃ n', n' < n ∧ I9 n' x2 (x3 + 1) v4)) ∧ (¬ ((1 : Int32) = 0) → (vp_in (v4 46 8) (ln 49) ∧ ∀ v10 : gV, v10 = va_up v4 49 (upd (v4 49) (v4 46 8).toNatClampNeg x3) → (∀ v11 : gV, v11 = va_up v10 46 (upd (v10 46) 8 ((v10 46 8) + 1)) → (∃ n', n' < n ∧ I9 n' x3 (x3 + 1) v11)))))) ∧ (¬ (x3 = (v4 46 6)) → ((((x3 - x2) = (v4 46 3)) → ((((1 : Int32) = 0) → (∃ n', n' < n ∧ I9 n' x2 (x3 + 1) v4)) ∧ (¬ ((1 : Int32) = 0) → (vp_in (v4 46 8) (ln 49) ∧ ∀ v17 : gV, v17 = va_up v4 49 (upd (v4 49) (v4 46 8).toNatClampNeg x3) → (∀ v18 : gV, v18 = va_up v17 46 (upd (v17 46) 8 ((v17 46 8) + 1)) → (∃ n', n' < n ∧ I9 n' x3 (x3 + 1) v18)))))) ∧ (¬ ((x3 - x2) = (v4 46 3)) → ((((x3 - x2) < (v4 46 2)) → ((((0 : Int32) = 0) → (∃ n', n' < n ∧ I9 n' x2 (x3 + 1) v4)) ∧ (¬ ((0 : Int32) = 0) → (vp_in (v4 46 8) (ln 49) ∧ ∀ v24 : gV, v24 = va_up v4 49 (upd (v4 49) (v4 46 8).toNatClampNeg x3) → (∀ v25 : gV, v25 = va_up v24 46 (upd (v24 46) 8 ((v24 46 8) + 1)) → (∃ n', n' < n ∧ I9 n' x3 (x3 + 1) v25)))))) ∧ (¬ ((x3 - x2) < (v4 46 2)) → (wp_X4_sum ln v4 x2 x3 (fun (x27 : Int32) (v28 : gV) => ((∀ x31 : Int32, x31 = (if (x27 &&& ((1 <<< ((v28 46 1) &&& 31)) - 1)) = 0 then 1 else 0) → (((x31 = 0) → (∃ n', n' < n ∧ I9 n' x2 (x3 + 1) v28)) ∧ (¬ (x31 = 0) → (vp_in (v28 46 8) (ln 49) ∧ ∀ v35 : gV, v35 = va_up v28 49 (upd (v28 49) (v28 46 8).toNatClampNeg x3) → (∀ v36 : gV, v36 = va_up v35 46 (upd (v35 46) 8 ((v35 46 8) + 1)) → (∃ n', n' < n ∧ I9 n' x3 (x3 + 1) v36))))))))))))))))))
set_option maxHeartbeats 4000000 in
set_option maxRecDepth 100000 in
theorem s_X4_cut (l : Launch) (D : va_G) (cy : Nat → ClassId) (ad ln : Nat → Nat) (v : gV) (ou : Nat → Int64) {post : gV → Prop} (h : wp_X4_cut ln v  post) : mM l D cy yX4_cut wsX4_cut 3 0 0 [.ref (ad 46)] (gW cy ad ln v ou) (fun r w1 => ∃ v1 : gV, r = none ∧ post v1 ∧ w1 = gW cy ad ln v1 ou) := by
  unfold wp_X4_cut at h
  refine mM.of (cc := cX4_cut) (nL := 5) (ret0 := none) (by decide +kernel) rfl (Nat.le_of_ble_eq_true rfl) ?_
  intro p e s m args below meth c A C hini
  refine mW.sub (lv' := [(0, .ref (ad 46))]) [0] rfl ?_
  refine m_aload_n C dX4_cut_0 rfl 0 rfl ?_
  refine m_iconst (v := 0) C dX4_cut_1 (by decide) ?_
  obtain ⟨v1, ev1⟩ : ∃ z : gV, z = va_up v 46 (upd (v 46) 8 0) := ⟨_, rfl⟩
  have h := h v1 ev1
  refine m_put (w' := gW cy ad ln v1 ou) (T := TX4) (N := 19) C hiX4_cut_X4 tyX4 tyX4_ok nmX4 46 gp_46 rfl 8 (by decide) (by decide +kernel) rfl rfl rfl (Nat.le_of_ble_eq_true rfl) dX4_cut_2 (by rw [ev1]; exact gW_set (k := 46) (by decide) rfl) ?_
  refine m_iconst (v := 0) C dX4_cut_5 (by decide) ?_
  refine m_istore_n (lv' := [(1, .int 0), (0, .ref (ad 46))]) C dX4_cut_6 rfl (by decide) rfl ?_
  refine m_iconst (v := 1) C dX4_cut_7 (by decide) ?_
  refine m_istore_n (lv' := [(2, .int 1), (1, .int 0), (0, .ref (ad 46))]) C dX4_cut_8 rfl (by decide) rfl ?_
  obtain ⟨I9, ⟨n0, h0⟩, hI⟩ := h
  refine mW.sub (lv' := [(0, .ref (ad 46)), (1, .int 0), (2, .int 1)]) [2, 1, 0] rfl ?_
  refine m_ind (σ := Int32 × Int32 × gV) (fun n z => I9 n z.1 z.2.1 z.2.2) (fun z => gW cy ad ln z.2.2 ou) 9 (fun z => [(0, .ref (ad 46)), (1, .int z.1), (2, .int z.2.1)]) ?_ n0 (0, 1, v1) h0
  intro n z hi ih
  obtain ⟨x2, x3, v4⟩ := z
  have h := hI n x2 x3 v4 hi
  show mW _ _ _ _ _ _ _ _ _ _ _ _ _ _ _ _ (gW cy ad ln v4 ou) 9 [(0, .ref (ad 46)), (1, .int x2), (2, .int x3)] []
  refine m_iload_n C dX4_cut_9 rfl 2 rfl ?_
  refine m_aload_n C dX4_cut_10 rfl 0 rfl ?_
  refine m_get (T := TX4) (N := 19) C hiX4_cut_X4 46 gp_46 rfl 6 (by decide) (by decide +kernel) rfl dX4_cut_11 ?_
  refine m_icmp_gt (tgt := 103) C dX4_cut_14 (by decide) (fun c5 => ?_) (fun c5 => ?_)
  · have h := h.1 c5
    exact m_vret C dX4_cut_103 (Nat.le_of_ble_eq_true rfl) (Nat.le_of_ble_eq_true rfl) ⟨_, rfl, h, rfl⟩
  · have h := h.2 c5
    refine m_iload_n C dX4_cut_17 rfl 2 rfl ?_
    refine m_iload_n C dX4_cut_18 rfl 1 rfl ?_
    refine m_isub C dX4_cut_19 ?_
    refine m_istore_n (lv' := [(3, .int (x3 - x2)), (0, .ref (ad 46)), (1, .int x2), (2, .int x3)]) C dX4_cut_20 rfl (by decide) rfl ?_
    refine m_iload_n C dX4_cut_21 rfl 3 rfl ?_
    refine m_aload_n C dX4_cut_22 rfl 1 rfl ?_
    refine m_get (T := TX4) (N := 19) C hiX4_cut_X4 46 gp_46 rfl 6 (by decide) (by decide +kernel) rfl dX4_cut_23 ?_
    refine m_icmp_eq (tgt := 63) C dX4_cut_26 (by decide) (fun c6 => ?_) (fun c6 => ?_)
    · have h := h.1 c6
      refine m_iconst (v := 1) C dX4_cut_63 (by decide) ?_
      refine m_goto (tgt := 68) C dX4_cut_64 (by decide) ?_
      refine m_istore (lv' := [(4, .int 1), (3, .int (x3 - x2)), (0, .ref (ad 46)), (1, .int x2), (2, .int x3)]) C dX4_cut_68 (by decide) rfl ?_
      refine m_iload C dX4_cut_70 0 rfl ?_
      refine m_if_eq (tgt := 97) C dX4_cut_72 (by decide) (fun c7 => ?_) (fun c7 => ?_)
      · have h := h.1 c7
        refine m_iinc (lv' := [(2, .int (x3 + 1)), (4, .int 1), (3, .int (x3 - x2)), (0, .ref (ad 46)), (1, .int x2)]) C dX4_cut_97 (k := 4) rfl rfl (by decide) rfl ?_
        refine m_goto (tgt := 9) C dX4_cut_100 (by decide) ?_
        obtain ⟨n8, hn, h⟩ := h
        exact mW.sub [3, 4, 0] rfl (ih n8 (x2, (x3 + 1), v4) hn h)
      · have h := h.2 c7
        refine m_aload_n C dX4_cut_75 rfl 2 rfl ?_
        refine m_get (T := TX4) (N := 19) C hiX4_cut_X4 46 gp_46 rfl 9 (by decide) (by decide +kernel) rfl dX4_cut_76 ?_
        refine m_aload_n C dX4_cut_79 rfl 2 rfl ?_
        refine m_get (T := TX4) (N := 19) C hiX4_cut_X4 46 gp_46 rfl 8 (by decide) (by decide +kernel) rfl dX4_cut_80 ?_
        refine m_iload_n C dX4_cut_83 rfl 4 rfl ?_
        obtain ⟨b9, h⟩ := h
        obtain ⟨v10, ev10⟩ : ∃ z : gV, z = va_up v4 49 (upd (v4 49) (v4 46 8).toNatClampNeg x3) := ⟨_, rfl⟩
        have h := h v10 ev10
        refine m_iast (w' := gW cy ad ln v10 ou) C 49 (gp_I (by decide)) b9 dX4_cut_84 (by rw [ev10]; exact gs_I (by decide)) ?_
        refine m_aload_n C dX4_cut_85 rfl 2 rfl ?_
        refine m_dup C dX4_cut_86 rfl ?_
        refine m_get (T := TX4) (N := 19) C hiX4_cut_X4 46 gp_46 rfl 8 (by decide) (by decide +kernel) rfl dX4_cut_87 ?_
        refine m_iconst (v := 1) C dX4_cut_90 (by decide) ?_
        refine m_iadd C dX4_cut_91 ?_
        obtain ⟨v11, ev11⟩ : ∃ z : gV, z = va_up v10 46 (upd (v10 46) 8 ((v10 46 8) + 1)) := ⟨_, rfl⟩
        have h := h v11 ev11
        refine m_put (w' := gW cy ad ln v11 ou) (T := TX4) (N := 19) C hiX4_cut_X4 tyX4 tyX4_ok nmX4 46 gp_46 rfl 8 (by decide) (by decide +kernel) rfl rfl rfl (Nat.le_of_ble_eq_true rfl) dX4_cut_92 (by rw [ev11]; exact gW_set (k := 46) (by decide) rfl) ?_
        refine m_iload_n C dX4_cut_95 rfl 4 rfl ?_
        refine m_istore_n (lv' := [(1, .int x3), (4, .int 1), (3, .int (x3 - x2)), (0, .ref (ad 46)), (2, .int x3)]) C dX4_cut_96 rfl (by decide) rfl ?_
        refine m_iinc (lv' := [(2, .int (x3 + 1)), (1, .int x3), (4, .int 1), (3, .int (x3 - x2)), (0, .ref (ad 46))]) C dX4_cut_97 (k := 4) rfl rfl (by decide) rfl ?_
        refine m_goto (tgt := 9) C dX4_cut_100 (by decide) ?_
        obtain ⟨n12, hn, h⟩ := h
        exact mW.sub [4, 1, 0] rfl (ih n12 (x3, (x3 + 1), v11) hn h)
    · have h := h.2 c6
      refine m_iload_n C dX4_cut_29 rfl 0 rfl ?_
      refine m_aload_n C dX4_cut_30 rfl 1 rfl ?_
      refine m_get (T := TX4) (N := 19) C hiX4_cut_X4 46 gp_46 rfl 3 (by decide) (by decide +kernel) rfl dX4_cut_31 ?_
      refine m_icmp_eq (tgt := 63) C dX4_cut_34 (by decide) (fun c13 => ?_) (fun c13 => ?_)
      · have h := h.1 c13
        refine m_iconst (v := 1) C dX4_cut_63 (by decide) ?_
        refine m_goto (tgt := 68) C dX4_cut_64 (by decide) ?_
        refine m_istore (lv' := [(4, .int 1), (3, .int (x3 - x2)), (0, .ref (ad 46)), (1, .int x2), (2, .int x3)]) C dX4_cut_68 (by decide) rfl ?_
        refine m_iload C dX4_cut_70 0 rfl ?_
        refine m_if_eq (tgt := 97) C dX4_cut_72 (by decide) (fun c14 => ?_) (fun c14 => ?_)
        · have h := h.1 c14
          refine m_iinc (lv' := [(2, .int (x3 + 1)), (4, .int 1), (3, .int (x3 - x2)), (0, .ref (ad 46)), (1, .int x2)]) C dX4_cut_97 (k := 4) rfl rfl (by decide) rfl ?_
          refine m_goto (tgt := 9) C dX4_cut_100 (by decide) ?_
          obtain ⟨n15, hn, h⟩ := h
          exact mW.sub [3, 4, 0] rfl (ih n15 (x2, (x3 + 1), v4) hn h)
        · have h := h.2 c14
          refine m_aload_n C dX4_cut_75 rfl 2 rfl ?_
          refine m_get (T := TX4) (N := 19) C hiX4_cut_X4 46 gp_46 rfl 9 (by decide) (by decide +kernel) rfl dX4_cut_76 ?_
          refine m_aload_n C dX4_cut_79 rfl 2 rfl ?_
          refine m_get (T := TX4) (N := 19) C hiX4_cut_X4 46 gp_46 rfl 8 (by decide) (by decide +kernel) rfl dX4_cut_80 ?_
          refine m_iload_n C dX4_cut_83 rfl 4 rfl ?_
          obtain ⟨b16, h⟩ := h
          obtain ⟨v17, ev17⟩ : ∃ z : gV, z = va_up v4 49 (upd (v4 49) (v4 46 8).toNatClampNeg x3) := ⟨_, rfl⟩
          have h := h v17 ev17
          refine m_iast (w' := gW cy ad ln v17 ou) C 49 (gp_I (by decide)) b16 dX4_cut_84 (by rw [ev17]; exact gs_I (by decide)) ?_
          refine m_aload_n C dX4_cut_85 rfl 2 rfl ?_
          refine m_dup C dX4_cut_86 rfl ?_
          refine m_get (T := TX4) (N := 19) C hiX4_cut_X4 46 gp_46 rfl 8 (by decide) (by decide +kernel) rfl dX4_cut_87 ?_
          refine m_iconst (v := 1) C dX4_cut_90 (by decide) ?_
          refine m_iadd C dX4_cut_91 ?_
          obtain ⟨v18, ev18⟩ : ∃ z : gV, z = va_up v17 46 (upd (v17 46) 8 ((v17 46 8) + 1)) := ⟨_, rfl⟩
          have h := h v18 ev18
          refine m_put (w' := gW cy ad ln v18 ou) (T := TX4) (N := 19) C hiX4_cut_X4 tyX4 tyX4_ok nmX4 46 gp_46 rfl 8 (by decide) (by decide +kernel) rfl rfl rfl (Nat.le_of_ble_eq_true rfl) dX4_cut_92 (by rw [ev18]; exact gW_set (k := 46) (by decide) rfl) ?_
          refine m_iload_n C dX4_cut_95 rfl 4 rfl ?_
          refine m_istore_n (lv' := [(1, .int x3), (4, .int 1), (3, .int (x3 - x2)), (0, .ref (ad 46)), (2, .int x3)]) C dX4_cut_96 rfl (by decide) rfl ?_
          refine m_iinc (lv' := [(2, .int (x3 + 1)), (1, .int x3), (4, .int 1), (3, .int (x3 - x2)), (0, .ref (ad 46))]) C dX4_cut_97 (k := 4) rfl rfl (by decide) rfl ?_
          refine m_goto (tgt := 9) C dX4_cut_100 (by decide) ?_
          obtain ⟨n19, hn, h⟩ := h
          exact mW.sub [4, 1, 0] rfl (ih n19 (x3, (x3 + 1), v18) hn h)
      · have h := h.2 c13
        refine m_iload_n C dX4_cut_37 rfl 0 rfl ?_
        refine m_aload_n C dX4_cut_38 rfl 1 rfl ?_
        refine m_get (T := TX4) (N := 19) C hiX4_cut_X4 46 gp_46 rfl 2 (by decide) (by decide +kernel) rfl dX4_cut_39 ?_
        refine m_icmp_lt (tgt := 67) C dX4_cut_42 (by decide) (fun c20 => ?_) (fun c20 => ?_)
        · have h := h.1 c20
          refine m_iconst (v := 0) C dX4_cut_67 (by decide) ?_
          refine m_istore (lv' := [(4, .int 0), (3, .int (x3 - x2)), (0, .ref (ad 46)), (1, .int x2), (2, .int x3)]) C dX4_cut_68 (by decide) rfl ?_
          refine m_iload C dX4_cut_70 0 rfl ?_
          refine m_if_eq (tgt := 97) C dX4_cut_72 (by decide) (fun c21 => ?_) (fun c21 => ?_)
          · have h := h.1 c21
            refine m_iinc (lv' := [(2, .int (x3 + 1)), (4, .int 0), (3, .int (x3 - x2)), (0, .ref (ad 46)), (1, .int x2)]) C dX4_cut_97 (k := 4) rfl rfl (by decide) rfl ?_
            refine m_goto (tgt := 9) C dX4_cut_100 (by decide) ?_
            obtain ⟨n22, hn, h⟩ := h
            exact mW.sub [3, 4, 0] rfl (ih n22 (x2, (x3 + 1), v4) hn h)
          · have h := h.2 c21
            refine m_aload_n C dX4_cut_75 rfl 2 rfl ?_
            refine m_get (T := TX4) (N := 19) C hiX4_cut_X4 46 gp_46 rfl 9 (by decide) (by decide +kernel) rfl dX4_cut_76 ?_
            refine m_aload_n C dX4_cut_79 rfl 2 rfl ?_
            refine m_get (T := TX4) (N := 19) C hiX4_cut_X4 46 gp_46 rfl 8 (by decide) (by decide +kernel) rfl dX4_cut_80 ?_
            refine m_iload_n C dX4_cut_83 rfl 4 rfl ?_
            obtain ⟨b23, h⟩ := h
            obtain ⟨v24, ev24⟩ : ∃ z : gV, z = va_up v4 49 (upd (v4 49) (v4 46 8).toNatClampNeg x3) := ⟨_, rfl⟩
            have h := h v24 ev24
            refine m_iast (w' := gW cy ad ln v24 ou) C 49 (gp_I (by decide)) b23 dX4_cut_84 (by rw [ev24]; exact gs_I (by decide)) ?_
            refine m_aload_n C dX4_cut_85 rfl 2 rfl ?_
            refine m_dup C dX4_cut_86 rfl ?_
            refine m_get (T := TX4) (N := 19) C hiX4_cut_X4 46 gp_46 rfl 8 (by decide) (by decide +kernel) rfl dX4_cut_87 ?_
            refine m_iconst (v := 1) C dX4_cut_90 (by decide) ?_
            refine m_iadd C dX4_cut_91 ?_
            obtain ⟨v25, ev25⟩ : ∃ z : gV, z = va_up v24 46 (upd (v24 46) 8 ((v24 46 8) + 1)) := ⟨_, rfl⟩
            have h := h v25 ev25
            refine m_put (w' := gW cy ad ln v25 ou) (T := TX4) (N := 19) C hiX4_cut_X4 tyX4 tyX4_ok nmX4 46 gp_46 rfl 8 (by decide) (by decide +kernel) rfl rfl rfl (Nat.le_of_ble_eq_true rfl) dX4_cut_92 (by rw [ev25]; exact gW_set (k := 46) (by decide) rfl) ?_
            refine m_iload_n C dX4_cut_95 rfl 4 rfl ?_
            refine m_istore_n (lv' := [(1, .int x3), (4, .int 0), (3, .int (x3 - x2)), (0, .ref (ad 46)), (2, .int x3)]) C dX4_cut_96 rfl (by decide) rfl ?_
            refine m_iinc (lv' := [(2, .int (x3 + 1)), (1, .int x3), (4, .int 0), (3, .int (x3 - x2)), (0, .ref (ad 46))]) C dX4_cut_97 (k := 4) rfl rfl (by decide) rfl ?_
            refine m_goto (tgt := 9) C dX4_cut_100 (by decide) ?_
            obtain ⟨n26, hn, h⟩ := h
            exact mW.sub [4, 1, 0] rfl (ih n26 (x3, (x3 + 1), v25) hn h)
        · have h := h.2 c20
          refine m_aload_n C dX4_cut_45 rfl 1 rfl ?_
          refine m_iload_n C dX4_cut_46 rfl 2 rfl ?_
          refine m_iload_n C dX4_cut_47 rfl 3 rfl ?_
          refine m_callV C (s_X4_sum l D cy ad ln v4 ou x2 x3  h) (cwV 2 C.2.2.2.2.1 gX4_cut_X4_sum rfl rfl rfl (by decide +kernel) ⟨Nat.le_of_ble_eq_true rfl, Nat.le_of_ble_eq_true rfl⟩) 46 gp_46 rfl rfl rfl (Nat.le_of_ble_eq_true rfl) dX4_cut_48 ⟨by decide, by decide⟩ (fun r w1 h1 => ?_)
          obtain ⟨x27, v28, rfl, h, rfl⟩ := h1
          refine mW.eq (st' := [.int x27]) rfl rfl rfl rfl ?_
          refine m_iconst (v := 1) C dX4_cut_51 (by decide) ?_
          refine m_aload_n C dX4_cut_52 rfl 1 rfl ?_
          refine m_get (T := TX4) (N := 19) C hiX4_cut_X4 46 gp_46 rfl 1 (by decide) (by decide +kernel) rfl dX4_cut_53 ?_
          refine m_ishl C dX4_cut_56 ?_
          refine m_iconst (v := 1) C dX4_cut_57 (by decide) ?_
          refine m_isub C dX4_cut_58 ?_
          refine m_iand C dX4_cut_59 ?_
          refine m_join (P := 68) (wM := gW cy ad ln v28 ou) (lvM := [(3, .int (x3 - x2)), (0, .ref (ad 46)), (1, .int x2), (2, .int x3)]) (stM := [.int (if (x27 &&& ((1 <<< ((v28 46 1) &&& 31)) - 1)) = 0 then 1 else 0)]) ?_ (fun hJ68_30 => ?_)
          · refine m_topi (fun x31 ex31 => ?_)
            have h := h x31 ex31
            refine m_istore (lv' := [(4, .int x31), (3, .int (x3 - x2)), (0, .ref (ad 46)), (1, .int x2), (2, .int x3)]) C dX4_cut_68 (by decide) rfl ?_
            refine m_iload C dX4_cut_70 0 rfl ?_
            refine m_if_eq (tgt := 97) C dX4_cut_72 (by decide) (fun c32 => ?_) (fun c32 => ?_)
            · have h := h.1 c32
              refine m_iinc (lv' := [(2, .int (x3 + 1)), (4, .int x31), (3, .int (x3 - x2)), (0, .ref (ad 46)), (1, .int x2)]) C dX4_cut_97 (k := 4) rfl rfl (by decide) rfl ?_
              refine m_goto (tgt := 9) C dX4_cut_100 (by decide) ?_
              obtain ⟨n33, hn, h⟩ := h
              exact mW.sub [3, 4, 0] rfl (ih n33 (x2, (x3 + 1), v28) hn h)
            · have h := h.2 c32
              refine m_aload_n C dX4_cut_75 rfl 2 rfl ?_
              refine m_get (T := TX4) (N := 19) C hiX4_cut_X4 46 gp_46 rfl 9 (by decide) (by decide +kernel) rfl dX4_cut_76 ?_
              refine m_aload_n C dX4_cut_79 rfl 2 rfl ?_
              refine m_get (T := TX4) (N := 19) C hiX4_cut_X4 46 gp_46 rfl 8 (by decide) (by decide +kernel) rfl dX4_cut_80 ?_
              refine m_iload_n C dX4_cut_83 rfl 4 rfl ?_
              obtain ⟨b34, h⟩ := h
              obtain ⟨v35, ev35⟩ : ∃ z : gV, z = va_up v28 49 (upd (v28 49) (v28 46 8).toNatClampNeg x3) := ⟨_, rfl⟩
              have h := h v35 ev35
              refine m_iast (w' := gW cy ad ln v35 ou) C 49 (gp_I (by decide)) b34 dX4_cut_84 (by rw [ev35]; exact gs_I (by decide)) ?_
              refine m_aload_n C dX4_cut_85 rfl 2 rfl ?_
              refine m_dup C dX4_cut_86 rfl ?_
              refine m_get (T := TX4) (N := 19) C hiX4_cut_X4 46 gp_46 rfl 8 (by decide) (by decide +kernel) rfl dX4_cut_87 ?_
              refine m_iconst (v := 1) C dX4_cut_90 (by decide) ?_
              refine m_iadd C dX4_cut_91 ?_
              obtain ⟨v36, ev36⟩ : ∃ z : gV, z = va_up v35 46 (upd (v35 46) 8 ((v35 46 8) + 1)) := ⟨_, rfl⟩
              have h := h v36 ev36
              refine m_put (w' := gW cy ad ln v36 ou) (T := TX4) (N := 19) C hiX4_cut_X4 tyX4 tyX4_ok nmX4 46 gp_46 rfl 8 (by decide) (by decide +kernel) rfl rfl rfl (Nat.le_of_ble_eq_true rfl) dX4_cut_92 (by rw [ev36]; exact gW_set (k := 46) (by decide) rfl) ?_
              refine m_iload_n C dX4_cut_95 rfl 4 rfl ?_
              refine m_istore_n (lv' := [(1, .int x3), (4, .int x31), (3, .int (x3 - x2)), (0, .ref (ad 46)), (2, .int x3)]) C dX4_cut_96 rfl (by decide) rfl ?_
              refine m_iinc (lv' := [(2, .int (x3 + 1)), (1, .int x3), (4, .int x31), (3, .int (x3 - x2)), (0, .ref (ad 46))]) C dX4_cut_97 (k := 4) rfl rfl (by decide) rfl ?_
              refine m_goto (tgt := 9) C dX4_cut_100 (by decide) ?_
              obtain ⟨n37, hn, h⟩ := h
              exact mW.sub [4, 1, 0] rfl (ih n37 (x3, (x3 + 1), v36) hn h)
          · refine m_if_ne (tgt := 67) C dX4_cut_60 (by decide) (fun c29 => ?_) (fun c29 => ?_)
            · refine m_iconst (v := 0) C dX4_cut_67 (by decide) ?_
              refine mW.sub (lv' := [(3, .int (x3 - x2)), (0, .ref (ad 46)), (1, .int x2), (2, .int x3)]) [0, 1, 2, 3] rfl ?_
              exact mW.eq rfl rfl (by simp only [if_neg c29]) rfl hJ68_30
            · refine m_iconst (v := 1) C dX4_cut_63 (by decide) ?_
              refine m_goto (tgt := 68) C dX4_cut_64 (by decide) ?_
              refine mW.sub (lv' := [(3, .int (x3 - x2)), (0, .ref (ad 46)), (1, .int x2), (2, .int x3)]) [0, 1, 2, 3] rfl ?_
              exact mW.eq rfl rfl (by simp only [if_pos c29]) rfl hJ68_30
theorem hiX4_numberOf_X4 : ∀ w ∈ wsX40, w ∈ wsX4_numberOf := by decide +kernel
def wp_X4_numberOf (ln : Nat → Nat) (v : gV) (a1 : Int32) (a2 : Int32) (post : Int32 → gV → Prop) : Prop :=
  ∃ I5 : Nat → Int32 → Int32 → gV → Prop, (∃ n, I5 n (-1) 0 v) ∧ ∀ (n : Nat) (x1 : Int32) (x2 : Int32) (v3 : gV), I5 n x1 x2 v3 → (((400 ≤ x2) → (((x1 < 0) → (post x1 v3)) ∧ (¬ (x1 < 0) → (vp_in x1 (ln 51) ∧ ∀ v7 : gV, v7 = va_up v3 51 (upd (v3 51) x1.toNatClampNeg (vp_nar .boolean 1)) → (vp_in x1 (ln 57) ∧ ∀ v9 : gV, v9 = va_up v7 57 (upd (v7 57) x1.toNatClampNeg (a2 - a1)) → (∃ I87 : Nat → Int32 → gV → Prop, (∃ n, I87 n 0 v9) ∧ ∀ (n : Nat) (x10 : Int32) (v11 : gV), I87 n x10 v11 → ((((a2 - a1) ≤ x10) → (post x1 v11)) ∧ (¬ ((a2 - a1) ≤ x10) → (vp_in (a1 + x10) (ln 48) ∧ (vp_in ((64 * x1) + x10) (ln 58) ∧ ∀ v15 : gV, v15 = va_up v11 58 (upd (v11 58) ((64 * x1) + x10).toNatClampNeg (v11 48 (a1 + x10).toNatClampNeg)) → (∃ n', n' < n ∧ I87 n' (x10 + 1) v15))))))))))) ∧ (¬ (400 ≤ x2) → (wp_X4_isPart ln v3 x2 a1 a2 (fun (x17 : Int32) (v18 : gV) => (((x17 = 0) → (((¬ (0 ≤ x1)) → vp_in x2 (ln 56)) ∧ ((¬ (0 ≤ x1)) → ((v18 56 x2.toNatClampNeg) = 0) → vp_in x2 (ln 51)) ∧ (∀ x26 : Int32, x26 = (if 0 ≤ x1 then x1 else if (v18 56 x2.toNatClampNeg) = 0 then if (v18 51 x2.toNatClampNeg) = 0 then x2 else x1 else x1) → (∃ n', n' < n ∧ I5 n' x26 (x2 + 1) v18)))) ∧ (¬ (x17 = 0) → (post x2 v18)))))))
set_option maxHeartbeats 4000000 in
set_option maxRecDepth 100000 in
theorem s_X4_numberOf (l : Launch) (D : va_G) (cy : Nat → ClassId) (ad ln : Nat → Nat) (v : gV) (ou : Nat → Int64) (a1 : Int32) (a2 : Int32) {post : Int32 → gV → Prop} (h : wp_X4_numberOf ln v a1 a2 post) : mM l D cy yX4_numberOf wsX4_numberOf 2 0 0 [.ref (ad 46), .int a1, .int a2] (gW cy ad ln v ou) (fun r w1 => ∃ (x1 : Int32) (v1 : gV), r = some (.int x1) ∧ post x1 v1 ∧ w1 = gW cy ad ln v1 ou) := by
  unfold wp_X4_numberOf at h
  refine mM.of (cc := cX4_numberOf) (nL := 5) (ret0 := (some .int)) (by decide +kernel) rfl (Nat.le_of_ble_eq_true rfl) ?_
  intro p e s m args below meth c A C hini
  refine mW.sub (lv' := [(0, .ref (ad 46)), (1, .int a1), (2, .int a2)]) [0, 1, 2] rfl ?_
  refine m_iconst (v := (-1)) C dX4_numberOf_0 (by decide) ?_
  refine m_istore_n (lv' := [(3, .int (-1)), (0, .ref (ad 46)), (1, .int a1), (2, .int a2)]) C dX4_numberOf_1 rfl (by decide) rfl ?_
  refine m_iconst (v := 0) C dX4_numberOf_2 (by decide) ?_
  refine m_istore (lv' := [(4, .int 0), (3, .int (-1)), (0, .ref (ad 46)), (1, .int a1), (2, .int a2)]) C dX4_numberOf_3 (by decide) rfl ?_
  obtain ⟨I5, ⟨n0, h0⟩, hI⟩ := h
  refine mW.sub (lv' := [(0, .ref (ad 46)), (1, .int a1), (2, .int a2), (3, .int (-1)), (4, .int 0)]) [2, 3, 4, 1, 0] rfl ?_
  refine m_ind (σ := Int32 × Int32 × gV) (fun n z => I5 n z.1 z.2.1 z.2.2) (fun z => gW cy ad ln z.2.2 ou) 5 (fun z => [(0, .ref (ad 46)), (1, .int a1), (2, .int a2), (3, .int z.1), (4, .int z.2.1)]) ?_ n0 ((-1), 0, v) h0
  intro n z hi ih
  obtain ⟨x1, x2, v3⟩ := z
  have h := hI n x1 x2 v3 hi
  show mW _ _ _ _ _ _ _ _ _ _ _ _ _ _ _ _ (gW cy ad ln v3 ou) 5 [(0, .ref (ad 46)), (1, .int a1), (2, .int a2), (3, .int x1), (4, .int x2)] []
  refine m_iload C dX4_numberOf_5 4 rfl ?_
  refine m_sipush (v := 400) C dX4_numberOf_7 (by decide) ?_
  refine m_icmp_ge (tgt := 64) C dX4_numberOf_10 (by decide) (fun c4 => ?_) (fun c4 => ?_)
  · have h := h.1 c4
    refine m_iload_n C dX4_numberOf_64 rfl 3 rfl ?_
    refine m_if_lt (tgt := 122) C dX4_numberOf_65 (by decide) (fun c5 => ?_) (fun c5 => ?_)
    · have h := h.1 c5
      refine m_iload_n C dX4_numberOf_122 rfl 3 rfl ?_
      exact m_iret C dX4_numberOf_123 (Nat.le_of_ble_eq_true rfl) (Nat.le_of_ble_eq_true rfl) ⟨_, _, rfl, h, rfl⟩
    · have h := h.2 c5
      refine m_aload_n C dX4_numberOf_68 rfl 0 rfl ?_
      refine m_get (T := TX4) (N := 19) C hiX4_numberOf_X4 46 gp_46 rfl 11 (by decide) (by decide +kernel) rfl dX4_numberOf_69 ?_
      refine m_iload_n C dX4_numberOf_72 rfl 3 rfl ?_
      refine m_iconst (v := 1) C dX4_numberOf_73 (by decide) ?_
      obtain ⟨b6, h⟩ := h
      obtain ⟨v7, ev7⟩ : ∃ z : gV, z = va_up v3 51 (upd (v3 51) x1.toNatClampNeg (vp_nar .boolean 1)) := ⟨_, rfl⟩
      have h := h v7 ev7
      refine m_zast (w' := gW cy ad ln v7 ou) C 51 gp_Z b6 dX4_numberOf_74 (by rw [ev7]; exact gs_Z) ?_
      refine m_aload_n C dX4_numberOf_75 rfl 0 rfl ?_
      refine m_get (T := TX4) (N := 19) C hiX4_numberOf_X4 46 gp_46 rfl 17 (by decide) (by decide +kernel) rfl dX4_numberOf_76 ?_
      refine m_iload_n C dX4_numberOf_79 rfl 3 rfl ?_
      refine m_iload_n C dX4_numberOf_80 rfl 2 rfl ?_
      refine m_iload_n C dX4_numberOf_81 rfl 1 rfl ?_
      refine m_isub C dX4_numberOf_82 ?_
      obtain ⟨b8, h⟩ := h
      obtain ⟨v9, ev9⟩ : ∃ z : gV, z = va_up v7 57 (upd (v7 57) x1.toNatClampNeg (a2 - a1)) := ⟨_, rfl⟩
      have h := h v9 ev9
      refine m_iast (w' := gW cy ad ln v9 ou) C 57 (gp_I (by decide)) b8 dX4_numberOf_83 (by rw [ev9]; exact gs_I (by decide)) ?_
      refine m_iconst (v := 0) C dX4_numberOf_84 (by decide) ?_
      refine m_istore (lv' := [(4, .int 0), (0, .ref (ad 46)), (1, .int a1), (2, .int a2), (3, .int x1)]) C dX4_numberOf_85 (by decide) rfl ?_
      obtain ⟨I87, ⟨n0, h0⟩, hI⟩ := h
      refine mW.sub (lv' := [(0, .ref (ad 46)), (1, .int a1), (2, .int a2), (3, .int x1), (4, .int 0)]) [1, 2, 3, 4, 0] rfl ?_
      refine m_ind (σ := Int32 × gV) (fun n z => I87 n z.1 z.2) (fun z => gW cy ad ln z.2 ou) 87 (fun z => [(0, .ref (ad 46)), (1, .int a1), (2, .int a2), (3, .int x1), (4, .int z.1)]) ?_ n0 (0, v9) h0
      intro n z hi ih
      obtain ⟨x10, v11⟩ := z
      have h := hI n x10 v11 hi
      show mW _ _ _ _ _ _ _ _ _ _ _ _ _ _ _ _ (gW cy ad ln v11 ou) 87 [(0, .ref (ad 46)), (1, .int a1), (2, .int a2), (3, .int x1), (4, .int x10)] []
      refine m_iload C dX4_numberOf_87 4 rfl ?_
      refine m_iload_n C dX4_numberOf_89 rfl 2 rfl ?_
      refine m_iload_n C dX4_numberOf_90 rfl 1 rfl ?_
      refine m_isub C dX4_numberOf_91 ?_
      refine m_icmp_ge (tgt := 122) C dX4_numberOf_92 (by decide) (fun c12 => ?_) (fun c12 => ?_)
      · have h := h.1 c12
        refine m_iload_n C dX4_numberOf_122 rfl 3 rfl ?_
        exact m_iret C dX4_numberOf_123 (Nat.le_of_ble_eq_true rfl) (Nat.le_of_ble_eq_true rfl) ⟨_, _, rfl, h, rfl⟩
      · have h := h.2 c12
        refine m_aload_n C dX4_numberOf_95 rfl 0 rfl ?_
        refine m_get (T := TX4) (N := 19) C hiX4_numberOf_X4 46 gp_46 rfl 18 (by decide) (by decide +kernel) rfl dX4_numberOf_96 ?_
        refine m_bipush (v := 64) C dX4_numberOf_99 (by decide) ?_
        refine m_iload_n C dX4_numberOf_101 rfl 3 rfl ?_
        refine m_imul C dX4_numberOf_102 ?_
        refine m_iload C dX4_numberOf_103 4 rfl ?_
        refine m_iadd C dX4_numberOf_105 ?_
        refine m_aload_n C dX4_numberOf_106 rfl 0 rfl ?_
        refine m_get (T := TX4) (N := 19) C hiX4_numberOf_X4 46 gp_46 rfl 7 (by decide) (by decide +kernel) rfl dX4_numberOf_107 ?_
        refine m_iload_n C dX4_numberOf_110 rfl 1 rfl ?_
        refine m_iload C dX4_numberOf_111 4 rfl ?_
        refine m_iadd C dX4_numberOf_113 ?_
        obtain ⟨b13, h⟩ := h
        refine m_iald C 48 (gp_I (by decide)) b13 dX4_numberOf_114 ?_
        obtain ⟨b14, h⟩ := h
        obtain ⟨v15, ev15⟩ : ∃ z : gV, z = va_up v11 58 (upd (v11 58) ((64 * x1) + x10).toNatClampNeg (v11 48 (a1 + x10).toNatClampNeg)) := ⟨_, rfl⟩
        have h := h v15 ev15
        refine m_iast (w' := gW cy ad ln v15 ou) C 58 (gp_I (by decide)) b14 dX4_numberOf_115 (by rw [ev15]; exact gs_I (by decide)) ?_
        refine m_iinc (lv' := [(4, .int (x10 + 1)), (0, .ref (ad 46)), (1, .int a1), (2, .int a2), (3, .int x1)]) C dX4_numberOf_116 (k := 4) rfl rfl (by decide) rfl ?_
        refine m_goto (tgt := 87) C dX4_numberOf_119 (by decide) ?_
        obtain ⟨n16, hn, h⟩ := h
        exact mW.sub [1, 2, 3, 4, 0] rfl (ih n16 ((x10 + 1), v15) hn h)
  · have h := h.2 c4
    refine m_aload_n C dX4_numberOf_13 rfl 0 rfl ?_
    refine m_iload C dX4_numberOf_14 4 rfl ?_
    refine m_iload_n C dX4_numberOf_16 rfl 1 rfl ?_
    refine m_iload_n C dX4_numberOf_17 rfl 2 rfl ?_
    refine m_callV C (s_X4_isPart l D cy ad ln v3 ou x2 a1 a2  h) (cwV 3 C.2.2.2.2.1 gX4_numberOf_X4_isPart rfl rfl rfl (by decide +kernel) ⟨Nat.le_of_ble_eq_true rfl, Nat.le_of_ble_eq_true rfl⟩) 46 gp_46 rfl rfl rfl (Nat.le_of_ble_eq_true rfl) dX4_numberOf_18 ⟨by decide, by decide⟩ (fun r w1 h1 => ?_)
    obtain ⟨x17, v18, rfl, h, rfl⟩ := h1
    refine mW.eq (st' := [.int x17]) rfl rfl rfl rfl ?_
    refine m_if_eq (tgt := 27) C dX4_numberOf_21 (by decide) (fun c19 => ?_) (fun c19 => ?_)
    · have h := h.1 c19
      refine m_iload_n C dX4_numberOf_27 rfl 3 rfl ?_
      obtain ⟨b21, h⟩ := h
      obtain ⟨b23, h⟩ := h
      refine m_join (P := 57) (wM := gW cy ad ln v18 ou) (lvM := [(0, .ref (ad 46)), (1, .int a1), (2, .int a2), (3, .int x1), (4, .int x2)]) (stM := [.int (if 0 ≤ x1 then x1 else if (v18 56 x2.toNatClampNeg) = 0 then if (v18 51 x2.toNatClampNeg) = 0 then x2 else x1 else x1)]) ?_ (fun hJ57_25 => ?_)
      · refine m_topi (fun x26 ex26 => ?_)
        have h := h x26 ex26
        refine m_istore_n (lv' := [(3, .int x26), (0, .ref (ad 46)), (1, .int a1), (2, .int a2), (4, .int x2)]) C dX4_numberOf_57 rfl (by decide) rfl ?_
        refine m_iinc (lv' := [(4, .int (x2 + 1)), (3, .int x26), (0, .ref (ad 46)), (1, .int a1), (2, .int a2)]) C dX4_numberOf_58 (k := 4) rfl rfl (by decide) rfl ?_
        refine m_goto (tgt := 5) C dX4_numberOf_61 (by decide) ?_
        obtain ⟨n27, hn, h⟩ := h
        exact mW.sub [2, 3, 4, 1, 0] rfl (ih n27 (x26, (x2 + 1), v18) hn h)
      · refine m_if_ge (tgt := 56) C dX4_numberOf_28 (by decide) (fun c20 => ?_) (fun c20 => ?_)
        · refine m_iload_n C dX4_numberOf_56 rfl 3 rfl ?_
          refine mW.sub (lv' := [(0, .ref (ad 46)), (1, .int a1), (2, .int a2), (3, .int x1), (4, .int x2)]) [0, 1, 2, 3, 4] rfl ?_
          exact mW.eq rfl rfl (by simp only [if_pos c20]) rfl hJ57_25
        · refine m_aload_n C dX4_numberOf_31 rfl 0 rfl ?_
          refine m_get (T := TX4) (N := 19) C hiX4_numberOf_X4 46 gp_46 rfl 16 (by decide) (by decide +kernel) rfl dX4_numberOf_32 ?_
          refine m_iload C dX4_numberOf_35 4 rfl ?_
          refine m_iald C 56 (gp_I (by decide)) (b21 c20) dX4_numberOf_37 ?_
          refine m_if_ne (tgt := 56) C dX4_numberOf_38 (by decide) (fun c22 => ?_) (fun c22 => ?_)
          · refine m_iload_n C dX4_numberOf_56 rfl 3 rfl ?_
            refine mW.sub (lv' := [(0, .ref (ad 46)), (1, .int a1), (2, .int a2), (3, .int x1), (4, .int x2)]) [0, 1, 2, 3, 4] rfl ?_
            exact mW.eq rfl rfl (by simp only [if_neg c20, if_neg c22]) rfl hJ57_25
          · refine m_aload_n C dX4_numberOf_41 rfl 0 rfl ?_
            refine m_get (T := TX4) (N := 19) C hiX4_numberOf_X4 46 gp_46 rfl 11 (by decide) (by decide +kernel) rfl dX4_numberOf_42 ?_
            refine m_iload C dX4_numberOf_45 4 rfl ?_
            refine m_zald C 51 gp_Z (b23 c20 c22) dX4_numberOf_47 ?_
            refine m_if_ne (tgt := 56) C dX4_numberOf_48 (by decide) (fun c24 => ?_) (fun c24 => ?_)
            · refine m_iload_n C dX4_numberOf_56 rfl 3 rfl ?_
              refine mW.sub (lv' := [(0, .ref (ad 46)), (1, .int a1), (2, .int a2), (3, .int x1), (4, .int x2)]) [0, 1, 2, 3, 4] rfl ?_
              exact mW.eq rfl rfl (by simp only [if_neg c20, if_pos c22, if_neg c24]) rfl hJ57_25
            · refine m_iload C dX4_numberOf_51 4 rfl ?_
              refine m_goto (tgt := 57) C dX4_numberOf_53 (by decide) ?_
              refine mW.sub (lv' := [(0, .ref (ad 46)), (1, .int a1), (2, .int a2), (3, .int x1), (4, .int x2)]) [0, 1, 2, 3, 4] rfl ?_
              exact mW.eq rfl rfl (by simp only [if_neg c20, if_pos c22, if_pos c24]) rfl hJ57_25
    · have h := h.2 c19
      refine m_iload C dX4_numberOf_24 4 rfl ?_
      exact m_iret C dX4_numberOf_26 (Nat.le_of_ble_eq_true rfl) (Nat.le_of_ble_eq_true rfl) ⟨_, _, rfl, h, rfl⟩
theorem hiX4_give_X4 : ∀ w ∈ wsX40, w ∈ wsX4_give := by decide +kernel
def wp_X4_give (ln : Nat → Nat) (v : gV) (post : Int32 → gV → Prop) : Prop :=
  ∃ I2 : Nat → Int32 → gV → Prop, (∃ n, I2 n 0 v) ∧ ∀ (n : Nat) (x1 : Int32) (v2 : gV), I2 n x1 v2 → (((400 ≤ x1) → (wp_X4_cut ln v2  (fun (v5 : gV) => (∃ I30 : Nat → Int32 → Int32 → gV → Prop, (∃ n, I30 n 1 0 v5) ∧ ∀ (n : Nat) (x6 : Int32) (x7 : Int32) (v8 : gV), I30 n x6 x7 v8 → ((((v8 46 8) ≤ x7) → (∃ I88 : Nat → Int32 → Int32 → Prop, (∃ n, I88 n 0 0) ∧ ∀ (n : Nat) (x10 : Int32) (x11 : Int32), I88 n x10 x11 → (((400 ≤ x11) → ((post (if x6 = 0 then (-1) else x10) v8))) ∧ (¬ (400 ≤ x11) → (vp_in x11 (ln 51) ∧ ((∀ x18 : Int32, x18 = (if (v8 51 x11.toNatClampNeg) = 0 then x10 else x10 + 1) → (∃ n', n' < n ∧ I88 n' x18 (x11 + 1))))))))) ∧ (¬ ((v8 46 8) ≤ x7) → (((x6 = 0) → (∃ I88 : Nat → Int32 → Int32 → Prop, (∃ n, I88 n 0 0) ∧ ∀ (n : Nat) (x21 : Int32) (x22 : Int32), I88 n x21 x22 → (((400 ≤ x22) → ((post (if x6 = 0 then (-1) else x21) v8))) ∧ (¬ (400 ≤ x22) → (vp_in x22 (ln 51) ∧ ((∀ x29 : Int32, x29 = (if (v8 51 x22.toNatClampNeg) = 0 then x21 else x21 + 1) → (∃ n', n' < n ∧ I88 n' x29 (x22 + 1))))))))) ∧ (¬ (x6 = 0) → (wp_X4_beginOf ln v8 x7 (fun (x31 : Int32) (v32 : gV) => (vp_in x7 (ln 49) ∧ (wp_X4_numberOf ln v32 x31 (v32 49 x7.toNatClampNeg) (fun (x34 : Int32) (v35 : gV) => (vp_in x7 (ln 50) ∧ ∀ v37 : gV, v37 = va_up v35 50 (upd (v35 50) x7.toNatClampNeg x34) → (vp_in x7 (ln 50) ∧ ((∀ x41 : Int32, x41 = (if (v37 50 x7.toNatClampNeg) < 0 then 0 else 1) → (∃ n', n' < n ∧ I30 n' x41 (x7 + 1) v37)))))))))))))))))) ∧ (¬ (400 ≤ x1) → (vp_in x1 (ln 51) ∧ ∀ v44 : gV, v44 = va_up v2 51 (upd (v2 51) x1.toNatClampNeg (vp_nar .boolean 0)) → (∃ n', n' < n ∧ I2 n' (x1 + 1) v44))))
set_option maxHeartbeats 4000000 in
set_option maxRecDepth 100000 in
theorem s_X4_give (l : Launch) (D : va_G) (cy : Nat → ClassId) (ad ln : Nat → Nat) (v : gV) (ou : Nat → Int64) {post : Int32 → gV → Prop} (h : wp_X4_give ln v  post) : mM l D cy yX4_give wsX4_give 4 0 0 [.ref (ad 46)] (gW cy ad ln v ou) (fun r w1 => ∃ (x1 : Int32) (v1 : gV), r = some (.int x1) ∧ post x1 v1 ∧ w1 = gW cy ad ln v1 ou) := by
  unfold wp_X4_give at h
  refine mM.of (cc := cX4_give) (nL := 4) (ret0 := (some .int)) (by decide +kernel) rfl (Nat.le_of_ble_eq_true rfl) ?_
  intro p e s m args below meth c A C hini
  refine mW.sub (lv' := [(0, .ref (ad 46))]) [0] rfl ?_
  refine m_iconst (v := 0) C dX4_give_0 (by decide) ?_
  refine m_istore_n (lv' := [(1, .int 0), (0, .ref (ad 46))]) C dX4_give_1 rfl (by decide) rfl ?_
  obtain ⟨I2, ⟨n0, h0⟩, hI⟩ := h
  refine mW.sub (lv' := [(0, .ref (ad 46)), (1, .int 0)]) [1, 0] rfl ?_
  refine m_ind (σ := Int32 × gV) (fun n z => I2 n z.1 z.2) (fun z => gW cy ad ln z.2 ou) 2 (fun z => [(0, .ref (ad 46)), (1, .int z.1)]) ?_ n0 (0, v) h0
  intro n z hi ih
  obtain ⟨x1, v2⟩ := z
  have h := hI n x1 v2 hi
  show mW _ _ _ _ _ _ _ _ _ _ _ _ _ _ _ _ (gW cy ad ln v2 ou) 2 [(0, .ref (ad 46)), (1, .int x1)] []
  refine m_iload_n C dX4_give_2 rfl 1 rfl ?_
  refine m_sipush (v := 400) C dX4_give_3 (by decide) ?_
  refine m_icmp_ge (tgt := 22) C dX4_give_6 (by decide) (fun c3 => ?_) (fun c3 => ?_)
  · have h := h.1 c3
    refine m_aload_n C dX4_give_22 rfl 0 rfl ?_
    refine m_callV C (s_X4_cut l D cy ad ln v2 ou   h) (cwV 0 C.2.2.2.2.1 gX4_give_X4_cut rfl rfl rfl (by decide +kernel) ⟨Nat.le_of_ble_eq_true rfl, Nat.le_of_ble_eq_true rfl⟩) 46 gp_46 rfl rfl rfl (Nat.le_of_ble_eq_true rfl) dX4_give_23 ⟨by decide, by decide⟩ (fun r w1 h1 => ?_)
    obtain ⟨v5, rfl, h, rfl⟩ := h1
    refine mW.eq (st' := []) rfl rfl rfl rfl ?_
    refine m_iconst (v := 1) C dX4_give_26 (by decide) ?_
    refine m_istore_n (lv' := [(1, .int 1), (0, .ref (ad 46))]) C dX4_give_27 rfl (by decide) rfl ?_
    refine m_iconst (v := 0) C dX4_give_28 (by decide) ?_
    refine m_istore_n (lv' := [(2, .int 0), (1, .int 1), (0, .ref (ad 46))]) C dX4_give_29 rfl (by decide) rfl ?_
    obtain ⟨I30, ⟨n0, h0⟩, hI⟩ := h
    refine mW.sub (lv' := [(0, .ref (ad 46)), (1, .int 1), (2, .int 0)]) [2, 1, 0] rfl ?_
    refine m_ind (σ := Int32 × Int32 × gV) (fun n z => I30 n z.1 z.2.1 z.2.2) (fun z => gW cy ad ln z.2.2 ou) 30 (fun z => [(0, .ref (ad 46)), (1, .int z.1), (2, .int z.2.1)]) ?_ n0 (1, 0, v5) h0
    intro n z hi ih
    obtain ⟨x6, x7, v8⟩ := z
    have h := hI n x6 x7 v8 hi
    show mW _ _ _ _ _ _ _ _ _ _ _ _ _ _ _ _ (gW cy ad ln v8 ou) 30 [(0, .ref (ad 46)), (1, .int x6), (2, .int x7)] []
    refine m_iload_n C dX4_give_30 rfl 2 rfl ?_
    refine m_aload_n C dX4_give_31 rfl 0 rfl ?_
    refine m_get (T := TX4) (N := 19) C hiX4_give_X4 46 gp_46 rfl 8 (by decide) (by decide +kernel) rfl dX4_give_32 ?_
    refine m_icmp_ge (tgt := 84) C dX4_give_35 (by decide) (fun c9 => ?_) (fun c9 => ?_)
    · have h := h.1 c9
      refine m_iconst (v := 0) C dX4_give_84 (by decide) ?_
      refine m_istore_n (lv' := [(2, .int 0), (0, .ref (ad 46)), (1, .int x6)]) C dX4_give_85 rfl (by decide) rfl ?_
      refine m_iconst (v := 0) C dX4_give_86 (by decide) ?_
      refine m_istore_n (lv' := [(3, .int 0), (2, .int 0), (0, .ref (ad 46)), (1, .int x6)]) C dX4_give_87 rfl (by decide) rfl ?_
      obtain ⟨I88, ⟨n0, h0⟩, hI⟩ := h
      refine mW.sub (lv' := [(0, .ref (ad 46)), (1, .int x6), (2, .int 0), (3, .int 0)]) [2, 3, 1, 0] rfl ?_
      refine m_ind (σ := Int32 × Int32) (fun n z => I88 n z.1 z.2) (fun z => gW cy ad ln v8 ou) 88 (fun z => [(0, .ref (ad 46)), (1, .int x6), (2, .int z.1), (3, .int z.2)]) ?_ n0 (0, 0) h0
      intro n z hi ih
      obtain ⟨x10, x11⟩ := z
      have h := hI n x10 x11 hi
      show mW _ _ _ _ _ _ _ _ _ _ _ _ _ _ _ _ (gW cy ad ln v8 ou) 88 [(0, .ref (ad 46)), (1, .int x6), (2, .int x10), (3, .int x11)] []
      refine m_iload_n C dX4_give_88 rfl 3 rfl ?_
      refine m_sipush (v := 400) C dX4_give_89 (by decide) ?_
      refine m_icmp_ge (tgt := 118) C dX4_give_92 (by decide) (fun c12 => ?_) (fun c12 => ?_)
      · have h := h.1 c12
        refine m_iload_n C dX4_give_118 rfl 1 rfl ?_
        refine m_join (P := 127) (wM := gW cy ad ln v8 ou) (lvM := [(0, .ref (ad 46)), (1, .int x6), (2, .int x10), (3, .int x11)]) (stM := [.int (if x6 = 0 then (-1) else x10)]) ?_ (fun hJ127_14 => ?_)
        · exact m_iret C dX4_give_127 (Nat.le_of_ble_eq_true rfl) (Nat.le_of_ble_eq_true rfl) ⟨_, _, rfl, h, rfl⟩
        · refine m_if_eq (tgt := 126) C dX4_give_119 (by decide) (fun c13 => ?_) (fun c13 => ?_)
          · refine m_iconst (v := (-1)) C dX4_give_126 (by decide) ?_
            refine mW.sub (lv' := [(0, .ref (ad 46)), (1, .int x6), (2, .int x10), (3, .int x11)]) [0, 1, 2, 3] rfl ?_
            exact mW.eq rfl rfl (by simp only [if_pos c13]) rfl hJ127_14
          · refine m_iload_n C dX4_give_122 rfl 2 rfl ?_
            refine m_goto (tgt := 127) C dX4_give_123 (by decide) ?_
            refine mW.sub (lv' := [(0, .ref (ad 46)), (1, .int x6), (2, .int x10), (3, .int x11)]) [0, 1, 2, 3] rfl ?_
            exact mW.eq rfl rfl (by simp only [if_neg c13]) rfl hJ127_14
      · have h := h.2 c12
        refine m_aload_n C dX4_give_95 rfl 0 rfl ?_
        refine m_get (T := TX4) (N := 19) C hiX4_give_X4 46 gp_46 rfl 11 (by decide) (by decide +kernel) rfl dX4_give_96 ?_
        refine m_iload_n C dX4_give_99 rfl 3 rfl ?_
        obtain ⟨b15, h⟩ := h
        refine m_zald C 51 gp_Z b15 dX4_give_100 ?_
        refine m_join (P := 111) (wM := gW cy ad ln v8 ou) (lvM := [(0, .ref (ad 46)), (1, .int x6), (2, .int x10), (3, .int x11)]) (stM := [.int (if (v8 51 x11.toNatClampNeg) = 0 then x10 else x10 + 1)]) ?_ (fun hJ111_17 => ?_)
        · refine m_topi (fun x18 ex18 => ?_)
          have h := h x18 ex18
          refine m_istore_n (lv' := [(2, .int x18), (0, .ref (ad 46)), (1, .int x6), (3, .int x11)]) C dX4_give_111 rfl (by decide) rfl ?_
          refine m_iinc (lv' := [(3, .int (x11 + 1)), (2, .int x18), (0, .ref (ad 46)), (1, .int x6)]) C dX4_give_112 (k := 3) rfl rfl (by decide) rfl ?_
          refine m_goto (tgt := 88) C dX4_give_115 (by decide) ?_
          obtain ⟨n19, hn, h⟩ := h
          exact mW.sub [2, 3, 1, 0] rfl (ih n19 (x18, (x11 + 1)) hn h)
        · refine m_if_eq (tgt := 110) C dX4_give_101 (by decide) (fun c16 => ?_) (fun c16 => ?_)
          · refine m_iload_n C dX4_give_110 rfl 2 rfl ?_
            refine mW.sub (lv' := [(0, .ref (ad 46)), (1, .int x6), (2, .int x10), (3, .int x11)]) [0, 1, 2, 3] rfl ?_
            exact mW.eq rfl rfl (by simp only [if_pos c16]) rfl hJ111_17
          · refine m_iload_n C dX4_give_104 rfl 2 rfl ?_
            refine m_iconst (v := 1) C dX4_give_105 (by decide) ?_
            refine m_iadd C dX4_give_106 ?_
            refine m_goto (tgt := 111) C dX4_give_107 (by decide) ?_
            refine mW.sub (lv' := [(0, .ref (ad 46)), (1, .int x6), (2, .int x10), (3, .int x11)]) [0, 1, 2, 3] rfl ?_
            exact mW.eq rfl rfl (by simp only [if_neg c16]) rfl hJ111_17
    · have h := h.2 c9
      refine m_iload_n C dX4_give_38 rfl 1 rfl ?_
      refine m_if_eq (tgt := 84) C dX4_give_39 (by decide) (fun c20 => ?_) (fun c20 => ?_)
      · have h := h.1 c20
        refine m_iconst (v := 0) C dX4_give_84 (by decide) ?_
        refine m_istore_n (lv' := [(2, .int 0), (0, .ref (ad 46)), (1, .int x6)]) C dX4_give_85 rfl (by decide) rfl ?_
        refine m_iconst (v := 0) C dX4_give_86 (by decide) ?_
        refine m_istore_n (lv' := [(3, .int 0), (2, .int 0), (0, .ref (ad 46)), (1, .int x6)]) C dX4_give_87 rfl (by decide) rfl ?_
        obtain ⟨I88, ⟨n0, h0⟩, hI⟩ := h
        refine mW.sub (lv' := [(0, .ref (ad 46)), (1, .int x6), (2, .int 0), (3, .int 0)]) [2, 3, 1, 0] rfl ?_
        refine m_ind (σ := Int32 × Int32) (fun n z => I88 n z.1 z.2) (fun z => gW cy ad ln v8 ou) 88 (fun z => [(0, .ref (ad 46)), (1, .int x6), (2, .int z.1), (3, .int z.2)]) ?_ n0 (0, 0) h0
        intro n z hi ih
        obtain ⟨x21, x22⟩ := z
        have h := hI n x21 x22 hi
        show mW _ _ _ _ _ _ _ _ _ _ _ _ _ _ _ _ (gW cy ad ln v8 ou) 88 [(0, .ref (ad 46)), (1, .int x6), (2, .int x21), (3, .int x22)] []
        refine m_iload_n C dX4_give_88 rfl 3 rfl ?_
        refine m_sipush (v := 400) C dX4_give_89 (by decide) ?_
        refine m_icmp_ge (tgt := 118) C dX4_give_92 (by decide) (fun c23 => ?_) (fun c23 => ?_)
        · have h := h.1 c23
          refine m_iload_n C dX4_give_118 rfl 1 rfl ?_
          refine m_join (P := 127) (wM := gW cy ad ln v8 ou) (lvM := [(0, .ref (ad 46)), (1, .int x6), (2, .int x21), (3, .int x22)]) (stM := [.int (if x6 = 0 then (-1) else x21)]) ?_ (fun hJ127_25 => ?_)
          · exact m_iret C dX4_give_127 (Nat.le_of_ble_eq_true rfl) (Nat.le_of_ble_eq_true rfl) ⟨_, _, rfl, h, rfl⟩
          · refine m_if_eq (tgt := 126) C dX4_give_119 (by decide) (fun c24 => ?_) (fun c24 => ?_)
            · refine m_iconst (v := (-1)) C dX4_give_126 (by decide) ?_
              refine mW.sub (lv' := [(0, .ref (ad 46)), (1, .int x6), (2, .int x21), (3, .int x22)]) [0, 1, 2, 3] rfl ?_
              exact mW.eq rfl rfl (by simp only [if_pos c24]) rfl hJ127_25
            · refine m_iload_n C dX4_give_122 rfl 2 rfl ?_
              refine m_goto (tgt := 127) C dX4_give_123 (by decide) ?_
              refine mW.sub (lv' := [(0, .ref (ad 46)), (1, .int x6), (2, .int x21), (3, .int x22)]) [0, 1, 2, 3] rfl ?_
              exact mW.eq rfl rfl (by simp only [if_neg c24]) rfl hJ127_25
        · have h := h.2 c23
          refine m_aload_n C dX4_give_95 rfl 0 rfl ?_
          refine m_get (T := TX4) (N := 19) C hiX4_give_X4 46 gp_46 rfl 11 (by decide) (by decide +kernel) rfl dX4_give_96 ?_
          refine m_iload_n C dX4_give_99 rfl 3 rfl ?_
          obtain ⟨b26, h⟩ := h
          refine m_zald C 51 gp_Z b26 dX4_give_100 ?_
          refine m_join (P := 111) (wM := gW cy ad ln v8 ou) (lvM := [(0, .ref (ad 46)), (1, .int x6), (2, .int x21), (3, .int x22)]) (stM := [.int (if (v8 51 x22.toNatClampNeg) = 0 then x21 else x21 + 1)]) ?_ (fun hJ111_28 => ?_)
          · refine m_topi (fun x29 ex29 => ?_)
            have h := h x29 ex29
            refine m_istore_n (lv' := [(2, .int x29), (0, .ref (ad 46)), (1, .int x6), (3, .int x22)]) C dX4_give_111 rfl (by decide) rfl ?_
            refine m_iinc (lv' := [(3, .int (x22 + 1)), (2, .int x29), (0, .ref (ad 46)), (1, .int x6)]) C dX4_give_112 (k := 3) rfl rfl (by decide) rfl ?_
            refine m_goto (tgt := 88) C dX4_give_115 (by decide) ?_
            obtain ⟨n30, hn, h⟩ := h
            exact mW.sub [2, 3, 1, 0] rfl (ih n30 (x29, (x22 + 1)) hn h)
          · refine m_if_eq (tgt := 110) C dX4_give_101 (by decide) (fun c27 => ?_) (fun c27 => ?_)
            · refine m_iload_n C dX4_give_110 rfl 2 rfl ?_
              refine mW.sub (lv' := [(0, .ref (ad 46)), (1, .int x6), (2, .int x21), (3, .int x22)]) [0, 1, 2, 3] rfl ?_
              exact mW.eq rfl rfl (by simp only [if_pos c27]) rfl hJ111_28
            · refine m_iload_n C dX4_give_104 rfl 2 rfl ?_
              refine m_iconst (v := 1) C dX4_give_105 (by decide) ?_
              refine m_iadd C dX4_give_106 ?_
              refine m_goto (tgt := 111) C dX4_give_107 (by decide) ?_
              refine mW.sub (lv' := [(0, .ref (ad 46)), (1, .int x6), (2, .int x21), (3, .int x22)]) [0, 1, 2, 3] rfl ?_
              exact mW.eq rfl rfl (by simp only [if_neg c27]) rfl hJ111_28
      · have h := h.2 c20
        refine m_aload_n C dX4_give_42 rfl 0 rfl ?_
        refine m_get (T := TX4) (N := 19) C hiX4_give_X4 46 gp_46 rfl 10 (by decide) (by decide +kernel) rfl dX4_give_43 ?_
        refine m_iload_n C dX4_give_46 rfl 2 rfl ?_
        refine m_aload_n C dX4_give_47 rfl 0 rfl ?_
        refine m_aload_n C dX4_give_48 rfl 0 rfl ?_
        refine m_iload_n C dX4_give_49 rfl 2 rfl ?_
        refine m_callV C (s_X4_beginOf l D cy ad ln v8 ou x7  h) (cwV 1 C.2.2.2.2.1 gX4_give_X4_beginOf rfl rfl rfl (by decide +kernel) ⟨Nat.le_of_ble_eq_true rfl, Nat.le_of_ble_eq_true rfl⟩) 46 gp_46 rfl rfl rfl (Nat.le_of_ble_eq_true rfl) dX4_give_50 ⟨by decide, by decide⟩ (fun r w1 h1 => ?_)
        obtain ⟨x31, v32, rfl, h, rfl⟩ := h1
        refine mW.eq (st' := [.int x31, .ref (ad 46), .int x7, .ref (ad 50)]) rfl rfl rfl rfl ?_
        refine m_aload_n C dX4_give_53 rfl 0 rfl ?_
        refine m_get (T := TX4) (N := 19) C hiX4_give_X4 46 gp_46 rfl 9 (by decide) (by decide +kernel) rfl dX4_give_54 ?_
        refine m_iload_n C dX4_give_57 rfl 2 rfl ?_
        obtain ⟨b33, h⟩ := h
        refine m_iald C 49 (gp_I (by decide)) b33 dX4_give_58 ?_
        refine m_callV C (s_X4_numberOf l D cy ad ln v32 ou x31 (v32 49 x7.toNatClampNeg)  h) (cwV 2 C.2.2.2.2.1 gX4_give_X4_numberOf rfl rfl rfl (by decide +kernel) ⟨Nat.le_of_ble_eq_true rfl, Nat.le_of_ble_eq_true rfl⟩) 46 gp_46 rfl rfl rfl (Nat.le_of_ble_eq_true rfl) dX4_give_59 ⟨by decide, by decide⟩ (fun r w1 h1 => ?_)
        obtain ⟨x34, v35, rfl, h, rfl⟩ := h1
        refine mW.eq (st' := [.int x34, .int x7, .ref (ad 50)]) rfl rfl rfl rfl ?_
        obtain ⟨b36, h⟩ := h
        obtain ⟨v37, ev37⟩ : ∃ z : gV, z = va_up v35 50 (upd (v35 50) x7.toNatClampNeg x34) := ⟨_, rfl⟩
        have h := h v37 ev37
        refine m_iast (w' := gW cy ad ln v37 ou) C 50 (gp_I (by decide)) b36 dX4_give_62 (by rw [ev37]; exact gs_I (by decide)) ?_
        refine m_aload_n C dX4_give_63 rfl 0 rfl ?_
        refine m_get (T := TX4) (N := 19) C hiX4_give_X4 46 gp_46 rfl 10 (by decide) (by decide +kernel) rfl dX4_give_64 ?_
        refine m_iload_n C dX4_give_67 rfl 2 rfl ?_
        obtain ⟨b38, h⟩ := h
        refine m_iald C 50 (gp_I (by decide)) b38 dX4_give_68 ?_
        refine m_join (P := 77) (wM := gW cy ad ln v37 ou) (lvM := [(0, .ref (ad 46)), (1, .int x6), (2, .int x7)]) (stM := [.int (if (v37 50 x7.toNatClampNeg) < 0 then 0 else 1)]) ?_ (fun hJ77_40 => ?_)
        · refine m_topi (fun x41 ex41 => ?_)
          have h := h x41 ex41
          refine m_istore_n (lv' := [(1, .int x41), (0, .ref (ad 46)), (2, .int x7)]) C dX4_give_77 rfl (by decide) rfl ?_
          refine m_iinc (lv' := [(2, .int (x7 + 1)), (1, .int x41), (0, .ref (ad 46))]) C dX4_give_78 (k := 2) rfl rfl (by decide) rfl ?_
          refine m_goto (tgt := 30) C dX4_give_81 (by decide) ?_
          obtain ⟨n42, hn, h⟩ := h
          exact mW.sub [2, 1, 0] rfl (ih n42 (x41, (x7 + 1), v37) hn h)
        · refine m_if_lt (tgt := 76) C dX4_give_69 (by decide) (fun c39 => ?_) (fun c39 => ?_)
          · refine m_iconst (v := 0) C dX4_give_76 (by decide) ?_
            refine mW.sub (lv' := [(0, .ref (ad 46)), (1, .int x6), (2, .int x7)]) [0, 1, 2] rfl ?_
            exact mW.eq rfl rfl (by simp only [if_pos c39]) rfl hJ77_40
          · refine m_iconst (v := 1) C dX4_give_72 (by decide) ?_
            refine m_goto (tgt := 77) C dX4_give_73 (by decide) ?_
            refine mW.sub (lv' := [(0, .ref (ad 46)), (1, .int x6), (2, .int x7)]) [0, 1, 2] rfl ?_
            exact mW.eq rfl rfl (by simp only [if_neg c39]) rfl hJ77_40
  · have h := h.2 c3
    refine m_aload_n C dX4_give_9 rfl 0 rfl ?_
    refine m_get (T := TX4) (N := 19) C hiX4_give_X4 46 gp_46 rfl 11 (by decide) (by decide +kernel) rfl dX4_give_10 ?_
    refine m_iload_n C dX4_give_13 rfl 1 rfl ?_
    refine m_iconst (v := 0) C dX4_give_14 (by decide) ?_
    obtain ⟨b43, h⟩ := h
    obtain ⟨v44, ev44⟩ : ∃ z : gV, z = va_up v2 51 (upd (v2 51) x1.toNatClampNeg (vp_nar .boolean 0)) := ⟨_, rfl⟩
    have h := h v44 ev44
    refine m_zast (w' := gW cy ad ln v44 ou) C 51 gp_Z b43 dX4_give_15 (by rw [ev44]; exact gs_Z) ?_
    refine m_iinc (lv' := [(1, .int (x1 + 1)), (0, .ref (ad 46))]) C dX4_give_16 (k := 1) rfl rfl (by decide) rfl ?_
    refine m_goto (tgt := 2) C dX4_give_19 (by decide) ?_
    obtain ⟨n45, hn, h⟩ := h
    exact mW.sub [1, 0] rfl (ih n45 ((x1 + 1), v44) hn h)
theorem hiX4_take_X4 : ∀ w ∈ wsX40, w ∈ wsX4_take := by decide +kernel
def wp_X4_take (ln : Nat → Nat) (v : gV) (a1 : Int32) (post : gV → Prop) : Prop :=
  ∃ I2 : Nat → Int32 → gV → Prop, (∃ n, I2 n 0 v) ∧ ∀ (n : Nat) (x1 : Int32) (v2 : gV), I2 n x1 v2 → ((((v2 46 8) ≤ x1) → (∃ I33 : Nat → Int32 → gV → Prop, (∃ n, I33 n 0 v2) ∧ ∀ (n : Nat) (x4 : Int32) (v5 : gV), I33 n x4 v5 → (vp_in a1 (ln 54) ∧ ((((v5 54 a1.toNatClampNeg) ≤ x4) → (vp_in a1 (ln 52) ∧ ∀ v9 : gV, v9 = va_up v5 52 (upd (v5 52) a1.toNatClampNeg (v5 46 6)) → (vp_in a1 (ln 54) ∧ ∀ v11 : gV, v11 = va_up v9 54 (upd (v9 54) a1.toNatClampNeg (v9 46 8)) → (∃ I92 : Nat → Int32 → gV → Prop, (∃ n, I92 n 0 v11) ∧ ∀ (n : Nat) (x12 : Int32) (v13 : gV), I92 n x12 v13 → ((((v13 46 6) ≤ x12) → (∃ I126 : Nat → Int32 → gV → Prop, (∃ n, I126 n 0 v13) ∧ ∀ (n : Nat) (x15 : Int32) (v16 : gV), I126 n x15 v16 → ((((v16 46 8) ≤ x15) → (post v16)) ∧ (¬ ((v16 46 8) ≤ x15) → (vp_in x15 (ln 50) ∧ (vp_in ((1500 * a1) + x15) (ln 55) ∧ ∀ v20 : gV, v20 = va_up v16 55 (upd (v16 55) ((1500 * a1) + x15).toNatClampNeg (v16 50 x15.toNatClampNeg)) → (∃ n', n' < n ∧ I126 n' (x15 + 1) v20))))))) ∧ (¬ ((v13 46 6) ≤ x12) → (vp_in x12 (ln 48) ∧ (vp_in ((1500 * a1) + x12) (ln 53) ∧ ∀ v24 : gV, v24 = va_up v13 53 (upd (v13 53) ((1500 * a1) + x12).toNatClampNeg (v13 48 x12.toNatClampNeg)) → (∃ n', n' < n ∧ I92 n' (x12 + 1) v24))))))))) ∧ (¬ ((v5 54 a1.toNatClampNeg) ≤ x4) → (vp_in ((1500 * a1) + x4) (ln 55) ∧ (vp_in (v5 55 ((1500 * a1) + x4).toNatClampNeg) (ln 56) ∧ (vp_in (v5 55 ((1500 * a1) + x4).toNatClampNeg) (ln 56) ∧ ∀ v29 : gV, v29 = va_up v5 56 (upd (v5 56) (v5 55 ((1500 * a1) + x4).toNatClampNeg).toNatClampNeg ((v5 56 (v5 55 ((1500 * a1) + x4).toNatClampNeg).toNatClampNeg) - 1)) → (∃ n', n' < n ∧ I33 n' (x4 + 1) v29))))))))) ∧ (¬ ((v2 46 8) ≤ x1) → (vp_in x1 (ln 50) ∧ (vp_in (v2 50 x1.toNatClampNeg) (ln 56) ∧ (vp_in (v2 50 x1.toNatClampNeg) (ln 56) ∧ ∀ v34 : gV, v34 = va_up v2 56 (upd (v2 56) (v2 50 x1.toNatClampNeg).toNatClampNeg ((v2 56 (v2 50 x1.toNatClampNeg).toNatClampNeg) + 1)) → (∃ n', n' < n ∧ I2 n' (x1 + 1) v34))))))
set_option maxHeartbeats 4000000 in
set_option maxRecDepth 100000 in
theorem s_X4_take (l : Launch) (D : va_G) (cy : Nat → ClassId) (ad ln : Nat → Nat) (v : gV) (ou : Nat → Int64) (a1 : Int32) {post : gV → Prop} (h : wp_X4_take ln v a1 post) : mM l D cy yX4_take wsX4_take 1 0 0 [.ref (ad 46), .int a1] (gW cy ad ln v ou) (fun r w1 => ∃ v1 : gV, r = none ∧ post v1 ∧ w1 = gW cy ad ln v1 ou) := by
  unfold wp_X4_take at h
  refine mM.of (cc := cX4_take) (nL := 3) (ret0 := none) (by decide +kernel) rfl (Nat.le_of_ble_eq_true rfl) ?_
  intro p e s m args below meth c A C hini
  refine mW.sub (lv' := [(0, .ref (ad 46)), (1, .int a1)]) [0, 1] rfl ?_
  refine m_iconst (v := 0) C dX4_take_0 (by decide) ?_
  refine m_istore_n (lv' := [(2, .int 0), (0, .ref (ad 46)), (1, .int a1)]) C dX4_take_1 rfl (by decide) rfl ?_
  obtain ⟨I2, ⟨n0, h0⟩, hI⟩ := h
  refine mW.sub (lv' := [(0, .ref (ad 46)), (1, .int a1), (2, .int 0)]) [1, 2, 0] rfl ?_
  refine m_ind (σ := Int32 × gV) (fun n z => I2 n z.1 z.2) (fun z => gW cy ad ln z.2 ou) 2 (fun z => [(0, .ref (ad 46)), (1, .int a1), (2, .int z.1)]) ?_ n0 (0, v) h0
  intro n z hi ih
  obtain ⟨x1, v2⟩ := z
  have h := hI n x1 v2 hi
  show mW _ _ _ _ _ _ _ _ _ _ _ _ _ _ _ _ (gW cy ad ln v2 ou) 2 [(0, .ref (ad 46)), (1, .int a1), (2, .int x1)] []
  refine m_iload_n C dX4_take_2 rfl 2 rfl ?_
  refine m_aload_n C dX4_take_3 rfl 0 rfl ?_
  refine m_get (T := TX4) (N := 19) C hiX4_take_X4 46 gp_46 rfl 8 (by decide) (by decide +kernel) rfl dX4_take_4 ?_
  refine m_icmp_ge (tgt := 31) C dX4_take_7 (by decide) (fun c3 => ?_) (fun c3 => ?_)
  · have h := h.1 c3
    refine m_iconst (v := 0) C dX4_take_31 (by decide) ?_
    refine m_istore_n (lv' := [(2, .int 0), (0, .ref (ad 46)), (1, .int a1)]) C dX4_take_32 rfl (by decide) rfl ?_
    obtain ⟨I33, ⟨n0, h0⟩, hI⟩ := h
    refine mW.sub (lv' := [(0, .ref (ad 46)), (1, .int a1), (2, .int 0)]) [1, 2, 0] rfl ?_
    refine m_ind (σ := Int32 × gV) (fun n z => I33 n z.1 z.2) (fun z => gW cy ad ln z.2 ou) 33 (fun z => [(0, .ref (ad 46)), (1, .int a1), (2, .int z.1)]) ?_ n0 (0, v2) h0
    intro n z hi ih
    obtain ⟨x4, v5⟩ := z
    have h := hI n x4 v5 hi
    show mW _ _ _ _ _ _ _ _ _ _ _ _ _ _ _ _ (gW cy ad ln v5 ou) 33 [(0, .ref (ad 46)), (1, .int a1), (2, .int x4)] []
    refine m_iload_n C dX4_take_33 rfl 2 rfl ?_
    refine m_aload_n C dX4_take_34 rfl 0 rfl ?_
    refine m_get (T := TX4) (N := 19) C hiX4_take_X4 46 gp_46 rfl 14 (by decide) (by decide +kernel) rfl dX4_take_35 ?_
    refine m_iload_n C dX4_take_38 rfl 1 rfl ?_
    obtain ⟨b6, h⟩ := h
    refine m_iald C 54 (gp_I (by decide)) b6 dX4_take_39 ?_
    refine m_icmp_ge (tgt := 70) C dX4_take_40 (by decide) (fun c7 => ?_) (fun c7 => ?_)
    · have h := h.1 c7
      refine m_aload_n C dX4_take_70 rfl 0 rfl ?_
      refine m_get (T := TX4) (N := 19) C hiX4_take_X4 46 gp_46 rfl 12 (by decide) (by decide +kernel) rfl dX4_take_71 ?_
      refine m_iload_n C dX4_take_74 rfl 1 rfl ?_
      refine m_aload_n C dX4_take_75 rfl 0 rfl ?_
      refine m_get (T := TX4) (N := 19) C hiX4_take_X4 46 gp_46 rfl 6 (by decide) (by decide +kernel) rfl dX4_take_76 ?_
      obtain ⟨b8, h⟩ := h
      obtain ⟨v9, ev9⟩ : ∃ z : gV, z = va_up v5 52 (upd (v5 52) a1.toNatClampNeg (v5 46 6)) := ⟨_, rfl⟩
      have h := h v9 ev9
      refine m_iast (w' := gW cy ad ln v9 ou) C 52 (gp_I (by decide)) b8 dX4_take_79 (by rw [ev9]; exact gs_I (by decide)) ?_
      refine m_aload_n C dX4_take_80 rfl 0 rfl ?_
      refine m_get (T := TX4) (N := 19) C hiX4_take_X4 46 gp_46 rfl 14 (by decide) (by decide +kernel) rfl dX4_take_81 ?_
      refine m_iload_n C dX4_take_84 rfl 1 rfl ?_
      refine m_aload_n C dX4_take_85 rfl 0 rfl ?_
      refine m_get (T := TX4) (N := 19) C hiX4_take_X4 46 gp_46 rfl 8 (by decide) (by decide +kernel) rfl dX4_take_86 ?_
      obtain ⟨b10, h⟩ := h
      obtain ⟨v11, ev11⟩ : ∃ z : gV, z = va_up v9 54 (upd (v9 54) a1.toNatClampNeg (v9 46 8)) := ⟨_, rfl⟩
      have h := h v11 ev11
      refine m_iast (w' := gW cy ad ln v11 ou) C 54 (gp_I (by decide)) b10 dX4_take_89 (by rw [ev11]; exact gs_I (by decide)) ?_
      refine m_iconst (v := 0) C dX4_take_90 (by decide) ?_
      refine m_istore_n (lv' := [(2, .int 0), (0, .ref (ad 46)), (1, .int a1)]) C dX4_take_91 rfl (by decide) rfl ?_
      obtain ⟨I92, ⟨n0, h0⟩, hI⟩ := h
      refine mW.sub (lv' := [(0, .ref (ad 46)), (1, .int a1), (2, .int 0)]) [1, 2, 0] rfl ?_
      refine m_ind (σ := Int32 × gV) (fun n z => I92 n z.1 z.2) (fun z => gW cy ad ln z.2 ou) 92 (fun z => [(0, .ref (ad 46)), (1, .int a1), (2, .int z.1)]) ?_ n0 (0, v11) h0
      intro n z hi ih
      obtain ⟨x12, v13⟩ := z
      have h := hI n x12 v13 hi
      show mW _ _ _ _ _ _ _ _ _ _ _ _ _ _ _ _ (gW cy ad ln v13 ou) 92 [(0, .ref (ad 46)), (1, .int a1), (2, .int x12)] []
      refine m_iload_n C dX4_take_92 rfl 2 rfl ?_
      refine m_aload_n C dX4_take_93 rfl 0 rfl ?_
      refine m_get (T := TX4) (N := 19) C hiX4_take_X4 46 gp_46 rfl 6 (by decide) (by decide +kernel) rfl dX4_take_94 ?_
      refine m_icmp_ge (tgt := 124) C dX4_take_97 (by decide) (fun c14 => ?_) (fun c14 => ?_)
      · have h := h.1 c14
        refine m_iconst (v := 0) C dX4_take_124 (by decide) ?_
        refine m_istore_n (lv' := [(2, .int 0), (0, .ref (ad 46)), (1, .int a1)]) C dX4_take_125 rfl (by decide) rfl ?_
        obtain ⟨I126, ⟨n0, h0⟩, hI⟩ := h
        refine mW.sub (lv' := [(0, .ref (ad 46)), (1, .int a1), (2, .int 0)]) [1, 2, 0] rfl ?_
        refine m_ind (σ := Int32 × gV) (fun n z => I126 n z.1 z.2) (fun z => gW cy ad ln z.2 ou) 126 (fun z => [(0, .ref (ad 46)), (1, .int a1), (2, .int z.1)]) ?_ n0 (0, v13) h0
        intro n z hi ih
        obtain ⟨x15, v16⟩ := z
        have h := hI n x15 v16 hi
        show mW _ _ _ _ _ _ _ _ _ _ _ _ _ _ _ _ (gW cy ad ln v16 ou) 126 [(0, .ref (ad 46)), (1, .int a1), (2, .int x15)] []
        refine m_iload_n C dX4_take_126 rfl 2 rfl ?_
        refine m_aload_n C dX4_take_127 rfl 0 rfl ?_
        refine m_get (T := TX4) (N := 19) C hiX4_take_X4 46 gp_46 rfl 8 (by decide) (by decide +kernel) rfl dX4_take_128 ?_
        refine m_icmp_ge (tgt := 158) C dX4_take_131 (by decide) (fun c17 => ?_) (fun c17 => ?_)
        · have h := h.1 c17
          exact m_vret C dX4_take_158 (Nat.le_of_ble_eq_true rfl) (Nat.le_of_ble_eq_true rfl) ⟨_, rfl, h, rfl⟩
        · have h := h.2 c17
          refine m_aload_n C dX4_take_134 rfl 0 rfl ?_
          refine m_get (T := TX4) (N := 19) C hiX4_take_X4 46 gp_46 rfl 15 (by decide) (by decide +kernel) rfl dX4_take_135 ?_
          refine m_sipush (v := 1500) C dX4_take_138 (by decide) ?_
          refine m_iload_n C dX4_take_141 rfl 1 rfl ?_
          refine m_imul C dX4_take_142 ?_
          refine m_iload_n C dX4_take_143 rfl 2 rfl ?_
          refine m_iadd C dX4_take_144 ?_
          refine m_aload_n C dX4_take_145 rfl 0 rfl ?_
          refine m_get (T := TX4) (N := 19) C hiX4_take_X4 46 gp_46 rfl 10 (by decide) (by decide +kernel) rfl dX4_take_146 ?_
          refine m_iload_n C dX4_take_149 rfl 2 rfl ?_
          obtain ⟨b18, h⟩ := h
          refine m_iald C 50 (gp_I (by decide)) b18 dX4_take_150 ?_
          obtain ⟨b19, h⟩ := h
          obtain ⟨v20, ev20⟩ : ∃ z : gV, z = va_up v16 55 (upd (v16 55) ((1500 * a1) + x15).toNatClampNeg (v16 50 x15.toNatClampNeg)) := ⟨_, rfl⟩
          have h := h v20 ev20
          refine m_iast (w' := gW cy ad ln v20 ou) C 55 (gp_I (by decide)) b19 dX4_take_151 (by rw [ev20]; exact gs_I (by decide)) ?_
          refine m_iinc (lv' := [(2, .int (x15 + 1)), (0, .ref (ad 46)), (1, .int a1)]) C dX4_take_152 (k := 2) rfl rfl (by decide) rfl ?_
          refine m_goto (tgt := 126) C dX4_take_155 (by decide) ?_
          obtain ⟨n21, hn, h⟩ := h
          exact mW.sub [1, 2, 0] rfl (ih n21 ((x15 + 1), v20) hn h)
      · have h := h.2 c14
        refine m_aload_n C dX4_take_100 rfl 0 rfl ?_
        refine m_get (T := TX4) (N := 19) C hiX4_take_X4 46 gp_46 rfl 13 (by decide) (by decide +kernel) rfl dX4_take_101 ?_
        refine m_sipush (v := 1500) C dX4_take_104 (by decide) ?_
        refine m_iload_n C dX4_take_107 rfl 1 rfl ?_
        refine m_imul C dX4_take_108 ?_
        refine m_iload_n C dX4_take_109 rfl 2 rfl ?_
        refine m_iadd C dX4_take_110 ?_
        refine m_aload_n C dX4_take_111 rfl 0 rfl ?_
        refine m_get (T := TX4) (N := 19) C hiX4_take_X4 46 gp_46 rfl 7 (by decide) (by decide +kernel) rfl dX4_take_112 ?_
        refine m_iload_n C dX4_take_115 rfl 2 rfl ?_
        obtain ⟨b22, h⟩ := h
        refine m_iald C 48 (gp_I (by decide)) b22 dX4_take_116 ?_
        obtain ⟨b23, h⟩ := h
        obtain ⟨v24, ev24⟩ : ∃ z : gV, z = va_up v13 53 (upd (v13 53) ((1500 * a1) + x12).toNatClampNeg (v13 48 x12.toNatClampNeg)) := ⟨_, rfl⟩
        have h := h v24 ev24
        refine m_iast (w' := gW cy ad ln v24 ou) C 53 (gp_I (by decide)) b23 dX4_take_117 (by rw [ev24]; exact gs_I (by decide)) ?_
        refine m_iinc (lv' := [(2, .int (x12 + 1)), (0, .ref (ad 46)), (1, .int a1)]) C dX4_take_118 (k := 2) rfl rfl (by decide) rfl ?_
        refine m_goto (tgt := 92) C dX4_take_121 (by decide) ?_
        obtain ⟨n25, hn, h⟩ := h
        exact mW.sub [1, 2, 0] rfl (ih n25 ((x12 + 1), v24) hn h)
    · have h := h.2 c7
      refine m_aload_n C dX4_take_43 rfl 0 rfl ?_
      refine m_get (T := TX4) (N := 19) C hiX4_take_X4 46 gp_46 rfl 16 (by decide) (by decide +kernel) rfl dX4_take_44 ?_
      refine m_aload_n C dX4_take_47 rfl 0 rfl ?_
      refine m_get (T := TX4) (N := 19) C hiX4_take_X4 46 gp_46 rfl 15 (by decide) (by decide +kernel) rfl dX4_take_48 ?_
      refine m_sipush (v := 1500) C dX4_take_51 (by decide) ?_
      refine m_iload_n C dX4_take_54 rfl 1 rfl ?_
      refine m_imul C dX4_take_55 ?_
      refine m_iload_n C dX4_take_56 rfl 2 rfl ?_
      refine m_iadd C dX4_take_57 ?_
      obtain ⟨b26, h⟩ := h
      refine m_iald C 55 (gp_I (by decide)) b26 dX4_take_58 ?_
      refine m_dup2_11 C dX4_take_59 rfl rfl ?_
      obtain ⟨b27, h⟩ := h
      refine m_iald C 56 (gp_I (by decide)) b27 dX4_take_60 ?_
      refine m_iconst (v := 1) C dX4_take_61 (by decide) ?_
      refine m_isub C dX4_take_62 ?_
      obtain ⟨b28, h⟩ := h
      obtain ⟨v29, ev29⟩ : ∃ z : gV, z = va_up v5 56 (upd (v5 56) (v5 55 ((1500 * a1) + x4).toNatClampNeg).toNatClampNeg ((v5 56 (v5 55 ((1500 * a1) + x4).toNatClampNeg).toNatClampNeg) - 1)) := ⟨_, rfl⟩
      have h := h v29 ev29
      refine m_iast (w' := gW cy ad ln v29 ou) C 56 (gp_I (by decide)) b28 dX4_take_63 (by rw [ev29]; exact gs_I (by decide)) ?_
      refine m_iinc (lv' := [(2, .int (x4 + 1)), (0, .ref (ad 46)), (1, .int a1)]) C dX4_take_64 (k := 2) rfl rfl (by decide) rfl ?_
      refine m_goto (tgt := 33) C dX4_take_67 (by decide) ?_
      obtain ⟨n30, hn, h⟩ := h
      exact mW.sub [1, 2, 0] rfl (ih n30 ((x4 + 1), v29) hn h)
  · have h := h.2 c3
    refine m_aload_n C dX4_take_10 rfl 0 rfl ?_
    refine m_get (T := TX4) (N := 19) C hiX4_take_X4 46 gp_46 rfl 16 (by decide) (by decide +kernel) rfl dX4_take_11 ?_
    refine m_aload_n C dX4_take_14 rfl 0 rfl ?_
    refine m_get (T := TX4) (N := 19) C hiX4_take_X4 46 gp_46 rfl 10 (by decide) (by decide +kernel) rfl dX4_take_15 ?_
    refine m_iload_n C dX4_take_18 rfl 2 rfl ?_
    obtain ⟨b31, h⟩ := h
    refine m_iald C 50 (gp_I (by decide)) b31 dX4_take_19 ?_
    refine m_dup2_11 C dX4_take_20 rfl rfl ?_
    obtain ⟨b32, h⟩ := h
    refine m_iald C 56 (gp_I (by decide)) b32 dX4_take_21 ?_
    refine m_iconst (v := 1) C dX4_take_22 (by decide) ?_
    refine m_iadd C dX4_take_23 ?_
    obtain ⟨b33, h⟩ := h
    obtain ⟨v34, ev34⟩ : ∃ z : gV, z = va_up v2 56 (upd (v2 56) (v2 50 x1.toNatClampNeg).toNatClampNeg ((v2 56 (v2 50 x1.toNatClampNeg).toNatClampNeg) + 1)) := ⟨_, rfl⟩
    have h := h v34 ev34
    refine m_iast (w' := gW cy ad ln v34 ou) C 56 (gp_I (by decide)) b33 dX4_take_24 (by rw [ev34]; exact gs_I (by decide)) ?_
    refine m_iinc (lv' := [(2, .int (x1 + 1)), (0, .ref (ad 46)), (1, .int a1)]) C dX4_take_25 (k := 2) rfl rfl (by decide) rfl ?_
    refine m_goto (tgt := 2) C dX4_take_28 (by decide) ?_
    obtain ⟨n35, hn, h⟩ := h
    exact mW.sub [1, 2, 0] rfl (ih n35 ((x1 + 1), v34) hn h)
theorem hiX4_store_X4 : ∀ w ∈ wsX40, w ∈ wsX4_store := by decide +kernel
def wp_X4_store (ln : Nat → Nat) (v : gV) (a1 : Int32) (post : Int32 → gV → Prop) : Prop :=
  (∀ v3 : gV, v3 = vrf v (if (pin a1 0 15) = 0 then 1 else 0) 0 0 → ((((prf (if (pin a1 0 15) = 0 then 1 else 0) 0 0) = 0) → (∀ v5 : gV, v5 = va_up v3 46 (upd (v3 46) 6 (v3 46 4)) → (∃ I33 : Nat → Int32 → gV → Prop, (∃ n, I33 n 0 v5) ∧ ∀ (n : Nat) (x6 : Int32) (v7 : gV), I33 n x6 v7 → ((((v7 46 6) ≤ x6) → (wp_X4_give ln v7  (fun (x9 : Int32) (v10 : gV) => ((∀ v13 : gV, v13 = vrf v10 0 (if 0 ≤ x9 then 0 else 1) 0 → ((((prf 0 (if 0 ≤ x9 then 0 else 1) 0) = 0) → (wp_X4_take ln v13 a1 (fun (v16 : gV) => (∀ v17 : gV, v17 = va_up v16 46 (upd (v16 46) 4 0) → (post x9 v17))))) ∧ (¬ ((prf 0 (if 0 ≤ x9 then 0 else 1) 0) = 0) → (post 0 v13)))))))) ∧ (¬ ((v7 46 6) ≤ x6) → (vp_in x6 (ln 47) ∧ (vp_in x6 (ln 48) ∧ ∀ v20 : gV, v20 = va_up v7 48 (upd (v7 48) x6.toNatClampNeg (v7 47 x6.toNatClampNeg)) → (∃ n', n' < n ∧ I33 n' (x6 + 1) v20)))))))) ∧ (¬ ((prf (if (pin a1 0 15) = 0 then 1 else 0) 0 0) = 0) → (post 0 v3))))
set_option maxHeartbeats 4000000 in
set_option maxRecDepth 100000 in
theorem s_X4_store (l : Launch) (D : va_G) (cy : Nat → ClassId) (ad ln : Nat → Nat) (v : gV) (ou : Nat → Int64) (a1 : Int32) {post : Int32 → gV → Prop} (h : wp_X4_store ln v a1 post) : mM l D cy yX4_store wsX4_store 5 0 0 [.ref (ad 46), .int a1] (gW cy ad ln v ou) (fun r w1 => ∃ (x1 : Int32) (v1 : gV), r = some (.int x1) ∧ post x1 v1 ∧ w1 = gW cy ad ln v1 ou) := by
  unfold wp_X4_store at h
  refine mM.of (cc := cX4_store) (nL := 3) (ret0 := (some .int)) (by decide +kernel) rfl (Nat.le_of_ble_eq_true rfl) ?_
  intro p e s m args below meth c A C hini
  refine mW.sub (lv' := [(0, .ref (ad 46)), (1, .int a1)]) [0, 1] rfl ?_
  refine m_aload_n C dX4_store_0 rfl 0 rfl ?_
  refine m_iload_n C dX4_store_1 rfl 1 rfl ?_
  refine m_callS C (p_X4_isFile l D cy ad ln v ou a1) (va_cwS 1 C.2.2.2.2.1 gX4_store_X4_isFile rfl rfl rfl (by decide +kernel) ⟨Nat.le_of_ble_eq_true rfl, Nat.le_of_ble_eq_true rfl⟩) rfl rfl (Nat.le_of_ble_eq_true rfl) dX4_store_2 ⟨by decide, by decide⟩ (fun r w1 h1 => ?_)
  obtain ⟨rfl, rfl⟩ := h1
  refine mW.eq (st' := [.int (pin a1 0 15), .ref (ad 46)]) rfl rfl rfl rfl ?_
  refine m_join (P := 13) (wM := gW cy ad ln v ou) (lvM := [(0, .ref (ad 46)), (1, .int a1)]) (stM := [.int (if (pin a1 0 15) = 0 then 1 else 0), .ref (ad 46)]) ?_ (fun hJ13_2 => ?_)
  · refine m_iconst (v := 0) C dX4_store_13 (by decide) ?_
    refine m_iconst (v := 0) C dX4_store_14 (by decide) ?_
    refine m_callV C (p_X4_refuse l D cy ad ln v ou (if (pin a1 0 15) = 0 then 1 else 0) 0 0) (cwV 3 C.2.2.2.2.1 gX4_store_X4_refuse rfl rfl rfl (by decide +kernel) ⟨Nat.le_of_ble_eq_true rfl, Nat.le_of_ble_eq_true rfl⟩) 46 gp_46 rfl rfl rfl (Nat.le_of_ble_eq_true rfl) dX4_store_15 ⟨by decide, by decide⟩ (fun r w1 h1 => ?_)
    obtain ⟨v3, ev3⟩ : ∃ z : gV, z = vrf v (if (pin a1 0 15) = 0 then 1 else 0) 0 0 := ⟨_, rfl⟩
    rw [← ev3] at h1
    obtain ⟨rfl, rfl⟩ := h1
    refine mW.eq (st' := [.int (prf (if (pin a1 0 15) = 0 then 1 else 0) 0 0)]) rfl rfl rfl rfl ?_
    have h := h v3 ev3
    refine m_if_eq (tgt := 23) C dX4_store_18 (by decide) (fun c4 => ?_) (fun c4 => ?_)
    · have h := h.1 c4
      refine m_aload_n C dX4_store_23 rfl 0 rfl ?_
      refine m_aload_n C dX4_store_24 rfl 0 rfl ?_
      refine m_get (T := TX4) (N := 19) C hiX4_store_X4 46 gp_46 rfl 4 (by decide) (by decide +kernel) rfl dX4_store_25 ?_
      obtain ⟨v5, ev5⟩ : ∃ z : gV, z = va_up v3 46 (upd (v3 46) 6 (v3 46 4)) := ⟨_, rfl⟩
      have h := h v5 ev5
      refine m_put (w' := gW cy ad ln v5 ou) (T := TX4) (N := 19) C hiX4_store_X4 tyX4 tyX4_ok nmX4 46 gp_46 rfl 6 (by decide) (by decide +kernel) rfl rfl rfl (Nat.le_of_ble_eq_true rfl) dX4_store_28 (by rw [ev5]; exact gW_set (k := 46) (by decide) rfl) ?_
      refine m_iconst (v := 0) C dX4_store_31 (by decide) ?_
      refine m_istore_n (lv' := [(2, .int 0), (0, .ref (ad 46)), (1, .int a1)]) C dX4_store_32 rfl (by decide) rfl ?_
      obtain ⟨I33, ⟨n0, h0⟩, hI⟩ := h
      refine mW.sub (lv' := [(0, .ref (ad 46)), (1, .int a1), (2, .int 0)]) [1, 2, 0] rfl ?_
      refine m_ind (σ := Int32 × gV) (fun n z => I33 n z.1 z.2) (fun z => gW cy ad ln z.2 ou) 33 (fun z => [(0, .ref (ad 46)), (1, .int a1), (2, .int z.1)]) ?_ n0 (0, v5) h0
      intro n z hi ih
      obtain ⟨x6, v7⟩ := z
      have h := hI n x6 v7 hi
      show mW _ _ _ _ _ _ _ _ _ _ _ _ _ _ _ _ (gW cy ad ln v7 ou) 33 [(0, .ref (ad 46)), (1, .int a1), (2, .int x6)] []
      refine m_iload_n C dX4_store_33 rfl 2 rfl ?_
      refine m_aload_n C dX4_store_34 rfl 0 rfl ?_
      refine m_get (T := TX4) (N := 19) C hiX4_store_X4 46 gp_46 rfl 6 (by decide) (by decide +kernel) rfl dX4_store_35 ?_
      refine m_icmp_ge (tgt := 59) C dX4_store_38 (by decide) (fun c8 => ?_) (fun c8 => ?_)
      · have h := h.1 c8
        refine m_aload_n C dX4_store_59 rfl 0 rfl ?_
        refine m_callV C (s_X4_give l D cy ad ln v7 ou   h) (cwV 0 C.2.2.2.2.1 gX4_store_X4_give rfl rfl rfl (by decide +kernel) ⟨Nat.le_of_ble_eq_true rfl, Nat.le_of_ble_eq_true rfl⟩) 46 gp_46 rfl rfl rfl (Nat.le_of_ble_eq_true rfl) dX4_store_60 ⟨by decide, by decide⟩ (fun r w1 h1 => ?_)
        obtain ⟨x9, v10, rfl, h, rfl⟩ := h1
        refine mW.eq (st' := [.int x9]) rfl rfl rfl rfl ?_
        refine m_istore_n (lv' := [(2, .int x9), (0, .ref (ad 46)), (1, .int a1)]) C dX4_store_63 rfl (by decide) rfl ?_
        refine m_aload_n C dX4_store_64 rfl 1 rfl ?_
        refine m_iconst (v := 0) C dX4_store_65 (by decide) ?_
        refine m_iload_n C dX4_store_66 rfl 0 rfl ?_
        refine m_join (P := 75) (wM := gW cy ad ln v10 ou) (lvM := [(2, .int x9), (0, .ref (ad 46)), (1, .int a1)]) (stM := [.int (if 0 ≤ x9 then 0 else 1), .int 0, .ref (ad 46)]) ?_ (fun hJ75_12 => ?_)
        · refine m_iconst (v := 0) C dX4_store_75 (by decide) ?_
          refine m_callV C (p_X4_refuse l D cy ad ln v10 ou 0 (if 0 ≤ x9 then 0 else 1) 0) (cwV 3 C.2.2.2.2.1 gX4_store_X4_refuse rfl rfl rfl (by decide +kernel) ⟨Nat.le_of_ble_eq_true rfl, Nat.le_of_ble_eq_true rfl⟩) 46 gp_46 rfl rfl rfl (Nat.le_of_ble_eq_true rfl) dX4_store_76 ⟨by decide, by decide⟩ (fun r w1 h1 => ?_)
          obtain ⟨v13, ev13⟩ : ∃ z : gV, z = vrf v10 0 (if 0 ≤ x9 then 0 else 1) 0 := ⟨_, rfl⟩
          rw [← ev13] at h1
          obtain ⟨rfl, rfl⟩ := h1
          refine mW.eq (st' := [.int (prf 0 (if 0 ≤ x9 then 0 else 1) 0)]) rfl rfl rfl rfl ?_
          have h := h v13 ev13
          refine m_if_eq (tgt := 84) C dX4_store_79 (by decide) (fun c14 => ?_) (fun c14 => ?_)
          · have h := h.1 c14
            refine m_aload_n C dX4_store_84 rfl 1 rfl ?_
            refine m_iload_n C dX4_store_85 rfl 2 rfl ?_
            refine m_callV C (s_X4_take l D cy ad ln v13 ou a1  h) (cwV 1 C.2.2.2.2.1 gX4_store_X4_take rfl rfl rfl (by decide +kernel) ⟨Nat.le_of_ble_eq_true rfl, Nat.le_of_ble_eq_true rfl⟩) 46 gp_46 rfl rfl rfl (Nat.le_of_ble_eq_true rfl) dX4_store_86 ⟨by decide, by decide⟩ (fun r w1 h1 => ?_)
            obtain ⟨v16, rfl, h, rfl⟩ := h1
            refine mW.eq (st' := []) rfl rfl rfl rfl ?_
            refine m_aload_n C dX4_store_89 rfl 1 rfl ?_
            refine m_iconst (v := 0) C dX4_store_90 (by decide) ?_
            obtain ⟨v17, ev17⟩ : ∃ z : gV, z = va_up v16 46 (upd (v16 46) 4 0) := ⟨_, rfl⟩
            have h := h v17 ev17
            refine m_put (w' := gW cy ad ln v17 ou) (T := TX4) (N := 19) C hiX4_store_X4 tyX4 tyX4_ok nmX4 46 gp_46 rfl 4 (by decide) (by decide +kernel) rfl rfl rfl (Nat.le_of_ble_eq_true rfl) dX4_store_91 (by rw [ev17]; exact gW_set (k := 46) (by decide) rfl) ?_
            refine m_iload_n C dX4_store_94 rfl 0 rfl ?_
            exact m_iret C dX4_store_95 (Nat.le_of_ble_eq_true rfl) (Nat.le_of_ble_eq_true rfl) ⟨_, _, rfl, h, rfl⟩
          · have h := h.2 c14
            refine m_iconst (v := 0) C dX4_store_82 (by decide) ?_
            exact m_iret C dX4_store_83 (Nat.le_of_ble_eq_true rfl) (Nat.le_of_ble_eq_true rfl) ⟨_, _, rfl, h, rfl⟩
        · refine m_if_ge (tgt := 74) C dX4_store_67 (by decide) (fun c11 => ?_) (fun c11 => ?_)
          · refine m_iconst (v := 0) C dX4_store_74 (by decide) ?_
            refine mW.sub (lv' := [(2, .int x9), (0, .ref (ad 46)), (1, .int a1)]) [0, 1, 2] rfl ?_
            exact mW.eq rfl rfl (by simp only [if_pos c11]) rfl hJ75_12
          · refine m_iconst (v := 1) C dX4_store_70 (by decide) ?_
            refine m_goto (tgt := 75) C dX4_store_71 (by decide) ?_
            refine mW.sub (lv' := [(2, .int x9), (0, .ref (ad 46)), (1, .int a1)]) [0, 1, 2] rfl ?_
            exact mW.eq rfl rfl (by simp only [if_neg c11]) rfl hJ75_12
      · have h := h.2 c8
        refine m_aload_n C dX4_store_41 rfl 0 rfl ?_
        refine m_get (T := TX4) (N := 19) C hiX4_store_X4 46 gp_46 rfl 7 (by decide) (by decide +kernel) rfl dX4_store_42 ?_
        refine m_iload_n C dX4_store_45 rfl 2 rfl ?_
        refine m_aload_n C dX4_store_46 rfl 0 rfl ?_
        refine m_get (T := TX4) (N := 19) C hiX4_store_X4 46 gp_46 rfl 5 (by decide) (by decide +kernel) rfl dX4_store_47 ?_
        refine m_iload_n C dX4_store_50 rfl 2 rfl ?_
        obtain ⟨b18, h⟩ := h
        refine m_iald C 47 (gp_I (by decide)) b18 dX4_store_51 ?_
        obtain ⟨b19, h⟩ := h
        obtain ⟨v20, ev20⟩ : ∃ z : gV, z = va_up v7 48 (upd (v7 48) x6.toNatClampNeg (v7 47 x6.toNatClampNeg)) := ⟨_, rfl⟩
        have h := h v20 ev20
        refine m_iast (w' := gW cy ad ln v20 ou) C 48 (gp_I (by decide)) b19 dX4_store_52 (by rw [ev20]; exact gs_I (by decide)) ?_
        refine m_iinc (lv' := [(2, .int (x6 + 1)), (0, .ref (ad 46)), (1, .int a1)]) C dX4_store_53 (k := 2) rfl rfl (by decide) rfl ?_
        refine m_goto (tgt := 33) C dX4_store_56 (by decide) ?_
        obtain ⟨n21, hn, h⟩ := h
        exact mW.sub [1, 2, 0] rfl (ih n21 ((x6 + 1), v20) hn h)
    · have h := h.2 c4
      refine m_iconst (v := 0) C dX4_store_21 (by decide) ?_
      exact m_iret C dX4_store_22 (Nat.le_of_ble_eq_true rfl) (Nat.le_of_ble_eq_true rfl) ⟨_, _, rfl, h, rfl⟩
  · refine m_if_ne (tgt := 12) C dX4_store_5 (by decide) (fun c1 => ?_) (fun c1 => ?_)
    · refine m_iconst (v := 0) C dX4_store_12 (by decide) ?_
      refine mW.sub (lv' := [(0, .ref (ad 46)), (1, .int a1)]) [0, 1] rfl ?_
      exact mW.eq rfl rfl (by simp only [if_neg c1]) rfl hJ13_2
    · refine m_iconst (v := 1) C dX4_store_8 (by decide) ?_
      refine m_goto (tgt := 13) C dX4_store_9 (by decide) ?_
      refine mW.sub (lv' := [(0, .ref (ad 46)), (1, .int a1)]) [0, 1] rfl ?_
      exact mW.eq rfl rfl (by simp only [if_pos c1]) rfl hJ13_2
theorem hiX4_edit_X4 : ∀ w ∈ wsX40, w ∈ wsX4_edit := by decide +kernel
def wp_X4_edit (ln : Nat → Nat) (v : gV) (a1 : Int32) (a2 : Int32) (a3 : Int32) (post : Int32 → gV → Prop) : Prop :=
  ((¬ ((pin a1 0 15) = 0)) → vp_in a1 (ln 52)) ∧ (∀ x4 : Int32, x4 = (if (pin a1 0 15) = 0 then 0 else v 52 a1.toNatClampNeg) → ((∀ x9 : Int32, x9 = (if (pin a1 0 15) = 0 then 0 else if (pin a2 0 x4) = 0 then 0 else if (pin a3 0 (x4 - a2)) = 0 then 0 else 1) → ((((∀ v18 : gV, v18 = vrf v (if (pin a1 0 15) = 0 then 1 else 0) (if (pin a1 0 15) = 0 then 0 else if x9 = 0 then 1 else 0) (if x9 = 0 then 0 else if ((x4 - a3) + (v 46 4)) ≤ 1500 then 0 else 1) → ((((prf (if (pin a1 0 15) = 0 then 1 else 0) (if (pin a1 0 15) = 0 then 0 else if x9 = 0 then 1 else 0) (if x9 = 0 then 0 else if ((x4 - a3) + (v 46 4)) ≤ 1500 then 0 else 1)) = 0) → (∀ v20 : gV, v20 = va_up v18 46 (upd (v18 46) 6 0) → (∃ I124 : Nat → Int32 → gV → Prop, (∃ n, I124 n 0 v20) ∧ ∀ (n : Nat) (x21 : Int32) (v22 : gV), I124 n x21 v22 → (((a2 ≤ x21) → (∃ I171 : Nat → Int32 → gV → Prop, (∃ n, I171 n 0 v22) ∧ ∀ (n : Nat) (x24 : Int32) (v25 : gV), I171 n x24 v25 → ((((v25 46 4) ≤ x24) → (∃ I217 : Nat → Int32 → gV → Prop, (∃ n, I217 n (a2 + a3) v25) ∧ ∀ (n : Nat) (x27 : Int32) (v28 : gV), I217 n x27 v28 → (((x4 ≤ x27) → (wp_X4_give ln v28  (fun (x30 : Int32) (v31 : gV) => ((∀ v34 : gV, v34 = vrf v31 0 0 (if 0 ≤ x30 then 0 else 1) → ((((prf 0 0 (if 0 ≤ x30 then 0 else 1)) = 0) → (wp_X4_take ln v34 a1 (fun (v37 : gV) => (∀ v38 : gV, v38 = va_up v37 46 (upd (v37 46) 4 0) → (post x30 v38))))) ∧ (¬ ((prf 0 0 (if 0 ≤ x30 then 0 else 1)) = 0) → (post 0 v34)))))))) ∧ (¬ (x4 ≤ x27) → (vp_in ((1500 * a1) + x27) (ln 53) ∧ (vp_in (v28 46 6) (ln 48) ∧ ∀ v41 : gV, v41 = va_up v28 48 (upd (v28 48) (v28 46 6).toNatClampNeg (v28 53 ((1500 * a1) + x27).toNatClampNeg)) → (∀ v42 : gV, v42 = va_up v41 46 (upd (v41 46) 6 ((v41 46 6) + 1)) → (∃ n', n' < n ∧ I217 n' (x27 + 1) v42)))))))) ∧ (¬ ((v25 46 4) ≤ x24) → (vp_in x24 (ln 47) ∧ (vp_in (v25 46 6) (ln 48) ∧ ∀ v46 : gV, v46 = va_up v25 48 (upd (v25 48) (v25 46 6).toNatClampNeg (v25 47 x24.toNatClampNeg)) → (∀ v47 : gV, v47 = va_up v46 46 (upd (v46 46) 6 ((v46 46 6) + 1)) → (∃ n', n' < n ∧ I171 n' (x24 + 1) v47)))))))) ∧ (¬ (a2 ≤ x21) → (vp_in ((1500 * a1) + x21) (ln 53) ∧ (vp_in (v22 46 6) (ln 48) ∧ ∀ v51 : gV, v51 = va_up v22 48 (upd (v22 48) (v22 46 6).toNatClampNeg (v22 53 ((1500 * a1) + x21).toNatClampNeg)) → (∀ v52 : gV, v52 = va_up v51 46 (upd (v51 46) 6 ((v51 46 6) + 1)) → (∃ n', n' < n ∧ I124 n' (x21 + 1) v52))))))))) ∧ (¬ ((prf (if (pin a1 0 15) = 0 then 1 else 0) (if (pin a1 0 15) = 0 then 0 else if x9 = 0 then 1 else 0) (if x9 = 0 then 0 else if ((x4 - a3) + (v 46 4)) ≤ 1500 then 0 else 1)) = 0) → (post 0 v18))))))))))
set_option maxHeartbeats 4000000 in
set_option maxRecDepth 100000 in
theorem s_X4_edit (l : Launch) (D : va_G) (cy : Nat → ClassId) (ad ln : Nat → Nat) (v : gV) (ou : Nat → Int64) (a1 : Int32) (a2 : Int32) (a3 : Int32) {post : Int32 → gV → Prop} (h : wp_X4_edit ln v a1 a2 a3 post) : mM l D cy yX4_edit wsX4_edit 5 0 0 [.ref (ad 46), .int a1, .int a2, .int a3] (gW cy ad ln v ou) (fun r w1 => ∃ (x1 : Int32) (v1 : gV), r = some (.int x1) ∧ post x1 v1 ∧ w1 = gW cy ad ln v1 ou) := by
  unfold wp_X4_edit at h
  refine mM.of (cc := cX4_edit) (nL := 8) (ret0 := (some .int)) (by decide +kernel) rfl (Nat.le_of_ble_eq_true rfl) ?_
  intro p e s m args below meth c A C hini
  refine mW.sub (lv' := [(0, .ref (ad 46)), (1, .int a1), (2, .int a2), (3, .int a3)]) [0, 1, 2, 3] rfl ?_
  refine m_iload_n C dX4_edit_0 rfl 1 rfl ?_
  refine m_callS C (p_X4_isFile l D cy ad ln v ou a1) (va_cwS 1 C.2.2.2.2.1 gX4_edit_X4_isFile rfl rfl rfl (by decide +kernel) ⟨Nat.le_of_ble_eq_true rfl, Nat.le_of_ble_eq_true rfl⟩) rfl rfl (Nat.le_of_ble_eq_true rfl) dX4_edit_1 ⟨by decide, by decide⟩ (fun r w1 h1 => ?_)
  obtain ⟨rfl, rfl⟩ := h1
  refine mW.eq (st' := [.int (pin a1 0 15)]) rfl rfl rfl rfl ?_
  refine m_istore (lv' := [(4, .int (pin a1 0 15)), (0, .ref (ad 46)), (1, .int a1), (2, .int a2), (3, .int a3)]) C dX4_edit_4 (by decide) rfl ?_
  refine m_iload C dX4_edit_6 0 rfl ?_
  obtain ⟨b2, h⟩ := h
  refine m_join (P := 21) (wM := gW cy ad ln v ou) (lvM := [(4, .int (pin a1 0 15)), (0, .ref (ad 46)), (1, .int a1), (2, .int a2), (3, .int a3)]) (stM := [.int (if (pin a1 0 15) = 0 then 0 else v 52 a1.toNatClampNeg)]) ?_ (fun hJ21_3 => ?_)
  · refine m_topi (fun x4 ex4 => ?_)
    have h := h x4 ex4
    refine m_istore (lv' := [(5, .int x4), (4, .int (pin a1 0 15)), (0, .ref (ad 46)), (1, .int a1), (2, .int a2), (3, .int a3)]) C dX4_edit_21 (by decide) rfl ?_
    refine m_iload C dX4_edit_23 1 rfl ?_
    refine m_join (P := 55) (wM := gW cy ad ln v ou) (lvM := [(5, .int x4), (4, .int (pin a1 0 15)), (0, .ref (ad 46)), (1, .int a1), (2, .int a2), (3, .int a3)]) (stM := [.int (if (pin a1 0 15) = 0 then 0 else if (pin a2 0 x4) = 0 then 0 else if (pin a3 0 (x4 - a2)) = 0 then 0 else 1)]) ?_ (fun hJ55_8 => ?_)
    · refine m_topi (fun x9 ex9 => ?_)
      have h := h x9 ex9
      refine m_istore (lv' := [(6, .int x9), (5, .int x4), (4, .int (pin a1 0 15)), (0, .ref (ad 46)), (1, .int a1), (2, .int a2), (3, .int a3)]) C dX4_edit_55 (by decide) rfl ?_
      refine m_aload_n C dX4_edit_57 rfl 3 rfl ?_
      refine m_iload C dX4_edit_58 2 rfl ?_
      refine m_join (P := 68) (wM := gW cy ad ln v ou) (lvM := [(6, .int x9), (5, .int x4), (4, .int (pin a1 0 15)), (0, .ref (ad 46)), (1, .int a1), (2, .int a2), (3, .int a3)]) (stM := [.int (if (pin a1 0 15) = 0 then 1 else 0), .ref (ad 46)]) ?_ (fun hJ68_11 => ?_)
      · refine m_iload C dX4_edit_68 2 rfl ?_
        refine m_join (P := 83) (wM := gW cy ad ln v ou) (lvM := [(6, .int x9), (5, .int x4), (4, .int (pin a1 0 15)), (0, .ref (ad 46)), (1, .int a1), (2, .int a2), (3, .int a3)]) (stM := [.int (if (pin a1 0 15) = 0 then 0 else if x9 = 0 then 1 else 0), .int (if (pin a1 0 15) = 0 then 1 else 0), .ref (ad 46)]) ?_ (fun hJ83_14 => ?_)
        · refine m_iload C dX4_edit_83 0 rfl ?_
          refine m_join (P := 108) (wM := gW cy ad ln v ou) (lvM := [(6, .int x9), (5, .int x4), (4, .int (pin a1 0 15)), (0, .ref (ad 46)), (1, .int a1), (2, .int a2), (3, .int a3)]) (stM := [.int (if x9 = 0 then 0 else if ((x4 - a3) + (v 46 4)) ≤ 1500 then 0 else 1), .int (if (pin a1 0 15) = 0 then 0 else if x9 = 0 then 1 else 0), .int (if (pin a1 0 15) = 0 then 1 else 0), .ref (ad 46)]) ?_ (fun hJ108_17 => ?_)
          · refine m_callV C (p_X4_refuse l D cy ad ln v ou (if (pin a1 0 15) = 0 then 1 else 0) (if (pin a1 0 15) = 0 then 0 else if x9 = 0 then 1 else 0) (if x9 = 0 then 0 else if ((x4 - a3) + (v 46 4)) ≤ 1500 then 0 else 1)) (cwV 3 C.2.2.2.2.1 gX4_edit_X4_refuse rfl rfl rfl (by decide +kernel) ⟨Nat.le_of_ble_eq_true rfl, Nat.le_of_ble_eq_true rfl⟩) 46 gp_46 rfl rfl rfl (Nat.le_of_ble_eq_true rfl) dX4_edit_108 ⟨by decide, by decide⟩ (fun r w1 h1 => ?_)
            obtain ⟨v18, ev18⟩ : ∃ z : gV, z = vrf v (if (pin a1 0 15) = 0 then 1 else 0) (if (pin a1 0 15) = 0 then 0 else if x9 = 0 then 1 else 0) (if x9 = 0 then 0 else if ((x4 - a3) + (v 46 4)) ≤ 1500 then 0 else 1) := ⟨_, rfl⟩
            rw [← ev18] at h1
            obtain ⟨rfl, rfl⟩ := h1
            refine mW.eq (st' := [.int (prf (if (pin a1 0 15) = 0 then 1 else 0) (if (pin a1 0 15) = 0 then 0 else if x9 = 0 then 1 else 0) (if x9 = 0 then 0 else if ((x4 - a3) + (v 46 4)) ≤ 1500 then 0 else 1))]) rfl rfl rfl rfl ?_
            have h := h v18 ev18
            refine m_if_eq (tgt := 116) C dX4_edit_111 (by decide) (fun c19 => ?_) (fun c19 => ?_)
            · have h := h.1 c19
              refine m_aload_n C dX4_edit_116 rfl 3 rfl ?_
              refine m_iconst (v := 0) C dX4_edit_117 (by decide) ?_
              obtain ⟨v20, ev20⟩ : ∃ z : gV, z = va_up v18 46 (upd (v18 46) 6 0) := ⟨_, rfl⟩
              have h := h v20 ev20
              refine m_put (w' := gW cy ad ln v20 ou) (T := TX4) (N := 19) C hiX4_edit_X4 tyX4 tyX4_ok nmX4 46 gp_46 rfl 6 (by decide) (by decide +kernel) rfl rfl rfl (Nat.le_of_ble_eq_true rfl) dX4_edit_118 (by rw [ev20]; exact gW_set (k := 46) (by decide) rfl) ?_
              refine m_iconst (v := 0) C dX4_edit_121 (by decide) ?_
              refine m_istore (lv' := [(7, .int 0), (6, .int x9), (5, .int x4), (4, .int (pin a1 0 15)), (0, .ref (ad 46)), (1, .int a1), (2, .int a2), (3, .int a3)]) C dX4_edit_122 (by decide) rfl ?_
              obtain ⟨I124, ⟨n0, h0⟩, hI⟩ := h
              refine mW.sub (lv' := [(0, .ref (ad 46)), (1, .int a1), (2, .int a2), (3, .int a3), (4, .int (pin a1 0 15)), (5, .int x4), (6, .int x9), (7, .int 0)]) [4, 5, 6, 7, 3, 2, 1, 0] rfl ?_
              refine m_ind (σ := Int32 × gV) (fun n z => I124 n z.1 z.2) (fun z => gW cy ad ln z.2 ou) 124 (fun z => [(0, .ref (ad 46)), (1, .int a1), (2, .int a2), (3, .int a3), (4, .int (pin a1 0 15)), (5, .int x4), (6, .int x9), (7, .int z.1)]) ?_ n0 (0, v20) h0
              intro n z hi ih
              obtain ⟨x21, v22⟩ := z
              have h := hI n x21 v22 hi
              show mW _ _ _ _ _ _ _ _ _ _ _ _ _ _ _ _ (gW cy ad ln v22 ou) 124 [(0, .ref (ad 46)), (1, .int a1), (2, .int a2), (3, .int a3), (4, .int (pin a1 0 15)), (5, .int x4), (6, .int x9), (7, .int x21)] []
              refine m_iload C dX4_edit_124 7 rfl ?_
              refine m_iload_n C dX4_edit_126 rfl 2 rfl ?_
              refine m_icmp_ge (tgt := 168) C dX4_edit_127 (by decide) (fun c23 => ?_) (fun c23 => ?_)
              · have h := h.1 c23
                refine m_iconst (v := 0) C dX4_edit_168 (by decide) ?_
                refine m_istore (lv' := [(7, .int 0), (0, .ref (ad 46)), (1, .int a1), (2, .int a2), (3, .int a3), (4, .int (pin a1 0 15)), (5, .int x4), (6, .int x9)]) C dX4_edit_169 (by decide) rfl ?_
                obtain ⟨I171, ⟨n0, h0⟩, hI⟩ := h
                refine mW.sub (lv' := [(0, .ref (ad 46)), (1, .int a1), (2, .int a2), (3, .int a3), (4, .int (pin a1 0 15)), (5, .int x4), (6, .int x9), (7, .int 0)]) [1, 2, 3, 4, 5, 6, 7, 0] rfl ?_
                refine m_ind (σ := Int32 × gV) (fun n z => I171 n z.1 z.2) (fun z => gW cy ad ln z.2 ou) 171 (fun z => [(0, .ref (ad 46)), (1, .int a1), (2, .int a2), (3, .int a3), (4, .int (pin a1 0 15)), (5, .int x4), (6, .int x9), (7, .int z.1)]) ?_ n0 (0, v22) h0
                intro n z hi ih
                obtain ⟨x24, v25⟩ := z
                have h := hI n x24 v25 hi
                show mW _ _ _ _ _ _ _ _ _ _ _ _ _ _ _ _ (gW cy ad ln v25 ou) 171 [(0, .ref (ad 46)), (1, .int a1), (2, .int a2), (3, .int a3), (4, .int (pin a1 0 15)), (5, .int x4), (6, .int x9), (7, .int x24)] []
                refine m_iload C dX4_edit_171 7 rfl ?_
                refine m_aload_n C dX4_edit_173 rfl 0 rfl ?_
                refine m_get (T := TX4) (N := 19) C hiX4_edit_X4 46 gp_46 rfl 4 (by decide) (by decide +kernel) rfl dX4_edit_174 ?_
                refine m_icmp_ge (tgt := 212) C dX4_edit_177 (by decide) (fun c26 => ?_) (fun c26 => ?_)
                · have h := h.1 c26
                  refine m_iload_n C dX4_edit_212 rfl 2 rfl ?_
                  refine m_iload_n C dX4_edit_213 rfl 3 rfl ?_
                  refine m_iadd C dX4_edit_214 ?_
                  refine m_istore (lv' := [(7, .int (a2 + a3)), (0, .ref (ad 46)), (1, .int a1), (2, .int a2), (3, .int a3), (4, .int (pin a1 0 15)), (5, .int x4), (6, .int x9)]) C dX4_edit_215 (by decide) rfl ?_
                  obtain ⟨I217, ⟨n0, h0⟩, hI⟩ := h
                  refine mW.sub (lv' := [(0, .ref (ad 46)), (1, .int a1), (2, .int a2), (3, .int a3), (4, .int (pin a1 0 15)), (5, .int x4), (6, .int x9), (7, .int (a2 + a3))]) [1, 2, 3, 4, 5, 6, 7, 0] rfl ?_
                  refine m_ind (σ := Int32 × gV) (fun n z => I217 n z.1 z.2) (fun z => gW cy ad ln z.2 ou) 217 (fun z => [(0, .ref (ad 46)), (1, .int a1), (2, .int a2), (3, .int a3), (4, .int (pin a1 0 15)), (5, .int x4), (6, .int x9), (7, .int z.1)]) ?_ n0 ((a2 + a3), v25) h0
                  intro n z hi ih
                  obtain ⟨x27, v28⟩ := z
                  have h := hI n x27 v28 hi
                  show mW _ _ _ _ _ _ _ _ _ _ _ _ _ _ _ _ (gW cy ad ln v28 ou) 217 [(0, .ref (ad 46)), (1, .int a1), (2, .int a2), (3, .int a3), (4, .int (pin a1 0 15)), (5, .int x4), (6, .int x9), (7, .int x27)] []
                  refine m_iload C dX4_edit_217 7 rfl ?_
                  refine m_iload C dX4_edit_219 5 rfl ?_
                  refine m_icmp_ge (tgt := 262) C dX4_edit_221 (by decide) (fun c29 => ?_) (fun c29 => ?_)
                  · have h := h.1 c29
                    refine m_aload_n C dX4_edit_262 rfl 0 rfl ?_
                    refine m_callV C (s_X4_give l D cy ad ln v28 ou   h) (cwV 0 C.2.2.2.2.1 gX4_edit_X4_give rfl rfl rfl (by decide +kernel) ⟨Nat.le_of_ble_eq_true rfl, Nat.le_of_ble_eq_true rfl⟩) 46 gp_46 rfl rfl rfl (Nat.le_of_ble_eq_true rfl) dX4_edit_263 ⟨by decide, by decide⟩ (fun r w1 h1 => ?_)
                    obtain ⟨x30, v31, rfl, h, rfl⟩ := h1
                    refine mW.eq (st' := [.int x30]) rfl rfl rfl rfl ?_
                    refine m_istore (lv' := [(7, .int x30), (0, .ref (ad 46)), (1, .int a1), (2, .int a2), (3, .int a3), (4, .int (pin a1 0 15)), (5, .int x4), (6, .int x9)]) C dX4_edit_266 (by decide) rfl ?_
                    refine m_aload_n C dX4_edit_268 rfl 1 rfl ?_
                    refine m_iconst (v := 0) C dX4_edit_269 (by decide) ?_
                    refine m_iconst (v := 0) C dX4_edit_270 (by decide) ?_
                    refine m_iload C dX4_edit_271 0 rfl ?_
                    refine m_join (P := 281) (wM := gW cy ad ln v31 ou) (lvM := [(7, .int x30), (0, .ref (ad 46)), (1, .int a1), (2, .int a2), (3, .int a3), (4, .int (pin a1 0 15)), (5, .int x4), (6, .int x9)]) (stM := [.int (if 0 ≤ x30 then 0 else 1), .int 0, .int 0, .ref (ad 46)]) ?_ (fun hJ281_33 => ?_)
                    · refine m_callV C (p_X4_refuse l D cy ad ln v31 ou 0 0 (if 0 ≤ x30 then 0 else 1)) (cwV 3 C.2.2.2.2.1 gX4_edit_X4_refuse rfl rfl rfl (by decide +kernel) ⟨Nat.le_of_ble_eq_true rfl, Nat.le_of_ble_eq_true rfl⟩) 46 gp_46 rfl rfl rfl (Nat.le_of_ble_eq_true rfl) dX4_edit_281 ⟨by decide, by decide⟩ (fun r w1 h1 => ?_)
                      obtain ⟨v34, ev34⟩ : ∃ z : gV, z = vrf v31 0 0 (if 0 ≤ x30 then 0 else 1) := ⟨_, rfl⟩
                      rw [← ev34] at h1
                      obtain ⟨rfl, rfl⟩ := h1
                      refine mW.eq (st' := [.int (prf 0 0 (if 0 ≤ x30 then 0 else 1))]) rfl rfl rfl rfl ?_
                      have h := h v34 ev34
                      refine m_if_eq (tgt := 289) C dX4_edit_284 (by decide) (fun c35 => ?_) (fun c35 => ?_)
                      · have h := h.1 c35
                        refine m_aload_n C dX4_edit_289 rfl 1 rfl ?_
                        refine m_iload_n C dX4_edit_290 rfl 2 rfl ?_
                        refine m_callV C (s_X4_take l D cy ad ln v34 ou a1  h) (cwV 1 C.2.2.2.2.1 gX4_edit_X4_take rfl rfl rfl (by decide +kernel) ⟨Nat.le_of_ble_eq_true rfl, Nat.le_of_ble_eq_true rfl⟩) 46 gp_46 rfl rfl rfl (Nat.le_of_ble_eq_true rfl) dX4_edit_291 ⟨by decide, by decide⟩ (fun r w1 h1 => ?_)
                        obtain ⟨v37, rfl, h, rfl⟩ := h1
                        refine mW.eq (st' := []) rfl rfl rfl rfl ?_
                        refine m_aload_n C dX4_edit_294 rfl 1 rfl ?_
                        refine m_iconst (v := 0) C dX4_edit_295 (by decide) ?_
                        obtain ⟨v38, ev38⟩ : ∃ z : gV, z = va_up v37 46 (upd (v37 46) 4 0) := ⟨_, rfl⟩
                        have h := h v38 ev38
                        refine m_put (w' := gW cy ad ln v38 ou) (T := TX4) (N := 19) C hiX4_edit_X4 tyX4 tyX4_ok nmX4 46 gp_46 rfl 4 (by decide) (by decide +kernel) rfl rfl rfl (Nat.le_of_ble_eq_true rfl) dX4_edit_296 (by rw [ev38]; exact gW_set (k := 46) (by decide) rfl) ?_
                        refine m_iload C dX4_edit_299 0 rfl ?_
                        exact m_iret C dX4_edit_301 (Nat.le_of_ble_eq_true rfl) (Nat.le_of_ble_eq_true rfl) ⟨_, _, rfl, h, rfl⟩
                      · have h := h.2 c35
                        refine m_iconst (v := 0) C dX4_edit_287 (by decide) ?_
                        exact m_iret C dX4_edit_288 (Nat.le_of_ble_eq_true rfl) (Nat.le_of_ble_eq_true rfl) ⟨_, _, rfl, h, rfl⟩
                    · refine m_if_ge (tgt := 280) C dX4_edit_273 (by decide) (fun c32 => ?_) (fun c32 => ?_)
                      · refine m_iconst (v := 0) C dX4_edit_280 (by decide) ?_
                        refine mW.sub (lv' := [(7, .int x30), (0, .ref (ad 46)), (1, .int a1), (2, .int a2), (3, .int a3), (4, .int (pin a1 0 15)), (5, .int x4), (6, .int x9)]) [0, 1, 2, 3, 4, 5, 6, 7] rfl ?_
                        exact mW.eq rfl rfl (by simp only [if_pos c32]) rfl hJ281_33
                      · refine m_iconst (v := 1) C dX4_edit_276 (by decide) ?_
                        refine m_goto (tgt := 281) C dX4_edit_277 (by decide) ?_
                        refine mW.sub (lv' := [(7, .int x30), (0, .ref (ad 46)), (1, .int a1), (2, .int a2), (3, .int a3), (4, .int (pin a1 0 15)), (5, .int x4), (6, .int x9)]) [0, 1, 2, 3, 4, 5, 6, 7] rfl ?_
                        exact mW.eq rfl rfl (by simp only [if_neg c32]) rfl hJ281_33
                  · have h := h.2 c29
                    refine m_aload_n C dX4_edit_224 rfl 0 rfl ?_
                    refine m_get (T := TX4) (N := 19) C hiX4_edit_X4 46 gp_46 rfl 7 (by decide) (by decide +kernel) rfl dX4_edit_225 ?_
                    refine m_aload_n C dX4_edit_228 rfl 0 rfl ?_
                    refine m_get (T := TX4) (N := 19) C hiX4_edit_X4 46 gp_46 rfl 6 (by decide) (by decide +kernel) rfl dX4_edit_229 ?_
                    refine m_aload_n C dX4_edit_232 rfl 0 rfl ?_
                    refine m_get (T := TX4) (N := 19) C hiX4_edit_X4 46 gp_46 rfl 13 (by decide) (by decide +kernel) rfl dX4_edit_233 ?_
                    refine m_sipush (v := 1500) C dX4_edit_236 (by decide) ?_
                    refine m_iload_n C dX4_edit_239 rfl 1 rfl ?_
                    refine m_imul C dX4_edit_240 ?_
                    refine m_iload C dX4_edit_241 7 rfl ?_
                    refine m_iadd C dX4_edit_243 ?_
                    obtain ⟨b39, h⟩ := h
                    refine m_iald C 53 (gp_I (by decide)) b39 dX4_edit_244 ?_
                    obtain ⟨b40, h⟩ := h
                    obtain ⟨v41, ev41⟩ : ∃ z : gV, z = va_up v28 48 (upd (v28 48) (v28 46 6).toNatClampNeg (v28 53 ((1500 * a1) + x27).toNatClampNeg)) := ⟨_, rfl⟩
                    have h := h v41 ev41
                    refine m_iast (w' := gW cy ad ln v41 ou) C 48 (gp_I (by decide)) b40 dX4_edit_245 (by rw [ev41]; exact gs_I (by decide)) ?_
                    refine m_aload_n C dX4_edit_246 rfl 0 rfl ?_
                    refine m_dup C dX4_edit_247 rfl ?_
                    refine m_get (T := TX4) (N := 19) C hiX4_edit_X4 46 gp_46 rfl 6 (by decide) (by decide +kernel) rfl dX4_edit_248 ?_
                    refine m_iconst (v := 1) C dX4_edit_251 (by decide) ?_
                    refine m_iadd C dX4_edit_252 ?_
                    obtain ⟨v42, ev42⟩ : ∃ z : gV, z = va_up v41 46 (upd (v41 46) 6 ((v41 46 6) + 1)) := ⟨_, rfl⟩
                    have h := h v42 ev42
                    refine m_put (w' := gW cy ad ln v42 ou) (T := TX4) (N := 19) C hiX4_edit_X4 tyX4 tyX4_ok nmX4 46 gp_46 rfl 6 (by decide) (by decide +kernel) rfl rfl rfl (Nat.le_of_ble_eq_true rfl) dX4_edit_253 (by rw [ev42]; exact gW_set (k := 46) (by decide) rfl) ?_
                    refine m_iinc (lv' := [(7, .int (x27 + 1)), (0, .ref (ad 46)), (1, .int a1), (2, .int a2), (3, .int a3), (4, .int (pin a1 0 15)), (5, .int x4), (6, .int x9)]) C dX4_edit_256 (k := 7) rfl rfl (by decide) rfl ?_
                    refine m_goto (tgt := 217) C dX4_edit_259 (by decide) ?_
                    obtain ⟨n43, hn, h⟩ := h
                    exact mW.sub [1, 2, 3, 4, 5, 6, 7, 0] rfl (ih n43 ((x27 + 1), v42) hn h)
                · have h := h.2 c26
                  refine m_aload_n C dX4_edit_180 rfl 0 rfl ?_
                  refine m_get (T := TX4) (N := 19) C hiX4_edit_X4 46 gp_46 rfl 7 (by decide) (by decide +kernel) rfl dX4_edit_181 ?_
                  refine m_aload_n C dX4_edit_184 rfl 0 rfl ?_
                  refine m_get (T := TX4) (N := 19) C hiX4_edit_X4 46 gp_46 rfl 6 (by decide) (by decide +kernel) rfl dX4_edit_185 ?_
                  refine m_aload_n C dX4_edit_188 rfl 0 rfl ?_
                  refine m_get (T := TX4) (N := 19) C hiX4_edit_X4 46 gp_46 rfl 5 (by decide) (by decide +kernel) rfl dX4_edit_189 ?_
                  refine m_iload C dX4_edit_192 7 rfl ?_
                  obtain ⟨b44, h⟩ := h
                  refine m_iald C 47 (gp_I (by decide)) b44 dX4_edit_194 ?_
                  obtain ⟨b45, h⟩ := h
                  obtain ⟨v46, ev46⟩ : ∃ z : gV, z = va_up v25 48 (upd (v25 48) (v25 46 6).toNatClampNeg (v25 47 x24.toNatClampNeg)) := ⟨_, rfl⟩
                  have h := h v46 ev46
                  refine m_iast (w' := gW cy ad ln v46 ou) C 48 (gp_I (by decide)) b45 dX4_edit_195 (by rw [ev46]; exact gs_I (by decide)) ?_
                  refine m_aload_n C dX4_edit_196 rfl 0 rfl ?_
                  refine m_dup C dX4_edit_197 rfl ?_
                  refine m_get (T := TX4) (N := 19) C hiX4_edit_X4 46 gp_46 rfl 6 (by decide) (by decide +kernel) rfl dX4_edit_198 ?_
                  refine m_iconst (v := 1) C dX4_edit_201 (by decide) ?_
                  refine m_iadd C dX4_edit_202 ?_
                  obtain ⟨v47, ev47⟩ : ∃ z : gV, z = va_up v46 46 (upd (v46 46) 6 ((v46 46 6) + 1)) := ⟨_, rfl⟩
                  have h := h v47 ev47
                  refine m_put (w' := gW cy ad ln v47 ou) (T := TX4) (N := 19) C hiX4_edit_X4 tyX4 tyX4_ok nmX4 46 gp_46 rfl 6 (by decide) (by decide +kernel) rfl rfl rfl (Nat.le_of_ble_eq_true rfl) dX4_edit_203 (by rw [ev47]; exact gW_set (k := 46) (by decide) rfl) ?_
                  refine m_iinc (lv' := [(7, .int (x24 + 1)), (0, .ref (ad 46)), (1, .int a1), (2, .int a2), (3, .int a3), (4, .int (pin a1 0 15)), (5, .int x4), (6, .int x9)]) C dX4_edit_206 (k := 7) rfl rfl (by decide) rfl ?_
                  refine m_goto (tgt := 171) C dX4_edit_209 (by decide) ?_
                  obtain ⟨n48, hn, h⟩ := h
                  exact mW.sub [1, 2, 3, 4, 5, 6, 7, 0] rfl (ih n48 ((x24 + 1), v47) hn h)
              · have h := h.2 c23
                refine m_aload_n C dX4_edit_130 rfl 0 rfl ?_
                refine m_get (T := TX4) (N := 19) C hiX4_edit_X4 46 gp_46 rfl 7 (by decide) (by decide +kernel) rfl dX4_edit_131 ?_
                refine m_aload_n C dX4_edit_134 rfl 0 rfl ?_
                refine m_get (T := TX4) (N := 19) C hiX4_edit_X4 46 gp_46 rfl 6 (by decide) (by decide +kernel) rfl dX4_edit_135 ?_
                refine m_aload_n C dX4_edit_138 rfl 0 rfl ?_
                refine m_get (T := TX4) (N := 19) C hiX4_edit_X4 46 gp_46 rfl 13 (by decide) (by decide +kernel) rfl dX4_edit_139 ?_
                refine m_sipush (v := 1500) C dX4_edit_142 (by decide) ?_
                refine m_iload_n C dX4_edit_145 rfl 1 rfl ?_
                refine m_imul C dX4_edit_146 ?_
                refine m_iload C dX4_edit_147 7 rfl ?_
                refine m_iadd C dX4_edit_149 ?_
                obtain ⟨b49, h⟩ := h
                refine m_iald C 53 (gp_I (by decide)) b49 dX4_edit_150 ?_
                obtain ⟨b50, h⟩ := h
                obtain ⟨v51, ev51⟩ : ∃ z : gV, z = va_up v22 48 (upd (v22 48) (v22 46 6).toNatClampNeg (v22 53 ((1500 * a1) + x21).toNatClampNeg)) := ⟨_, rfl⟩
                have h := h v51 ev51
                refine m_iast (w' := gW cy ad ln v51 ou) C 48 (gp_I (by decide)) b50 dX4_edit_151 (by rw [ev51]; exact gs_I (by decide)) ?_
                refine m_aload_n C dX4_edit_152 rfl 0 rfl ?_
                refine m_dup C dX4_edit_153 rfl ?_
                refine m_get (T := TX4) (N := 19) C hiX4_edit_X4 46 gp_46 rfl 6 (by decide) (by decide +kernel) rfl dX4_edit_154 ?_
                refine m_iconst (v := 1) C dX4_edit_157 (by decide) ?_
                refine m_iadd C dX4_edit_158 ?_
                obtain ⟨v52, ev52⟩ : ∃ z : gV, z = va_up v51 46 (upd (v51 46) 6 ((v51 46 6) + 1)) := ⟨_, rfl⟩
                have h := h v52 ev52
                refine m_put (w' := gW cy ad ln v52 ou) (T := TX4) (N := 19) C hiX4_edit_X4 tyX4 tyX4_ok nmX4 46 gp_46 rfl 6 (by decide) (by decide +kernel) rfl rfl rfl (Nat.le_of_ble_eq_true rfl) dX4_edit_159 (by rw [ev52]; exact gW_set (k := 46) (by decide) rfl) ?_
                refine m_iinc (lv' := [(7, .int (x21 + 1)), (0, .ref (ad 46)), (1, .int a1), (2, .int a2), (3, .int a3), (4, .int (pin a1 0 15)), (5, .int x4), (6, .int x9)]) C dX4_edit_162 (k := 7) rfl rfl (by decide) rfl ?_
                refine m_goto (tgt := 124) C dX4_edit_165 (by decide) ?_
                obtain ⟨n53, hn, h⟩ := h
                exact mW.sub [1, 2, 3, 4, 5, 6, 7, 0] rfl (ih n53 ((x21 + 1), v52) hn h)
            · have h := h.2 c19
              refine m_iconst (v := 0) C dX4_edit_114 (by decide) ?_
              exact m_iret C dX4_edit_115 (Nat.le_of_ble_eq_true rfl) (Nat.le_of_ble_eq_true rfl) ⟨_, _, rfl, h, rfl⟩
          · refine m_if_eq (tgt := 107) C dX4_edit_85 (by decide) (fun c15 => ?_) (fun c15 => ?_)
            · refine m_iconst (v := 0) C dX4_edit_107 (by decide) ?_
              refine mW.sub (lv' := [(6, .int x9), (5, .int x4), (4, .int (pin a1 0 15)), (0, .ref (ad 46)), (1, .int a1), (2, .int a2), (3, .int a3)]) [0, 1, 2, 3, 4, 5, 6] rfl ?_
              exact mW.eq rfl rfl (by simp only [if_pos c15]) rfl hJ108_17
            · refine m_iload C dX4_edit_88 1 rfl ?_
              refine m_iload_n C dX4_edit_90 rfl 6 rfl ?_
              refine m_isub C dX4_edit_91 ?_
              refine m_aload_n C dX4_edit_92 rfl 3 rfl ?_
              refine m_get (T := TX4) (N := 19) C hiX4_edit_X4 46 gp_46 rfl 4 (by decide) (by decide +kernel) rfl dX4_edit_93 ?_
              refine m_iadd C dX4_edit_96 ?_
              refine m_sipush (v := 1500) C dX4_edit_97 (by decide) ?_
              refine m_icmp_le (tgt := 107) C dX4_edit_100 (by decide) (fun c16 => ?_) (fun c16 => ?_)
              · refine m_iconst (v := 0) C dX4_edit_107 (by decide) ?_
                refine mW.sub (lv' := [(6, .int x9), (5, .int x4), (4, .int (pin a1 0 15)), (0, .ref (ad 46)), (1, .int a1), (2, .int a2), (3, .int a3)]) [0, 1, 2, 3, 4, 5, 6] rfl ?_
                exact mW.eq rfl rfl (by simp only [if_neg c15, if_pos c16]) rfl hJ108_17
              · refine m_iconst (v := 1) C dX4_edit_103 (by decide) ?_
                refine m_goto (tgt := 108) C dX4_edit_104 (by decide) ?_
                refine mW.sub (lv' := [(6, .int x9), (5, .int x4), (4, .int (pin a1 0 15)), (0, .ref (ad 46)), (1, .int a1), (2, .int a2), (3, .int a3)]) [0, 1, 2, 3, 4, 5, 6] rfl ?_
                exact mW.eq rfl rfl (by simp only [if_neg c15, if_neg c16]) rfl hJ108_17
        · refine m_if_eq (tgt := 82) C dX4_edit_70 (by decide) (fun c12 => ?_) (fun c12 => ?_)
          · refine m_iconst (v := 0) C dX4_edit_82 (by decide) ?_
            refine mW.sub (lv' := [(6, .int x9), (5, .int x4), (4, .int (pin a1 0 15)), (0, .ref (ad 46)), (1, .int a1), (2, .int a2), (3, .int a3)]) [0, 1, 2, 3, 4, 5, 6] rfl ?_
            exact mW.eq rfl rfl (by simp only [if_pos c12]) rfl hJ83_14
          · refine m_iload C dX4_edit_73 0 rfl ?_
            refine m_if_ne (tgt := 82) C dX4_edit_75 (by decide) (fun c13 => ?_) (fun c13 => ?_)
            · refine m_iconst (v := 0) C dX4_edit_82 (by decide) ?_
              refine mW.sub (lv' := [(6, .int x9), (5, .int x4), (4, .int (pin a1 0 15)), (0, .ref (ad 46)), (1, .int a1), (2, .int a2), (3, .int a3)]) [0, 1, 2, 3, 4, 5, 6] rfl ?_
              exact mW.eq rfl rfl (by simp only [if_neg c12, if_neg c13]) rfl hJ83_14
            · refine m_iconst (v := 1) C dX4_edit_78 (by decide) ?_
              refine m_goto (tgt := 83) C dX4_edit_79 (by decide) ?_
              refine mW.sub (lv' := [(6, .int x9), (5, .int x4), (4, .int (pin a1 0 15)), (0, .ref (ad 46)), (1, .int a1), (2, .int a2), (3, .int a3)]) [0, 1, 2, 3, 4, 5, 6] rfl ?_
              exact mW.eq rfl rfl (by simp only [if_neg c12, if_pos c13]) rfl hJ83_14
      · refine m_if_ne (tgt := 67) C dX4_edit_60 (by decide) (fun c10 => ?_) (fun c10 => ?_)
        · refine m_iconst (v := 0) C dX4_edit_67 (by decide) ?_
          refine mW.sub (lv' := [(6, .int x9), (5, .int x4), (4, .int (pin a1 0 15)), (0, .ref (ad 46)), (1, .int a1), (2, .int a2), (3, .int a3)]) [0, 1, 2, 3, 4, 5, 6] rfl ?_
          exact mW.eq rfl rfl (by simp only [if_neg c10]) rfl hJ68_11
        · refine m_iconst (v := 1) C dX4_edit_63 (by decide) ?_
          refine m_goto (tgt := 68) C dX4_edit_64 (by decide) ?_
          refine mW.sub (lv' := [(6, .int x9), (5, .int x4), (4, .int (pin a1 0 15)), (0, .ref (ad 46)), (1, .int a1), (2, .int a2), (3, .int a3)]) [0, 1, 2, 3, 4, 5, 6] rfl ?_
          exact mW.eq rfl rfl (by simp only [if_pos c10]) rfl hJ68_11
    · refine m_if_eq (tgt := 54) C dX4_edit_25 (by decide) (fun c5 => ?_) (fun c5 => ?_)
      · refine m_iconst (v := 0) C dX4_edit_54 (by decide) ?_
        refine mW.sub (lv' := [(5, .int x4), (4, .int (pin a1 0 15)), (0, .ref (ad 46)), (1, .int a1), (2, .int a2), (3, .int a3)]) [0, 1, 2, 3, 4, 5] rfl ?_
        exact mW.eq rfl rfl (by simp only [if_pos c5]) rfl hJ55_8
      · refine m_iload_n C dX4_edit_28 rfl 4 rfl ?_
        refine m_iconst (v := 0) C dX4_edit_29 (by decide) ?_
        refine m_iload C dX4_edit_30 0 rfl ?_
        refine m_callS C (p_X4_in l D cy ad ln v ou a2 0 x4) (va_cwS 3 C.2.2.2.2.1 gX4_edit_X4_in rfl rfl rfl (by decide +kernel) ⟨Nat.le_of_ble_eq_true rfl, Nat.le_of_ble_eq_true rfl⟩) rfl rfl (Nat.le_of_ble_eq_true rfl) dX4_edit_32 ⟨by decide, by decide⟩ (fun r w1 h1 => ?_)
        obtain ⟨rfl, rfl⟩ := h1
        refine mW.eq (st' := [.int (pin a2 0 x4)]) rfl rfl rfl rfl ?_
        refine m_if_eq (tgt := 54) C dX4_edit_35 (by decide) (fun c6 => ?_) (fun c6 => ?_)
        · refine m_iconst (v := 0) C dX4_edit_54 (by decide) ?_
          refine mW.sub (lv' := [(5, .int x4), (4, .int (pin a1 0 15)), (0, .ref (ad 46)), (1, .int a1), (2, .int a2), (3, .int a3)]) [0, 1, 2, 3, 4, 5] rfl ?_
          exact mW.eq rfl rfl (by simp only [if_neg c5, if_pos c6]) rfl hJ55_8
        · refine m_iload_n C dX4_edit_38 rfl 5 rfl ?_
          refine m_iconst (v := 0) C dX4_edit_39 (by decide) ?_
          refine m_iload C dX4_edit_40 0 rfl ?_
          refine m_iload_n C dX4_edit_42 rfl 4 rfl ?_
          refine m_isub C dX4_edit_43 ?_
          refine m_callS C (p_X4_in l D cy ad ln v ou a3 0 (x4 - a2)) (va_cwS 3 C.2.2.2.2.1 gX4_edit_X4_in rfl rfl rfl (by decide +kernel) ⟨Nat.le_of_ble_eq_true rfl, Nat.le_of_ble_eq_true rfl⟩) rfl rfl (Nat.le_of_ble_eq_true rfl) dX4_edit_44 ⟨by decide, by decide⟩ (fun r w1 h1 => ?_)
          obtain ⟨rfl, rfl⟩ := h1
          refine mW.eq (st' := [.int (pin a3 0 (x4 - a2))]) rfl rfl rfl rfl ?_
          refine m_if_eq (tgt := 54) C dX4_edit_47 (by decide) (fun c7 => ?_) (fun c7 => ?_)
          · refine m_iconst (v := 0) C dX4_edit_54 (by decide) ?_
            refine mW.sub (lv' := [(5, .int x4), (4, .int (pin a1 0 15)), (0, .ref (ad 46)), (1, .int a1), (2, .int a2), (3, .int a3)]) [0, 1, 2, 3, 4, 5] rfl ?_
            exact mW.eq rfl rfl (by simp only [if_neg c5, if_neg c6, if_pos c7]) rfl hJ55_8
          · refine m_iconst (v := 1) C dX4_edit_50 (by decide) ?_
            refine m_goto (tgt := 55) C dX4_edit_51 (by decide) ?_
            refine mW.sub (lv' := [(5, .int x4), (4, .int (pin a1 0 15)), (0, .ref (ad 46)), (1, .int a1), (2, .int a2), (3, .int a3)]) [0, 1, 2, 3, 4, 5] rfl ?_
            exact mW.eq rfl rfl (by simp only [if_neg c5, if_neg c6, if_neg c7]) rfl hJ55_8
  · refine m_if_eq (tgt := 20) C dX4_edit_8 (by decide) (fun c1 => ?_) (fun c1 => ?_)
    · refine m_iconst (v := 0) C dX4_edit_20 (by decide) ?_
      refine mW.sub (lv' := [(4, .int (pin a1 0 15)), (0, .ref (ad 46)), (1, .int a1), (2, .int a2), (3, .int a3)]) [0, 1, 2, 3, 4] rfl ?_
      exact mW.eq rfl rfl (by simp only [if_pos c1]) rfl hJ21_3
    · refine m_aload_n C dX4_edit_11 rfl 1 rfl ?_
      refine m_get (T := TX4) (N := 19) C hiX4_edit_X4 46 gp_46 rfl 12 (by decide) (by decide +kernel) rfl dX4_edit_12 ?_
      refine m_iload_n C dX4_edit_15 rfl 2 rfl ?_
      refine m_iald C 52 (gp_I (by decide)) (b2 c1) dX4_edit_16 ?_
      refine m_goto (tgt := 21) C dX4_edit_17 (by decide) ?_
      refine mW.sub (lv' := [(4, .int (pin a1 0 15)), (0, .ref (ad 46)), (1, .int a1), (2, .int a2), (3, .int a3)]) [0, 1, 2, 3, 4] rfl ?_
      exact mW.eq rfl rfl (by simp only [if_neg c1]) rfl hJ21_3
theorem hiX4_copy_X4 : ∀ w ∈ wsX40, w ∈ wsX4_copy := by decide +kernel
def wp_X4_copy (ln : Nat → Nat) (v : gV) (a1 : Int32) (a2 : Int32) (post : gV → Prop) : Prop :=
  (∀ v4 : gV, v4 = vrf v (if (pin a1 0 15) = 0 then 1 else if (pin a2 0 15) = 0 then 1 else 0) 0 0 → ((((prf (if (pin a1 0 15) = 0 then 1 else if (pin a2 0 15) = 0 then 1 else 0) 0 0) = 0) → (((a1 = a2) → (post v4)) ∧ (¬ (a1 = a2) → (vp_in a1 (ln 52) ∧ (∀ v8 : gV, v8 = va_up v4 46 (upd (v4 46) 6 (v4 52 a1.toNatClampNeg)) → (vp_in a1 (ln 54) ∧ (∀ v10 : gV, v10 = va_up v8 46 (upd (v8 46) 8 (v8 54 a1.toNatClampNeg)) → (∃ I56 : Nat → Int32 → gV → Prop, (∃ n, I56 n 0 v10) ∧ ∀ (n : Nat) (x11 : Int32) (v12 : gV), I56 n x11 v12 → ((((v12 46 6) ≤ x11) → (∃ I90 : Nat → Int32 → gV → Prop, (∃ n, I90 n 0 v12) ∧ ∀ (n : Nat) (x14 : Int32) (v15 : gV), I90 n x14 v15 → ((((v15 46 8) ≤ x14) → (wp_X4_take ln v15 a2 (fun (v18 : gV) => (post v18)))) ∧ (¬ ((v15 46 8) ≤ x14) → (vp_in ((1500 * a1) + x14) (ln 55) ∧ (vp_in x14 (ln 50) ∧ ∀ v21 : gV, v21 = va_up v15 50 (upd (v15 50) x14.toNatClampNeg (v15 55 ((1500 * a1) + x14).toNatClampNeg)) → (∃ n', n' < n ∧ I90 n' (x14 + 1) v21))))))) ∧ (¬ ((v12 46 6) ≤ x11) → (vp_in ((1500 * a1) + x11) (ln 53) ∧ (vp_in x11 (ln 48) ∧ ∀ v25 : gV, v25 = va_up v12 48 (upd (v12 48) x11.toNatClampNeg (v12 53 ((1500 * a1) + x11).toNatClampNeg)) → (∃ n', n' < n ∧ I56 n' (x11 + 1) v25))))))))))))) ∧ (¬ ((prf (if (pin a1 0 15) = 0 then 1 else if (pin a2 0 15) = 0 then 1 else 0) 0 0) = 0) → (post v4))))
set_option maxHeartbeats 4000000 in
set_option maxRecDepth 100000 in
theorem s_X4_copy (l : Launch) (D : va_G) (cy : Nat → ClassId) (ad ln : Nat → Nat) (v : gV) (ou : Nat → Int64) (a1 : Int32) (a2 : Int32) {post : gV → Prop} (h : wp_X4_copy ln v a1 a2 post) : mM l D cy yX4_copy wsX4_copy 3 0 0 [.ref (ad 46), .int a1, .int a2] (gW cy ad ln v ou) (fun r w1 => ∃ v1 : gV, r = none ∧ post v1 ∧ w1 = gW cy ad ln v1 ou) := by
  unfold wp_X4_copy at h
  refine mM.of (cc := cX4_copy) (nL := 4) (ret0 := none) (by decide +kernel) rfl (Nat.le_of_ble_eq_true rfl) ?_
  intro p e s m args below meth c A C hini
  refine mW.sub (lv' := [(0, .ref (ad 46)), (1, .int a1), (2, .int a2)]) [0, 1, 2] rfl ?_
  refine m_aload_n C dX4_copy_0 rfl 0 rfl ?_
  refine m_iload_n C dX4_copy_1 rfl 1 rfl ?_
  refine m_callS C (p_X4_isFile l D cy ad ln v ou a1) (va_cwS 1 C.2.2.2.2.1 gX4_copy_X4_isFile rfl rfl rfl (by decide +kernel) ⟨Nat.le_of_ble_eq_true rfl, Nat.le_of_ble_eq_true rfl⟩) rfl rfl (Nat.le_of_ble_eq_true rfl) dX4_copy_2 ⟨by decide, by decide⟩ (fun r w1 h1 => ?_)
  obtain ⟨rfl, rfl⟩ := h1
  refine mW.eq (st' := [.int (pin a1 0 15), .ref (ad 46)]) rfl rfl rfl rfl ?_
  refine m_join (P := 20) (wM := gW cy ad ln v ou) (lvM := [(0, .ref (ad 46)), (1, .int a1), (2, .int a2)]) (stM := [.int (if (pin a1 0 15) = 0 then 1 else if (pin a2 0 15) = 0 then 1 else 0), .ref (ad 46)]) ?_ (fun hJ20_3 => ?_)
  · refine m_iconst (v := 0) C dX4_copy_20 (by decide) ?_
    refine m_iconst (v := 0) C dX4_copy_21 (by decide) ?_
    refine m_callV C (p_X4_refuse l D cy ad ln v ou (if (pin a1 0 15) = 0 then 1 else if (pin a2 0 15) = 0 then 1 else 0) 0 0) (cwV 3 C.2.2.2.2.1 gX4_copy_X4_refuse rfl rfl rfl (by decide +kernel) ⟨Nat.le_of_ble_eq_true rfl, Nat.le_of_ble_eq_true rfl⟩) 46 gp_46 rfl rfl rfl (Nat.le_of_ble_eq_true rfl) dX4_copy_22 ⟨by decide, by decide⟩ (fun r w1 h1 => ?_)
    obtain ⟨v4, ev4⟩ : ∃ z : gV, z = vrf v (if (pin a1 0 15) = 0 then 1 else if (pin a2 0 15) = 0 then 1 else 0) 0 0 := ⟨_, rfl⟩
    rw [← ev4] at h1
    obtain ⟨rfl, rfl⟩ := h1
    refine mW.eq (st' := [.int (prf (if (pin a1 0 15) = 0 then 1 else if (pin a2 0 15) = 0 then 1 else 0) 0 0)]) rfl rfl rfl rfl ?_
    have h := h v4 ev4
    refine m_if_ne (tgt := 33) C dX4_copy_25 (by decide) (fun c5 => ?_) (fun c5 => ?_)
    · have h := h.2 c5
      exact m_vret C dX4_copy_33 (Nat.le_of_ble_eq_true rfl) (Nat.le_of_ble_eq_true rfl) ⟨_, rfl, h, rfl⟩
    · have h := h.1 c5
      refine m_iload_n C dX4_copy_28 rfl 1 rfl ?_
      refine m_iload_n C dX4_copy_29 rfl 2 rfl ?_
      refine m_icmp_ne (tgt := 34) C dX4_copy_30 (by decide) (fun c6 => ?_) (fun c6 => ?_)
      · have h := h.2 c6
        refine m_aload_n C dX4_copy_34 rfl 0 rfl ?_
        refine m_aload_n C dX4_copy_35 rfl 0 rfl ?_
        refine m_get (T := TX4) (N := 19) C hiX4_copy_X4 46 gp_46 rfl 12 (by decide) (by decide +kernel) rfl dX4_copy_36 ?_
        refine m_iload_n C dX4_copy_39 rfl 1 rfl ?_
        obtain ⟨b7, h⟩ := h
        refine m_iald C 52 (gp_I (by decide)) b7 dX4_copy_40 ?_
        obtain ⟨v8, ev8⟩ : ∃ z : gV, z = va_up v4 46 (upd (v4 46) 6 (v4 52 a1.toNatClampNeg)) := ⟨_, rfl⟩
        have h := h v8 ev8
        refine m_put (w' := gW cy ad ln v8 ou) (T := TX4) (N := 19) C hiX4_copy_X4 tyX4 tyX4_ok nmX4 46 gp_46 rfl 6 (by decide) (by decide +kernel) rfl rfl rfl (Nat.le_of_ble_eq_true rfl) dX4_copy_41 (by rw [ev8]; exact gW_set (k := 46) (by decide) rfl) ?_
        refine m_aload_n C dX4_copy_44 rfl 0 rfl ?_
        refine m_aload_n C dX4_copy_45 rfl 0 rfl ?_
        refine m_get (T := TX4) (N := 19) C hiX4_copy_X4 46 gp_46 rfl 14 (by decide) (by decide +kernel) rfl dX4_copy_46 ?_
        refine m_iload_n C dX4_copy_49 rfl 1 rfl ?_
        obtain ⟨b9, h⟩ := h
        refine m_iald C 54 (gp_I (by decide)) b9 dX4_copy_50 ?_
        obtain ⟨v10, ev10⟩ : ∃ z : gV, z = va_up v8 46 (upd (v8 46) 8 (v8 54 a1.toNatClampNeg)) := ⟨_, rfl⟩
        have h := h v10 ev10
        refine m_put (w' := gW cy ad ln v10 ou) (T := TX4) (N := 19) C hiX4_copy_X4 tyX4 tyX4_ok nmX4 46 gp_46 rfl 8 (by decide) (by decide +kernel) rfl rfl rfl (Nat.le_of_ble_eq_true rfl) dX4_copy_51 (by rw [ev10]; exact gW_set (k := 46) (by decide) rfl) ?_
        refine m_iconst (v := 0) C dX4_copy_54 (by decide) ?_
        refine m_istore_n (lv' := [(3, .int 0), (0, .ref (ad 46)), (1, .int a1), (2, .int a2)]) C dX4_copy_55 rfl (by decide) rfl ?_
        obtain ⟨I56, ⟨n0, h0⟩, hI⟩ := h
        refine mW.sub (lv' := [(0, .ref (ad 46)), (1, .int a1), (2, .int a2), (3, .int 0)]) [1, 2, 3, 0] rfl ?_
        refine m_ind (σ := Int32 × gV) (fun n z => I56 n z.1 z.2) (fun z => gW cy ad ln z.2 ou) 56 (fun z => [(0, .ref (ad 46)), (1, .int a1), (2, .int a2), (3, .int z.1)]) ?_ n0 (0, v10) h0
        intro n z hi ih
        obtain ⟨x11, v12⟩ := z
        have h := hI n x11 v12 hi
        show mW _ _ _ _ _ _ _ _ _ _ _ _ _ _ _ _ (gW cy ad ln v12 ou) 56 [(0, .ref (ad 46)), (1, .int a1), (2, .int a2), (3, .int x11)] []
        refine m_iload_n C dX4_copy_56 rfl 3 rfl ?_
        refine m_aload_n C dX4_copy_57 rfl 0 rfl ?_
        refine m_get (T := TX4) (N := 19) C hiX4_copy_X4 46 gp_46 rfl 6 (by decide) (by decide +kernel) rfl dX4_copy_58 ?_
        refine m_icmp_ge (tgt := 88) C dX4_copy_61 (by decide) (fun c13 => ?_) (fun c13 => ?_)
        · have h := h.1 c13
          refine m_iconst (v := 0) C dX4_copy_88 (by decide) ?_
          refine m_istore_n (lv' := [(3, .int 0), (0, .ref (ad 46)), (1, .int a1), (2, .int a2)]) C dX4_copy_89 rfl (by decide) rfl ?_
          obtain ⟨I90, ⟨n0, h0⟩, hI⟩ := h
          refine mW.sub (lv' := [(0, .ref (ad 46)), (1, .int a1), (2, .int a2), (3, .int 0)]) [1, 2, 3, 0] rfl ?_
          refine m_ind (σ := Int32 × gV) (fun n z => I90 n z.1 z.2) (fun z => gW cy ad ln z.2 ou) 90 (fun z => [(0, .ref (ad 46)), (1, .int a1), (2, .int a2), (3, .int z.1)]) ?_ n0 (0, v12) h0
          intro n z hi ih
          obtain ⟨x14, v15⟩ := z
          have h := hI n x14 v15 hi
          show mW _ _ _ _ _ _ _ _ _ _ _ _ _ _ _ _ (gW cy ad ln v15 ou) 90 [(0, .ref (ad 46)), (1, .int a1), (2, .int a2), (3, .int x14)] []
          refine m_iload_n C dX4_copy_90 rfl 3 rfl ?_
          refine m_aload_n C dX4_copy_91 rfl 0 rfl ?_
          refine m_get (T := TX4) (N := 19) C hiX4_copy_X4 46 gp_46 rfl 8 (by decide) (by decide +kernel) rfl dX4_copy_92 ?_
          refine m_icmp_ge (tgt := 122) C dX4_copy_95 (by decide) (fun c16 => ?_) (fun c16 => ?_)
          · have h := h.1 c16
            refine m_aload_n C dX4_copy_122 rfl 0 rfl ?_
            refine m_iload_n C dX4_copy_123 rfl 2 rfl ?_
            refine m_callV C (s_X4_take l D cy ad ln v15 ou a2  h) (cwV 1 C.2.2.2.2.1 gX4_copy_X4_take rfl rfl rfl (by decide +kernel) ⟨Nat.le_of_ble_eq_true rfl, Nat.le_of_ble_eq_true rfl⟩) 46 gp_46 rfl rfl rfl (Nat.le_of_ble_eq_true rfl) dX4_copy_124 ⟨by decide, by decide⟩ (fun r w1 h1 => ?_)
            obtain ⟨v18, rfl, h, rfl⟩ := h1
            refine mW.eq (st' := []) rfl rfl rfl rfl ?_
            exact m_vret C dX4_copy_127 (Nat.le_of_ble_eq_true rfl) (Nat.le_of_ble_eq_true rfl) ⟨_, rfl, h, rfl⟩
          · have h := h.2 c16
            refine m_aload_n C dX4_copy_98 rfl 0 rfl ?_
            refine m_get (T := TX4) (N := 19) C hiX4_copy_X4 46 gp_46 rfl 10 (by decide) (by decide +kernel) rfl dX4_copy_99 ?_
            refine m_iload_n C dX4_copy_102 rfl 3 rfl ?_
            refine m_aload_n C dX4_copy_103 rfl 0 rfl ?_
            refine m_get (T := TX4) (N := 19) C hiX4_copy_X4 46 gp_46 rfl 15 (by decide) (by decide +kernel) rfl dX4_copy_104 ?_
            refine m_sipush (v := 1500) C dX4_copy_107 (by decide) ?_
            refine m_iload_n C dX4_copy_110 rfl 1 rfl ?_
            refine m_imul C dX4_copy_111 ?_
            refine m_iload_n C dX4_copy_112 rfl 3 rfl ?_
            refine m_iadd C dX4_copy_113 ?_
            obtain ⟨b19, h⟩ := h
            refine m_iald C 55 (gp_I (by decide)) b19 dX4_copy_114 ?_
            obtain ⟨b20, h⟩ := h
            obtain ⟨v21, ev21⟩ : ∃ z : gV, z = va_up v15 50 (upd (v15 50) x14.toNatClampNeg (v15 55 ((1500 * a1) + x14).toNatClampNeg)) := ⟨_, rfl⟩
            have h := h v21 ev21
            refine m_iast (w' := gW cy ad ln v21 ou) C 50 (gp_I (by decide)) b20 dX4_copy_115 (by rw [ev21]; exact gs_I (by decide)) ?_
            refine m_iinc (lv' := [(3, .int (x14 + 1)), (0, .ref (ad 46)), (1, .int a1), (2, .int a2)]) C dX4_copy_116 (k := 3) rfl rfl (by decide) rfl ?_
            refine m_goto (tgt := 90) C dX4_copy_119 (by decide) ?_
            obtain ⟨n22, hn, h⟩ := h
            exact mW.sub [1, 2, 3, 0] rfl (ih n22 ((x14 + 1), v21) hn h)
        · have h := h.2 c13
          refine m_aload_n C dX4_copy_64 rfl 0 rfl ?_
          refine m_get (T := TX4) (N := 19) C hiX4_copy_X4 46 gp_46 rfl 7 (by decide) (by decide +kernel) rfl dX4_copy_65 ?_
          refine m_iload_n C dX4_copy_68 rfl 3 rfl ?_
          refine m_aload_n C dX4_copy_69 rfl 0 rfl ?_
          refine m_get (T := TX4) (N := 19) C hiX4_copy_X4 46 gp_46 rfl 13 (by decide) (by decide +kernel) rfl dX4_copy_70 ?_
          refine m_sipush (v := 1500) C dX4_copy_73 (by decide) ?_
          refine m_iload_n C dX4_copy_76 rfl 1 rfl ?_
          refine m_imul C dX4_copy_77 ?_
          refine m_iload_n C dX4_copy_78 rfl 3 rfl ?_
          refine m_iadd C dX4_copy_79 ?_
          obtain ⟨b23, h⟩ := h
          refine m_iald C 53 (gp_I (by decide)) b23 dX4_copy_80 ?_
          obtain ⟨b24, h⟩ := h
          obtain ⟨v25, ev25⟩ : ∃ z : gV, z = va_up v12 48 (upd (v12 48) x11.toNatClampNeg (v12 53 ((1500 * a1) + x11).toNatClampNeg)) := ⟨_, rfl⟩
          have h := h v25 ev25
          refine m_iast (w' := gW cy ad ln v25 ou) C 48 (gp_I (by decide)) b24 dX4_copy_81 (by rw [ev25]; exact gs_I (by decide)) ?_
          refine m_iinc (lv' := [(3, .int (x11 + 1)), (0, .ref (ad 46)), (1, .int a1), (2, .int a2)]) C dX4_copy_82 (k := 3) rfl rfl (by decide) rfl ?_
          refine m_goto (tgt := 56) C dX4_copy_85 (by decide) ?_
          obtain ⟨n26, hn, h⟩ := h
          exact mW.sub [1, 2, 3, 0] rfl (ih n26 ((x11 + 1), v25) hn h)
      · have h := h.1 c6
        exact m_vret C dX4_copy_33 (Nat.le_of_ble_eq_true rfl) (Nat.le_of_ble_eq_true rfl) ⟨_, rfl, h, rfl⟩
  · refine m_if_eq (tgt := 15) C dX4_copy_5 (by decide) (fun c1 => ?_) (fun c1 => ?_)
    · refine m_iconst (v := 1) C dX4_copy_15 (by decide) ?_
      refine m_goto (tgt := 20) C dX4_copy_16 (by decide) ?_
      refine mW.sub (lv' := [(0, .ref (ad 46)), (1, .int a1), (2, .int a2)]) [0, 1, 2] rfl ?_
      exact mW.eq rfl rfl (by simp only [if_pos c1]) rfl hJ20_3
    · refine m_iload_n C dX4_copy_8 rfl 2 rfl ?_
      refine m_callS C (p_X4_isFile l D cy ad ln v ou a2) (va_cwS 1 C.2.2.2.2.1 gX4_copy_X4_isFile rfl rfl rfl (by decide +kernel) ⟨Nat.le_of_ble_eq_true rfl, Nat.le_of_ble_eq_true rfl⟩) rfl rfl (Nat.le_of_ble_eq_true rfl) dX4_copy_9 ⟨by decide, by decide⟩ (fun r w1 h1 => ?_)
      obtain ⟨rfl, rfl⟩ := h1
      refine mW.eq (st' := [.int (pin a2 0 15), .ref (ad 46)]) rfl rfl rfl rfl ?_
      refine m_if_ne (tgt := 19) C dX4_copy_12 (by decide) (fun c2 => ?_) (fun c2 => ?_)
      · refine m_iconst (v := 0) C dX4_copy_19 (by decide) ?_
        refine mW.sub (lv' := [(0, .ref (ad 46)), (1, .int a1), (2, .int a2)]) [0, 1, 2] rfl ?_
        exact mW.eq rfl rfl (by simp only [if_neg c1, if_neg c2]) rfl hJ20_3
      · refine m_iconst (v := 1) C dX4_copy_15 (by decide) ?_
        refine m_goto (tgt := 20) C dX4_copy_16 (by decide) ?_
        refine mW.sub (lv' := [(0, .ref (ad 46)), (1, .int a1), (2, .int a2)]) [0, 1, 2] rfl ?_
        exact mW.eq rfl rfl (by simp only [if_neg c1, if_pos c2]) rfl hJ20_3
end
section
theorem hiX3_giveBack_X3 : ∀ w ∈ wsX30, w ∈ wsX3_giveBack := by decide +kernel
def wp_X3_giveBack (ln : Nat → Nat) (v : gV) (r1 : Nat) (a2 : Int32) (post : gV → Prop) : Prop :=
  ∃ I2 : Nat → Int32 → gV → Prop, (∃ n, I2 n 0 v) ∧ ∀ (n : Nat) (x1 : Int32) (v2 : gV), I2 n x1 v2 → (((a2 ≤ x1) → (post v2)) ∧ (¬ (a2 ≤ x1) → (vp_in x1 (ln r1) ∧ (wp_X2_giveBack ln v2 (v2 r1 x1.toNatClampNeg) (fun (v6 : gV) => (∃ n', n' < n ∧ I2 n' (x1 + 1) v6))))))
set_option maxHeartbeats 4000000 in
set_option maxRecDepth 100000 in
theorem s_X3_giveBack (l : Launch) (D : va_G) (cy : Nat → ClassId) (ad ln : Nat → Nat) (v : gV) (ou : Nat → Int64) (r1 : Nat) (a2 : Int32) (hr1 : gIs r1 = true) {post : gV → Prop} (h : wp_X3_giveBack ln v r1 a2 post) : mM l D cy yX3_giveBack wsX3_giveBack 4 0 0 [.ref (ad 0), .ref (ad r1), .int a2] (gW cy ad ln v ou) (fun r w1 => ∃ v1 : gV, r = none ∧ post v1 ∧ w1 = gW cy ad ln v1 ou) := by
  unfold wp_X3_giveBack at h
  refine mM.of (cc := cX3_giveBack) (nL := 4) (ret0 := none) (by decide +kernel) rfl (Nat.le_of_ble_eq_true rfl) ?_
  intro p e s m args below meth c A C hini
  refine mW.sub (lv' := [(0, .ref (ad 0)), (1, .ref (ad r1)), (2, .int a2)]) [0, 1, 2] rfl ?_
  refine m_iconst (v := 0) C dX3_giveBack_0 (by decide) ?_
  refine m_istore_n (lv' := [(3, .int 0), (0, .ref (ad 0)), (1, .ref (ad r1)), (2, .int a2)]) C dX3_giveBack_1 rfl (by decide) rfl ?_
  obtain ⟨I2, ⟨n0, h0⟩, hI⟩ := h
  refine mW.sub (lv' := [(0, .ref (ad 0)), (1, .ref (ad r1)), (2, .int a2), (3, .int 0)]) [1, 2, 3, 0] rfl ?_
  refine m_ind (σ := Int32 × gV) (fun n z => I2 n z.1 z.2) (fun z => gW cy ad ln z.2 ou) 2 (fun z => [(0, .ref (ad 0)), (1, .ref (ad r1)), (2, .int a2), (3, .int z.1)]) ?_ n0 (0, v) h0
  intro n z hi ih
  obtain ⟨x1, v2⟩ := z
  have h := hI n x1 v2 hi
  show mW _ _ _ _ _ _ _ _ _ _ _ _ _ _ _ _ (gW cy ad ln v2 ou) 2 [(0, .ref (ad 0)), (1, .ref (ad r1)), (2, .int a2), (3, .int x1)] []
  refine m_iload_n C dX3_giveBack_2 rfl 3 rfl ?_
  refine m_iload_n C dX3_giveBack_3 rfl 2 rfl ?_
  refine m_icmp_ge (tgt := 23) C dX3_giveBack_4 (by decide) (fun c3 => ?_) (fun c3 => ?_)
  · have h := h.1 c3
    exact m_vret C dX3_giveBack_23 (Nat.le_of_ble_eq_true rfl) (Nat.le_of_ble_eq_true rfl) ⟨_, rfl, h, rfl⟩
  · have h := h.2 c3
    refine m_aload_n C dX3_giveBack_7 rfl 0 rfl ?_
    refine m_get (T := TX3) (N := 8) C hiX3_giveBack_X3 0 gp_0 rfl 1 (by decide) (by decide +kernel) rfl dX3_giveBack_8 ?_
    refine m_aload_n C dX3_giveBack_11 rfl 1 rfl ?_
    refine m_iload_n C dX3_giveBack_12 rfl 3 rfl ?_
    obtain ⟨b4, h⟩ := h
    refine m_iald C r1 (gp_I hr1) b4 dX3_giveBack_13 ?_
    refine m_callV C (s_X2_giveBack l D cy ad ln v2 ou (v2 r1 x1.toNatClampNeg)  h) (cwV 1 C.2.2.2.2.1 gX3_giveBack_X2_giveBack rfl rfl rfl (by decide +kernel) ⟨Nat.le_of_ble_eq_true rfl, Nat.le_of_ble_eq_true rfl⟩) 2 gp_2 rfl rfl rfl (Nat.le_of_ble_eq_true rfl) dX3_giveBack_14 ⟨by decide, by decide⟩ (fun r w1 h1 => ?_)
    obtain ⟨v6, rfl, h, rfl⟩ := h1
    refine mW.eq (st' := []) rfl rfl rfl rfl ?_
    refine m_iinc (lv' := [(3, .int (x1 + 1)), (0, .ref (ad 0)), (1, .ref (ad r1)), (2, .int a2)]) C dX3_giveBack_17 (k := 3) rfl rfl (by decide) rfl ?_
    refine m_goto (tgt := 2) C dX3_giveBack_20 (by decide) ?_
    obtain ⟨n7, hn, h⟩ := h
    exact mW.sub [1, 2, 3, 0] rfl (ih n7 ((x1 + 1), v6) hn h)
theorem hiX3_layOut_X0 : ∀ w ∈ wsX00, w ∈ wsX3_layOut := by decide +kernel
theorem hiX3_layOut_X3 : ∀ w ∈ wsX30, w ∈ wsX3_layOut := by decide +kernel
def wp_X3_layOut (ln : Nat → Nat) (v : gV) (r1 : Nat) (post : gV → Prop) : Prop :=
  ∃ I4 : Nat → Int32 → Int32 → gV → Prop, (∃ n, I4 n 0 0 v) ∧ ∀ (n : Nat) (x1 : Int32) (x2 : Int32) (v3 : gV), I4 n x1 x2 v3 → ((((v3 r1 1) ≤ x2) → (post v3)) ∧ (¬ ((v3 r1 1) ≤ x2) → (vp_in x2 (ln (r1 + 16)) ∧ (wp_X2_writeOut ln v3 (v3 (r1 + 16) x2.toNatClampNeg) 5 x1 (fun (x6 : Int32) (v7 : gV) => (∃ n', n' < n ∧ I4 n' (x1 + x6) (x2 + 1) v7))))))
set_option maxHeartbeats 4000000 in
set_option maxRecDepth 100000 in
theorem s_X3_layOut (l : Launch) (D : va_G) (cy : Nat → ClassId) (ad ln : Nat → Nat) (v : gV) (ou : Nat → Int64) (r1 : Nat) (hr11 : 14 ≤ r1) (hr12 : r1 < 30) {post : gV → Prop} (h : wp_X3_layOut ln v r1 post) : mM l D cy yX3_layOut wsX3_layOut 4 0 0 [.ref (ad 0), .ref (ad r1)] (gW cy ad ln v ou) (fun r w1 => ∃ v1 : gV, r = none ∧ post v1 ∧ w1 = gW cy ad ln v1 ou) := by
  unfold wp_X3_layOut at h
  refine mM.of (cc := cX3_layOut) (nL := 4) (ret0 := none) (by decide +kernel) rfl (Nat.le_of_ble_eq_true rfl) ?_
  intro p e s m args below meth c A C hini
  refine mW.sub (lv' := [(0, .ref (ad 0)), (1, .ref (ad r1))]) [0, 1] rfl ?_
  refine m_iconst (v := 0) C dX3_layOut_0 (by decide) ?_
  refine m_istore_n (lv' := [(2, .int 0), (0, .ref (ad 0)), (1, .ref (ad r1))]) C dX3_layOut_1 rfl (by decide) rfl ?_
  refine m_iconst (v := 0) C dX3_layOut_2 (by decide) ?_
  refine m_istore_n (lv' := [(3, .int 0), (2, .int 0), (0, .ref (ad 0)), (1, .ref (ad r1))]) C dX3_layOut_3 rfl (by decide) rfl ?_
  obtain ⟨I4, ⟨n0, h0⟩, hI⟩ := h
  refine mW.sub (lv' := [(0, .ref (ad 0)), (1, .ref (ad r1)), (2, .int 0), (3, .int 0)]) [2, 3, 1, 0] rfl ?_
  refine m_ind (σ := Int32 × Int32 × gV) (fun n z => I4 n z.1 z.2.1 z.2.2) (fun z => gW cy ad ln z.2.2 ou) 4 (fun z => [(0, .ref (ad 0)), (1, .ref (ad r1)), (2, .int z.1), (3, .int z.2.1)]) ?_ n0 (0, 0, v) h0
  intro n z hi ih
  obtain ⟨x1, x2, v3⟩ := z
  have h := hI n x1 x2 v3 hi
  show mW _ _ _ _ _ _ _ _ _ _ _ _ _ _ _ _ (gW cy ad ln v3 ou) 4 [(0, .ref (ad 0)), (1, .ref (ad r1)), (2, .int x1), (3, .int x2)] []
  refine m_iload_n C dX3_layOut_4 rfl 3 rfl ?_
  refine m_aload_n C dX3_layOut_5 rfl 1 rfl ?_
  refine m_getN (host := "CutYard") (T := TX0) (N := 3) C hiX3_layOut_X0 r1 (gp_C hr11 hr12) rfl 1 (by decide) (by decide +kernel) rfl dX3_layOut_6 ?_
  refine m_icmp_ge (tgt := 39) C dX3_layOut_9 (by decide) (fun c4 => ?_) (fun c4 => ?_)
  · have h := h.1 c4
    exact m_vret C dX3_layOut_39 (Nat.le_of_ble_eq_true rfl) (Nat.le_of_ble_eq_true rfl) ⟨_, rfl, h, rfl⟩
  · have h := h.2 c4
    refine m_iload_n C dX3_layOut_12 rfl 2 rfl ?_
    refine m_aload_n C dX3_layOut_13 rfl 0 rfl ?_
    refine m_get (T := TX3) (N := 8) C hiX3_layOut_X3 0 gp_0 rfl 1 (by decide) (by decide +kernel) rfl dX3_layOut_14 ?_
    refine m_aload_n C dX3_layOut_17 rfl 1 rfl ?_
    refine m_getN (host := "CutYard") (T := TX0) (N := 3) C hiX3_layOut_X0 r1 (gp_C hr11 hr12) rfl 0 (by decide) (by decide +kernel) rfl dX3_layOut_18 ?_
    refine m_iload_n C dX3_layOut_21 rfl 3 rfl ?_
    obtain ⟨b5, h⟩ := h
    refine m_iald C (r1 + 16) (gp_I (gIs_N hr11 hr12)) b5 dX3_layOut_22 ?_
    refine m_aload_n C dX3_layOut_23 rfl 0 rfl ?_
    refine m_get (T := TX3) (N := 8) C hiX3_layOut_X3 0 gp_0 rfl 5 (by decide) (by decide +kernel) rfl dX3_layOut_24 ?_
    refine m_iload_n C dX3_layOut_27 rfl 2 rfl ?_
    refine m_callV C (s_X2_writeOut l D cy ad ln v3 ou (v3 (r1 + 16) x2.toNatClampNeg) 5 x1 (by decide) h) (cwV 3 C.2.2.2.2.1 gX3_layOut_X2_writeOut rfl rfl rfl (by decide +kernel) ⟨Nat.le_of_ble_eq_true rfl, Nat.le_of_ble_eq_true rfl⟩) 2 gp_2 rfl rfl rfl (Nat.le_of_ble_eq_true rfl) dX3_layOut_28 ⟨by decide, by decide⟩ (fun r w1 h1 => ?_)
    obtain ⟨x6, v7, rfl, h, rfl⟩ := h1
    refine mW.eq (st' := [.int x6, .int x1]) rfl rfl rfl rfl ?_
    refine m_iadd C dX3_layOut_31 ?_
    refine m_istore_n (lv' := [(2, .int (x1 + x6)), (0, .ref (ad 0)), (1, .ref (ad r1)), (3, .int x2)]) C dX3_layOut_32 rfl (by decide) rfl ?_
    refine m_iinc (lv' := [(3, .int (x2 + 1)), (2, .int (x1 + x6)), (0, .ref (ad 0)), (1, .ref (ad r1))]) C dX3_layOut_33 (k := 3) rfl rfl (by decide) rfl ?_
    refine m_goto (tgt := 4) C dX3_layOut_36 (by decide) ?_
    obtain ⟨n8, hn, h⟩ := h
    exact mW.sub [2, 3, 1, 0] rfl (ih n8 ((x1 + x6), (x2 + 1), v7) hn h)
theorem hiX3_filesWith_X3 : ∀ w ∈ wsX30, w ∈ wsX3_filesWith := by decide +kernel
def wp_X3_filesWith (ln : Nat → Nat) (v : gV) (a1 : Int32) (post : Int32 → gV → Prop) : Prop :=
  ∃ I4 : Nat → Int32 → Int32 → gV → Prop, (∃ n, I4 n 0 0 v) ∧ ∀ (n : Nat) (x1 : Int32) (x2 : Int32) (v3 : gV), I4 n x1 x2 v3 → (((16 ≤ x2) → (post x1 v3)) ∧ (¬ (16 ≤ x2) → (vp_in x2 16 ∧ (wp_X0_hasNumber ln v3 (14 + x2.toNatClampNeg % 16) a1 (fun (x6 : Int32) (v7 : gV) => ((∃ n', n' < n ∧ I4 n' (if x6 = 0 then x1 else x1 + 1) (x2 + 1) v7)))))))
set_option maxHeartbeats 4000000 in
set_option maxRecDepth 100000 in
theorem s_X3_filesWith (l : Launch) (D : va_G) (cy : Nat → ClassId) (ad ln : Nat → Nat) (v : gV) (ou : Nat → Int64) (a1 : Int32) {post : Int32 → gV → Prop} (h : wp_X3_filesWith ln v a1 post) : mM l D cy yX3_filesWith wsX3_filesWith 2 0 0 [.ref (ad 0), .int a1] (gW cy ad ln v ou) (fun r w1 => ∃ (x1 : Int32) (v1 : gV), r = some (.int x1) ∧ post x1 v1 ∧ w1 = gW cy ad ln v1 ou) := by
  unfold wp_X3_filesWith at h
  refine mM.of (cc := cX3_filesWith) (nL := 4) (ret0 := (some .int)) (by decide +kernel) rfl (Nat.le_of_ble_eq_true rfl) ?_
  intro p e s m args below meth c A C hini
  refine mW.sub (lv' := [(0, .ref (ad 0)), (1, .int a1)]) [0, 1] rfl ?_
  refine m_iconst (v := 0) C dX3_filesWith_0 (by decide) ?_
  refine m_istore_n (lv' := [(2, .int 0), (0, .ref (ad 0)), (1, .int a1)]) C dX3_filesWith_1 rfl (by decide) rfl ?_
  refine m_iconst (v := 0) C dX3_filesWith_2 (by decide) ?_
  refine m_istore_n (lv' := [(3, .int 0), (2, .int 0), (0, .ref (ad 0)), (1, .int a1)]) C dX3_filesWith_3 rfl (by decide) rfl ?_
  obtain ⟨I4, ⟨n0, h0⟩, hI⟩ := h
  refine mW.sub (lv' := [(0, .ref (ad 0)), (1, .int a1), (2, .int 0), (3, .int 0)]) [2, 3, 1, 0] rfl ?_
  refine m_ind (σ := Int32 × Int32 × gV) (fun n z => I4 n z.1 z.2.1 z.2.2) (fun z => gW cy ad ln z.2.2 ou) 4 (fun z => [(0, .ref (ad 0)), (1, .int a1), (2, .int z.1), (3, .int z.2.1)]) ?_ n0 (0, 0, v) h0
  intro n z hi ih
  obtain ⟨x1, x2, v3⟩ := z
  have h := hI n x1 x2 v3 hi
  show mW _ _ _ _ _ _ _ _ _ _ _ _ _ _ _ _ (gW cy ad ln v3 ou) 4 [(0, .ref (ad 0)), (1, .int a1), (2, .int x1), (3, .int x2)] []
  refine m_iload_n C dX3_filesWith_4 rfl 3 rfl ?_
  refine m_bipush (v := 16) C dX3_filesWith_5 (by decide) ?_
  refine m_icmp_ge (tgt := 32) C dX3_filesWith_7 (by decide) (fun c4 => ?_) (fun c4 => ?_)
  · have h := h.1 c4
    refine m_iload_n C dX3_filesWith_32 rfl 2 rfl ?_
    exact m_iret C dX3_filesWith_33 (Nat.le_of_ble_eq_true rfl) (Nat.le_of_ble_eq_true rfl) ⟨_, _, rfl, h, rfl⟩
  · have h := h.2 c4
    refine m_aload_n C dX3_filesWith_10 rfl 0 rfl ?_
    refine m_get (T := TX3) (N := 8) C hiX3_filesWith_X3 0 gp_0 rfl 2 (by decide) (by decide +kernel) rfl dX3_filesWith_11 ?_
    refine m_iload_n C dX3_filesWith_14 rfl 3 rfl ?_
    obtain ⟨b5, h⟩ := h
    refine m_aald C 3 gp_3 b5 dX3_filesWith_15 ?_
    refine m_iload_n C dX3_filesWith_16 rfl 1 rfl ?_
    refine m_callV C (s_X0_hasNumber l D cy ad ln v3 ou (14 + x2.toNatClampNeg % 16) a1 (gC_lo _) (gC_hi _) h) (cwV 1 C.2.2.2.2.1 gX3_filesWith_X0_hasNumber rfl rfl rfl (by decide +kernel) ⟨Nat.le_of_ble_eq_true rfl, Nat.le_of_ble_eq_true rfl⟩) (14 + x2.toNatClampNeg % 16) (gp_C (gC_lo _) (gC_hi _)) rfl rfl rfl (Nat.le_of_ble_eq_true rfl) dX3_filesWith_17 ⟨by decide, by decide⟩ (fun r w1 h1 => ?_)
    obtain ⟨x6, v7, rfl, h, rfl⟩ := h1
    refine mW.eq (st' := [.int x6]) rfl rfl rfl rfl ?_
    refine m_join (P := 26) (wM := gW cy ad ln v7 ou) (lvM := [(0, .ref (ad 0)), (1, .int a1), (2, .int (if x6 = 0 then x1 else x1 + 1)), (3, .int x2)]) (stM := []) ?_ (fun hJ26_9 => ?_)
    · refine m_iinc (lv' := [(3, .int (x2 + 1)), (0, .ref (ad 0)), (1, .int a1), (2, .int (if x6 = 0 then x1 else x1 + 1))]) C dX3_filesWith_26 (k := 3) rfl rfl (by decide) rfl ?_
      refine m_goto (tgt := 4) C dX3_filesWith_29 (by decide) ?_
      obtain ⟨n10, hn, h⟩ := h
      exact mW.sub [1, 2, 3, 0] rfl (ih n10 ((if x6 = 0 then x1 else x1 + 1), (x2 + 1), v7) hn h)
    · refine m_if_eq (tgt := 26) C dX3_filesWith_20 (by decide) (fun c8 => ?_) (fun c8 => ?_)
      · refine mW.sub (lv' := [(0, .ref (ad 0)), (1, .int a1), (2, .int x1), (3, .int x2)]) [0, 1, 2, 3] rfl ?_
        exact mW.eq rfl (by simp only [if_pos c8]) rfl rfl hJ26_9
      · refine m_iinc (lv' := [(2, .int (x1 + 1)), (0, .ref (ad 0)), (1, .int a1), (3, .int x2)]) C dX3_filesWith_23 (k := 2) rfl rfl (by decide) rfl ?_
        refine mW.sub (lv' := [(0, .ref (ad 0)), (1, .int a1), (2, .int (x1 + 1)), (3, .int x2)]) [1, 2, 0, 3] rfl ?_
        exact mW.eq rfl (by simp only [if_neg c8]) rfl rfl hJ26_9
end
section
/-! new arrays: Arrays.copyOf, Stock.makeRoomFor, Content.become -/
section GA
variable {cy : Nat → ClassId} {ad ln : Nat → Nat} {v : gV} {ou : Nat → Int64}
theorem gE_13 {q N : Nat} {f : Nat → Int32} {j : Nat} (h13 : j ≠ 13) (h2 : j ≠ 2) : gE cy (va_up ad 13 q) (va_up ln 13 N) (va_up v 13 f) ou j = gE cy ad ln v ou j := by
  by_cases h0 : j = 0
  · subst h0; rfl
  by_cases h1 : j = 1
  · subst h1; rfl
  by_cases h46 : j = 46
  · subst h46; rfl
  by_cases h51 : j = 51
  · subst h51; rfl
  by_cases h3 : j = 3
  · subst h3
    show Sum.inl _ = Sum.inl _
    have : (fun i => some (va_up ad 13 q (14 + i % 16))) = (fun i => some (ad (14 + i % 16))) := by
      funext i
      rw [va_up_ne ad q (by omega)]
    rw [this]
  have e1 : va_up v 13 f j = v j := va_up_ne v f h13
  have e2 : va_up ln 13 N j = ln j := va_up_ne ln N h13
  unfold gE
  rw [e1, e2]
  by_cases hc : 14 ≤ j ∧ j < 30
  · have e3 : va_up ad 13 q (j + 16) = ad (j + 16) := va_up_ne ad q (by omega)
    rw [e3]
    simp [h0, h1, h2, h3, h46, h51]
  · simp [h0, h1, h2, h3, h46, h51, hc]
theorem gE_N {P q N : Nat} {f : Nat → Int32} {j : Nat} (hP1 : 14 ≤ P) (hP2 : P < 30) (ht : j ≠ P + 16) (hP : j ≠ P) : gE cy (va_up ad (P + 16) q) (va_up ln (P + 16) N) (va_up v (P + 16) f) ou j = gE cy ad ln v ou j := by
  have a1 : ∀ i, i < 30 ∨ 46 ≤ i → va_up ad (P + 16) q i = ad i := fun i hi => va_up_ne ad q (by omega)
  have a2 : ∀ i, i < 30 ∨ 46 ≤ i → va_up v (P + 16) f i = v i := fun i hi => va_up_ne v f (by omega)
  have e1 : va_up v (P + 16) f j = v j := va_up_ne v f ht
  have e2 : va_up ln (P + 16) N j = ln j := va_up_ne ln N ht
  by_cases h3 : j = 3
  · subst h3
    show Sum.inl _ = Sum.inl _
    have : (fun i => some (va_up ad (P + 16) q (14 + i % 16))) = (fun i => some (ad (14 + i % 16))) := by
      funext i
      rw [a1 _ (by omega)]
    rw [this]
  unfold gE
  rw [e1, e2]
  by_cases hc : 14 ≤ j ∧ j < 30
  · have e3 : va_up ad (P + 16) q (j + 16) = ad (j + 16) := va_up_ne ad q (by omega)
    rw [e3, a2 0 (by omega), a2 1 (by omega), a2 2 (by omega), a2 46 (by omega)]
    simp [h3, hc]
  · simp only [a1 1 (by omega), a1 2 (by omega), a1 3 (by omega), a1 4 (by omega), a1 5 (by omega), a1 6 (by omega), a1 7 (by omega), a1 8 (by omega), a1 9 (by omega), a1 10 (by omega), a1 11 (by omega), a1 12 (by omega), a1 13 (by omega), a1 47 (by omega), a1 48 (by omega), a1 49 (by omega), a1 50 (by omega), a1 51 (by omega), a1 52 (by omega), a1 53 (by omega), a1 54 (by omega), a1 55 (by omega), a1 56 (by omega), a1 57 (by omega), a1 58 (by omega), a2 0 (by omega), a2 1 (by omega), a2 2 (by omega), a2 46 (by omega), a2 51 (by omega), show va_up ln (P + 16) N 51 = ln 51 from va_up_ne ln N (by omega)]
    simp [h3, hc]
/-- a fresh array behind the world takes the place t of its owner k -/
theorem gW_re {D : va_G} {A : Nat → Prop} {k t q N : Nat} {f : Nat → Int32} {e x : va_E} (hk : k < 60) (ht : t < 60) (hkt : k ≠ t) (hE : ∀ j, j ≠ t → j ≠ k → gE cy (va_up ad t q) (va_up ln t N) (va_up v t f) ou j = gE cy ad ln v ou j) (hEk : gE cy (va_up ad t q) (va_up ln t N) (va_up v t f) ou k = e) (hEt : gE cy (va_up ad t q) (va_up ln t N) (va_up v t f) ou t = x) :
    (∀ H : Heap, va_P D vwCl ((gW cy ad ln v ou ++ [(q, x)]).set k (ad k, e)) H → va_P D vwCl (gW cy (va_up ad t q) (va_up ln t N) (va_up v t f) ou) H) ∧ (va_D A ((gW cy ad ln v ou ++ [(q, x)]).set k (ad k, e)) → va_D A (gW cy (va_up ad t q) (va_up ln t N) (va_up v t f) ou)) := by
  have hlen : (gW cy ad ln v ou).length = 60 := by simp [gW]
  have key : ∀ (j : Nat) (z : Nat × va_E), (gW cy (va_up ad t q) (va_up ln t N) (va_up v t f) ou)[j]? = some z → ((gW cy ad ln v ou ++ [(q, x)]).set k (ad k, e))[if j = t then 60 else j]? = some z := by
    intro j z hz
    have hj : j < 60 := by
      rcases Nat.lt_or_ge j 60 with h | h
      · exact h
      · rw [List.getElem?_eq_none (by simp [gW]; omega)] at hz
        cases hz
    rw [gW_at j hj] at hz
    cases hz
    by_cases hjt : j = t
    · subst hjt
      rw [if_pos rfl, List.getElem?_set_ne (by omega), List.getElem?_append_right (by omega), hlen, va_up_self, hEt]
      rfl
    · rw [if_neg hjt]
      by_cases hjk : j = k
      · subst hjk
        rw [List.getElem?_set_self (by simp [hlen]; omega), va_up_ne ad q hjt, hEk]
      · rw [List.getElem?_set_ne (fun h => hjk h.symm), List.getElem?_append_left (by omega), gW_at j hj, va_up_ne ad q hjt, hE j hjt hjk]
  refine ⟨fun H hP => hP.by _ key, fun hD => hD.by _ key ?_⟩
  intro i j hi hj hij
  have hl2 : (gW cy (va_up ad t q) (va_up ln t N) (va_up v t f) ou).length = 60 := by simp [gW]
  rw [hl2] at hi hj
  by_cases h1 : i = t
  · by_cases h2 : j = t
    · omega
    · rw [if_pos h1, if_neg h2] at hij
      omega
  · by_cases h2 : j = t
    · rw [if_neg h1, if_pos h2] at hij
      omega
    · rw [if_neg h1, if_neg h2] at hij
      exact hij
theorem gW_re13 {D : va_G} {A : Nat → Prop} {q N : Nat} {f : Nat → Int32} : (∀ H : Heap, va_P D vwCl ((gW cy ad ln v ou ++ ([(q, .inl (cy 1, N, .inl f))] : va_W)).set 2 (ad 2, .inr (2, [.ref (ad 8), .ref (ad 9), .ref (ad 10), .ref (ad 11), .ref (ad 12), .ref q, .int (v 2 6), .int (v 2 7), .int (v 2 8)]))) H → va_P D vwCl (gW cy (va_up ad 13 q) (va_up ln 13 N) (va_up v 13 f) ou) H) ∧ (va_D A ((gW cy ad ln v ou ++ ([(q, .inl (cy 1, N, .inl f))] : va_W)).set 2 (ad 2, .inr (2, [.ref (ad 8), .ref (ad 9), .ref (ad 10), .ref (ad 11), .ref (ad 12), .ref q, .int (v 2 6), .int (v 2 7), .int (v 2 8)]))) → va_D A (gW cy (va_up ad 13 q) (va_up ln 13 N) (va_up v 13 f) ou)) := gW_re (cy := cy) (ad := ad) (ln := ln) (v := v) (ou := ou) (D := D) (A := A) (k := 2) (t := 13) (q := q) (N := N) (f := f) (e := .inr (2, [.ref (ad 8), .ref (ad 9), .ref (ad 10), .ref (ad 11), .ref (ad 12), .ref q, .int (v 2 6), .int (v 2 7), .int (v 2 8)])) (x := .inl (cy 1, N, .inl f)) (by decide) (by decide) (by decide) (fun j h1 h2 => gE_13 h1 h2) rfl rfl
theorem gW_reN {D : va_G} {A : Nat → Prop} {P q N : Nat} {f : Nat → Int32} (hP1 : 14 ≤ P) (hP2 : P < 30) : (∀ H : Heap, va_P D vwCl ((gW cy ad ln v ou ++ ([(q, .inl (cy 0, N, .inl f))] : va_W)).set P (ad P, .inr (0, [.ref q, .int (v P 1), .int (v P 2)]))) H → va_P D vwCl (gW cy (va_up ad (P + 16) q) (va_up ln (P + 16) N) (va_up v (P + 16) f) ou) H) ∧ (va_D A ((gW cy ad ln v ou ++ ([(q, .inl (cy 0, N, .inl f))] : va_W)).set P (ad P, .inr (0, [.ref q, .int (v P 1), .int (v P 2)]))) → va_D A (gW cy (va_up ad (P + 16) q) (va_up ln (P + 16) N) (va_up v (P + 16) f) ou)) := gW_re (cy := cy) (ad := ad) (ln := ln) (v := v) (ou := ou) (D := D) (A := A) (k := P) (t := P + 16) (q := q) (N := N) (f := f) (e := .inr (0, [.ref q, .int (v P 1), .int (v P 2)])) (x := .inl (cy 0, N, .inl f)) (by omega) (by omega) (by omega) (fun j h1 h2 => gE_N hP1 hP2 h1 h2) (by
  have h := gp_C (cy := cy) (ad := va_up ad (P + 16) q) (ln := va_up ln (P + 16) N) (v := va_up v (P + 16) f) (ou := ou) hP1 hP2
  rw [gW_at P (by omega)] at h
  have h := (Prod.mk.inj (Option.some.inj h)).2
  rw [h, va_up_self, va_up_ne v f (by omega)]) (by rw [gE_I (gIs_N hP1 hP2), va_up_self, va_up_self])
end GA
section GB
variable {p : Program} {l : Launch} {e : Env} {R : Room} {s : State} {m : MethodId} {args : Array Value} {below : List Frame} {meth : Method} {c : Code} {D : va_G} {A : Nat → Prop} {nL kc ks : Nat} {Q : State → Prop} {w w2 : va_W} {pc : Nat} {lv : List (Nat × Value)} {st : List Value}
theorem mW.by (h : (∀ H : Heap, va_P D vwCl w H → va_P D vwCl w2 H) ∧ (va_D A w → va_D A w2)) (k : mW p l e R s m args below meth c D A nL kc ks Q w2 pc lv st) : mW p l e R s m args below meth c D A nL kc ks Q w pc lv st := fun H locs ls a1 a2 a3 a4 => k H locs ls (h.1 H a1) (h.2 a2) a3 a4
end GB
theorem nI_N {n : Int32} (h : ¬ n < 0) : Int32.ofNat n.toNatClampNeg = n := by
  obtain ⟨j, hj, rfl⟩ := nI_of h
  rw [nI_clamp hj]
  rfl
set_option maxHeartbeats 4000000 in
set_option maxRecDepth 100000 in
/-- Arrays.copyOf of a byte array to another length -/
theorem s_copyOf (l : Launch) (D : va_G) (cy : Nat → ClassId) (ad ln : Nat → Nat) (v : gV) (ou : Nat → Int64) (r1 : Nat) (a2 : Int32) (hr1 : gBs r1 = true) (hne : ¬ a2 = Int32.ofNat (ln r1)) (h0 : ¬ a2 < 0) (hlt : Int32.ofNat (ln r1) < a2) (hln : ln r1 < 2 ^ 31) (hby : a2.toNatClampNeg ≤ 536870912) (hfit : ∀ i, i < ln r1 → fits .byte (.int (v r1 i)) = true) : mM l D cy yJ7_copyOf_9075b wsJ7_copyOf_9075b 2 1 a2.toNatClampNeg [.ref (ad r1), .int a2] (gW cy ad ln v ou) (fun r w1 => ∃ q : Nat, r = some (.ref q) ∧ w1 = gW cy ad ln v ou ++ [(q, .inl (cy 1, a2.toNatClampNeg, .inl (va_cpy (v r1) (fun _ => 0) 0 0 (ln r1))))]) := by
  refine mM.of (cc := cJ7_copyOf_9075b) (nL := 3) (ret0 := some (.array .byte)) (by decide +kernel) rfl (Nat.le_of_ble_eq_true rfl) ?_
  intro p e s m args below meth c A C hini
  refine mW.sub (lv' := [(0, .ref (ad r1)), (1, .int a2)]) [0, 1] rfl ?_
  refine m_iload_n C dJ7_copyOf_9075b_0 rfl 1 rfl ?_
  refine m_aload_n C dJ7_copyOf_9075b_1 rfl 0 rfl ?_
  refine m_alen C r1 1 (gp_B hr1) rfl rfl dJ7_copyOf_9075b_2 ?_
  refine m_icmp_ne (tgt := 14) C dJ7_copyOf_9075b_3 (by decide) (fun c1 => ?_) (fun c1 => absurd c1 hne)
  refine m_iload_n C dJ7_copyOf_9075b_14 rfl 1 rfl ?_
  refine m_newa (ty := .byte) (a0 := (a2.toNatClampNeg, .inl (fun _ => 0))) (N' := a2.toNatClampNeg) C 1 rfl rfl (fun U cA h => h) (by decide +kernel) (fun cA => rfl) h0 rfl (by show a2.toNatClampNeg * 1 ≤ _; omega) (by show 0 + 1 ≤ 1; omega) (by show 0 + a2.toNatClampNeg ≤ a2.toNatClampNeg; omega) dJ7_copyOf_9075b_15 (fun q => ?_)
  refine m_astore_n (lv' := [(2, .ref q), (0, .ref (ad r1)), (1, .int a2)]) C dJ7_copyOf_9075b_17 rfl (by decide) rfl ?_
  refine m_aload_n C dJ7_copyOf_9075b_18 rfl 1 rfl ?_
  refine m_iconst (v := 0) C dJ7_copyOf_9075b_19 (by decide) ?_
  refine m_aload_n C dJ7_copyOf_9075b_20 rfl 0 rfl ?_
  refine m_iconst (v := 0) C dJ7_copyOf_9075b_21 (by decide) ?_
  refine m_aload_n C dJ7_copyOf_9075b_22 rfl 1 rfl ?_
  have hlen : (gW cy ad ln v ou).length = 60 := by simp [gW]
  have hp1 : (gW cy ad ln v ou ++ [(q, .inl (cy 1, a2.toNatClampNeg, .inl (fun _ => 0)))])[r1]? = some (ad r1, .inl (cy 1, ln r1, .inl (v r1))) := by
    rw [List.getElem?_append_left (by rw [hlen]; exact gBs_lt hr1)]
    exact gp_B hr1
  have hp2 : (gW cy ad ln v ou ++ [(q, .inl (cy 1, a2.toNatClampNeg, .inl (fun _ => 0)))])[60]? = some (q, .inl (cy 1, a2.toNatClampNeg, .inl (fun _ => 0))) := by
    rw [List.getElem?_append_right (by rw [hlen]; exact Nat.le_refl _), hlen]
    rfl
  refine m_alen C r1 1 hp1 rfl rfl dJ7_copyOf_9075b_23 ?_
  refine m_iload_n C dJ7_copyOf_9075b_24 rfl 2 rfl ?_
  have e1 : (Int32.ofNat (ln r1)).toNatClampNeg = ln r1 := nI_clamp hln
  have e2 : ¬ a2 < Int32.ofNat (ln r1) := fun h => by
    rw [Int32.lt_iff_toInt_lt] at h hlt
    omega
  have e3 : ln r1 ≤ a2.toNatClampNeg := by
    obtain ⟨j, hj, rfl⟩ := nI_of h0
    rw [nI_clamp hj]
    have := (nI_ltI hln hj).mp hlt
    omega
  refine m_mmin (index := 304) C (by decide +kernel) (by decide +kernel) (by decide +kernel) (by decide +kernel) (Nat.le_of_ble_eq_true rfl) (Nat.le_of_ble_eq_true rfl) (by show 0 + 1 ≤ 1; omega) (by show 0 + a2.toNatClampNeg ≤ a2.toNatClampNeg; omega) dJ7_copyOf_9075b_25 ?_
  refine mW.eq (st' := [.int (Int32.ofNat (ln r1)), .int 0, .ref q, .int 0, .ref (ad r1)]) rfl rfl (by rw [if_neg e2]) rfl ?_
  have ec : (0 : Int32).toNatClampNeg = 0 := rfl
  refine m_copy (w' := gW cy ad ln v ou ++ [(q, .inl (cy 1, a2.toNatClampNeg, .inl (va_cpy (v r1) (fun _ => 0) 0 0 (ln r1))))]) C (by decide +kernel) (by decide +kernel) (by decide +kernel) (by decide +kernel) r1 60 1 1 hp1 hp2 rfl rfl rfl (by decide) (by decide) (nI_pos hln) (by rw [e1, ec]; omega) (by rw [e1, ec]; omega) (fun i hi => by rw [ec, Nat.zero_add]; rw [e1] at hi; exact hfit i hi) (Nat.le_of_ble_eq_true rfl) (Nat.le_of_ble_eq_true rfl) dJ7_copyOf_9075b_28 (by rw [List.set_append_right _ _ (by rw [hlen]; exact Nat.le_refl _), hlen, e1, ec]; rfl) ?_
  refine m_aload_n C dJ7_copyOf_9075b_31 rfl 0 rfl ?_
  exact m_aret C (Or.inr ⟨_, rfl⟩) dJ7_copyOf_9075b_32 (by omega) (by omega) ⟨q, rfl, rfl⟩
/-- what makeRoomFor(number) asks: the new length of the row, and whether it grows -/
def mrN (ln : Nat → Nat) (a1 : Int32) : Nat := min 25600 (max ((a1.toNatClampNeg + 1) * 64) (2 * ln 13))
def mrL (ln : Nat → Nat) (a1 : Int32) : Nat := if ln 13 < (a1.toNatClampNeg + 1) * 64 then mrN ln a1 else ln 13
def mrC (ln : Nat → Nat) (a1 : Int32) : Nat := if ln 13 < (a1.toNatClampNeg + 1) * 64 then 1 else 0
def mrS (ln : Nat → Nat) (a1 : Int32) : Nat := if ln 13 < (a1.toNatClampNeg + 1) * 64 then mrN ln a1 else 0
def mrV (ln : Nat → Nat) (v : gV) (a1 : Int32) : gV := if ln 13 < (a1.toNatClampNeg + 1) * 64 then va_up v 13 (va_cpy (v 13) (fun _ => 0) 0 0 (ln 13)) else v
theorem hiX2_makeRoomFor_X2 : ∀ w ∈ wsX20, w ∈ wsX2_makeRoomFor := by decide +kernel
set_option maxHeartbeats 4000000 in
set_option maxRecDepth 100000 in
theorem s_makeRoomFor (l : Launch) (D : va_G) (cy : Nat → ClassId) (ad ln : Nat → Nat) (v : gV) (ou : Nat → Int64) (k : Nat) (hk : k < 400) (h1 : 1024 ≤ ln 13) (h2 : ln 13 ≤ 25600) (hfit : ∀ i, i < ln 13 → fits .byte (.int (v 13 i)) = true) : mM l D cy yX2_makeRoomFor wsX2_makeRoomFor 3 (mrC ln (nI k)) (mrS ln (nI k)) [.ref (ad 2), .int (nI k)] (gW cy ad ln v ou) (fun r w1 => r = none ∧ ∃ q : Nat, w1 = gW cy (va_up ad 13 q) (va_up ln 13 (mrL ln (nI k))) (mrV ln v (nI k)) ou) := by
  have ek : (nI k).toNatClampNeg = k := nI_clamp (by omega)
  have en : (nI k + 1) * 64 = nI ((k + 1) * 64) := by
    rw [nI_1, show (64 : Int32) = nI 64 from rfl, pk_mul]
  refine mM.of (cc := cX2_makeRoomFor) (nL := 3) (ret0 := none) (by decide +kernel) rfl (Nat.le_of_ble_eq_true rfl) ?_
  intro p e s m args below meth c A C hini
  refine mW.sub (lv' := [(0, .ref (ad 2)), (1, .int (nI k))]) [0, 1] rfl ?_
  refine m_iload_n C dX2_makeRoomFor_0 rfl 1 rfl ?_
  refine m_iconst (v := 1) C dX2_makeRoomFor_1 (by decide) ?_
  refine m_iadd C dX2_makeRoomFor_2 ?_
  refine m_bipush (v := 64) C dX2_makeRoomFor_3 (by decide) ?_
  refine m_imul C dX2_makeRoomFor_5 ?_
  refine mW.eq (st' := [.int (nI ((k + 1) * 64))]) rfl rfl (by rw [en]) rfl ?_
  refine m_istore_n (lv' := [(2, .int (nI ((k + 1) * 64))), (0, .ref (ad 2)), (1, .int (nI k))]) C dX2_makeRoomFor_6 rfl (by decide) rfl ?_
  refine m_iload_n C dX2_makeRoomFor_7 rfl 0 rfl ?_
  refine m_aload_n C dX2_makeRoomFor_8 rfl 1 rfl ?_
  refine m_get (T := TX2) (N := 9) C hiX2_makeRoomFor_X2 2 gp_2 rfl 5 (by decide) (by decide +kernel) rfl dX2_makeRoomFor_9 ?_
  refine m_alen C 13 1 (gp_B (by decide)) rfl rfl dX2_makeRoomFor_12 ?_
  have hcmp : nI ((k + 1) * 64) ≤ Int32.ofNat (ln 13) ↔ (k + 1) * 64 ≤ ln 13 := nI_leI (by omega) (by omega)
  refine m_icmp_le (tgt := 44) C dX2_makeRoomFor_13 (by decide) (fun c1 => ?_) (fun c1 => ?_)
  · have hn : ¬ ln 13 < (k + 1) * 64 := by
      have := hcmp.mp c1
      omega
    refine m_vret C dX2_makeRoomFor_44 (Nat.zero_le _) (Nat.zero_le _) ⟨rfl, ad 13, ?_⟩
    unfold mrL mrV
    rw [ek, if_neg hn, if_neg hn]
    congr 1
    · funext j
      unfold va_up
      split
      · rename_i h; rw [h]
      · rfl
    · funext j
      unfold va_up
      split
      · rename_i h; rw [h]
      · rfl
  · have hn : ln 13 < (k + 1) * 64 := by
      rcases Nat.lt_or_ge (ln 13) ((k + 1) * 64) with h | h
      · exact h
      · exact absurd (hcmp.mpr h) c1
    have hC : mrC ln (nI k) = 1 := by unfold mrC; rw [ek, if_pos hn]
    have hN : mrN ln (nI k) = min 25600 (max ((k + 1) * 64) (2 * ln 13)) := by unfold mrN; rw [ek]
    have hS : mrS ln (nI k) = mrN ln (nI k) := by unfold mrS; rw [ek, if_pos hn]
    have hL : mrL ln (nI k) = mrN ln (nI k) := by unfold mrL; rw [ek, if_pos hn]
    have hV : mrV ln v (nI k) = va_up v 13 (va_cpy (v 13) (fun _ => 0) 0 0 (ln 13)) := by unfold mrV; rw [ek, if_pos hn]
    obtain ⟨M, hM⟩ : ∃ M, M = max ((k + 1) * 64) (2 * ln 13) := ⟨_, rfl⟩
    obtain ⟨N, hN'⟩ : ∃ N, N = min 25600 M := ⟨_, rfl⟩
    have hNe : mrN ln (nI k) = N := by rw [hN, ← hM, ← hN']
    have hM1 : (k + 1) * 64 ≤ M := by rw [hM]; exact Nat.le_max_left _ _
    have hM2 : 2 * ln 13 ≤ M := by rw [hM]; exact Nat.le_max_right _ _
    have hM3 : M ≤ 51200 := by rw [hM]; exact Nat.max_le.mpr ⟨by omega, by omega⟩
    have hN1 : N ≤ 25600 := by rw [hN']; exact Nat.min_le_left _ _
    have hN2 : ln 13 < N := by rw [hN']; exact Nat.lt_min.mpr ⟨by omega, by omega⟩
    have emax : (if nI ((k + 1) * 64) < 2 * Int32.ofNat (ln 13) then 2 * Int32.ofNat (ln 13) else nI ((k + 1) * 64)) = nI M := by
      have e2 : (2 : Int32) * Int32.ofNat (ln 13) = nI (2 * ln 13) := by
        rw [show (2 : Int32) = nI 2 from rfl, show Int32.ofNat (ln 13) = nI (ln 13) from rfl, pk_mul]
      rw [e2]
      split
      · rename_i h
        have h := (nI_ltI (by omega) (by omega)).mp h
        rw [hM, Nat.max_eq_right (by omega)]
      · rename_i h
        have h : ¬ (k + 1) * 64 < 2 * ln 13 := fun q => h ((nI_ltI (by omega) (by omega)).mpr q)
        rw [hM, Nat.max_eq_left (by omega)]
    have emin : (if nI M < 25600 then nI M else 25600) = nI N := by
      rw [show (25600 : Int32) = nI 25600 from rfl]
      split
      · rename_i h
        have h := (nI_ltI (by omega) (by omega)).mp h
        rw [hN', Nat.min_eq_right (by omega)]
      · rename_i h
        have h : ¬ M < 25600 := fun q => h ((nI_ltI (by omega) (by omega)).mpr q)
        rw [hN', Nat.min_eq_left (by omega)]
    have eNc : (nI N).toNatClampNeg = N := nI_clamp (by omega)
    refine m_aload_n C dX2_makeRoomFor_16 rfl 1 rfl ?_
    refine m_aload_n C dX2_makeRoomFor_17 rfl 1 rfl ?_
    refine m_get (T := TX2) (N := 9) C hiX2_makeRoomFor_X2 2 gp_2 rfl 5 (by decide) (by decide +kernel) rfl dX2_makeRoomFor_18 ?_
    refine m_sipush (v := 25600) C dX2_makeRoomFor_21 (by decide) ?_
    refine m_iload_n C dX2_makeRoomFor_24 rfl 0 rfl ?_
    refine m_iconst (v := 2) C dX2_makeRoomFor_25 (by decide) ?_
    refine m_aload_n C dX2_makeRoomFor_26 rfl 1 rfl ?_
    refine m_get (T := TX2) (N := 9) C hiX2_makeRoomFor_X2 2 gp_2 rfl 5 (by decide) (by decide +kernel) rfl dX2_makeRoomFor_27 ?_
    refine m_alen C 13 1 (gp_B (by decide)) rfl rfl dX2_makeRoomFor_30 ?_
    refine m_imul C dX2_makeRoomFor_31 ?_
    refine m_mmax (index := 96) C (by decide +kernel) (by decide +kernel) (by decide +kernel) (by decide +kernel) (Nat.le_of_ble_eq_true rfl) (Nat.le_of_ble_eq_true rfl) (Nat.zero_le _) (Nat.zero_le _) dX2_makeRoomFor_32 ?_
    refine mW.eq (st' := [.int (nI M), .int 25600, .ref (ad 13), .ref (ad 2)]) rfl rfl (by rw [emax]) rfl ?_
    refine m_mmin (index := 79) C (by decide +kernel) (by decide +kernel) (by decide +kernel) (by decide +kernel) (Nat.le_of_ble_eq_true rfl) (Nat.le_of_ble_eq_true rfl) (Nat.zero_le _) (Nat.zero_le _) dX2_makeRoomFor_35 ?_
    refine mW.eq (st' := [.int (nI N), .ref (ad 13), .ref (ad 2)]) rfl rfl (by rw [emin]) rfl ?_
    have hcop := s_copyOf l D cy ad ln v ou 13 (nI N) (by decide) (fun q => by
      have := (nI_eq (by omega) (by omega)).mp (show nI N = nI (ln 13) from q)
      omega) (nI_pos (by omega)) ((nI_ltI (by omega) (by omega)).mpr hN2) (by omega) (by rw [eNc]; omega) hfit
    rw [eNc] at hcop
    refine m_callS C hcop (va_cwS 2 C.2.2.2.2.1 gX2_makeRoomFor_J7_copyOf_9075b rfl rfl rfl (by decide +kernel) ⟨Nat.le_of_ble_eq_true rfl, Nat.le_of_ble_eq_true rfl⟩) rfl rfl (Nat.le_of_ble_eq_true rfl) dX2_makeRoomFor_38 ⟨by show 0 + 1 ≤ mrC ln (nI k); rw [hC]; omega, by show 0 + N ≤ mrS ln (nI k); rw [hS, hNe]; omega⟩ (fun r w1 h1 => ?_)
    obtain ⟨q, rfl, rfl⟩ := h1
    have hlen : (gW cy ad ln v ou).length = 60 := by simp [gW]
    refine m_put (T := TX2) (N := 9) C hiX2_makeRoomFor_X2 tyX2 tyX2_ok nmX2 2 (by rw [List.getElem?_append_left (by rw [hlen]; decide)]; exact gp_2) rfl 5 (by decide) (by decide +kernel) rfl rfl rfl (Nat.le_of_ble_eq_true rfl) dX2_makeRoomFor_41 rfl ?_
    refine mW.by gW_re13 ?_
    refine m_vret C dX2_makeRoomFor_44 (by rw [hC]; omega) (by rw [hS, hNe]; omega) ⟨rfl, q, ?_⟩
    rw [hL, hNe, hV]
/-- what become(newNumbers, newCount, newBytes) asks: the new length of the row -/
def bcN (ln : Nat → Nat) (P c : Nat) : Nat := min 1500 (max c (2 * ln (P + 16)))
def bcL (ln : Nat → Nat) (P c : Nat) : Nat := if ln (P + 16) < c then bcN ln P c else ln (P + 16)
def bcC (ln : Nat → Nat) (P c : Nat) : Nat := if ln (P + 16) < c then 1 else 0
def bcS (ln : Nat → Nat) (P c : Nat) : Nat := if ln (P + 16) < c then bcN ln P c else 0
/-- what the content is then: its row, its count, its bytes -/
def bcV (ln : Nat → Nat) (v : gV) (P r c : Nat) (by9 : Int32) : gV :=
  let g : Nat → Int32 := if ln (P + 16) < c then (fun _ => 0) else v (P + 16)
  let f : Nat → Int32 := if ln (P + 16) < c then va_up v (P + 16) (fun _ => 0) r else v r
  va_up (va_up v (P + 16) (va_cpy f g 0 0 c)) P (upd (upd (v P) 1 (nI c)) 2 by9)
theorem hiX0_become_X0 : ∀ w ∈ wsX00, w ∈ wsX0_become := by decide +kernel
theorem va_up3 {v : gV} {a b : Nat} {f g h : Nat → Int32} (hab : a ≠ b) : va_up (va_up (va_up v a f) b g) b h = va_up (va_up v a f) b h := by
  funext j
  unfold va_up
  split <;> rfl
set_option maxHeartbeats 4000000 in
set_option maxRecDepth 100000 in
theorem become_tail {p : Program} {l : Launch} {e : Env} {R : Room} {s : State} {m : MethodId} {args : Array Value} {below : List Frame} {meth : Method} {c : Code} {D : va_G} {cy : Nat → ClassId} {A : Nat → Prop} {kc ks mc ms : Nat} {Φ : Option Value → va_W → Prop} (C : mC p s m args meth c D cy A cX0_become 4 yX0_become.cls wsX0_become none) (hR : 1 ≤ R.frames) (hR2 : 40 ≤ R.locals) (ad ln : Nat → Nat) (v : gV) (ou : Nat → Int64) (P r n : Nat) (b : Int32) (hP1 : 14 ≤ P) (hP2 : P < 30) (hr : gIs r = true) (h1 : n ≤ ln r) (h2 : n ≤ ln (P + 16)) (hn : n ≤ 1500) (hc : kc ≤ mc) (hs : ks ≤ ms) (hΦ : Φ none (gW cy ad ln (va_up (va_up v (P + 16) (va_cpy (v r) (v (P + 16)) 0 0 n)) P (upd (upd (v P) 1 (nI n)) 2 b)) ou)) : mW p l e R s m args below meth c D A 4 kc ks (mQ D Φ A below args s mc ms) (gW cy ad ln v ou) 32 [(0, .ref (ad P)), (1, .ref (ad r)), (2, .int (nI n)), (3, .int b)] [] := by
  have ec : (0 : Int32).toNatClampNeg = 0 := rfl
  have en : (nI n).toNatClampNeg = n := nI_clamp (by omega)
  refine m_aload_n C dX0_become_32 rfl 1 rfl ?_
  refine m_iconst (v := 0) C dX0_become_33 (by decide) ?_
  refine m_aload_n C dX0_become_34 rfl 0 rfl ?_
  refine m_get (T := TX0) (N := 3) C hiX0_become_X0 P (gp_C hP1 hP2) rfl 0 (by decide) (by decide +kernel) rfl dX0_become_35 ?_
  refine m_iconst (v := 0) C dX0_become_38 (by decide) ?_
  refine m_iload_n C dX0_become_39 rfl 2 rfl ?_
  refine m_copy (w' := gW cy ad ln (va_up v (P + 16) (va_cpy (v r) (v (P + 16)) 0 0 n)) ou) C (by decide +kernel) (by decide +kernel) (by decide +kernel) (by decide +kernel) r (P + 16) 0 0 (gp_I hr) (gp_I (gIs_N hP1 hP2)) rfl rfl rfl (by decide) (by decide) (nI_pos (by omega)) (by rw [en, ec]; omega) (by rw [en, ec]; omega) (fun _ _ => rfl) hR (by show 0 + _ ≤ _; exact Nat.le_trans (Nat.le_of_ble_eq_true rfl) hR2) dX0_become_40 (by rw [en, ec]; exact gs_I (gIs_N hP1 hP2)) ?_
  obtain ⟨v1, ev1⟩ : ∃ z : gV, z = va_up v (P + 16) (va_cpy (v r) (v (P + 16)) 0 0 n) := ⟨_, rfl⟩
  rw [← ev1] at hΦ ⊢
  have eP : v1 P = v P := by rw [ev1, va_up_ne _ _ (by omega)]
  refine m_aload_n C dX0_become_43 rfl 0 rfl ?_
  refine m_iload_n C dX0_become_44 rfl 2 rfl ?_
  refine m_put (w' := gW cy ad ln (va_up v1 P (upd (v1 P) 1 (nI n))) ou) (T := TX0) (N := 3) C hiX0_become_X0 tyX0 tyX0_ok nmX0 P (gp_C hP1 hP2) rfl 1 (by decide) (by decide +kernel) rfl rfl rfl (Nat.le_of_ble_eq_true rfl) dX0_become_45 (gs_C1 hP1 hP2) ?_
  obtain ⟨v2, ev2⟩ : ∃ z : gV, z = va_up v1 P (upd (v1 P) 1 (nI n)) := ⟨_, rfl⟩
  rw [← ev2]
  refine m_aload_n C dX0_become_48 rfl 0 rfl ?_
  refine m_iload_n C dX0_become_49 rfl 3 rfl ?_
  refine m_put (w' := gW cy ad ln (va_up v2 P (upd (v2 P) 2 b)) ou) (T := TX0) (N := 3) C hiX0_become_X0 tyX0 tyX0_ok nmX0 P (gp_C hP1 hP2) rfl 2 (by decide) (by decide +kernel) rfl rfl rfl (Nat.le_of_ble_eq_true rfl) dX0_become_50 (gs_C2 hP1 hP2) ?_
  have e2 : va_up v2 P (upd (v2 P) 2 b) = va_up v1 P (upd (upd (v P) 1 (nI n)) 2 b) := by
    rw [ev2, va_up_self, eP]
    funext j
    unfold va_up
    split <;> rfl
  rw [e2]
  exact m_vret C dX0_become_53 hc hs hΦ
set_option maxHeartbeats 4000000 in
set_option maxRecDepth 100000 in
theorem s_become (l : Launch) (D : va_G) (cy : Nat → ClassId) (ad ln : Nat → Nat) (v : gV) (ou : Nat → Int64) (P r n : Nat) (b : Int32) (hP1 : 14 ≤ P) (hP2 : P < 30) (hr : gIs r = true) (h1 : n ≤ ln r) (hn : n ≤ 1500) (hl1 : 16 ≤ ln (P + 16)) (hl2 : ln (P + 16) ≤ 1500) : mM l D cy yX0_become wsX0_become 2 (bcC ln P n) (bcS ln P n) [.ref (ad P), .ref (ad r), .int (nI n), .int b] (gW cy ad ln v ou) (fun r0 w1 => r0 = none ∧ ∃ q : Nat, w1 = gW cy (va_up ad (P + 16) q) (va_up ln (P + 16) (bcL ln P n)) (bcV ln v P r n b) ou) := by
  refine mM.of (cc := cX0_become) (nL := 4) (ret0 := none) (by decide +kernel) rfl (Nat.le_of_ble_eq_true rfl) ?_
  intro p e s m args below meth c A C hini
  refine mW.sub (lv' := [(0, .ref (ad P)), (1, .ref (ad r)), (2, .int (nI n)), (3, .int b)]) [0, 1, 2, 3] rfl ?_
  refine m_iload_n C dX0_become_0 rfl 2 rfl ?_
  refine m_aload_n C dX0_become_1 rfl 0 rfl ?_
  refine m_get (T := TX0) (N := 3) C hiX0_become_X0 P (gp_C hP1 hP2) rfl 0 (by decide) (by decide +kernel) rfl dX0_become_2 ?_
  refine m_alen C (P + 16) 0 (gp_I (gIs_N hP1 hP2)) rfl rfl dX0_become_5 ?_
  have hcmp : nI n ≤ Int32.ofNat (ln (P + 16)) ↔ n ≤ ln (P + 16) := nI_leI (by omega) (by omega)
  refine m_icmp_le (tgt := 32) C dX0_become_6 (by decide) (fun c1 => ?_) (fun c1 => ?_)
  · have hq : ¬ ln (P + 16) < n := by
      have := hcmp.mp c1
      omega
    refine become_tail C (Nat.le_of_ble_eq_true rfl) (Nat.le_of_ble_eq_true rfl) ad ln v ou P r n b hP1 hP2 hr h1 (by omega) hn (Nat.zero_le _) (Nat.zero_le _) ⟨rfl, ad (P + 16), ?_⟩
    unfold bcL bcV
    rw [if_neg hq, if_neg hq, if_neg hq]
    congr 1
    · funext j
      unfold va_up
      split
      · rename_i h; rw [h]
      · rfl
    · funext j
      unfold va_up
      split
      · rename_i h; rw [h]
      · rfl
  · have hq : ln (P + 16) < n := by
      rcases Nat.lt_or_ge (ln (P + 16)) n with h | h
      · exact h
      · exact absurd (hcmp.mpr h) c1
    have hrP : r ≠ P + 16 := fun h => by rw [h] at h1; omega
    have hC : bcC ln P n = 1 := by unfold bcC; rw [if_pos hq]
    have hS : bcS ln P n = bcN ln P n := by unfold bcS; rw [if_pos hq]
    have hL : bcL ln P n = bcN ln P n := by unfold bcL; rw [if_pos hq]
    obtain ⟨M, hM⟩ : ∃ M, M = max n (2 * ln (P + 16)) := ⟨_, rfl⟩
    obtain ⟨N, hN'⟩ : ∃ N, N = min 1500 M := ⟨_, rfl⟩
    have hNe : bcN ln P n = N := by unfold bcN; rw [← hM, ← hN']
    have hM1 : n ≤ M := by rw [hM]; exact Nat.le_max_left _ _
    have hM3 : M ≤ 3000 := by rw [hM]; exact Nat.max_le.mpr ⟨by omega, by omega⟩
    have hN1 : N ≤ 1500 := by rw [hN']; exact Nat.min_le_left _ _
    have hN2 : n ≤ N := by rw [hN']; exact Nat.le_min.mpr ⟨by omega, by omega⟩
    have emax : (if nI n < 2 * Int32.ofNat (ln (P + 16)) then 2 * Int32.ofNat (ln (P + 16)) else nI n) = nI M := by
      have e2 : (2 : Int32) * Int32.ofNat (ln (P + 16)) = nI (2 * ln (P + 16)) := by
        rw [show (2 : Int32) = nI 2 from rfl, show Int32.ofNat (ln (P + 16)) = nI (ln (P + 16)) from rfl, pk_mul]
      rw [e2]
      split
      · rename_i h
        have h := (nI_ltI (by omega) (by omega)).mp h
        rw [hM, Nat.max_eq_right (by omega)]
      · rename_i h
        have h : ¬ n < 2 * ln (P + 16) := fun q => h ((nI_ltI (by omega) (by omega)).mpr q)
        rw [hM, Nat.max_eq_left (by omega)]
    have emin : (if nI M < 1500 then nI M else 1500) = nI N := by
      rw [show (1500 : Int32) = nI 1500 from rfl]
      split
      · rename_i h
        have h := (nI_ltI (by omega) (by omega)).mp h
        rw [hN', Nat.min_eq_right (by omega)]
      · rename_i h
        have h : ¬ M < 1500 := fun q => h ((nI_ltI (by omega) (by omega)).mpr q)
        rw [hN', Nat.min_eq_left (by omega)]
    have eNc : (nI N).toNatClampNeg = N := nI_clamp (by omega)
    refine m_aload_n C dX0_become_9 rfl 0 rfl ?_
    refine m_sipush (v := 1500) C dX0_become_10 (by decide) ?_
    refine m_iload_n C dX0_become_13 rfl 2 rfl ?_
    refine m_iconst (v := 2) C dX0_become_14 (by decide) ?_
    refine m_aload_n C dX0_become_15 rfl 0 rfl ?_
    refine m_get (T := TX0) (N := 3) C hiX0_become_X0 P (gp_C hP1 hP2) rfl 0 (by decide) (by decide +kernel) rfl dX0_become_16 ?_
    refine m_alen C (P + 16) 0 (gp_I (gIs_N hP1 hP2)) rfl rfl dX0_become_19 ?_
    refine m_imul C dX0_become_20 ?_
    refine m_mmax (index := 22) C (by decide +kernel) (by decide +kernel) (by decide +kernel) (by decide +kernel) (Nat.le_of_ble_eq_true rfl) (Nat.le_of_ble_eq_true rfl) (Nat.zero_le _) (Nat.zero_le _) dX0_become_21 ?_
    refine mW.eq (st' := [.int (nI M), .int 1500, .ref (ad P)]) rfl rfl (by rw [emax]) rfl ?_
    refine m_mmin (index := 28) C (by decide +kernel) (by decide +kernel) (by decide +kernel) (by decide +kernel) (Nat.le_of_ble_eq_true rfl) (Nat.le_of_ble_eq_true rfl) (Nat.zero_le _) (Nat.zero_le _) dX0_become_24 ?_
    refine mW.eq (st' := [.int (nI N), .ref (ad P)]) rfl rfl (by rw [emin]) rfl ?_
    refine m_newa (ty := .int) (a0 := (N, .inl (fun _ => 0))) (N' := N) C 0 rfl rfl (fun U cA h => h) (by decide +kernel) (fun cA => rfl) (nI_pos (by omega)) eNc (by show N * 4 ≤ _; omega) (by show 0 + 1 ≤ bcC ln P n; rw [hC]; omega) (by show 0 + N ≤ bcS ln P n; rw [hS, hNe]; omega) dX0_become_27 (fun q => ?_)
    have hlen : (gW cy ad ln v ou).length = 60 := by simp [gW]
    refine m_put (T := TX0) (N := 3) C hiX0_become_X0 tyX0 tyX0_ok nmX0 P (by rw [List.getElem?_append_left (by rw [hlen]; omega)]; exact gp_C hP1 hP2) rfl 0 (by decide) (by decide +kernel) rfl rfl rfl (Nat.le_of_ble_eq_true rfl) dX0_become_29 rfl ?_
    refine mW.by (gW_reN hP1 hP2) ?_
    have ea1 : va_up ad (P + 16) q P = ad P := va_up_ne ad q (by omega)
    have ea2 : va_up ad (P + 16) q r = ad r := va_up_ne ad q hrP
    rw [← ea1, ← ea2]
    refine become_tail C (Nat.le_of_ble_eq_true rfl) (Nat.le_of_ble_eq_true rfl) (va_up ad (P + 16) q) (va_up ln (P + 16) N) (va_up v (P + 16) (fun _ => 0)) ou P r n b hP1 hP2 hr (by rw [va_up_ne ln N hrP]; exact h1) (by rw [va_up_self]; exact hN2) hn (by rw [hC]; omega) (by rw [hS, hNe]; omega) ⟨rfl, q, ?_⟩
    unfold bcV
    rw [hL, hNe, if_pos hq, if_pos hq, va_up_self, va_up_ne v (fun _ => 0) (show P ≠ P + 16 by omega)]
    congr 2
    funext j
    unfold va_up
    split <;> rfl
end
section
theorem va_up_id {α : Type} (f : Nat → α) (k : Nat) : va_up f k (f k) = f := by
  funext j
  unfold va_up
  split
  · rename_i h; rw [h]
  · rfl
theorem hiX2_add_X2 : ∀ w ∈ wsX20, w ∈ wsX2_add := by decide +kernel
def wp_X2_add (mc ms : Nat) (ln : Nat → Nat) (v : gV) (a1 : Int32) (r2 : Nat) (a3 : Int32) (a4 : Int32) (post : Int32 → (Nat → Nat) → gV → Prop) : Prop :=
  wp_X2_leastFree ln v  (fun (x1 : Int32) (v2 : gV) => (((x1 = (-1)) → (post (-1) ln v2)) ∧ (¬ (x1 = (-1)) → (∃ k : Nat, x1 = nI k ∧ k < 400 ∧ 1024 ≤ ln 13 ∧ ln 13 ≤ 25600 ∧ (∀ i, i < ln 13 → fits .byte (.int (v2 13 i)) = true) ∧ 0 + mrC ln x1 ≤ mc ∧ 0 + mrS ln x1 ≤ ms ∧ ∀ (ln4 : Nat → Nat) (v5 : gV), ln4 = va_up ln 13 (mrL ln x1) → v5 = mrV ln v2 x1 → ((¬ a3 < 0) ∧ ((¬ (x1 * 64) < 0) ∧ ((¬ a4 < 0) ∧ ((a3.toNatClampNeg + a4.toNatClampNeg ≤ ln4 r2) ∧ (((x1 * 64).toNatClampNeg + a4.toNatClampNeg ≤ ln4 13) ∧ ((∀ i, i < a4.toNatClampNeg → fits .byte (.int (v5 r2 (a3.toNatClampNeg + i))) = true) ∧ (∀ v10 : gV, v10 = va_up v5 13 (va_cpy (v5 r2) (v5 13) a3.toNatClampNeg (x1 * 64).toNatClampNeg a4.toNatClampNeg) → (vp_in x1 (ln4 8) ∧ ∀ v18 : gV, v18 = va_up v10 8 (upd (v10 8) x1.toNatClampNeg 1) → (vp_in x1 (ln4 9) ∧ ∀ v20 : gV, v20 = va_up v18 9 (upd (v18 9) x1.toNatClampNeg a4) → (vp_in x1 (ln4 10) ∧ ∀ v22 : gV, v22 = va_up v20 10 (upd (v20 10) x1.toNatClampNeg a1) → (vp_in (a1 &&& 511) (ln4 12) ∧ (vp_in x1 (ln4 11) ∧ ∀ v25 : gV, v25 = va_up v22 11 (upd (v22 11) x1.toNatClampNeg (v22 12 (a1 &&& 511).toNatClampNeg)) → (vp_in (a1 &&& 511) (ln4 12) ∧ ∀ v27 : gV, v27 = va_up v25 12 (upd (v25 12) (a1 &&& 511).toNatClampNeg x1) → (∀ v28 : gV, v28 = va_up v27 2 (upd (v27 2) 7 ((v27 2 7) + 1)) → (∀ v29 : gV, v29 = va_up v28 2 (upd (v28 2) 8 ((v28 2 8) + a4)) → (post x1 ln4 v29))))))))))))))))))))
set_option maxHeartbeats 4000000 in
set_option maxRecDepth 100000 in
theorem s_X2_add (l : Launch) (D : va_G) (cy : Nat → ClassId) (ad ln : Nat → Nat) (v : gV) (ou : Nat → Int64) (mc ms : Nat) (a1 : Int32) (r2 : Nat) (a3 : Int32) (a4 : Int32) (hr2 : gBs r2 = true) (hr2n : r2 ≠ 13) {post : Int32 → (Nat → Nat) → gV → Prop} (h : wp_X2_add mc ms ln v a1 r2 a3 a4 post) : mM l D cy yX2_add wsX2_add 4 mc ms [.ref (ad 2), .int a1, .ref (ad r2), .int a3, .int a4] (gW cy ad ln v ou) (fun r w1 => ∃ (x1 : Int32) (q1 : Nat) (ln1 : Nat → Nat) (v1 : gV), r = some (.int x1) ∧ post x1 ln1 v1 ∧ w1 = gW cy (va_up ad 13 q1) ln1 v1 ou) := by
  unfold wp_X2_add at h
  refine mM.of (cc := cX2_add) (nL := 6) (ret0 := (some .int)) (by decide +kernel) rfl (Nat.le_of_ble_eq_true rfl) ?_
  intro p e s m args below meth c A C hini
  refine mW.sub (lv' := [(0, .ref (ad 2)), (1, .int a1), (2, .ref (ad r2)), (3, .int a3), (4, .int a4)]) [0, 1, 2, 3, 4] rfl ?_
  refine m_aload_n C dX2_add_0 rfl 0 rfl ?_
  refine m_callV C (s_X2_leastFree l D cy ad ln v ou   h) (cwV 0 C.2.2.2.2.1 gX2_add_X2_leastFree rfl rfl rfl (by decide +kernel) ⟨Nat.le_of_ble_eq_true rfl, Nat.le_of_ble_eq_true rfl⟩) 2 gp_2 rfl rfl rfl (Nat.le_of_ble_eq_true rfl) dX2_add_1 ⟨Nat.zero_le _, Nat.zero_le _⟩ (fun r w1 h1 => ?_)
  obtain ⟨x1, v2, rfl, h, rfl⟩ := h1
  refine mW.eq (st' := [.int x1]) rfl rfl rfl rfl ?_
  refine m_istore (lv' := [(5, .int x1), (0, .ref (ad 2)), (1, .int a1), (2, .ref (ad r2)), (3, .int a3), (4, .int a4)]) C dX2_add_4 (by decide) rfl ?_
  refine m_iload C dX2_add_6 0 rfl ?_
  refine m_iconst (v := (-1)) C dX2_add_8 (by decide) ?_
  refine m_icmp_ne (tgt := 14) C dX2_add_9 (by decide) (fun c3 => ?_) (fun c3 => ?_)
  · have h := h.2 c3
    refine m_aload_n C dX2_add_14 rfl 1 rfl ?_
    refine m_iload C dX2_add_15 0 rfl ?_
    obtain ⟨kN, ekN, hk1, hk2, hk3, hk4, k8, k9, h⟩ := h
    have hM := s_makeRoomFor l D cy ad ln v2 ou kN hk1 hk2 hk3 hk4
    rw [← ekN] at hM
    refine m_callV C hM (cwV 1 C.2.2.2.2.1 gX2_add_X2_makeRoomFor rfl rfl rfl (by decide +kernel) ⟨Nat.le_of_ble_eq_true rfl, Nat.le_of_ble_eq_true rfl⟩) 2 gp_2 rfl rfl rfl (Nat.le_of_ble_eq_true rfl) dX2_add_17 ⟨k8, k9⟩ (fun r w1 h1 => ?_)
    obtain ⟨rfl, q7, rfl⟩ := h1
    obtain ⟨ad6, ead6⟩ : ∃ z : Nat → Nat, z = va_up ad 13 q7 := ⟨_, rfl⟩
    obtain ⟨ln4, eln4⟩ : ∃ z : Nat → Nat, z = va_up ln 13 (mrL ln x1) := ⟨_, rfl⟩
    obtain ⟨v5, ev5⟩ : ∃ z : gV, z = mrV ln v2 x1 := ⟨_, rfl⟩
    rw [← ead6, ← eln4, ← ev5]
    have h := h ln4 v5 eln4 ev5
    refine mW.eq (lv' := [(5, .int x1), (0, .ref (ad6 2)), (1, .int a1), (2, .ref (ad6 r2)), (3, .int a3), (4, .int a4)]) (st' := []) rfl (by first | rfl | (rw [ead6]; first | rfl | (simp only [va_up_ne _ _ hr2n]; rfl))) (by first | rfl | (rw [ead6]; first | rfl | (simp only [va_up_ne _ _ hr2n]; rfl))) rfl ?_
    refine m_aload_n C dX2_add_20 rfl 3 rfl ?_
    refine m_iload_n C dX2_add_21 rfl 4 rfl ?_
    refine m_aload_n C dX2_add_22 rfl 1 rfl ?_
    refine m_get (T := TX2) (N := 9) C hiX2_add_X2 2 gp_2 rfl 5 (by decide) (by decide +kernel) rfl dX2_add_23 ?_
    refine m_iload C dX2_add_26 0 rfl ?_
    refine m_bipush (v := 64) C dX2_add_28 (by decide) ?_
    refine m_imul C dX2_add_30 ?_
    refine m_iload C dX2_add_31 5 rfl ?_
    obtain ⟨b11, h⟩ := h
    obtain ⟨b12, h⟩ := h
    obtain ⟨b13, h⟩ := h
    obtain ⟨b14, h⟩ := h
    obtain ⟨b15, h⟩ := h
    obtain ⟨b16, h⟩ := h
    obtain ⟨v10, ev10⟩ : ∃ z : gV, z = va_up v5 13 (va_cpy (v5 r2) (v5 13) a3.toNatClampNeg (x1 * 64).toNatClampNeg a4.toNatClampNeg) := ⟨_, rfl⟩
    have h := h v10 ev10
    refine m_copy (w' := gW cy ad6 ln4 v10 ou) C (by decide +kernel) (by decide +kernel) (by decide +kernel) (by decide +kernel) r2 13 1 1 (gp_B hr2) (gp_B (by decide)) rfl rfl rfl b11 b12 b13 b14 b15 b16 (Nat.le_of_ble_eq_true rfl) (Nat.le_of_ble_eq_true rfl) dX2_add_33 (by rw [ev10]; exact gs_B (by decide)) ?_
    refine m_aload_n C dX2_add_36 rfl 1 rfl ?_
    refine m_get (T := TX2) (N := 9) C hiX2_add_X2 2 gp_2 rfl 0 (by decide) (by decide +kernel) rfl dX2_add_37 ?_
    refine m_iload C dX2_add_40 0 rfl ?_
    refine m_iconst (v := 1) C dX2_add_42 (by decide) ?_
    obtain ⟨b17, h⟩ := h
    obtain ⟨v18, ev18⟩ : ∃ z : gV, z = va_up v10 8 (upd (v10 8) x1.toNatClampNeg 1) := ⟨_, rfl⟩
    have h := h v18 ev18
    refine m_iast (w' := gW cy ad6 ln4 v18 ou) C 8 (gp_I (by decide)) b17 dX2_add_43 (by rw [ev18]; exact gs_I (by decide)) ?_
    refine m_aload_n C dX2_add_44 rfl 1 rfl ?_
    refine m_get (T := TX2) (N := 9) C hiX2_add_X2 2 gp_2 rfl 1 (by decide) (by decide +kernel) rfl dX2_add_45 ?_
    refine m_iload C dX2_add_48 0 rfl ?_
    refine m_iload C dX2_add_50 5 rfl ?_
    obtain ⟨b19, h⟩ := h
    obtain ⟨v20, ev20⟩ : ∃ z : gV, z = va_up v18 9 (upd (v18 9) x1.toNatClampNeg a4) := ⟨_, rfl⟩
    have h := h v20 ev20
    refine m_iast (w' := gW cy ad6 ln4 v20 ou) C 9 (gp_I (by decide)) b19 dX2_add_52 (by rw [ev20]; exact gs_I (by decide)) ?_
    refine m_aload_n C dX2_add_53 rfl 1 rfl ?_
    refine m_get (T := TX2) (N := 9) C hiX2_add_X2 2 gp_2 rfl 2 (by decide) (by decide +kernel) rfl dX2_add_54 ?_
    refine m_iload C dX2_add_57 0 rfl ?_
    refine m_iload_n C dX2_add_59 rfl 2 rfl ?_
    obtain ⟨b21, h⟩ := h
    obtain ⟨v22, ev22⟩ : ∃ z : gV, z = va_up v20 10 (upd (v20 10) x1.toNatClampNeg a1) := ⟨_, rfl⟩
    have h := h v22 ev22
    refine m_iast (w' := gW cy ad6 ln4 v22 ou) C 10 (gp_I (by decide)) b21 dX2_add_60 (by rw [ev22]; exact gs_I (by decide)) ?_
    refine m_aload_n C dX2_add_61 rfl 1 rfl ?_
    refine m_get (T := TX2) (N := 9) C hiX2_add_X2 2 gp_2 rfl 3 (by decide) (by decide +kernel) rfl dX2_add_62 ?_
    refine m_iload C dX2_add_65 0 rfl ?_
    refine m_aload_n C dX2_add_67 rfl 1 rfl ?_
    refine m_get (T := TX2) (N := 9) C hiX2_add_X2 2 gp_2 rfl 4 (by decide) (by decide +kernel) rfl dX2_add_68 ?_
    refine m_iload_n C dX2_add_71 rfl 2 rfl ?_
    refine m_sipush (v := 511) C dX2_add_72 (by decide) ?_
    refine m_iand C dX2_add_75 ?_
    obtain ⟨b23, h⟩ := h
    refine m_iald C 12 (gp_I (by decide)) b23 dX2_add_76 ?_
    obtain ⟨b24, h⟩ := h
    obtain ⟨v25, ev25⟩ : ∃ z : gV, z = va_up v22 11 (upd (v22 11) x1.toNatClampNeg (v22 12 (a1 &&& 511).toNatClampNeg)) := ⟨_, rfl⟩
    have h := h v25 ev25
    refine m_iast (w' := gW cy ad6 ln4 v25 ou) C 11 (gp_I (by decide)) b24 dX2_add_77 (by rw [ev25]; exact gs_I (by decide)) ?_
    refine m_aload_n C dX2_add_78 rfl 1 rfl ?_
    refine m_get (T := TX2) (N := 9) C hiX2_add_X2 2 gp_2 rfl 4 (by decide) (by decide +kernel) rfl dX2_add_79 ?_
    refine m_iload_n C dX2_add_82 rfl 2 rfl ?_
    refine m_sipush (v := 511) C dX2_add_83 (by decide) ?_
    refine m_iand C dX2_add_86 ?_
    refine m_iload C dX2_add_87 0 rfl ?_
    obtain ⟨b26, h⟩ := h
    obtain ⟨v27, ev27⟩ : ∃ z : gV, z = va_up v25 12 (upd (v25 12) (a1 &&& 511).toNatClampNeg x1) := ⟨_, rfl⟩
    have h := h v27 ev27
    refine m_iast (w' := gW cy ad6 ln4 v27 ou) C 12 (gp_I (by decide)) b26 dX2_add_89 (by rw [ev27]; exact gs_I (by decide)) ?_
    refine m_aload_n C dX2_add_90 rfl 1 rfl ?_
    refine m_dup C dX2_add_91 rfl ?_
    refine m_get (T := TX2) (N := 9) C hiX2_add_X2 2 gp_2 rfl 7 (by decide) (by decide +kernel) rfl dX2_add_92 ?_
    refine m_iconst (v := 1) C dX2_add_95 (by decide) ?_
    refine m_iadd C dX2_add_96 ?_
    obtain ⟨v28, ev28⟩ : ∃ z : gV, z = va_up v27 2 (upd (v27 2) 7 ((v27 2 7) + 1)) := ⟨_, rfl⟩
    have h := h v28 ev28
    refine m_put (w' := gW cy ad6 ln4 v28 ou) (T := TX2) (N := 9) C hiX2_add_X2 tyX2 tyX2_ok nmX2 2 gp_2 rfl 7 (by decide) (by decide +kernel) rfl rfl rfl (Nat.le_of_ble_eq_true rfl) dX2_add_97 (by rw [ev28]; exact gW_set (k := 2) (by decide) rfl) ?_
    refine m_aload_n C dX2_add_100 rfl 1 rfl ?_
    refine m_dup C dX2_add_101 rfl ?_
    refine m_get (T := TX2) (N := 9) C hiX2_add_X2 2 gp_2 rfl 8 (by decide) (by decide +kernel) rfl dX2_add_102 ?_
    refine m_iload C dX2_add_105 5 rfl ?_
    refine m_iadd C dX2_add_107 ?_
    obtain ⟨v29, ev29⟩ : ∃ z : gV, z = va_up v28 2 (upd (v28 2) 8 ((v28 2 8) + a4)) := ⟨_, rfl⟩
    have h := h v29 ev29
    refine m_put (w' := gW cy ad6 ln4 v29 ou) (T := TX2) (N := 9) C hiX2_add_X2 tyX2 tyX2_ok nmX2 2 gp_2 rfl 8 (by decide) (by decide +kernel) rfl rfl rfl (Nat.le_of_ble_eq_true rfl) dX2_add_108 (by rw [ev29]; exact gW_set (k := 2) (by decide) rfl) ?_
    refine m_iload C dX2_add_111 0 rfl ?_
    exact m_iret C dX2_add_113 k8 k9 ⟨_, _, _, _, rfl, h, by rw [ead6]⟩
  · have h := h.1 c3
    refine m_iconst (v := (-1)) C dX2_add_12 (by decide) ?_
    exact m_iret C dX2_add_13 (Nat.zero_le _) (Nat.zero_le _) ⟨_, ad 13, _, _, rfl, h, by rw [va_up_id]⟩
def wp_X2_take (mc ms : Nat) (ln : Nat → Nat) (v : gV) (r1 : Nat) (a2 : Int32) (a3 : Int32) (post : Int32 → (Nat → Nat) → gV → Prop) : Prop :=
  wp_X2_hashOf ln v r1 a2 a3 (fun (x1 : Int32) (v2 : gV) => (wp_X2_find ln v2 x1 r1 a2 (a3 - a2) (fun (x3 : Int32) (v4 : gV) => (((x3 = (-1)) → (∃ (mc14 ms15 : Nat), 0 + mc14 ≤ mc ∧ 0 + ms15 ≤ ms ∧ wp_X2_add mc14 ms15 ln v4 x1 r1 a2 (a3 - a2) (fun (x16 : Int32) (ln8 : Nat → Nat) (v9 : gV) => (post x16 ln8 v9)))) ∧ (¬ (x3 = (-1)) → (wp_X2_useAgain ln v4 x3 (fun (v7 : gV) => (post x3 ln v7))))))))
set_option maxHeartbeats 4000000 in
set_option maxRecDepth 100000 in
theorem s_X2_take (l : Launch) (D : va_G) (cy : Nat → ClassId) (ad ln : Nat → Nat) (v : gV) (ou : Nat → Int64) (mc ms : Nat) (r1 : Nat) (a2 : Int32) (a3 : Int32) (hr1 : gBs r1 = true) (hr1n : r1 ≠ 13) {post : Int32 → (Nat → Nat) → gV → Prop} (h : wp_X2_take mc ms ln v r1 a2 a3 post) : mM l D cy yX2_take wsX2_take 5 mc ms [.ref (ad 2), .ref (ad r1), .int a2, .int a3] (gW cy ad ln v ou) (fun r w1 => ∃ (x1 : Int32) (q1 : Nat) (ln1 : Nat → Nat) (v1 : gV), r = some (.int x1) ∧ post x1 ln1 v1 ∧ w1 = gW cy (va_up ad 13 q1) ln1 v1 ou) := by
  unfold wp_X2_take at h
  refine mM.of (cc := cX2_take) (nL := 6) (ret0 := (some .int)) (by decide +kernel) rfl (Nat.le_of_ble_eq_true rfl) ?_
  intro p e s m args below meth c A C hini
  refine mW.sub (lv' := [(0, .ref (ad 2)), (1, .ref (ad r1)), (2, .int a2), (3, .int a3)]) [0, 1, 2, 3] rfl ?_
  refine m_aload_n C dX2_take_0 rfl 1 rfl ?_
  refine m_iload_n C dX2_take_1 rfl 2 rfl ?_
  refine m_iload_n C dX2_take_2 rfl 3 rfl ?_
  refine m_callS C (s_X2_hashOf l D cy ad ln v ou r1 a2 a3 hr1 h) (va_cwS 3 C.2.2.2.2.1 gX2_take_X2_hashOf rfl rfl rfl (by decide +kernel) ⟨Nat.le_of_ble_eq_true rfl, Nat.le_of_ble_eq_true rfl⟩) rfl rfl (Nat.le_of_ble_eq_true rfl) dX2_take_3 ⟨Nat.zero_le _, Nat.zero_le _⟩ (fun r w1 h1 => ?_)
  obtain ⟨x1, v2, rfl, h, rfl⟩ := h1
  refine mW.eq (st' := [.int x1]) rfl rfl rfl rfl ?_
  refine m_istore (lv' := [(4, .int x1), (0, .ref (ad 2)), (1, .ref (ad r1)), (2, .int a2), (3, .int a3)]) C dX2_take_6 (by decide) rfl ?_
  refine m_aload_n C dX2_take_8 rfl 1 rfl ?_
  refine m_iload C dX2_take_9 0 rfl ?_
  refine m_aload_n C dX2_take_11 rfl 2 rfl ?_
  refine m_iload_n C dX2_take_12 rfl 3 rfl ?_
  refine m_iload_n C dX2_take_13 rfl 4 rfl ?_
  refine m_iload_n C dX2_take_14 rfl 3 rfl ?_
  refine m_isub C dX2_take_15 ?_
  refine m_callV C (s_X2_find l D cy ad ln v2 ou x1 r1 a2 (a3 - a2) hr1 h) (cwV 4 C.2.2.2.2.1 gX2_take_X2_find rfl rfl rfl (by decide +kernel) ⟨Nat.le_of_ble_eq_true rfl, Nat.le_of_ble_eq_true rfl⟩) 2 gp_2 rfl rfl rfl (Nat.le_of_ble_eq_true rfl) dX2_take_16 ⟨Nat.zero_le _, Nat.zero_le _⟩ (fun r w1 h1 => ?_)
  obtain ⟨x3, v4, rfl, h, rfl⟩ := h1
  refine mW.eq (st' := [.int x3]) rfl rfl rfl rfl ?_
  refine m_istore (lv' := [(5, .int x3), (4, .int x1), (0, .ref (ad 2)), (1, .ref (ad r1)), (2, .int a2), (3, .int a3)]) C dX2_take_19 (by decide) rfl ?_
  refine m_iload C dX2_take_21 0 rfl ?_
  refine m_iconst (v := (-1)) C dX2_take_23 (by decide) ?_
  refine m_icmp_ne (tgt := 39) C dX2_take_24 (by decide) (fun c5 => ?_) (fun c5 => ?_)
  · have h := h.2 c5
    refine m_aload_n C dX2_take_39 rfl 2 rfl ?_
    refine m_iload C dX2_take_40 0 rfl ?_
    refine m_callV C (s_X2_useAgain l D cy ad ln v4 ou x3  h) (cwV 1 C.2.2.2.2.1 gX2_take_X2_useAgain rfl rfl rfl (by decide +kernel) ⟨Nat.le_of_ble_eq_true rfl, Nat.le_of_ble_eq_true rfl⟩) 2 gp_2 rfl rfl rfl (Nat.le_of_ble_eq_true rfl) dX2_take_42 ⟨Nat.zero_le _, Nat.zero_le _⟩ (fun r w1 h1 => ?_)
    obtain ⟨v7, rfl, h, rfl⟩ := h1
    refine mW.eq (st' := []) rfl rfl rfl rfl ?_
    refine m_iload C dX2_take_45 0 rfl ?_
    exact m_iret C dX2_take_47 (Nat.zero_le _) (Nat.zero_le _) ⟨_, ad 13, _, _, rfl, h, by rw [va_up_id]⟩
  · have h := h.1 c5
    refine m_aload_n C dX2_take_27 rfl 2 rfl ?_
    refine m_iload C dX2_take_28 1 rfl ?_
    refine m_aload_n C dX2_take_30 rfl 3 rfl ?_
    refine m_iload_n C dX2_take_31 rfl 4 rfl ?_
    refine m_iload_n C dX2_take_32 rfl 5 rfl ?_
    refine m_iload_n C dX2_take_33 rfl 4 rfl ?_
    refine m_isub C dX2_take_34 ?_
    obtain ⟨mc14, ms15, k12, k13, h⟩ := h
    refine m_callV C (s_X2_add l D cy ad ln v4 ou mc14 ms15 x1 r1 a2 (a3 - a2) hr1 hr1n h) (cwV 4 C.2.2.2.2.1 gX2_take_X2_add rfl rfl rfl (by decide +kernel) ⟨Nat.le_of_ble_eq_true rfl, Nat.le_of_ble_eq_true rfl⟩) 2 gp_2 rfl rfl rfl (Nat.le_of_ble_eq_true rfl) dX2_take_35 ⟨k12, k13⟩ (fun r w1 h1 => ?_)
    obtain ⟨x16, q11, ln8, v9, rfl, h, rfl⟩ := h1
    obtain ⟨ad10, ead10⟩ : ∃ z : Nat → Nat, z = va_up ad 13 q11 := ⟨_, rfl⟩
    rw [← ead10]
    refine mW.eq (lv' := [(5, .int x3), (4, .int x1), (0, .ref (ad10 2)), (1, .ref (ad10 r1)), (2, .int a2), (3, .int a3)]) (st' := [.int x16]) rfl (by first | rfl | (rw [ead10]; first | rfl | (simp only [va_up_ne _ _ hr1n]; rfl))) (by first | rfl | (rw [ead10]; first | rfl | (simp only [va_up_ne _ _ hr1n]; rfl))) rfl ?_
    exact m_iret C dX2_take_38 k12 k13 ⟨_, _, _, _, rfl, h, by rw [ead10]⟩
end
section
/-! pure: what the small loops answer -/
def hsN (f : Nat → Int32) (a : Nat) : Nat → Int32
  | 0 => 0
  | n + 1 => hsN f a n * 31 + f (a + n)
def hsh (f : Nat → Int32) (a n : Nat) : Int32 := hsN f a n ^^^ ius (hsN f a n) 9
theorem w_hashOf {ln : Nat → Nat} {v : gV} {r a b : Nat} {post : Int32 → gV → Prop} (hab : a ≤ b) (hb : b ≤ ln r) (hl : ln r < 2 ^ 31) (h : post (hsh (v r) a (b - a)) v) : wp_X2_hashOf ln v r (nI a) (nI b) post := by
  unfold wp_X2_hashOf
  refine ⟨fun n x1 x2 => ∃ i, i ≤ b - a ∧ n = b - a - i ∧ x2 = nI (a + i) ∧ x1 = hsN (v r) a i, ⟨b - a, 0, Nat.zero_le _, rfl, rfl, rfl⟩, ?_⟩
  rintro n x1 x2 ⟨i, hi, rfl, rfl, rfl⟩
  refine ⟨fun hc => ?_, fun hc => ?_⟩
  · have hc := (nI_leI (by omega) (by omega)).mp hc
    have : i = b - a := by omega
    subst this
    exact h
  · have hc : ¬ b ≤ a + i := fun q => hc ((nI_leI (by omega) (by omega)).mpr q)
    refine ⟨vp_in_nI (by omega) hl, ?_⟩
    intro x5 e5
    refine ⟨b - a - (i + 1), by omega, i + 1, by omega, rfl, ?_, ?_⟩
    · rw [nI_1]; rfl
    · rw [e5, nI_clamp (by omega)]; rfl
/-- has a row the number x among its first n places from base on -/
def hasL (g : Nat → Int32) (base : Nat) (x : Int32) : Nat → Int32
  | 0 => 0
  | n + 1 => if hasL g base x n = 0 then (if g (base + n) = x then 1 else 0) else 1
theorem hasL_nz (g : Nat → Int32) (base : Nat) (x : Int32) (n : Nat) : narrow .boolean (.int (hasL g base x n)) = .int (hasL g base x n) := by
  cases n with
  | zero => exact nz0
  | succ n => exact nz_if (nz_if nz1 nz0) nz1
theorem hasL_iff (g : Nat → Int32) (base : Nat) (x : Int32) (n : Nat) : hasL g base x n = 0 ↔ ∀ k, k < n → g (base + k) ≠ x := by
  induction n with
  | zero => simp [hasL]
  | succ n ih =>
    unfold hasL
    by_cases h0 : hasL g base x n = 0
    · rw [if_pos h0]
      have h1 := ih.mp h0
      by_cases h2 : g (base + n) = x
      · rw [if_pos h2]
        constructor
        · intro h; exact absurd h (by decide)
        · intro h; exact absurd h2 (h n (by omega))
      · rw [if_neg h2]
        refine ⟨fun _ k hk => ?_, fun _ => rfl⟩
        rcases Nat.lt_or_ge k n with hkn | hkn
        · exact h1 k hkn
        · have : k = n := by omega
          rw [this]; exact h2
    · rw [if_neg h0]
      constructor
      · intro h; exact absurd h (by decide)
      · intro h; exact absurd (ih.mpr (fun k hk => h k (by omega))) h0
theorem w_X4_has {ln : Nat → Nat} {v : gV} {f c : Nat} {x : Int32} {post : Int32 → gV → Prop} (hf : f < 16) (h54 : ln 54 = 16) (hc : v 54 f = nI c) (hc2 : c ≤ 1500) (h55 : ln 55 = 24000) (h : post (hasL (v 55) (1500 * f) x c) v) : wp_X4_has ln v (nI f) x post := by
  unfold wp_X4_has
  have ef : (nI f).toNatClampNeg = f := nI_clamp (by omega)
  refine ⟨fun n x1 x2 => ∃ i, i ≤ c ∧ n = c - i ∧ x2 = nI i ∧ x1 = hasL (v 55) (1500 * f) x i, ⟨c, 0, Nat.zero_le _, rfl, rfl, rfl⟩, ?_⟩
  rintro n x1 x2 ⟨i, hi, rfl, rfl, rfl⟩
  rw [ef, hc, h54, h55]
  have ei : (1500 : Int32) * nI f + nI i = nI (1500 * f + i) := by
    rw [show (1500 : Int32) = nI 1500 from rfl, pk_mul, nI_add]
  rw [ei, nI_clamp (show 1500 * f + i < 2 ^ 31 by omega)]
  refine ⟨vp_in_nI hf (by decide), fun hq => ?_, fun hq => ?_⟩
  · have hq := (nI_leI (by omega) (by omega)).mp hq
    have : i = c := by omega
    subst this
    exact ⟨hasL_nz _ _ _ _, h⟩
  · have hq : ¬ c ≤ i := fun q => hq ((nI_leI (by omega) (by omega)).mpr q)
    refine ⟨fun _ => vp_in_nI (by omega) (by decide), ?_⟩
    intro x9 e9
    exact ⟨c - (i + 1), by omega, i + 1, by omega, rfl, nI_1 i, e9⟩
theorem w_X0_hasNumber {ln : Nat → Nat} {v : gV} {P c : Nat} {x : Int32} {post : Int32 → gV → Prop} (hc : v P 1 = nI c) (hc2 : c ≤ ln (P + 16)) (hl : ln (P + 16) < 2 ^ 31) (h : post (hasL (v (P + 16)) 0 x c) v) : wp_X0_hasNumber ln v P x post := by
  unfold wp_X0_hasNumber
  refine ⟨fun n x1 => ∃ i, i ≤ c ∧ n = c - i ∧ x1 = nI i ∧ hasL (v (P + 16)) 0 x i = 0, ⟨c, 0, Nat.zero_le _, rfl, rfl, rfl⟩, ?_⟩
  rintro n x1 ⟨i, hi, rfl, rfl, h0⟩
  rw [hc, nI_clamp (show i < 2 ^ 31 by omega)]
  refine ⟨fun hq => ?_, fun hq => ?_⟩
  · have hq := (nI_leI (by omega) (by omega)).mp hq
    have : i = c := by omega
    subst this
    rw [h0] at h
    exact ⟨nz0, h⟩
  · have hq : ¬ c ≤ i := fun q => hq ((nI_leI (by omega) (by omega)).mpr q)
    refine ⟨vp_in_nI (by omega) hl, fun he => ?_, fun he => ?_⟩
    · have : hasL (v (P + 16)) 0 x c = 1 := by
        have hnz : ¬ hasL (v (P + 16)) 0 x c = 0 := fun q => (hasL_iff _ _ _ _).mp q i (by omega) (by rw [Nat.zero_add]; exact he)
        cases c with
        | zero => exact absurd (Nat.zero_le i) hq
        | succ c =>
          unfold hasL at hnz ⊢
          split
          · rename_i h1
            rw [if_pos h1] at hnz
            split
            · rfl
            · rename_i h2
              rw [if_neg h2] at hnz
              exact absurd rfl hnz
          · rfl
      rw [this] at h
      exact ⟨nz1, h⟩
    · refine ⟨c - (i + 1), by omega, i + 1, by omega, rfl, nI_1 i, ?_⟩
      unfold hasL
      rw [if_pos h0, Nat.zero_add, if_neg he]
end
