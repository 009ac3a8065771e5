section
-- ===== PART A: goes FIRST, ahead of the names: the tables' words, and 'selects' of the private methods out of them =====
/-- a private method of a class that the tables say can be made, by its rows of tables_1 -/
def lw_okq (q : MethodName × Nat) : Prop := (q.1.cls ≠ "java/lang/invoke/MethodHandle" ∧ q.1.cls ≠ "java/lang/invoke/VarHandle") ∧ Cond.instantiable q.1.cls q.2 ∈ tables_1 ∧ Cond.privateMethod q.1 ∈ tables_1 ∧ Cond.instanceMethod q.1 ∈ tables_1
theorem lw_p0 : lw_okq (⟨"java/lang/Throwable", "fillInStackTrace", "(I)Ljava/lang/Throwable;"⟩, 6) := ⟨⟨by decide +kernel, by decide +kernel⟩, List.mem_of_getElem? (i := 174) (by decide +kernel), List.mem_of_getElem? (i := 172) (by decide +kernel), List.mem_of_getElem? (i := 173) (by decide +kernel)⟩
theorem lw_p1 : lw_okq (⟨"CutYard", "fileAt", "(I)LCutYard$Content;"⟩, 8) := ⟨⟨by decide +kernel, by decide +kernel⟩, List.mem_of_getElem? (i := 17) (by decide +kernel), List.mem_of_getElem? (i := 250) (by decide +kernel), List.mem_of_getElem? (i := 251) (by decide +kernel)⟩
theorem lw_p2 : lw_okq (⟨"CutYard", "fillFile", "(LCutYard$Content;[BI)I"⟩, 8) := ⟨⟨by decide +kernel, by decide +kernel⟩, List.mem_of_getElem? (i := 17) (by decide +kernel), List.mem_of_getElem? (i := 270) (by decide +kernel), List.mem_of_getElem? (i := 271) (by decide +kernel)⟩
theorem lw_p3 : lw_okq (⟨"CutYard", "takeParts", "([BI)I"⟩, 8) := ⟨⟨by decide +kernel, by decide +kernel⟩, List.mem_of_getElem? (i := 17) (by decide +kernel), List.mem_of_getElem? (i := 274) (by decide +kernel), List.mem_of_getElem? (i := 275) (by decide +kernel)⟩
theorem lw_p4 : lw_okq (⟨"CutYard$Stock", "find", "(I[BII)I"⟩, 9) := ⟨⟨by decide +kernel, by decide +kernel⟩, List.mem_of_getElem? (i := 41) (by decide +kernel), List.mem_of_getElem? (i := 299) (by decide +kernel), List.mem_of_getElem? (i := 300) (by decide +kernel)⟩
theorem lw_p5 : lw_okq (⟨"CutYard$Stock", "sameBytes", "(I[BI)Z"⟩, 9) := ⟨⟨by decide +kernel, by decide +kernel⟩, List.mem_of_getElem? (i := 41) (by decide +kernel), List.mem_of_getElem? (i := 307) (by decide +kernel), List.mem_of_getElem? (i := 308) (by decide +kernel)⟩
theorem lw_p6 : lw_okq (⟨"CutYard$Stock", "add", "(I[BII)I"⟩, 9) := ⟨⟨by decide +kernel, by decide +kernel⟩, List.mem_of_getElem? (i := 41) (by decide +kernel), List.mem_of_getElem? (i := 311) (by decide +kernel), List.mem_of_getElem? (i := 312) (by decide +kernel)⟩
theorem lw_p7 : lw_okq (⟨"CutYard$Stock", "leastFree", "()I"⟩, 9) := ⟨⟨by decide +kernel, by decide +kernel⟩, List.mem_of_getElem? (i := 41) (by decide +kernel), List.mem_of_getElem? (i := 315) (by decide +kernel), List.mem_of_getElem? (i := 316) (by decide +kernel)⟩
theorem lw_p8 : lw_okq (⟨"CutYard$Stock", "makeRoomFor", "(I)V"⟩, 9) := ⟨⟨by decide +kernel, by decide +kernel⟩, List.mem_of_getElem? (i := 41) (by decide +kernel), List.mem_of_getElem? (i := 319) (by decide +kernel), List.mem_of_getElem? (i := 320) (by decide +kernel)⟩
theorem lw_p9 : lw_okq (⟨"CutYard", "giveBack", "([II)V"⟩, 8) := ⟨⟨by decide +kernel, by decide +kernel⟩, List.mem_of_getElem? (i := 17) (by decide +kernel), List.mem_of_getElem? (i := 346) (by decide +kernel), List.mem_of_getElem? (i := 347) (by decide +kernel)⟩
theorem lw_p10 : lw_okq (⟨"CutYard$Stock", "unchain", "(I)V"⟩, 9) := ⟨⟨by decide +kernel, by decide +kernel⟩, List.mem_of_getElem? (i := 41) (by decide +kernel), List.mem_of_getElem? (i := 354) (by decide +kernel), List.mem_of_getElem? (i := 355) (by decide +kernel)⟩
theorem lw_p11 : lw_okq (⟨"CutYard", "layOut", "(LCutYard$Content;)V"⟩, 8) := ⟨⟨by decide +kernel, by decide +kernel⟩, List.mem_of_getElem? (i := 17) (by decide +kernel), List.mem_of_getElem? (i := 375) (by decide +kernel), List.mem_of_getElem? (i := 376) (by decide +kernel)⟩
theorem lw_p12 : lw_okq (⟨"CutYard", "filesWith", "(I)I"⟩, 8) := ⟨⟨by decide +kernel, by decide +kernel⟩, List.mem_of_getElem? (i := 17) (by decide +kernel), List.mem_of_getElem? (i := 459) (by decide +kernel), List.mem_of_getElem? (i := 460) (by decide +kernel)⟩
theorem lw_p13 : lw_okq (⟨"CutYardModel", "refuse", "(ZZZ)Z"⟩, 19) := ⟨⟨by decide +kernel, by decide +kernel⟩, List.mem_of_getElem? (i := 483) (by decide +kernel), List.mem_of_getElem? (i := 559) (by decide +kernel), List.mem_of_getElem? (i := 560) (by decide +kernel)⟩
theorem lw_p14 : lw_okq (⟨"CutYardModel", "give", "()I"⟩, 19) := ⟨⟨by decide +kernel, by decide +kernel⟩, List.mem_of_getElem? (i := 483) (by decide +kernel), List.mem_of_getElem? (i := 574) (by decide +kernel), List.mem_of_getElem? (i := 575) (by decide +kernel)⟩
theorem lw_p15 : lw_okq (⟨"CutYardModel", "cut", "()V"⟩, 19) := ⟨⟨by decide +kernel, by decide +kernel⟩, List.mem_of_getElem? (i := 483) (by decide +kernel), List.mem_of_getElem? (i := 578) (by decide +kernel), List.mem_of_getElem? (i := 579) (by decide +kernel)⟩
def lw_privs_1 : List (MethodName × Nat) := [(⟨"java/lang/Throwable", "fillInStackTrace", "(I)Ljava/lang/Throwable;"⟩, 6), (⟨"CutYard", "fileAt", "(I)LCutYard$Content;"⟩, 8), (⟨"CutYard", "fillFile", "(LCutYard$Content;[BI)I"⟩, 8), (⟨"CutYard", "takeParts", "([BI)I"⟩, 8), (⟨"CutYard$Stock", "find", "(I[BII)I"⟩, 9), (⟨"CutYard$Stock", "sameBytes", "(I[BI)Z"⟩, 9), (⟨"CutYard$Stock", "add", "(I[BII)I"⟩, 9), (⟨"CutYard$Stock", "leastFree", "()I"⟩, 9), (⟨"CutYard$Stock", "makeRoomFor", "(I)V"⟩, 9), (⟨"CutYard", "giveBack", "([II)V"⟩, 8), (⟨"CutYard$Stock", "unchain", "(I)V"⟩, 9), (⟨"CutYard", "layOut", "(LCutYard$Content;)V"⟩, 8), (⟨"CutYard", "filesWith", "(I)I"⟩, 8), (⟨"CutYardModel", "refuse", "(ZZZ)Z"⟩, 19), (⟨"CutYardModel", "give", "()I"⟩, 19), (⟨"CutYardModel", "cut", "()V"⟩, 19)]
theorem lw_r1 : ∀ q ∈ lw_privs_1, lw_okq q := List.forall_mem_cons.mpr ⟨lw_p0, List.forall_mem_cons.mpr ⟨lw_p1, List.forall_mem_cons.mpr ⟨lw_p2, List.forall_mem_cons.mpr ⟨lw_p3, List.forall_mem_cons.mpr ⟨lw_p4, List.forall_mem_cons.mpr ⟨lw_p5, List.forall_mem_cons.mpr ⟨lw_p6, List.forall_mem_cons.mpr ⟨lw_p7, List.forall_mem_cons.mpr ⟨lw_p8, List.forall_mem_cons.mpr ⟨lw_p9, List.forall_mem_cons.mpr ⟨lw_p10, List.forall_mem_cons.mpr ⟨lw_p11, List.forall_mem_cons.mpr ⟨lw_p12, List.forall_mem_cons.mpr ⟨lw_p13, List.forall_mem_cons.mpr ⟨lw_p14, List.forall_mem_cons.mpr ⟨lw_p15, fun _ h => absurd h List.not_mem_nil⟩⟩⟩⟩⟩⟩⟩⟩⟩⟩⟩⟩⟩⟩⟩⟩
theorem lw_p16 : lw_okq (⟨"CutYardModel", "sum", "(II)I"⟩, 19) := ⟨⟨by decide +kernel, by decide +kernel⟩, List.mem_of_getElem? (i := 483) (by decide +kernel), List.mem_of_getElem? (i := 582) (by decide +kernel), List.mem_of_getElem? (i := 583) (by decide +kernel)⟩
theorem lw_p17 : lw_okq (⟨"CutYardModel", "beginOf", "(I)I"⟩, 19) := ⟨⟨by decide +kernel, by decide +kernel⟩, List.mem_of_getElem? (i := 483) (by decide +kernel), List.mem_of_getElem? (i := 590) (by decide +kernel), List.mem_of_getElem? (i := 591) (by decide +kernel)⟩
theorem lw_p18 : lw_okq (⟨"CutYardModel", "numberOf", "(II)I"⟩, 19) := ⟨⟨by decide +kernel, by decide +kernel⟩, List.mem_of_getElem? (i := 483) (by decide +kernel), List.mem_of_getElem? (i := 594) (by decide +kernel), List.mem_of_getElem? (i := 595) (by decide +kernel)⟩
theorem lw_p19 : lw_okq (⟨"CutYardModel", "isPart", "(III)Z"⟩, 19) := ⟨⟨by decide +kernel, by decide +kernel⟩, List.mem_of_getElem? (i := 483) (by decide +kernel), List.mem_of_getElem? (i := 598) (by decide +kernel), List.mem_of_getElem? (i := 599) (by decide +kernel)⟩
theorem lw_p20 : lw_okq (⟨"CutYardModel", "take", "(I)V"⟩, 19) := ⟨⟨by decide +kernel, by decide +kernel⟩, List.mem_of_getElem? (i := 483) (by decide +kernel), List.mem_of_getElem? (i := 602) (by decide +kernel), List.mem_of_getElem? (i := 603) (by decide +kernel)⟩
theorem lw_p21 : lw_okq (⟨"CutYardModel", "has", "(II)Z"⟩, 19) := ⟨⟨by decide +kernel, by decide +kernel⟩, List.mem_of_getElem? (i := 483) (by decide +kernel), List.mem_of_getElem? (i := 634) (by decide +kernel), List.mem_of_getElem? (i := 635) (by decide +kernel)⟩
def lw_privs_2 : List (MethodName × Nat) := [(⟨"CutYardModel", "sum", "(II)I"⟩, 19), (⟨"CutYardModel", "beginOf", "(I)I"⟩, 19), (⟨"CutYardModel", "numberOf", "(II)I"⟩, 19), (⟨"CutYardModel", "isPart", "(III)Z"⟩, 19), (⟨"CutYardModel", "take", "(I)V"⟩, 19), (⟨"CutYardModel", "has", "(II)Z"⟩, 19)]
theorem lw_r2 : ∀ q ∈ lw_privs_2, lw_okq q := List.forall_mem_cons.mpr ⟨lw_p16, List.forall_mem_cons.mpr ⟨lw_p17, List.forall_mem_cons.mpr ⟨lw_p18, List.forall_mem_cons.mpr ⟨lw_p19, List.forall_mem_cons.mpr ⟨lw_p20, List.forall_mem_cons.mpr ⟨lw_p21, fun _ h => absurd h List.not_mem_nil⟩⟩⟩⟩⟩⟩
def lw_privs : List (MethodName × Nat) := lw_privs_1 ++ (lw_privs_2)
def lw_tbl : List Cond := k2_sels lw_privs ++ tables_1
theorem lw_privs_ok : ∀ q ∈ lw_privs, lw_okq q := by
  show ∀ q ∈ lw_privs_1 ++ (lw_privs_2), lw_okq q
  exact List.forall_mem_append.mpr ⟨lw_r1, lw_r2⟩
end
section
/-! ===== BEGIN words of one list among another's, by their places ===== -/
theorem goodIn_r {big : List Cond} (ws : List Cond) (ps : List Nat) (hp : ws = ps.filterMap (fun i => big[i]?)) (h : ws.all goodWord = true) : GoodIn big ws := by
  intro w hw
  have h1 := List.all_eq_true.mp h w hw
  rw [hp] at hw
  obtain ⟨i, -, hi⟩ := List.mem_filterMap.mp hw
  have hm : w ∈ big := by first | exact List.mem_of_getElem? hi | exact List.getElem?_mem hi
  exact ⟨hm, good_of_word h1⟩
theorem goodIn_app {big a b : List Cond} (ha : GoodIn big a) (hb : GoodIn big b) : GoodIn big (a ++ b) := fun w h => (List.mem_append.mp h).elim (ha w) (hb w)
theorem goodIn_ca {big a b : List Cond} {c : Cond} (ha : GoodIn big (c :: a)) (hb : GoodIn big b) : GoodIn big (c :: (a ++ b)) := fun w h => (List.mem_cons.mp h).elim (fun e => ha w (List.mem_cons.mpr (Or.inl e))) (fun h => (List.mem_append.mp h).elim (fun h => ha w (List.mem_cons.mpr (Or.inr h))) (hb w))
theorem goodIn_sub {big ws : List Cond} (hm : ∀ w ∈ ws, w ∈ big) (h : ws.all goodWord = true) : GoodIn big ws := fun w hw => ⟨hm w hw, good_of_word (List.all_eq_true.mp h w hw)⟩
/-! ===== END ===== -/
end
section
def RX0 : String := "CutYard$Content"
def TX0 : u_T := fun k => match k with
  | 0 => ("CutYard$Content", "numbers", "[I", false)
  | 1 => ("CutYard$Content", "count", "I", false)
  | _ => ("CutYard$Content", "bytes", "I", false)
def tyX0 : Nat → FieldType := fun k => match k with
  | 0 => .array .int
  | 1 => .int
  | _ => .int
abbrev wsX00 : List Cond := u_ws RX0 TX0 3
theorem nmX0 : ∀ a, a < 3 → ∀ b, b < 3 → a ≠ b → (TX0 a).2.1 ≠ (TX0 b).2.1 := by decide +kernel
theorem tyX0_ok : ∀ k, k < 3 → parseFieldDescriptor (TX0 k).2.2.1 = some (tyX0 k) := by decide +kernel
abbrev cX0_init : ByteArray := prog_2_method_1_code
def yX0_init : MethodName := ⟨RX0, "<init>", "()V"⟩
abbrev cX0_empty : ByteArray := prog_2_method_2_code
def yX0_empty : MethodName := ⟨RX0, "empty", "()V"⟩
abbrev cX0_become : ByteArray := prog_2_method_3_code
def yX0_become : MethodName := ⟨RX0, "become", "([III)V"⟩
abbrev cX0_hasNumber : ByteArray := prog_2_method_4_code
def yX0_hasNumber : MethodName := ⟨RX0, "hasNumber", "(I)Z"⟩
def RX1 : String := "CutYard$Cutter"
def TX1 : u_T := fun k => match k with
  | 0 => ("CutYard$Cutter", "mask", "I", false)
  | 1 => ("CutYard$Cutter", "least", "I", false)
  | _ => ("CutYard$Cutter", "most", "I", false)
def tyX1 : Nat → FieldType := fun k => match k with
  | 0 => .int
  | 1 => .int
  | _ => .int
abbrev wsX10 : List Cond := u_ws RX1 TX1 3
theorem nmX1 : ∀ a, a < 3 → ∀ b, b < 3 → a ≠ b → (TX1 a).2.1 ≠ (TX1 b).2.1 := by decide +kernel
theorem tyX1_ok : ∀ k, k < 3 → parseFieldDescriptor (TX1 k).2.2.1 = some (tyX1 k) := by decide +kernel
abbrev cX1_init : ByteArray := prog_3_method_1_code
def yX1_init : MethodName := ⟨RX1, "<init>", "()V"⟩
abbrev cX1_setRule : ByteArray := prog_3_method_2_code
def yX1_setRule : MethodName := ⟨RX1, "setRule", "(III)V"⟩
abbrev cX1_endOfPart : ByteArray := prog_3_method_3_code
def yX1_endOfPart : MethodName := ⟨RX1, "endOfPart", "([BII)I"⟩
abbrev cX1_mark : ByteArray := prog_3_method_4_code
def yX1_mark : MethodName := ⟨RX1, "mark", "(B)I"⟩
abbrev cX1_turned : ByteArray := prog_3_method_5_code
def yX1_turned : MethodName := ⟨RX1, "turned", "(II)I"⟩
def RX2 : String := "CutYard$Stock"
def TX2 : u_T := fun k => match k with
  | 0 => ("CutYard$Stock", "uses", "[I", true)
  | 1 => ("CutYard$Stock", "lengths", "[I", true)
  | 2 => ("CutYard$Stock", "hashes", "[I", true)
  | 3 => ("CutYard$Stock", "next", "[I", true)
  | 4 => ("CutYard$Stock", "heads", "[I", true)
  | 5 => ("CutYard$Stock", "room", "[B", false)
  | 6 => ("CutYard$Stock", "lowest", "I", false)
  | 7 => ("CutYard$Stock", "count", "I", false)
  | _ => ("CutYard$Stock", "bytes", "I", false)
def tyX2 : Nat → FieldType := fun k => match k with
  | 0 => .array .int
  | 1 => .array .int
  | 2 => .array .int
  | 3 => .array .int
  | 4 => .array .int
  | 5 => .array .byte
  | 6 => .int
  | 7 => .int
  | _ => .int
abbrev wsX20 : List Cond := u_ws RX2 TX2 9
theorem nmX2 : ∀ a, a < 9 → ∀ b, b < 9 → a ≠ b → (TX2 a).2.1 ≠ (TX2 b).2.1 := by decide +kernel
theorem tyX2_ok : ∀ k, k < 9 → parseFieldDescriptor (TX2 k).2.2.1 = some (tyX2 k) := by decide +kernel
abbrev cX2_init : ByteArray := prog_4_method_1_code
def yX2_init : MethodName := ⟨RX2, "<init>", "()V"⟩
abbrev cX2_empty : ByteArray := prog_4_method_2_code
def yX2_empty : MethodName := ⟨RX2, "empty", "()V"⟩
abbrev cX2_has : ByteArray := prog_4_method_3_code
def yX2_has : MethodName := ⟨RX2, "has", "(I)Z"⟩
abbrev cX2_usesOf : ByteArray := prog_4_method_4_code
def yX2_usesOf : MethodName := ⟨RX2, "usesOf", "(I)I"⟩
abbrev cX2_lengthOf : ByteArray := prog_4_method_5_code
def yX2_lengthOf : MethodName := ⟨RX2, "lengthOf", "(I)I"⟩
abbrev cX2_byteOf : ByteArray := prog_4_method_6_code
def yX2_byteOf : MethodName := ⟨RX2, "byteOf", "(II)I"⟩
abbrev cX2_writeOut : ByteArray := prog_4_method_7_code
def yX2_writeOut : MethodName := ⟨RX2, "writeOut", "(I[BI)I"⟩
abbrev cX2_useAgain : ByteArray := prog_4_method_8_code
def yX2_useAgain : MethodName := ⟨RX2, "useAgain", "(I)V"⟩
abbrev cX2_take : ByteArray := prog_4_method_9_code
def yX2_take : MethodName := ⟨RX2, "take", "([BII)I"⟩
abbrev cX2_giveBack : ByteArray := prog_4_method_10_code
def yX2_giveBack : MethodName := ⟨RX2, "giveBack", "(I)V"⟩
abbrev cX2_hashOf : ByteArray := prog_4_method_11_code
def yX2_hashOf : MethodName := ⟨RX2, "hashOf", "([BII)I"⟩
abbrev cX2_find : ByteArray := prog_4_method_12_code
def yX2_find : MethodName := ⟨RX2, "find", "(I[BII)I"⟩
abbrev cX2_sameBytes : ByteArray := prog_4_method_13_code
def yX2_sameBytes : MethodName := ⟨RX2, "sameBytes", "(I[BI)Z"⟩
abbrev cX2_add : ByteArray := prog_4_method_14_code
def yX2_add : MethodName := ⟨RX2, "add", "(I[BII)I"⟩
abbrev cX2_leastFree : ByteArray := prog_4_method_15_code
def yX2_leastFree : MethodName := ⟨RX2, "leastFree", "()I"⟩
abbrev cX2_makeRoomFor : ByteArray := prog_4_method_16_code
def yX2_makeRoomFor : MethodName := ⟨RX2, "makeRoomFor", "(I)V"⟩
abbrev cX2_unchain : ByteArray := prog_4_method_17_code
def yX2_unchain : MethodName := ⟨RX2, "unchain", "(I)V"⟩
def RX3 : String := "CutYard"
def TX3 : u_T := fun k => match k with
  | 0 => ("CutYard", "cutter", "LCutYard$Cutter;", true)
  | 1 => ("CutYard", "stock", "LCutYard$Stock;", true)
  | 2 => ("CutYard", "files", "[LCutYard$Content;", true)
  | 3 => ("CutYard", "hand", "[B", true)
  | 4 => ("CutYard", "inHand", "I", false)
  | 5 => ("CutYard", "work", "[B", true)
  | 6 => ("CutYard", "taken", "[I", true)
  | _ => ("CutYard", "seen", "[I", true)
def tyX3 : Nat → FieldType := fun k => match k with
  | 0 => .object "CutYard$Cutter"
  | 1 => .object "CutYard$Stock"
  | 2 => .array (.object "CutYard$Content")
  | 3 => .array .byte
  | 4 => .int
  | 5 => .array .byte
  | 6 => .array .int
  | _ => .array .int
abbrev wsX30 : List Cond := u_ws RX3 TX3 8
theorem nmX3 : ∀ a, a < 8 → ∀ b, b < 8 → a ≠ b → (TX3 a).2.1 ≠ (TX3 b).2.1 := by decide +kernel
theorem tyX3_ok : ∀ k, k < 8 → parseFieldDescriptor (TX3 k).2.2.1 = some (tyX3 k) := by decide +kernel
abbrev cX3_init : ByteArray := prog_1_method_1_code
def yX3_init : MethodName := ⟨RX3, "<init>", "()V"⟩
abbrev cX3_begin : ByteArray := prog_1_method_2_code
def yX3_begin : MethodName := ⟨RX3, "begin", "(III)V"⟩
abbrev cX3_put : ByteArray := prog_1_method_3_code
def yX3_put : MethodName := ⟨RX3, "put", "(II)I"⟩
abbrev cX3_store : ByteArray := prog_1_method_4_code
def yX3_store : MethodName := ⟨RX3, "store", "(I)I"⟩
abbrev cX3_edit : ByteArray := prog_1_method_5_code
def yX3_edit : MethodName := ⟨RX3, "edit", "(III)I"⟩
abbrev cX3_copy : ByteArray := prog_1_method_6_code
def yX3_copy : MethodName := ⟨RX3, "copy", "(II)V"⟩
abbrev cX3_size : ByteArray := prog_1_method_7_code
def yX3_size : MethodName := ⟨RX3, "size", "(I)I"⟩
abbrev cX3_get : ByteArray := prog_1_method_8_code
def yX3_get : MethodName := ⟨RX3, "get", "(II)I"⟩
abbrev cX3_parts : ByteArray := prog_1_method_9_code
def yX3_parts : MethodName := ⟨RX3, "parts", "(I)I"⟩
abbrev cX3_part : ByteArray := prog_1_method_10_code
def yX3_part : MethodName := ⟨RX3, "part", "(II)I"⟩
abbrev cX3_about : ByteArray := prog_1_method_11_code
def yX3_about : MethodName := ⟨RX3, "about", "(II)I"⟩
abbrev cX3_common : ByteArray := prog_1_method_12_code
def yX3_common : MethodName := ⟨RX3, "common", "(II)I"⟩
abbrev cX3_all : ByteArray := prog_1_method_13_code
def yX3_all : MethodName := ⟨RX3, "all", "(I)I"⟩
abbrev cX3_fileAt : ByteArray := prog_1_method_14_code
def yX3_fileAt : MethodName := ⟨RX3, "fileAt", "(I)LCutYard$Content;"⟩
abbrev cX3_fillFile : ByteArray := prog_1_method_15_code
def yX3_fillFile : MethodName := ⟨RX3, "fillFile", "(LCutYard$Content;[BI)I"⟩
abbrev cX3_takeParts : ByteArray := prog_1_method_16_code
def yX3_takeParts : MethodName := ⟨RX3, "takeParts", "([BI)I"⟩
abbrev cX3_giveBack : ByteArray := prog_1_method_17_code
def yX3_giveBack : MethodName := ⟨RX3, "giveBack", "([II)V"⟩
abbrev cX3_layOut : ByteArray := prog_1_method_18_code
def yX3_layOut : MethodName := ⟨RX3, "layOut", "(LCutYard$Content;)V"⟩
abbrev cX3_filesWith : ByteArray := prog_1_method_19_code
def yX3_filesWith : MethodName := ⟨RX3, "filesWith", "(I)I"⟩
def RX4 : String := "CutYardModel"
def TX4 : u_T := fun k => match k with
  | 0 => ("CutYardModel", "thrown", "I", false)
  | 1 => ("CutYardModel", "bits", "I", false)
  | 2 => ("CutYardModel", "least", "I", false)
  | 3 => ("CutYardModel", "most", "I", false)
  | 4 => ("CutYardModel", "held", "I", false)
  | 5 => ("CutYardModel", "hand", "[I", true)
  | 6 => ("CutYardModel", "size", "I", false)
  | 7 => ("CutYardModel", "row", "[I", true)
  | 8 => ("CutYardModel", "cuts", "I", false)
  | 9 => ("CutYardModel", "ends", "[I", true)
  | 10 => ("CutYardModel", "numbers", "[I", true)
  | 11 => ("CutYardModel", "fresh", "[Z", true)
  | 12 => ("CutYardModel", "sizes", "[I", true)
  | 13 => ("CutYardModel", "bytes", "[I", true)
  | 14 => ("CutYardModel", "counts", "[I", true)
  | 15 => ("CutYardModel", "parts", "[I", true)
  | 16 => ("CutYardModel", "uses", "[I", true)
  | 17 => ("CutYardModel", "lengths", "[I", true)
  | _ => ("CutYardModel", "contents", "[I", true)
def tyX4 : Nat → FieldType := fun k => match k with
  | 0 => .int
  | 1 => .int
  | 2 => .int
  | 3 => .int
  | 4 => .int
  | 5 => .array .int
  | 6 => .int
  | 7 => .array .int
  | 8 => .int
  | 9 => .array .int
  | 10 => .array .int
  | 11 => .array .boolean
  | 12 => .array .int
  | 13 => .array .int
  | 14 => .array .int
  | 15 => .array .int
  | 16 => .array .int
  | 17 => .array .int
  | _ => .array .int
abbrev wsX40 : List Cond := u_ws RX4 TX4 19
theorem nmX4 : ∀ a, a < 19 → ∀ b, b < 19 → a ≠ b → (TX4 a).2.1 ≠ (TX4 b).2.1 := by decide +kernel
theorem tyX4_ok : ∀ k, k < 19 → parseFieldDescriptor (TX4 k).2.2.1 = some (tyX4 k) := by decide +kernel
abbrev cX4_init : ByteArray := prog_6_method_1_code
def yX4_init : MethodName := ⟨RX4, "<init>", "()V"⟩
abbrev cX4_thrown : ByteArray := prog_6_method_2_code
def yX4_thrown : MethodName := ⟨RX4, "thrown", "()I"⟩
abbrev cX4_refuse : ByteArray := prog_6_method_3_code
def yX4_refuse : MethodName := ⟨RX4, "refuse", "(ZZZ)Z"⟩
abbrev cX4_in : ByteArray := prog_6_method_4_code
def yX4_in : MethodName := ⟨RX4, "in", "(III)Z"⟩
abbrev cX4_isFile : ByteArray := prog_6_method_5_code
def yX4_isFile : MethodName := ⟨RX4, "isFile", "(I)Z"⟩
abbrev cX4_begin : ByteArray := prog_6_method_6_code
def yX4_begin : MethodName := ⟨RX4, "begin", "(III)V"⟩
abbrev cX4_put : ByteArray := prog_6_method_7_code
def yX4_put : MethodName := ⟨RX4, "put", "(II)I"⟩
abbrev cX4_mark : ByteArray := prog_6_method_8_code
def yX4_mark : MethodName := ⟨RX4, "mark", "(I)I"⟩
abbrev cX4_sum : ByteArray := prog_6_method_9_code
def yX4_sum : MethodName := ⟨RX4, "sum", "(II)I"⟩
abbrev cX4_cut : ByteArray := prog_6_method_10_code
def yX4_cut : MethodName := ⟨RX4, "cut", "()V"⟩
abbrev cX4_beginOf : ByteArray := prog_6_method_11_code
def yX4_beginOf : MethodName := ⟨RX4, "beginOf", "(I)I"⟩
abbrev cX4_isPart : ByteArray := prog_6_method_12_code
def yX4_isPart : MethodName := ⟨RX4, "isPart", "(III)Z"⟩
abbrev cX4_numberOf : ByteArray := prog_6_method_13_code
def yX4_numberOf : MethodName := ⟨RX4, "numberOf", "(II)I"⟩
abbrev cX4_give : ByteArray := prog_6_method_14_code
def yX4_give : MethodName := ⟨RX4, "give", "()I"⟩
abbrev cX4_take : ByteArray := prog_6_method_15_code
def yX4_take : MethodName := ⟨RX4, "take", "(I)V"⟩
abbrev cX4_store : ByteArray := prog_6_method_16_code
def yX4_store : MethodName := ⟨RX4, "store", "(I)I"⟩
abbrev cX4_edit : ByteArray := prog_6_method_17_code
def yX4_edit : MethodName := ⟨RX4, "edit", "(III)I"⟩
abbrev cX4_copy : ByteArray := prog_6_method_18_code
def yX4_copy : MethodName := ⟨RX4, "copy", "(II)V"⟩
abbrev cX4_size : ByteArray := prog_6_method_19_code
def yX4_size : MethodName := ⟨RX4, "size", "(I)I"⟩
abbrev cX4_get : ByteArray := prog_6_method_20_code
def yX4_get : MethodName := ⟨RX4, "get", "(II)I"⟩
abbrev cX4_parts : ByteArray := prog_6_method_21_code
def yX4_parts : MethodName := ⟨RX4, "parts", "(I)I"⟩
abbrev cX4_part : ByteArray := prog_6_method_22_code
def yX4_part : MethodName := ⟨RX4, "part", "(II)I"⟩
abbrev cX4_has : ByteArray := prog_6_method_23_code
def yX4_has : MethodName := ⟨RX4, "has", "(II)Z"⟩
abbrev cX4_about : ByteArray := prog_6_method_24_code
def yX4_about : MethodName := ⟨RX4, "about", "(II)I"⟩
abbrev cX4_common : ByteArray := prog_6_method_25_code
def yX4_common : MethodName := ⟨RX4, "common", "(II)I"⟩
abbrev cX4_all : ByteArray := prog_6_method_26_code
def yX4_all : MethodName := ⟨RX4, "all", "(I)I"⟩
def RJx8e188 : String := "java/lang/Cloneable"
def TJx8e188 : u_T := fun k => match k with
  | _ => ("", "", "", false)
def tyJx8e188 : Nat → FieldType := fun k => match k with
  | _ => .int
abbrev wsJx8e1880 : List Cond := u_ws RJx8e188 TJx8e188 0
theorem nmJx8e188 : ∀ a, a < 0 → ∀ b, b < 0 → a ≠ b → (TJx8e188 a).2.1 ≠ (TJx8e188 b).2.1 := by decide +kernel
theorem tyJx8e188_ok : ∀ k, k < 0 → parseFieldDescriptor (TJx8e188 k).2.2.1 = some (tyJx8e188 k) := by decide +kernel
def RJ9 : String := "java/lang/Math"
def TJ9 : u_T := fun k => match k with
  | _ => ("", "", "", false)
def tyJ9 : Nat → FieldType := fun k => match k with
  | _ => .int
abbrev wsJ90 : List Cond := u_ws RJ9 TJ9 0
theorem nmJ9 : ∀ a, a < 0 → ∀ b, b < 0 → a ≠ b → (TJ9 a).2.1 ≠ (TJ9 b).2.1 := by decide +kernel
theorem tyJ9_ok : ∀ k, k < 0 → parseFieldDescriptor (TJ9 k).2.2.1 = some (tyJ9 k) := by decide +kernel
abbrev cJ9_max_7cf53 : ByteArray := prog_11_method_65_code
def yJ9_max_7cf53 : MethodName := ⟨RJ9, "max", "(II)I"⟩
abbrev cJ9_min_7cf53 : ByteArray := prog_11_method_69_code
def yJ9_min_7cf53 : MethodName := ⟨RJ9, "min", "(II)I"⟩
def RJ0 : String := "java/lang/String"
def TJ0 : u_T := fun k => match k with
  | _ => ("", "", "", false)
def tyJ0 : Nat → FieldType := fun k => match k with
  | _ => .int
abbrev wsJ00 : List Cond := u_ws RJ0 TJ0 0
theorem nmJ0 : ∀ a, a < 0 → ∀ b, b < 0 → a ≠ b → (TJ0 a).2.1 ≠ (TJ0 b).2.1 := by decide +kernel
theorem tyJ0_ok : ∀ k, k < 0 → parseFieldDescriptor (TJ0 k).2.2.1 = some (tyJ0 k) := by decide +kernel
def RJ10 : String := "java/lang/System"
def TJ10 : u_T := fun k => match k with
  | _ => ("", "", "", false)
def tyJ10 : Nat → FieldType := fun k => match k with
  | _ => .int
abbrev wsJ100 : List Cond := u_ws RJ10 TJ10 0
theorem nmJ10 : ∀ a, a < 0 → ∀ b, b < 0 → a ≠ b → (TJ10 a).2.1 ≠ (TJ10 b).2.1 := by decide +kernel
theorem tyJ10_ok : ∀ k, k < 0 → parseFieldDescriptor (TJ10 k).2.2.1 = some (tyJ10 k) := by decide +kernel
def RJ7 : String := "java/util/Arrays"
def TJ7 : u_T := fun k => match k with
  | _ => ("", "", "", false)
def tyJ7 : Nat → FieldType := fun k => match k with
  | _ => .int
abbrev wsJ70 : List Cond := u_ws RJ7 TJ7 0
theorem nmJ7 : ∀ a, a < 0 → ∀ b, b < 0 → a ≠ b → (TJ7 a).2.1 ≠ (TJ7 b).2.1 := by decide +kernel
theorem tyJ7_ok : ∀ k, k < 0 → parseFieldDescriptor (TJ7 k).2.2.1 = some (tyJ7 k) := by decide +kernel
abbrev cJ7_fill_53178 : ByteArray := prog_17_method_103_code
def yJ7_fill_53178 : MethodName := ⟨RJ7, "fill", "([II)V"⟩
abbrev cJ7_copyOf_9075b : ByteArray := prog_17_method_121_code
def yJ7_copyOf_9075b : MethodName := ⟨RJ7, "copyOf", "([BI)[B"⟩
def wsX0_init : List Cond := .code yX0_init cX0_init 1 none :: ([.methodLink RX0 3 objectInit, .instanceMethod objectInit, .code objectInit ⟨#[0xb1]⟩ 1 none, .arrayClass .int, .fieldLink RX0 11 "CutYard$Content" "numbers" "[I", .fieldLink RX0 15 "CutYard$Content" "count" "I", .fieldLink RX0 19 "CutYard$Content" "bytes" "I"] ++ wsX00)
def wsX0_empty : List Cond := .code yX0_empty cX0_empty 1 none :: ([.fieldLink RX0 15 "CutYard$Content" "count" "I", .fieldLink RX0 19 "CutYard$Content" "bytes" "I"] ++ wsX00)
def wsX0_become : List Cond := .code yX0_become cX0_become 4 none :: ([.fieldLink RX0 11 "CutYard$Content" "numbers" "[I", .methodLink RX0 22 Lib.Math.max.name, .static Lib.Math.max.name, .initialized "java/lang/Math", .code Lib.Math.max.name Lib.Math.max.code 2 (some .int), .methodLink RX0 28 Lib.Math.min.name, .static Lib.Math.min.name, .code Lib.Math.min.name Lib.Math.min.code 2 (some .int), .arrayClass .int, .methodLink RX0 31 arraycopyName, .native arraycopyName, .static arraycopyName, .initialized "java/lang/System", .fieldLink RX0 15 "CutYard$Content" "count" "I", .fieldLink RX0 19 "CutYard$Content" "bytes" "I"] ++ wsX00)
def wsX0_hasNumber : List Cond := .code yX0_hasNumber cX0_hasNumber 3 (some .boolean) :: ([.fieldLink RX0 15 "CutYard$Content" "count" "I", .fieldLink RX0 11 "CutYard$Content" "numbers" "[I"] ++ wsX00)
def wsX1_init : List Cond := .code yX1_init cX1_init 1 none :: ([.methodLink RX1 1 objectInit, .instanceMethod objectInit, .code objectInit ⟨#[0xb1]⟩ 1 none, .fieldLink RX1 7 "CutYard$Cutter" "mask" "I", .fieldLink RX1 13 "CutYard$Cutter" "least" "I", .fieldLink RX1 16 "CutYard$Cutter" "most" "I"] ++ wsX10)
def wsX1_setRule : List Cond := .code yX1_setRule cX1_setRule 4 none :: ([.fieldLink RX1 7 "CutYard$Cutter" "mask" "I", .fieldLink RX1 13 "CutYard$Cutter" "least" "I", .fieldLink RX1 16 "CutYard$Cutter" "most" "I"] ++ wsX10)
def wsX1_turned : List Cond := .code yX1_turned cX1_turned 2 (some .int) :: ([])
def wsX1_mark : List Cond := .code yX1_mark cX1_mark 2 (some .int) :: ([.constant RX1 32 (-1640531527)])
def wsX1_endOfPart : List Cond := .code yX1_endOfPart cX1_endOfPart 7 (some .int) :: ([.fieldLink RX1 16 "CutYard$Cutter" "most" "I", .methodLink RX1 19 Lib.Math.min.name, .static Lib.Math.min.name, .initialized "java/lang/Math", .code Lib.Math.min.name Lib.Math.min.code 2 (some .int), .fieldLink RX1 13 "CutYard$Cutter" "least" "I", .fieldLink RX1 7 "CutYard$Cutter" "mask" "I", .methodLink RX1 25 yX1_turned, .static yX1_turned, .initialized RX1, .code yX1_turned cX1_turned 2 (some .int), .methodLink RX1 28 yX1_mark, .static yX1_mark, .code yX1_mark cX1_mark 2 (some .int), .constant RX1 32 (-1640531527)] ++ wsX10)
def wsJ7_fill_53178 : List Cond := .code yJ7_fill_53178 cJ7_fill_53178 4 none :: ([])
def wsX2_init : List Cond := .code yX2_init cX2_init 1 none :: ([.methodLink RX2 3 objectInit, .instanceMethod objectInit, .code objectInit ⟨#[0xb1]⟩ 1 none, .arrayClass .int, .fieldLink RX2 9 "CutYard$Stock" "uses" "[I", .fieldLink RX2 15 "CutYard$Stock" "lengths" "[I", .fieldLink RX2 18 "CutYard$Stock" "hashes" "[I", .fieldLink RX2 21 "CutYard$Stock" "next" "[I", .fieldLink RX2 24 "CutYard$Stock" "heads" "[I", .arrayClass .byte, .fieldLink RX2 27 "CutYard$Stock" "room" "[B", .fieldLink RX2 31 "CutYard$Stock" "lowest" "I", .fieldLink RX2 35 "CutYard$Stock" "count" "I", .fieldLink RX2 38 "CutYard$Stock" "bytes" "I", .methodLink RX2 41 yJ7_fill_53178, .static yJ7_fill_53178, .initialized RJ7, .code yJ7_fill_53178 cJ7_fill_53178 4 none] ++ wsX20)
def wsX2_empty : List Cond := .code yX2_empty cX2_empty 1 none :: ([.fieldLink RX2 9 "CutYard$Stock" "uses" "[I", .fieldLink RX2 24 "CutYard$Stock" "heads" "[I", .fieldLink RX2 31 "CutYard$Stock" "lowest" "I", .fieldLink RX2 35 "CutYard$Stock" "count" "I", .fieldLink RX2 38 "CutYard$Stock" "bytes" "I", .methodLink RX2 41 yJ7_fill_53178, .static yJ7_fill_53178, .initialized RJ7, .code yJ7_fill_53178 cJ7_fill_53178 4 none] ++ wsX20)
def wsX2_has : List Cond := .code yX2_has cX2_has 2 (some .boolean) :: ([.fieldLink RX2 9 "CutYard$Stock" "uses" "[I"] ++ wsX20)
def wsX2_usesOf : List Cond := .code yX2_usesOf cX2_usesOf 2 (some .int) :: ([.fieldLink RX2 9 "CutYard$Stock" "uses" "[I", .methodLink RX2 47 yX2_has, .instanceMethod yX2_has, .selects RX2 yX2_has yX2_has, .initialized RX2, .code yX2_has cX2_has 2 (some .boolean)] ++ wsX20)
def wsX2_lengthOf : List Cond := .code yX2_lengthOf cX2_lengthOf 2 (some .int) :: ([.fieldLink RX2 15 "CutYard$Stock" "lengths" "[I", .methodLink RX2 47 yX2_has, .instanceMethod yX2_has, .selects RX2 yX2_has yX2_has, .initialized RX2, .code yX2_has cX2_has 2 (some .boolean), .fieldLink RX2 9 "CutYard$Stock" "uses" "[I"] ++ wsX20)
def wsX2_byteOf : List Cond := .code yX2_byteOf cX2_byteOf 3 (some .int) :: ([.fieldLink RX2 27 "CutYard$Stock" "room" "[B", .methodLink RX2 51 yX2_lengthOf, .instanceMethod yX2_lengthOf, .selects RX2 yX2_lengthOf yX2_lengthOf, .initialized RX2, .code yX2_lengthOf cX2_lengthOf 2 (some .int), .fieldLink RX2 15 "CutYard$Stock" "lengths" "[I", .methodLink RX2 47 yX2_has, .instanceMethod yX2_has, .selects RX2 yX2_has yX2_has, .code yX2_has cX2_has 2 (some .boolean), .fieldLink RX2 9 "CutYard$Stock" "uses" "[I"] ++ wsX20)
def wsX2_writeOut : List Cond := .code yX2_writeOut cX2_writeOut 5 (some .int) :: ([.fieldLink RX2 27 "CutYard$Stock" "room" "[B", .methodLink RX2 55 arraycopyName, .native arraycopyName, .static arraycopyName, .initialized "java/lang/System", .methodLink RX2 51 yX2_lengthOf, .instanceMethod yX2_lengthOf, .selects RX2 yX2_lengthOf yX2_lengthOf, .initialized RX2, .code yX2_lengthOf cX2_lengthOf 2 (some .int), .fieldLink RX2 15 "CutYard$Stock" "lengths" "[I", .methodLink RX2 47 yX2_has, .instanceMethod yX2_has, .selects RX2 yX2_has yX2_has, .code yX2_has cX2_has 2 (some .boolean), .fieldLink RX2 9 "CutYard$Stock" "uses" "[I"] ++ wsX20)
def wsX2_useAgain : List Cond := .code yX2_useAgain cX2_useAgain 2 none :: ([.fieldLink RX2 9 "CutYard$Stock" "uses" "[I", .methodLink RX2 47 yX2_has, .instanceMethod yX2_has, .selects RX2 yX2_has yX2_has, .initialized RX2, .code yX2_has cX2_has 2 (some .boolean)] ++ wsX20)
def wsX2_hashOf : List Cond := .code yX2_hashOf cX2_hashOf 5 (some .int) :: ([])
def wsX2_sameBytes : List Cond := .code yX2_sameBytes cX2_sameBytes 6 (some .boolean) :: ([.fieldLink RX2 15 "CutYard$Stock" "lengths" "[I", .fieldLink RX2 27 "CutYard$Stock" "room" "[B"] ++ wsX20)
def wsX2_find : List Cond := .code yX2_find cX2_find 7 (some .int) :: ([.fieldLink RX2 24 "CutYard$Stock" "heads" "[I", .fieldLink RX2 18 "CutYard$Stock" "hashes" "[I", .fieldLink RX2 15 "CutYard$Stock" "lengths" "[I", .fieldLink RX2 21 "CutYard$Stock" "next" "[I", .methodLink RX2 47 yX2_has, .instanceMethod yX2_has, .selects RX2 yX2_has yX2_has, .initialized RX2, .code yX2_has cX2_has 2 (some .boolean), .fieldLink RX2 9 "CutYard$Stock" "uses" "[I", .methodLink RX2 85 yX2_sameBytes, .instanceMethod yX2_sameBytes, .selects RX2 yX2_sameBytes yX2_sameBytes, .code yX2_sameBytes cX2_sameBytes 6 (some .boolean), .fieldLink RX2 27 "CutYard$Stock" "room" "[B"] ++ wsX20)
def wsX2_leastFree : List Cond := .code yX2_leastFree cX2_leastFree 1 (some .int) :: ([.fieldLink RX2 31 "CutYard$Stock" "lowest" "I", .fieldLink RX2 9 "CutYard$Stock" "uses" "[I"] ++ wsX20)
def wsJ7_copyOf_9075b : List Cond := .code yJ7_copyOf_9075b cJ7_copyOf_9075b 3 (some (.array .byte)) :: ([.methodLink RJ7 310 ⟨"[B", "clone", "()Ljava/lang/Object;"⟩, .sameMethod "[B" "java/lang/Object" "clone" "()Ljava/lang/Object;", .native ⟨"java/lang/Object", "clone", "()Ljava/lang/Object;"⟩, .instanceMethod ⟨"java/lang/Object", "clone", "()Ljava/lang/Object;"⟩, .selects "[B" ⟨"[B", "clone", "()Ljava/lang/Object;"⟩ ⟨"java/lang/Object", "clone", "()Ljava/lang/Object;"⟩, .classLink RJ7 311 "[B", .arrayClass .byte, .methodLink RJ7 304 Lib.Math.min.name, .static Lib.Math.min.name, .initialized "java/lang/Math", .code Lib.Math.min.name Lib.Math.min.code 2 (some .int), .methodLink RJ7 150 arraycopyName, .native arraycopyName, .static arraycopyName, .initialized "java/lang/System"])
def wsX2_makeRoomFor : List Cond := .code yX2_makeRoomFor cX2_makeRoomFor 3 none :: ([.fieldLink RX2 27 "CutYard$Stock" "room" "[B", .methodLink RX2 96 Lib.Math.max.name, .static Lib.Math.max.name, .initialized "java/lang/Math", .code Lib.Math.max.name Lib.Math.max.code 2 (some .int), .methodLink RX2 79 Lib.Math.min.name, .static Lib.Math.min.name, .code Lib.Math.min.name Lib.Math.min.code 2 (some .int), .methodLink RX2 99 yJ7_copyOf_9075b, .static yJ7_copyOf_9075b, .initialized RJ7, .code yJ7_copyOf_9075b cJ7_copyOf_9075b 3 (some (.array .byte)), .methodLink RJ7 310 ⟨"[B", "clone", "()Ljava/lang/Object;"⟩, .sameMethod "[B" "java/lang/Object" "clone" "()Ljava/lang/Object;", .native ⟨"java/lang/Object", "clone", "()Ljava/lang/Object;"⟩, .instanceMethod ⟨"java/lang/Object", "clone", "()Ljava/lang/Object;"⟩, .selects "[B" ⟨"[B", "clone", "()Ljava/lang/Object;"⟩ ⟨"java/lang/Object", "clone", "()Ljava/lang/Object;"⟩, .classLink RJ7 311 "[B", .arrayClass .byte, .methodLink RJ7 304 Lib.Math.min.name, .methodLink RJ7 150 arraycopyName, .native arraycopyName, .static arraycopyName, .initialized "java/lang/System"] ++ wsX20)
def wsX2_add_r1 : List Cond := [Cond.fieldLink RX2 27 "CutYard$Stock" "room" "[B", Cond.methodLink RX2 55 arraycopyName, Cond.native arraycopyName, Cond.static arraycopyName, Cond.initialized "java/lang/System", Cond.fieldLink RX2 9 "CutYard$Stock" "uses" "[I", Cond.fieldLink RX2 15 "CutYard$Stock" "lengths" "[I", Cond.fieldLink RX2 18 "CutYard$Stock" "hashes" "[I", Cond.fieldLink RX2 21 "CutYard$Stock" "next" "[I", Cond.fieldLink RX2 24 "CutYard$Stock" "heads" "[I", Cond.fieldLink RX2 35 "CutYard$Stock" "count" "I", Cond.fieldLink RX2 38 "CutYard$Stock" "bytes" "I", Cond.methodLink RX2 89 yX2_leastFree, Cond.instanceMethod yX2_leastFree, Cond.selects RX2 yX2_leastFree yX2_leastFree, Cond.initialized RX2, Cond.code yX2_leastFree cX2_leastFree 1 (some .int), Cond.fieldLink RX2 31 "CutYard$Stock" "lowest" "I", Cond.methodLink RX2 93 yX2_makeRoomFor, Cond.instanceMethod yX2_makeRoomFor, Cond.selects RX2 yX2_makeRoomFor yX2_makeRoomFor, Cond.code yX2_makeRoomFor cX2_makeRoomFor 3 none, Cond.methodLink RX2 96 Lib.Math.max.name, Cond.static Lib.Math.max.name]
def wsX2_add_r2 : List Cond := [Cond.initialized "java/lang/Math", Cond.code Lib.Math.max.name Lib.Math.max.code 2 (some .int), Cond.methodLink RX2 79 Lib.Math.min.name, Cond.static Lib.Math.min.name, Cond.code Lib.Math.min.name Lib.Math.min.code 2 (some .int), Cond.methodLink RX2 99 yJ7_copyOf_9075b, Cond.static yJ7_copyOf_9075b, Cond.initialized RJ7, Cond.code yJ7_copyOf_9075b cJ7_copyOf_9075b 3 (some (.array .byte)), Cond.methodLink RJ7 310 ⟨"[B", "clone", "()Ljava/lang/Object;"⟩, Cond.sameMethod "[B" "java/lang/Object" "clone" "()Ljava/lang/Object;", Cond.native ⟨"java/lang/Object", "clone", "()Ljava/lang/Object;"⟩, Cond.instanceMethod ⟨"java/lang/Object", "clone", "()Ljava/lang/Object;"⟩, Cond.selects "[B" ⟨"[B", "clone", "()Ljava/lang/Object;"⟩ ⟨"java/lang/Object", "clone", "()Ljava/lang/Object;"⟩, Cond.classLink RJ7 311 "[B", Cond.arrayClass .byte, Cond.methodLink RJ7 304 Lib.Math.min.name, Cond.methodLink RJ7 150 arraycopyName]
def wsX2_add : List Cond := .code yX2_add cX2_add 6 (some .int) :: ((wsX2_add_r1 ++ wsX2_add_r2) ++ wsX20)
def wsX2_take_r1 : List Cond := [Cond.methodLink RX2 61 yX2_hashOf, Cond.static yX2_hashOf, Cond.initialized RX2, Cond.code yX2_hashOf cX2_hashOf 5 (some .int), Cond.methodLink RX2 65 yX2_find, Cond.instanceMethod yX2_find, Cond.selects RX2 yX2_find yX2_find, Cond.code yX2_find cX2_find 7 (some .int), Cond.fieldLink RX2 24 "CutYard$Stock" "heads" "[I", Cond.fieldLink RX2 18 "CutYard$Stock" "hashes" "[I", Cond.fieldLink RX2 15 "CutYard$Stock" "lengths" "[I", Cond.fieldLink RX2 21 "CutYard$Stock" "next" "[I", Cond.methodLink RX2 47 yX2_has, Cond.instanceMethod yX2_has, Cond.selects RX2 yX2_has yX2_has, Cond.code yX2_has cX2_has 2 (some .boolean), Cond.fieldLink RX2 9 "CutYard$Stock" "uses" "[I", Cond.methodLink RX2 85 yX2_sameBytes, Cond.instanceMethod yX2_sameBytes, Cond.selects RX2 yX2_sameBytes yX2_sameBytes, Cond.code yX2_sameBytes cX2_sameBytes 6 (some .boolean), Cond.fieldLink RX2 27 "CutYard$Stock" "room" "[B", Cond.methodLink RX2 69 yX2_add, Cond.instanceMethod yX2_add]
def wsX2_take_r2 : List Cond := [Cond.selects RX2 yX2_add yX2_add, Cond.code yX2_add cX2_add 6 (some .int), Cond.methodLink RX2 55 arraycopyName, Cond.native arraycopyName, Cond.static arraycopyName, Cond.initialized "java/lang/System", Cond.fieldLink RX2 35 "CutYard$Stock" "count" "I", Cond.fieldLink RX2 38 "CutYard$Stock" "bytes" "I", Cond.methodLink RX2 89 yX2_leastFree, Cond.instanceMethod yX2_leastFree, Cond.selects RX2 yX2_leastFree yX2_leastFree, Cond.code yX2_leastFree cX2_leastFree 1 (some .int), Cond.fieldLink RX2 31 "CutYard$Stock" "lowest" "I", Cond.methodLink RX2 93 yX2_makeRoomFor, Cond.instanceMethod yX2_makeRoomFor, Cond.selects RX2 yX2_makeRoomFor yX2_makeRoomFor, Cond.code yX2_makeRoomFor cX2_makeRoomFor 3 none, Cond.methodLink RX2 96 Lib.Math.max.name, Cond.static Lib.Math.max.name, Cond.initialized "java/lang/Math", Cond.code Lib.Math.max.name Lib.Math.max.code 2 (some .int), Cond.methodLink RX2 79 Lib.Math.min.name, Cond.static Lib.Math.min.name, Cond.code Lib.Math.min.name Lib.Math.min.code 2 (some .int)]
def wsX2_take_r3 : List Cond := [Cond.methodLink RX2 99 yJ7_copyOf_9075b, Cond.static yJ7_copyOf_9075b, Cond.initialized RJ7, Cond.code yJ7_copyOf_9075b cJ7_copyOf_9075b 3 (some (.array .byte)), Cond.methodLink RJ7 310 ⟨"[B", "clone", "()Ljava/lang/Object;"⟩, Cond.sameMethod "[B" "java/lang/Object" "clone" "()Ljava/lang/Object;", Cond.native ⟨"java/lang/Object", "clone", "()Ljava/lang/Object;"⟩, Cond.instanceMethod ⟨"java/lang/Object", "clone", "()Ljava/lang/Object;"⟩, Cond.selects "[B" ⟨"[B", "clone", "()Ljava/lang/Object;"⟩ ⟨"java/lang/Object", "clone", "()Ljava/lang/Object;"⟩, Cond.classLink RJ7 311 "[B", Cond.arrayClass .byte, Cond.methodLink RJ7 304 Lib.Math.min.name, Cond.methodLink RJ7 150 arraycopyName, Cond.methodLink RX2 72 yX2_useAgain, Cond.instanceMethod yX2_useAgain, Cond.selects RX2 yX2_useAgain yX2_useAgain, Cond.code yX2_useAgain cX2_useAgain 2 none]
def wsX2_take : List Cond := .code yX2_take cX2_take 6 (some .int) :: ((wsX2_take_r1 ++ (wsX2_take_r2 ++ wsX2_take_r3)) ++ wsX20)
def wsX2_unchain : List Cond := .code yX2_unchain cX2_unchain 5 none :: ([.fieldLink RX2 18 "CutYard$Stock" "hashes" "[I", .fieldLink RX2 24 "CutYard$Stock" "heads" "[I", .fieldLink RX2 21 "CutYard$Stock" "next" "[I", .methodLink RX2 47 yX2_has, .instanceMethod yX2_has, .selects RX2 yX2_has yX2_has, .initialized RX2, .code yX2_has cX2_has 2 (some .boolean), .fieldLink RX2 9 "CutYard$Stock" "uses" "[I"] ++ wsX20)
def wsX2_giveBack : List Cond := .code yX2_giveBack cX2_giveBack 2 none :: ([.fieldLink RX2 9 "CutYard$Stock" "uses" "[I", .fieldLink RX2 31 "CutYard$Stock" "lowest" "I", .methodLink RX2 79 Lib.Math.min.name, .static Lib.Math.min.name, .initialized "java/lang/Math", .code Lib.Math.min.name Lib.Math.min.code 2 (some .int), .fieldLink RX2 35 "CutYard$Stock" "count" "I", .fieldLink RX2 38 "CutYard$Stock" "bytes" "I", .fieldLink RX2 15 "CutYard$Stock" "lengths" "[I", .methodLink RX2 47 yX2_has, .instanceMethod yX2_has, .selects RX2 yX2_has yX2_has, .initialized RX2, .code yX2_has cX2_has 2 (some .boolean), .methodLink RX2 76 yX2_unchain, .instanceMethod yX2_unchain, .selects RX2 yX2_unchain yX2_unchain, .code yX2_unchain cX2_unchain 5 none, .fieldLink RX2 18 "CutYard$Stock" "hashes" "[I", .fieldLink RX2 24 "CutYard$Stock" "heads" "[I", .fieldLink RX2 21 "CutYard$Stock" "next" "[I"] ++ wsX20)
def wsX3_init_r1 : List Cond := [Cond.methodLink RX3 1 objectInit, Cond.instanceMethod objectInit, Cond.code objectInit ⟨#[0xb1]⟩ 1 none, Cond.classLink RX3 7 RX1, Cond.instantiable RX1 3, Cond.initialized RX1, Cond.fieldLink RX3 10 "CutYard" "cutter" "LCutYard$Cutter;", Cond.classLink RX3 16 RX2, Cond.instantiable RX2 9, Cond.initialized RX2, Cond.fieldLink RX3 19 "CutYard" "stock" "LCutYard$Stock;", Cond.classLink RX3 23 RX0, Cond.fieldLink RX3 25 "CutYard" "files" "[LCutYard$Content;", Cond.arrayClass .byte, Cond.fieldLink RX3 29 "CutYard" "hand" "[B", Cond.fieldLink RX3 33 "CutYard" "inHand" "I", Cond.fieldLink RX3 37 "CutYard" "work" "[B", Cond.arrayClass .int, Cond.fieldLink RX3 40 "CutYard" "taken" "[I", Cond.fieldLink RX3 44 "CutYard" "seen" "[I", Cond.instantiable RX0 3, Cond.initialized RX0, Cond.instanceMethod yX1_init, Cond.code yX1_init cX1_init 1 none]
def wsX3_init_r2 : List Cond := [Cond.methodLink RX1 1 objectInit, Cond.fieldLink RX1 7 "CutYard$Cutter" "mask" "I", Cond.fieldLink RX1 13 "CutYard$Cutter" "least" "I", Cond.fieldLink RX1 16 "CutYard$Cutter" "most" "I", Cond.methodLink RX3 18 yX2_init, Cond.instanceMethod yX2_init, Cond.code yX2_init cX2_init 1 none, Cond.methodLink RX2 3 objectInit, Cond.fieldLink RX2 9 "CutYard$Stock" "uses" "[I", Cond.fieldLink RX2 15 "CutYard$Stock" "lengths" "[I", Cond.fieldLink RX2 18 "CutYard$Stock" "hashes" "[I", Cond.fieldLink RX2 21 "CutYard$Stock" "next" "[I", Cond.fieldLink RX2 24 "CutYard$Stock" "heads" "[I", Cond.fieldLink RX2 27 "CutYard$Stock" "room" "[B", Cond.fieldLink RX2 31 "CutYard$Stock" "lowest" "I", Cond.fieldLink RX2 35 "CutYard$Stock" "count" "I", Cond.fieldLink RX2 38 "CutYard$Stock" "bytes" "I", Cond.methodLink RX2 41 yJ7_fill_53178, Cond.static yJ7_fill_53178, Cond.initialized RJ7, Cond.code yJ7_fill_53178 cJ7_fill_53178 4 none, Cond.instanceMethod yX0_init, Cond.code yX0_init cX0_init 1 none, Cond.methodLink RX0 3 objectInit]
def wsX3_init_r3 : List Cond := [Cond.fieldLink RX0 11 "CutYard$Content" "numbers" "[I", Cond.fieldLink RX0 15 "CutYard$Content" "count" "I", Cond.fieldLink RX0 19 "CutYard$Content" "bytes" "I"]
def wsX3_init : List Cond := .code yX3_init cX3_init 2 none :: ((wsX3_init_r1 ++ (wsX3_init_r2 ++ wsX3_init_r3)) ++ wsX10 ++ wsX30 ++ wsX20 ++ wsX00)
def wsX3_begin_r1 : List Cond := [Cond.classLink RX3 48 "java/lang/IllegalArgumentException", Cond.initialized "java/lang/IllegalArgumentException", Cond.fieldLink RX3 10 "CutYard" "cutter" "LCutYard$Cutter;", Cond.fieldLink RX3 19 "CutYard" "stock" "LCutYard$Stock;", Cond.fieldLink RX3 25 "CutYard" "files" "[LCutYard$Content;", Cond.methodLink RX3 59 yX1_setRule, Cond.instanceMethod yX1_setRule, Cond.selects RX1 yX1_setRule yX1_setRule, Cond.initialized RX1, Cond.code yX1_setRule cX1_setRule 4 none, Cond.fieldLink RX1 7 "CutYard$Cutter" "mask" "I", Cond.fieldLink RX1 13 "CutYard$Cutter" "least" "I", Cond.fieldLink RX1 16 "CutYard$Cutter" "most" "I", Cond.methodLink RX3 63 yX2_empty, Cond.instanceMethod yX2_empty, Cond.selects RX2 yX2_empty yX2_empty, Cond.initialized RX2, Cond.code yX2_empty cX2_empty 1 none, Cond.fieldLink RX2 9 "CutYard$Stock" "uses" "[I", Cond.fieldLink RX2 24 "CutYard$Stock" "heads" "[I", Cond.fieldLink RX2 31 "CutYard$Stock" "lowest" "I", Cond.fieldLink RX2 35 "CutYard$Stock" "count" "I", Cond.fieldLink RX2 38 "CutYard$Stock" "bytes" "I", Cond.methodLink RX2 41 yJ7_fill_53178]
def wsX3_begin_r2 : List Cond := [Cond.static yJ7_fill_53178, Cond.initialized RJ7, Cond.code yJ7_fill_53178 cJ7_fill_53178 4 none, Cond.methodLink RX3 66 yX0_empty, Cond.instanceMethod yX0_empty, Cond.selects RX0 yX0_empty yX0_empty, Cond.initialized RX0, Cond.code yX0_empty cX0_empty 1 none, Cond.fieldLink RX0 15 "CutYard$Content" "count" "I", Cond.fieldLink RX0 19 "CutYard$Content" "bytes" "I"]
def wsX3_giveBack_r1 : List Cond := [Cond.fieldLink RX3 19 "CutYard" "stock" "LCutYard$Stock;", Cond.methodLink RX3 169 yX2_giveBack, Cond.instanceMethod yX2_giveBack, Cond.selects RX2 yX2_giveBack yX2_giveBack, Cond.initialized RX2, Cond.code yX2_giveBack cX2_giveBack 2 none, Cond.fieldLink RX2 9 "CutYard$Stock" "uses" "[I", Cond.fieldLink RX2 31 "CutYard$Stock" "lowest" "I", Cond.methodLink RX2 79 Lib.Math.min.name, Cond.static Lib.Math.min.name, Cond.initialized "java/lang/Math", Cond.code Lib.Math.min.name Lib.Math.min.code 2 (some .int), Cond.fieldLink RX2 35 "CutYard$Stock" "count" "I", Cond.fieldLink RX2 38 "CutYard$Stock" "bytes" "I", Cond.fieldLink RX2 15 "CutYard$Stock" "lengths" "[I", Cond.methodLink RX2 47 yX2_has, Cond.instanceMethod yX2_has, Cond.selects RX2 yX2_has yX2_has, Cond.code yX2_has cX2_has 2 (some .boolean), Cond.methodLink RX2 76 yX2_unchain, Cond.instanceMethod yX2_unchain, Cond.selects RX2 yX2_unchain yX2_unchain, Cond.code yX2_unchain cX2_unchain 5 none, Cond.fieldLink RX2 18 "CutYard$Stock" "hashes" "[I"]
def wsX3_giveBack_r2 : List Cond := [Cond.fieldLink RX2 24 "CutYard$Stock" "heads" "[I", Cond.fieldLink RX2 21 "CutYard$Stock" "next" "[I"]
def wsX3_giveBack : List Cond := .code yX3_giveBack cX3_giveBack 4 none :: ((wsX3_giveBack_r1 ++ wsX3_giveBack_r2) ++ wsX30 ++ wsX20)
def wsX3_takeParts_r1 : List Cond := [Cond.fieldLink RX3 10 "CutYard" "cutter" "LCutYard$Cutter;", Cond.fieldLink RX3 19 "CutYard" "stock" "LCutYard$Stock;", Cond.fieldLink RX3 40 "CutYard" "taken" "[I", Cond.methodLink RX3 162 yX1_endOfPart, Cond.instanceMethod yX1_endOfPart, Cond.selects RX1 yX1_endOfPart yX1_endOfPart, Cond.initialized RX1, Cond.code yX1_endOfPart cX1_endOfPart 7 (some .int), Cond.fieldLink RX1 16 "CutYard$Cutter" "most" "I", Cond.methodLink RX1 19 Lib.Math.min.name, Cond.static Lib.Math.min.name, Cond.initialized "java/lang/Math", Cond.code Lib.Math.min.name Lib.Math.min.code 2 (some .int), Cond.fieldLink RX1 13 "CutYard$Cutter" "least" "I", Cond.fieldLink RX1 7 "CutYard$Cutter" "mask" "I", Cond.methodLink RX1 25 yX1_turned, Cond.static yX1_turned, Cond.code yX1_turned cX1_turned 2 (some .int), Cond.methodLink RX1 28 yX1_mark, Cond.static yX1_mark, Cond.code yX1_mark cX1_mark 2 (some .int), Cond.constant RX1 32 (-1640531527), Cond.methodLink RX3 166 yX2_take, Cond.instanceMethod yX2_take]
def wsX3_takeParts_r2 : List Cond := [Cond.selects RX2 yX2_take yX2_take, Cond.initialized RX2, Cond.code yX2_take cX2_take 6 (some .int), Cond.methodLink RX2 61 yX2_hashOf, Cond.static yX2_hashOf, Cond.code yX2_hashOf cX2_hashOf 5 (some .int), Cond.methodLink RX2 65 yX2_find, Cond.instanceMethod yX2_find, Cond.selects RX2 yX2_find yX2_find, Cond.code yX2_find cX2_find 7 (some .int), Cond.fieldLink RX2 24 "CutYard$Stock" "heads" "[I", Cond.fieldLink RX2 18 "CutYard$Stock" "hashes" "[I", Cond.fieldLink RX2 15 "CutYard$Stock" "lengths" "[I", Cond.fieldLink RX2 21 "CutYard$Stock" "next" "[I", Cond.methodLink RX2 47 yX2_has, Cond.instanceMethod yX2_has, Cond.selects RX2 yX2_has yX2_has, Cond.code yX2_has cX2_has 2 (some .boolean), Cond.fieldLink RX2 9 "CutYard$Stock" "uses" "[I", Cond.methodLink RX2 85 yX2_sameBytes, Cond.instanceMethod yX2_sameBytes, Cond.selects RX2 yX2_sameBytes yX2_sameBytes, Cond.code yX2_sameBytes cX2_sameBytes 6 (some .boolean), Cond.fieldLink RX2 27 "CutYard$Stock" "room" "[B"]
def wsX3_takeParts_r3 : List Cond := [Cond.methodLink RX2 69 yX2_add, Cond.instanceMethod yX2_add, Cond.selects RX2 yX2_add yX2_add, Cond.code yX2_add cX2_add 6 (some .int), Cond.methodLink RX2 55 arraycopyName, Cond.native arraycopyName, Cond.static arraycopyName, Cond.initialized "java/lang/System", Cond.fieldLink RX2 35 "CutYard$Stock" "count" "I", Cond.fieldLink RX2 38 "CutYard$Stock" "bytes" "I", Cond.methodLink RX2 89 yX2_leastFree, Cond.instanceMethod yX2_leastFree, Cond.selects RX2 yX2_leastFree yX2_leastFree, Cond.code yX2_leastFree cX2_leastFree 1 (some .int), Cond.fieldLink RX2 31 "CutYard$Stock" "lowest" "I", Cond.methodLink RX2 93 yX2_makeRoomFor, Cond.instanceMethod yX2_makeRoomFor, Cond.selects RX2 yX2_makeRoomFor yX2_makeRoomFor, Cond.code yX2_makeRoomFor cX2_makeRoomFor 3 none, Cond.methodLink RX2 96 Lib.Math.max.name, Cond.static Lib.Math.max.name, Cond.code Lib.Math.max.name Lib.Math.max.code 2 (some .int), Cond.methodLink RX2 79 Lib.Math.min.name, Cond.methodLink RX2 99 yJ7_copyOf_9075b]
def wsX3_takeParts_r4 : List Cond := [Cond.static yJ7_copyOf_9075b, Cond.initialized RJ7, Cond.code yJ7_copyOf_9075b cJ7_copyOf_9075b 3 (some (.array .byte)), Cond.methodLink RJ7 310 ⟨"[B", "clone", "()Ljava/lang/Object;"⟩, Cond.sameMethod "[B" "java/lang/Object" "clone" "()Ljava/lang/Object;", Cond.native ⟨"java/lang/Object", "clone", "()Ljava/lang/Object;"⟩, Cond.instanceMethod ⟨"java/lang/Object", "clone", "()Ljava/lang/Object;"⟩, Cond.selects "[B" ⟨"[B", "clone", "()Ljava/lang/Object;"⟩ ⟨"java/lang/Object", "clone", "()Ljava/lang/Object;"⟩, Cond.classLink RJ7 311 "[B", Cond.arrayClass .byte, Cond.methodLink RJ7 304 Lib.Math.min.name, Cond.methodLink RJ7 150 arraycopyName, Cond.methodLink RX2 72 yX2_useAgain, Cond.instanceMethod yX2_useAgain, Cond.selects RX2 yX2_useAgain yX2_useAgain, Cond.code yX2_useAgain cX2_useAgain 2 none, Cond.methodLink RX3 109 yX3_giveBack, Cond.instanceMethod yX3_giveBack, Cond.selects RX3 yX3_giveBack yX3_giveBack, Cond.initialized RX3, Cond.code yX3_giveBack cX3_giveBack 4 none, Cond.methodLink RX3 169 yX2_giveBack, Cond.instanceMethod yX2_giveBack, Cond.selects RX2 yX2_giveBack yX2_giveBack]
def wsX3_takeParts_r5 : List Cond := [Cond.code yX2_giveBack cX2_giveBack 2 none, Cond.methodLink RX2 76 yX2_unchain, Cond.instanceMethod yX2_unchain, Cond.selects RX2 yX2_unchain yX2_unchain, Cond.code yX2_unchain cX2_unchain 5 none]
def wsX3_takeParts : List Cond := .code yX3_takeParts cX3_takeParts 7 (some .int) :: ((wsX3_takeParts_r1 ++ (wsX3_takeParts_r2 ++ (wsX3_takeParts_r3 ++ (wsX3_takeParts_r4 ++ wsX3_takeParts_r5)))) ++ wsX30 ++ wsX10 ++ wsX20)
def wsX3_fillFile_r1 : List Cond := [Cond.classLink RX3 69 "java/lang/UnsupportedOperationException", Cond.initialized "java/lang/UnsupportedOperationException", Cond.fieldLink RX3 19 "CutYard" "stock" "LCutYard$Stock;", Cond.fieldLink RX3 40 "CutYard" "taken" "[I", Cond.fieldLink RX3 33 "CutYard" "inHand" "I", Cond.methodLink RX3 156 yX3_takeParts, Cond.instanceMethod yX3_takeParts, Cond.selects RX3 yX3_takeParts yX3_takeParts, Cond.initialized RX3, Cond.code yX3_takeParts cX3_takeParts 7 (some .int), Cond.fieldLink RX3 10 "CutYard" "cutter" "LCutYard$Cutter;", Cond.methodLink RX3 162 yX1_endOfPart, Cond.instanceMethod yX1_endOfPart, Cond.selects RX1 yX1_endOfPart yX1_endOfPart, Cond.initialized RX1, Cond.code yX1_endOfPart cX1_endOfPart 7 (some .int), Cond.fieldLink RX1 16 "CutYard$Cutter" "most" "I", Cond.methodLink RX1 19 Lib.Math.min.name, Cond.static Lib.Math.min.name, Cond.initialized "java/lang/Math", Cond.code Lib.Math.min.name Lib.Math.min.code 2 (some .int), Cond.fieldLink RX1 13 "CutYard$Cutter" "least" "I", Cond.fieldLink RX1 7 "CutYard$Cutter" "mask" "I", Cond.methodLink RX1 25 yX1_turned]
def wsX3_fillFile_r2 : List Cond := [Cond.static yX1_turned, Cond.code yX1_turned cX1_turned 2 (some .int), Cond.methodLink RX1 28 yX1_mark, Cond.static yX1_mark, Cond.code yX1_mark cX1_mark 2 (some .int), Cond.constant RX1 32 (-1640531527), Cond.methodLink RX3 166 yX2_take, Cond.instanceMethod yX2_take, Cond.selects RX2 yX2_take yX2_take, Cond.initialized RX2, Cond.code yX2_take cX2_take 6 (some .int), Cond.methodLink RX2 61 yX2_hashOf, Cond.static yX2_hashOf, Cond.code yX2_hashOf cX2_hashOf 5 (some .int), Cond.methodLink RX2 65 yX2_find, Cond.instanceMethod yX2_find, Cond.selects RX2 yX2_find yX2_find, Cond.code yX2_find cX2_find 7 (some .int), Cond.fieldLink RX2 24 "CutYard$Stock" "heads" "[I", Cond.fieldLink RX2 18 "CutYard$Stock" "hashes" "[I", Cond.fieldLink RX2 15 "CutYard$Stock" "lengths" "[I", Cond.fieldLink RX2 21 "CutYard$Stock" "next" "[I", Cond.methodLink RX2 47 yX2_has, Cond.instanceMethod yX2_has]
def wsX3_fillFile_r3 : List Cond := [Cond.selects RX2 yX2_has yX2_has, Cond.code yX2_has cX2_has 2 (some .boolean), Cond.fieldLink RX2 9 "CutYard$Stock" "uses" "[I", Cond.methodLink RX2 85 yX2_sameBytes, Cond.instanceMethod yX2_sameBytes, Cond.selects RX2 yX2_sameBytes yX2_sameBytes, Cond.code yX2_sameBytes cX2_sameBytes 6 (some .boolean), Cond.fieldLink RX2 27 "CutYard$Stock" "room" "[B", Cond.methodLink RX2 69 yX2_add, Cond.instanceMethod yX2_add, Cond.selects RX2 yX2_add yX2_add, Cond.code yX2_add cX2_add 6 (some .int), Cond.methodLink RX2 55 arraycopyName, Cond.native arraycopyName, Cond.static arraycopyName, Cond.initialized "java/lang/System", Cond.fieldLink RX2 35 "CutYard$Stock" "count" "I", Cond.fieldLink RX2 38 "CutYard$Stock" "bytes" "I", Cond.methodLink RX2 89 yX2_leastFree, Cond.instanceMethod yX2_leastFree, Cond.selects RX2 yX2_leastFree yX2_leastFree, Cond.code yX2_leastFree cX2_leastFree 1 (some .int), Cond.fieldLink RX2 31 "CutYard$Stock" "lowest" "I", Cond.methodLink RX2 93 yX2_makeRoomFor]
def wsX3_fillFile_r4 : List Cond := [Cond.instanceMethod yX2_makeRoomFor, Cond.selects RX2 yX2_makeRoomFor yX2_makeRoomFor, Cond.code yX2_makeRoomFor cX2_makeRoomFor 3 none, Cond.methodLink RX2 96 Lib.Math.max.name, Cond.static Lib.Math.max.name, Cond.code Lib.Math.max.name Lib.Math.max.code 2 (some .int), Cond.methodLink RX2 79 Lib.Math.min.name, Cond.methodLink RX2 99 yJ7_copyOf_9075b, Cond.static yJ7_copyOf_9075b, Cond.initialized RJ7, Cond.code yJ7_copyOf_9075b cJ7_copyOf_9075b 3 (some (.array .byte)), Cond.methodLink RJ7 310 ⟨"[B", "clone", "()Ljava/lang/Object;"⟩, Cond.sameMethod "[B" "java/lang/Object" "clone" "()Ljava/lang/Object;", Cond.native ⟨"java/lang/Object", "clone", "()Ljava/lang/Object;"⟩, Cond.instanceMethod ⟨"java/lang/Object", "clone", "()Ljava/lang/Object;"⟩, Cond.selects "[B" ⟨"[B", "clone", "()Ljava/lang/Object;"⟩ ⟨"java/lang/Object", "clone", "()Ljava/lang/Object;"⟩, Cond.classLink RJ7 311 "[B", Cond.arrayClass .byte, Cond.methodLink RJ7 304 Lib.Math.min.name, Cond.methodLink RJ7 150 arraycopyName, Cond.methodLink RX2 72 yX2_useAgain, Cond.instanceMethod yX2_useAgain, Cond.selects RX2 yX2_useAgain yX2_useAgain, Cond.code yX2_useAgain cX2_useAgain 2 none]
def wsX3_fillFile_r5 : List Cond := [Cond.methodLink RX3 109 yX3_giveBack, Cond.instanceMethod yX3_giveBack, Cond.selects RX3 yX3_giveBack yX3_giveBack, Cond.code yX3_giveBack cX3_giveBack 4 none, Cond.methodLink RX3 169 yX2_giveBack, Cond.instanceMethod yX2_giveBack, Cond.selects RX2 yX2_giveBack yX2_giveBack, Cond.code yX2_giveBack cX2_giveBack 2 none, Cond.methodLink RX2 76 yX2_unchain, Cond.instanceMethod yX2_unchain, Cond.selects RX2 yX2_unchain yX2_unchain, Cond.code yX2_unchain cX2_unchain 5 none, Cond.methodLink RX3 113 yX0_become, Cond.instanceMethod yX0_become, Cond.selects RX0 yX0_become yX0_become, Cond.initialized RX0, Cond.code yX0_become cX0_become 4 none, Cond.fieldLink RX0 11 "CutYard$Content" "numbers" "[I", Cond.methodLink RX0 22 Lib.Math.max.name, Cond.methodLink RX0 28 Lib.Math.min.name, Cond.arrayClass .int, Cond.methodLink RX0 31 arraycopyName, Cond.fieldLink RX0 15 "CutYard$Content" "count" "I", Cond.fieldLink RX0 19 "CutYard$Content" "bytes" "I"]
def wsX3_store_r1 : List Cond := [Cond.fieldLink RX3 29 "CutYard" "hand" "[B", Cond.fieldLink RX3 33 "CutYard" "inHand" "I", Cond.methodLink RX3 74 yX3_fileAt, Cond.instanceMethod yX3_fileAt, Cond.selects RX3 yX3_fileAt yX3_fileAt, Cond.initialized RX3, Cond.code yX3_fileAt cX3_fileAt 2 (some (.object "CutYard$Content")), Cond.classLink RX3 117 "java/lang/IndexOutOfBoundsException", Cond.initialized "java/lang/IndexOutOfBoundsException", Cond.fieldLink RX3 25 "CutYard" "files" "[LCutYard$Content;", Cond.methodLink RX3 78 yX3_fillFile, Cond.instanceMethod yX3_fillFile, Cond.selects RX3 yX3_fillFile yX3_fillFile, Cond.code yX3_fillFile cX3_fillFile 7 (some .int), Cond.classLink RX3 69 "java/lang/UnsupportedOperationException", Cond.initialized "java/lang/UnsupportedOperationException", Cond.fieldLink RX3 19 "CutYard" "stock" "LCutYard$Stock;", Cond.fieldLink RX3 40 "CutYard" "taken" "[I", Cond.methodLink RX3 156 yX3_takeParts, Cond.instanceMethod yX3_takeParts, Cond.selects RX3 yX3_takeParts yX3_takeParts, Cond.code yX3_takeParts cX3_takeParts 7 (some .int), Cond.fieldLink RX3 10 "CutYard" "cutter" "LCutYard$Cutter;", Cond.methodLink RX3 162 yX1_endOfPart]
def wsX3_store_r2 : List Cond := [Cond.instanceMethod yX1_endOfPart, Cond.selects RX1 yX1_endOfPart yX1_endOfPart, Cond.initialized RX1, Cond.code yX1_endOfPart cX1_endOfPart 7 (some .int), Cond.fieldLink RX1 16 "CutYard$Cutter" "most" "I", Cond.methodLink RX1 19 Lib.Math.min.name, Cond.static Lib.Math.min.name, Cond.initialized "java/lang/Math", Cond.code Lib.Math.min.name Lib.Math.min.code 2 (some .int), Cond.fieldLink RX1 13 "CutYard$Cutter" "least" "I", Cond.fieldLink RX1 7 "CutYard$Cutter" "mask" "I", Cond.methodLink RX1 25 yX1_turned, Cond.static yX1_turned, Cond.code yX1_turned cX1_turned 2 (some .int), Cond.methodLink RX1 28 yX1_mark, Cond.static yX1_mark, Cond.code yX1_mark cX1_mark 2 (some .int), Cond.constant RX1 32 (-1640531527), Cond.methodLink RX3 166 yX2_take, Cond.instanceMethod yX2_take, Cond.selects RX2 yX2_take yX2_take, Cond.initialized RX2, Cond.code yX2_take cX2_take 6 (some .int), Cond.methodLink RX2 61 yX2_hashOf]
def wsX3_store_r3 : List Cond := [Cond.static yX2_hashOf, Cond.code yX2_hashOf cX2_hashOf 5 (some .int), Cond.methodLink RX2 65 yX2_find, Cond.instanceMethod yX2_find, Cond.selects RX2 yX2_find yX2_find, Cond.code yX2_find cX2_find 7 (some .int), Cond.fieldLink RX2 24 "CutYard$Stock" "heads" "[I", Cond.fieldLink RX2 18 "CutYard$Stock" "hashes" "[I", Cond.fieldLink RX2 15 "CutYard$Stock" "lengths" "[I", Cond.fieldLink RX2 21 "CutYard$Stock" "next" "[I", Cond.methodLink RX2 47 yX2_has, Cond.instanceMethod yX2_has, Cond.selects RX2 yX2_has yX2_has, Cond.code yX2_has cX2_has 2 (some .boolean), Cond.fieldLink RX2 9 "CutYard$Stock" "uses" "[I", Cond.methodLink RX2 85 yX2_sameBytes, Cond.instanceMethod yX2_sameBytes, Cond.selects RX2 yX2_sameBytes yX2_sameBytes, Cond.code yX2_sameBytes cX2_sameBytes 6 (some .boolean), Cond.fieldLink RX2 27 "CutYard$Stock" "room" "[B", Cond.methodLink RX2 69 yX2_add, Cond.instanceMethod yX2_add, Cond.selects RX2 yX2_add yX2_add, Cond.code yX2_add cX2_add 6 (some .int)]
def wsX3_store_r4 : List Cond := [Cond.methodLink RX2 55 arraycopyName, Cond.native arraycopyName, Cond.static arraycopyName, Cond.initialized "java/lang/System", Cond.fieldLink RX2 35 "CutYard$Stock" "count" "I", Cond.fieldLink RX2 38 "CutYard$Stock" "bytes" "I", Cond.methodLink RX2 89 yX2_leastFree, Cond.instanceMethod yX2_leastFree, Cond.selects RX2 yX2_leastFree yX2_leastFree, Cond.code yX2_leastFree cX2_leastFree 1 (some .int), Cond.fieldLink RX2 31 "CutYard$Stock" "lowest" "I", Cond.methodLink RX2 93 yX2_makeRoomFor, Cond.instanceMethod yX2_makeRoomFor, Cond.selects RX2 yX2_makeRoomFor yX2_makeRoomFor, Cond.code yX2_makeRoomFor cX2_makeRoomFor 3 none, Cond.methodLink RX2 96 Lib.Math.max.name, Cond.static Lib.Math.max.name, Cond.code Lib.Math.max.name Lib.Math.max.code 2 (some .int), Cond.methodLink RX2 79 Lib.Math.min.name, Cond.methodLink RX2 99 yJ7_copyOf_9075b, Cond.static yJ7_copyOf_9075b, Cond.initialized RJ7, Cond.code yJ7_copyOf_9075b cJ7_copyOf_9075b 3 (some (.array .byte)), Cond.methodLink RJ7 310 ⟨"[B", "clone", "()Ljava/lang/Object;"⟩]
def wsX3_store_r5 : List Cond := [Cond.sameMethod "[B" "java/lang/Object" "clone" "()Ljava/lang/Object;", Cond.native ⟨"java/lang/Object", "clone", "()Ljava/lang/Object;"⟩, Cond.instanceMethod ⟨"java/lang/Object", "clone", "()Ljava/lang/Object;"⟩, Cond.selects "[B" ⟨"[B", "clone", "()Ljava/lang/Object;"⟩ ⟨"java/lang/Object", "clone", "()Ljava/lang/Object;"⟩, Cond.classLink RJ7 311 "[B", Cond.arrayClass .byte, Cond.methodLink RJ7 304 Lib.Math.min.name, Cond.methodLink RJ7 150 arraycopyName, Cond.methodLink RX2 72 yX2_useAgain, Cond.instanceMethod yX2_useAgain, Cond.selects RX2 yX2_useAgain yX2_useAgain, Cond.code yX2_useAgain cX2_useAgain 2 none, Cond.methodLink RX3 109 yX3_giveBack, Cond.instanceMethod yX3_giveBack, Cond.selects RX3 yX3_giveBack yX3_giveBack, Cond.code yX3_giveBack cX3_giveBack 4 none, Cond.methodLink RX3 169 yX2_giveBack, Cond.instanceMethod yX2_giveBack, Cond.selects RX2 yX2_giveBack yX2_giveBack, Cond.code yX2_giveBack cX2_giveBack 2 none, Cond.methodLink RX2 76 yX2_unchain, Cond.instanceMethod yX2_unchain, Cond.selects RX2 yX2_unchain yX2_unchain, Cond.code yX2_unchain cX2_unchain 5 none]
def wsX3_store_r6 : List Cond := [Cond.methodLink RX3 113 yX0_become, Cond.instanceMethod yX0_become, Cond.selects RX0 yX0_become yX0_become, Cond.initialized RX0, Cond.code yX0_become cX0_become 4 none, Cond.fieldLink RX0 11 "CutYard$Content" "numbers" "[I", Cond.methodLink RX0 22 Lib.Math.max.name, Cond.methodLink RX0 28 Lib.Math.min.name, Cond.arrayClass .int, Cond.methodLink RX0 31 arraycopyName, Cond.fieldLink RX0 15 "CutYard$Content" "count" "I", Cond.fieldLink RX0 19 "CutYard$Content" "bytes" "I"]
def wsX3_layOut : List Cond := .code yX3_layOut cX3_layOut 4 none :: ([.fieldLink RX3 19 "CutYard" "stock" "LCutYard$Stock;", .fieldLink RX3 37 "CutYard" "work" "[B", .methodLink RX3 171 yX2_writeOut, .instanceMethod yX2_writeOut, .selects RX2 yX2_writeOut yX2_writeOut, .initialized RX2, .code yX2_writeOut cX2_writeOut 5 (some .int), .fieldLink RX2 27 "CutYard$Stock" "room" "[B", .methodLink RX2 55 arraycopyName, .native arraycopyName, .static arraycopyName, .initialized "java/lang/System", .methodLink RX2 51 yX2_lengthOf, .instanceMethod yX2_lengthOf, .selects RX2 yX2_lengthOf yX2_lengthOf, .code yX2_lengthOf cX2_lengthOf 2 (some .int), .fieldLink RX2 15 "CutYard$Stock" "lengths" "[I", .methodLink RX2 47 yX2_has, .instanceMethod yX2_has, .selects RX2 yX2_has yX2_has, .code yX2_has cX2_has 2 (some .boolean), .fieldLink RX2 9 "CutYard$Stock" "uses" "[I"] ++ wsX00 ++ wsX30 ++ wsX20)
def wsX3_edit_r1 : List Cond := [Cond.classLink RX3 48 "java/lang/IllegalArgumentException", Cond.initialized "java/lang/IllegalArgumentException", Cond.classLink RX3 69 "java/lang/UnsupportedOperationException", Cond.initialized "java/lang/UnsupportedOperationException", Cond.fieldLink RX3 33 "CutYard" "inHand" "I", Cond.fieldLink RX3 37 "CutYard" "work" "[B", Cond.methodLink RX3 93 arraycopyName, Cond.native arraycopyName, Cond.static arraycopyName, Cond.initialized "java/lang/System", Cond.fieldLink RX3 29 "CutYard" "hand" "[B", Cond.methodLink RX3 74 yX3_fileAt, Cond.instanceMethod yX3_fileAt, Cond.selects RX3 yX3_fileAt yX3_fileAt, Cond.initialized RX3, Cond.code yX3_fileAt cX3_fileAt 2 (some (.object "CutYard$Content")), Cond.classLink RX3 117 "java/lang/IndexOutOfBoundsException", Cond.initialized "java/lang/IndexOutOfBoundsException", Cond.fieldLink RX3 25 "CutYard" "files" "[LCutYard$Content;", Cond.methodLink RX3 89 yX3_layOut, Cond.instanceMethod yX3_layOut, Cond.selects RX3 yX3_layOut yX3_layOut, Cond.code yX3_layOut cX3_layOut 4 none, Cond.fieldLink RX3 19 "CutYard" "stock" "LCutYard$Stock;"]
def wsX3_edit_r2 : List Cond := [Cond.methodLink RX3 171 yX2_writeOut, Cond.instanceMethod yX2_writeOut, Cond.selects RX2 yX2_writeOut yX2_writeOut, Cond.initialized RX2, Cond.code yX2_writeOut cX2_writeOut 5 (some .int), Cond.fieldLink RX2 27 "CutYard$Stock" "room" "[B", Cond.methodLink RX2 55 arraycopyName, Cond.methodLink RX2 51 yX2_lengthOf, Cond.instanceMethod yX2_lengthOf, Cond.selects RX2 yX2_lengthOf yX2_lengthOf, Cond.code yX2_lengthOf cX2_lengthOf 2 (some .int), Cond.fieldLink RX2 15 "CutYard$Stock" "lengths" "[I", Cond.methodLink RX2 47 yX2_has, Cond.instanceMethod yX2_has, Cond.selects RX2 yX2_has yX2_has, Cond.code yX2_has cX2_has 2 (some .boolean), Cond.fieldLink RX2 9 "CutYard$Stock" "uses" "[I", Cond.methodLink RX3 78 yX3_fillFile, Cond.instanceMethod yX3_fillFile, Cond.selects RX3 yX3_fillFile yX3_fillFile, Cond.code yX3_fillFile cX3_fillFile 7 (some .int), Cond.fieldLink RX3 40 "CutYard" "taken" "[I", Cond.methodLink RX3 156 yX3_takeParts, Cond.instanceMethod yX3_takeParts]
def wsX3_edit_r3 : List Cond := [Cond.selects RX3 yX3_takeParts yX3_takeParts, Cond.code yX3_takeParts cX3_takeParts 7 (some .int), Cond.fieldLink RX3 10 "CutYard" "cutter" "LCutYard$Cutter;", Cond.methodLink RX3 162 yX1_endOfPart, Cond.instanceMethod yX1_endOfPart, Cond.selects RX1 yX1_endOfPart yX1_endOfPart, Cond.initialized RX1, Cond.code yX1_endOfPart cX1_endOfPart 7 (some .int), Cond.fieldLink RX1 16 "CutYard$Cutter" "most" "I", Cond.methodLink RX1 19 Lib.Math.min.name, Cond.static Lib.Math.min.name, Cond.initialized "java/lang/Math", Cond.code Lib.Math.min.name Lib.Math.min.code 2 (some .int), Cond.fieldLink RX1 13 "CutYard$Cutter" "least" "I", Cond.fieldLink RX1 7 "CutYard$Cutter" "mask" "I", Cond.methodLink RX1 25 yX1_turned, Cond.static yX1_turned, Cond.code yX1_turned cX1_turned 2 (some .int), Cond.methodLink RX1 28 yX1_mark, Cond.static yX1_mark, Cond.code yX1_mark cX1_mark 2 (some .int), Cond.constant RX1 32 (-1640531527), Cond.methodLink RX3 166 yX2_take, Cond.instanceMethod yX2_take]
def wsX3_edit_r4 : List Cond := [Cond.selects RX2 yX2_take yX2_take, Cond.code yX2_take cX2_take 6 (some .int), Cond.methodLink RX2 61 yX2_hashOf, Cond.static yX2_hashOf, Cond.code yX2_hashOf cX2_hashOf 5 (some .int), Cond.methodLink RX2 65 yX2_find, Cond.instanceMethod yX2_find, Cond.selects RX2 yX2_find yX2_find, Cond.code yX2_find cX2_find 7 (some .int), Cond.fieldLink RX2 24 "CutYard$Stock" "heads" "[I", Cond.fieldLink RX2 18 "CutYard$Stock" "hashes" "[I", Cond.fieldLink RX2 21 "CutYard$Stock" "next" "[I", Cond.methodLink RX2 85 yX2_sameBytes, Cond.instanceMethod yX2_sameBytes, Cond.selects RX2 yX2_sameBytes yX2_sameBytes, Cond.code yX2_sameBytes cX2_sameBytes 6 (some .boolean), Cond.methodLink RX2 69 yX2_add, Cond.instanceMethod yX2_add, Cond.selects RX2 yX2_add yX2_add, Cond.code yX2_add cX2_add 6 (some .int), Cond.fieldLink RX2 35 "CutYard$Stock" "count" "I", Cond.fieldLink RX2 38 "CutYard$Stock" "bytes" "I", Cond.methodLink RX2 89 yX2_leastFree, Cond.instanceMethod yX2_leastFree]
def wsX3_edit_r5 : List Cond := [Cond.selects RX2 yX2_leastFree yX2_leastFree, Cond.code yX2_leastFree cX2_leastFree 1 (some .int), Cond.fieldLink RX2 31 "CutYard$Stock" "lowest" "I", Cond.methodLink RX2 93 yX2_makeRoomFor, Cond.instanceMethod yX2_makeRoomFor, Cond.selects RX2 yX2_makeRoomFor yX2_makeRoomFor, Cond.code yX2_makeRoomFor cX2_makeRoomFor 3 none, Cond.methodLink RX2 96 Lib.Math.max.name, Cond.static Lib.Math.max.name, Cond.code Lib.Math.max.name Lib.Math.max.code 2 (some .int), Cond.methodLink RX2 79 Lib.Math.min.name, Cond.methodLink RX2 99 yJ7_copyOf_9075b, Cond.static yJ7_copyOf_9075b, Cond.initialized RJ7, Cond.code yJ7_copyOf_9075b cJ7_copyOf_9075b 3 (some (.array .byte)), Cond.methodLink RJ7 310 ⟨"[B", "clone", "()Ljava/lang/Object;"⟩, Cond.sameMethod "[B" "java/lang/Object" "clone" "()Ljava/lang/Object;", Cond.native ⟨"java/lang/Object", "clone", "()Ljava/lang/Object;"⟩, Cond.instanceMethod ⟨"java/lang/Object", "clone", "()Ljava/lang/Object;"⟩, Cond.selects "[B" ⟨"[B", "clone", "()Ljava/lang/Object;"⟩ ⟨"java/lang/Object", "clone", "()Ljava/lang/Object;"⟩, Cond.classLink RJ7 311 "[B", Cond.arrayClass .byte, Cond.methodLink RJ7 304 Lib.Math.min.name, Cond.methodLink RJ7 150 arraycopyName]
def wsX3_edit_r6 : List Cond := [Cond.methodLink RX2 72 yX2_useAgain, Cond.instanceMethod yX2_useAgain, Cond.selects RX2 yX2_useAgain yX2_useAgain, Cond.code yX2_useAgain cX2_useAgain 2 none, Cond.methodLink RX3 109 yX3_giveBack, Cond.instanceMethod yX3_giveBack, Cond.selects RX3 yX3_giveBack yX3_giveBack, Cond.code yX3_giveBack cX3_giveBack 4 none, Cond.methodLink RX3 169 yX2_giveBack, Cond.instanceMethod yX2_giveBack, Cond.selects RX2 yX2_giveBack yX2_giveBack, Cond.code yX2_giveBack cX2_giveBack 2 none, Cond.methodLink RX2 76 yX2_unchain, Cond.instanceMethod yX2_unchain, Cond.selects RX2 yX2_unchain yX2_unchain, Cond.code yX2_unchain cX2_unchain 5 none, Cond.methodLink RX3 113 yX0_become, Cond.instanceMethod yX0_become, Cond.selects RX0 yX0_become yX0_become, Cond.initialized RX0, Cond.code yX0_become cX0_become 4 none, Cond.fieldLink RX0 11 "CutYard$Content" "numbers" "[I", Cond.methodLink RX0 22 Lib.Math.max.name, Cond.methodLink RX0 28 Lib.Math.min.name]
def wsX3_edit_r7 : List Cond := [Cond.arrayClass .int, Cond.methodLink RX0 31 arraycopyName, Cond.fieldLink RX0 15 "CutYard$Content" "count" "I", Cond.fieldLink RX0 19 "CutYard$Content" "bytes" "I"]
def wsX3_copy_r1 : List Cond := [Cond.fieldLink RX3 19 "CutYard" "stock" "LCutYard$Stock;", Cond.methodLink RX3 74 yX3_fileAt, Cond.instanceMethod yX3_fileAt, Cond.selects RX3 yX3_fileAt yX3_fileAt, Cond.initialized RX3, Cond.code yX3_fileAt cX3_fileAt 2 (some (.object "CutYard$Content")), Cond.classLink RX3 117 "java/lang/IndexOutOfBoundsException", Cond.initialized "java/lang/IndexOutOfBoundsException", Cond.fieldLink RX3 25 "CutYard" "files" "[LCutYard$Content;", Cond.methodLink RX3 105 yX2_useAgain, Cond.instanceMethod yX2_useAgain, Cond.selects RX2 yX2_useAgain yX2_useAgain, Cond.initialized RX2, Cond.code yX2_useAgain cX2_useAgain 2 none, Cond.fieldLink RX2 9 "CutYard$Stock" "uses" "[I", Cond.methodLink RX2 47 yX2_has, Cond.instanceMethod yX2_has, Cond.selects RX2 yX2_has yX2_has, Cond.code yX2_has cX2_has 2 (some .boolean), Cond.methodLink RX3 109 yX3_giveBack, Cond.instanceMethod yX3_giveBack, Cond.selects RX3 yX3_giveBack yX3_giveBack, Cond.code yX3_giveBack cX3_giveBack 4 none, Cond.methodLink RX3 169 yX2_giveBack]
def wsX3_copy_r2 : List Cond := [Cond.instanceMethod yX2_giveBack, Cond.selects RX2 yX2_giveBack yX2_giveBack, Cond.code yX2_giveBack cX2_giveBack 2 none, Cond.fieldLink RX2 31 "CutYard$Stock" "lowest" "I", Cond.methodLink RX2 79 Lib.Math.min.name, Cond.static Lib.Math.min.name, Cond.initialized "java/lang/Math", Cond.code Lib.Math.min.name Lib.Math.min.code 2 (some .int), Cond.fieldLink RX2 35 "CutYard$Stock" "count" "I", Cond.fieldLink RX2 38 "CutYard$Stock" "bytes" "I", Cond.fieldLink RX2 15 "CutYard$Stock" "lengths" "[I", Cond.methodLink RX2 76 yX2_unchain, Cond.instanceMethod yX2_unchain, Cond.selects RX2 yX2_unchain yX2_unchain, Cond.code yX2_unchain cX2_unchain 5 none, Cond.fieldLink RX2 18 "CutYard$Stock" "hashes" "[I", Cond.fieldLink RX2 24 "CutYard$Stock" "heads" "[I", Cond.fieldLink RX2 21 "CutYard$Stock" "next" "[I", Cond.methodLink RX3 113 yX0_become, Cond.instanceMethod yX0_become, Cond.selects RX0 yX0_become yX0_become, Cond.initialized RX0, Cond.code yX0_become cX0_become 4 none, Cond.fieldLink RX0 11 "CutYard$Content" "numbers" "[I"]
def wsX3_copy_r3 : List Cond := [Cond.methodLink RX0 22 Lib.Math.max.name, Cond.static Lib.Math.max.name, Cond.code Lib.Math.max.name Lib.Math.max.code 2 (some .int), Cond.methodLink RX0 28 Lib.Math.min.name, Cond.arrayClass .int, Cond.methodLink RX0 31 arraycopyName, Cond.native arraycopyName, Cond.static arraycopyName, Cond.initialized "java/lang/System", Cond.fieldLink RX0 15 "CutYard$Content" "count" "I", Cond.fieldLink RX0 19 "CutYard$Content" "bytes" "I"]
def wsX3_get_r1 : List Cond := [Cond.classLink RX3 117 "java/lang/IndexOutOfBoundsException", Cond.initialized "java/lang/IndexOutOfBoundsException", Cond.fieldLink RX3 19 "CutYard" "stock" "LCutYard$Stock;", Cond.methodLink RX3 74 yX3_fileAt, Cond.instanceMethod yX3_fileAt, Cond.selects RX3 yX3_fileAt yX3_fileAt, Cond.initialized RX3, Cond.code yX3_fileAt cX3_fileAt 2 (some (.object "CutYard$Content")), Cond.fieldLink RX3 25 "CutYard" "files" "[LCutYard$Content;", Cond.methodLink RX3 122 yX2_lengthOf, Cond.instanceMethod yX2_lengthOf, Cond.selects RX2 yX2_lengthOf yX2_lengthOf, Cond.initialized RX2, Cond.code yX2_lengthOf cX2_lengthOf 2 (some .int), Cond.fieldLink RX2 15 "CutYard$Stock" "lengths" "[I", Cond.methodLink RX2 47 yX2_has, Cond.instanceMethod yX2_has, Cond.selects RX2 yX2_has yX2_has, Cond.code yX2_has cX2_has 2 (some .boolean), Cond.fieldLink RX2 9 "CutYard$Stock" "uses" "[I", Cond.methodLink RX3 126 yX2_byteOf, Cond.instanceMethod yX2_byteOf, Cond.selects RX2 yX2_byteOf yX2_byteOf, Cond.code yX2_byteOf cX2_byteOf 3 (some .int)]
def wsX3_get_r2 : List Cond := [Cond.fieldLink RX2 27 "CutYard$Stock" "room" "[B", Cond.methodLink RX2 51 yX2_lengthOf]
def wsX3_filesWith : List Cond := .code yX3_filesWith cX3_filesWith 4 (some .int) :: ([.fieldLink RX3 25 "CutYard" "files" "[LCutYard$Content;", .methodLink RX3 175 yX0_hasNumber, .instanceMethod yX0_hasNumber, .selects RX0 yX0_hasNumber yX0_hasNumber, .initialized RX0, .code yX0_hasNumber cX0_hasNumber 3 (some .boolean), .fieldLink RX0 15 "CutYard$Content" "count" "I", .fieldLink RX0 11 "CutYard$Content" "numbers" "[I"] ++ wsX30 ++ wsX00)
def wsX3_about_r1 : List Cond := [Cond.classLink RX3 136 "java/util/NoSuchElementException", Cond.initialized "java/util/NoSuchElementException", Cond.classLink RX3 48 "java/lang/IllegalArgumentException", Cond.initialized "java/lang/IllegalArgumentException", Cond.fieldLink RX3 19 "CutYard" "stock" "LCutYard$Stock;", Cond.methodLink RX3 132 yX2_has, Cond.instanceMethod yX2_has, Cond.selects RX2 yX2_has yX2_has, Cond.initialized RX2, Cond.code yX2_has cX2_has 2 (some .boolean), Cond.fieldLink RX2 9 "CutYard$Stock" "uses" "[I", Cond.methodLink RX3 122 yX2_lengthOf, Cond.instanceMethod yX2_lengthOf, Cond.selects RX2 yX2_lengthOf yX2_lengthOf, Cond.code yX2_lengthOf cX2_lengthOf 2 (some .int), Cond.fieldLink RX2 15 "CutYard$Stock" "lengths" "[I", Cond.methodLink RX2 47 yX2_has, Cond.methodLink RX3 139 yX2_usesOf, Cond.instanceMethod yX2_usesOf, Cond.selects RX2 yX2_usesOf yX2_usesOf, Cond.code yX2_usesOf cX2_usesOf 2 (some .int), Cond.methodLink RX3 142 yX3_filesWith, Cond.instanceMethod yX3_filesWith, Cond.selects RX3 yX3_filesWith yX3_filesWith]
def wsX3_about_r2 : List Cond := [Cond.initialized RX3, Cond.code yX3_filesWith cX3_filesWith 4 (some .int), Cond.fieldLink RX3 25 "CutYard" "files" "[LCutYard$Content;", Cond.methodLink RX3 175 yX0_hasNumber, Cond.instanceMethod yX0_hasNumber, Cond.selects RX0 yX0_hasNumber yX0_hasNumber, Cond.initialized RX0, Cond.code yX0_hasNumber cX0_hasNumber 3 (some .boolean), Cond.fieldLink RX0 15 "CutYard$Content" "count" "I", Cond.fieldLink RX0 11 "CutYard$Content" "numbers" "[I"]
def wsX3_common_r1 : List Cond := [Cond.fieldLink RX3 44 "CutYard" "seen" "[I", Cond.fieldLink RX3 19 "CutYard" "stock" "LCutYard$Stock;", Cond.methodLink RX3 74 yX3_fileAt, Cond.instanceMethod yX3_fileAt, Cond.selects RX3 yX3_fileAt yX3_fileAt, Cond.initialized RX3, Cond.code yX3_fileAt cX3_fileAt 2 (some (.object "CutYard$Content")), Cond.classLink RX3 117 "java/lang/IndexOutOfBoundsException", Cond.initialized "java/lang/IndexOutOfBoundsException", Cond.fieldLink RX3 25 "CutYard" "files" "[LCutYard$Content;", Cond.methodLink RX3 147 yJ7_fill_53178, Cond.static yJ7_fill_53178, Cond.initialized RJ7, Cond.code yJ7_fill_53178 cJ7_fill_53178 4 none, Cond.methodLink RX3 132 yX2_has, Cond.instanceMethod yX2_has, Cond.selects RX2 yX2_has yX2_has, Cond.initialized RX2, Cond.code yX2_has cX2_has 2 (some .boolean), Cond.fieldLink RX2 9 "CutYard$Stock" "uses" "[I", Cond.methodLink RX3 122 yX2_lengthOf, Cond.instanceMethod yX2_lengthOf, Cond.selects RX2 yX2_lengthOf yX2_lengthOf, Cond.code yX2_lengthOf cX2_lengthOf 2 (some .int)]
def wsX3_common_r2 : List Cond := [Cond.fieldLink RX2 15 "CutYard$Stock" "lengths" "[I", Cond.methodLink RX2 47 yX2_has]
def wsX4_init : List Cond := .code yX4_init cX4_init 1 none :: ([.methodLink RX4 1 objectInit, .instanceMethod objectInit, .code objectInit ⟨#[0xb1]⟩ 1 none, .fieldLink RX4 7 "CutYardModel" "bits" "I", .fieldLink RX4 13 "CutYardModel" "least" "I", .fieldLink RX4 16 "CutYardModel" "most" "I", .arrayClass .int, .fieldLink RX4 19 "CutYardModel" "hand" "[I", .fieldLink RX4 23 "CutYardModel" "row" "[I", .fieldLink RX4 26 "CutYardModel" "ends" "[I", .fieldLink RX4 29 "CutYardModel" "numbers" "[I", .arrayClass .boolean, .fieldLink RX4 32 "CutYardModel" "fresh" "[Z", .fieldLink RX4 36 "CutYardModel" "sizes" "[I", .fieldLink RX4 39 "CutYardModel" "bytes" "[I", .fieldLink RX4 42 "CutYardModel" "counts" "[I", .fieldLink RX4 45 "CutYardModel" "parts" "[I", .fieldLink RX4 48 "CutYardModel" "uses" "[I", .fieldLink RX4 51 "CutYardModel" "lengths" "[I", .fieldLink RX4 54 "CutYardModel" "contents" "[I"] ++ wsX40)
def wsX4_thrown : List Cond := .code yX4_thrown cX4_thrown 1 (some .int) :: ([.fieldLink RX4 57 "CutYardModel" "thrown" "I"] ++ wsX40)
def wsX4_refuse : List Cond := .code yX4_refuse cX4_refuse 4 (some .boolean) :: ([.fieldLink RX4 57 "CutYardModel" "thrown" "I"] ++ wsX40)
def wsX4_in : List Cond := .code yX4_in cX4_in 3 (some .boolean) :: ([])
def wsX4_isFile : List Cond := .code yX4_isFile cX4_isFile 1 (some .boolean) :: ([.methodLink RX4 60 yX4_in, .static yX4_in, .initialized RX4, .code yX4_in cX4_in 3 (some .boolean)])
def wsX4_begin : List Cond := .code yX4_begin cX4_begin 6 none :: ([.fieldLink RX4 7 "CutYardModel" "bits" "I", .fieldLink RX4 13 "CutYardModel" "least" "I", .fieldLink RX4 16 "CutYardModel" "most" "I", .fieldLink RX4 36 "CutYardModel" "sizes" "[I", .fieldLink RX4 42 "CutYardModel" "counts" "[I", .fieldLink RX4 48 "CutYardModel" "uses" "[I", .methodLink RX4 60 yX4_in, .static yX4_in, .initialized RX4, .code yX4_in cX4_in 3 (some .boolean), .methodLink RX4 64 yX4_refuse, .instanceMethod yX4_refuse, .selects RX4 yX4_refuse yX4_refuse, .code yX4_refuse cX4_refuse 4 (some .boolean), .fieldLink RX4 57 "CutYardModel" "thrown" "I"] ++ wsX40)
def wsX4_put : List Cond := .code yX4_put cX4_put 5 (some .int) :: ([.fieldLink RX4 68 "CutYardModel" "held" "I", .fieldLink RX4 19 "CutYardModel" "hand" "[I", .methodLink RX4 60 yX4_in, .static yX4_in, .initialized RX4, .code yX4_in cX4_in 3 (some .boolean), .methodLink RX4 64 yX4_refuse, .instanceMethod yX4_refuse, .selects RX4 yX4_refuse yX4_refuse, .code yX4_refuse cX4_refuse 4 (some .boolean), .fieldLink RX4 57 "CutYardModel" "thrown" "I"] ++ wsX40)
def wsX4_mark : List Cond := .code yX4_mark cX4_mark 2 (some .int) :: ([.constant RX4 71 (-1640531527)])
def wsX4_sum : List Cond := .code yX4_sum cX4_sum 6 (some .int) :: ([.fieldLink RX4 23 "CutYardModel" "row" "[I", .methodLink RX4 72 yX4_mark, .static yX4_mark, .initialized RX4, .code yX4_mark cX4_mark 2 (some .int), .constant RX4 71 (-1640531527)] ++ wsX40)
def wsX4_cut : List Cond := .code yX4_cut cX4_cut 5 none :: ([.fieldLink RX4 76 "CutYardModel" "cuts" "I", .fieldLink RX4 79 "CutYardModel" "size" "I", .fieldLink RX4 16 "CutYardModel" "most" "I", .fieldLink RX4 13 "CutYardModel" "least" "I", .fieldLink RX4 7 "CutYardModel" "bits" "I", .fieldLink RX4 26 "CutYardModel" "ends" "[I", .methodLink RX4 82 yX4_sum, .instanceMethod yX4_sum, .selects RX4 yX4_sum yX4_sum, .initialized RX4, .code yX4_sum cX4_sum 6 (some .int), .fieldLink RX4 23 "CutYardModel" "row" "[I", .methodLink RX4 72 yX4_mark, .static yX4_mark, .code yX4_mark cX4_mark 2 (some .int), .constant RX4 71 (-1640531527)] ++ wsX40)
def wsX4_beginOf : List Cond := .code yX4_beginOf cX4_beginOf 2 (some .int) :: ([.fieldLink RX4 26 "CutYardModel" "ends" "[I"] ++ wsX40)
def wsX4_isPart : List Cond := .code yX4_isPart cX4_isPart 6 (some .boolean) :: ([.fieldLink RX4 48 "CutYardModel" "uses" "[I", .fieldLink RX4 32 "CutYardModel" "fresh" "[Z", .fieldLink RX4 51 "CutYardModel" "lengths" "[I", .fieldLink RX4 54 "CutYardModel" "contents" "[I", .fieldLink RX4 23 "CutYardModel" "row" "[I"] ++ wsX40)
def wsX4_numberOf : List Cond := .code yX4_numberOf cX4_numberOf 5 (some .int) :: ([.fieldLink RX4 48 "CutYardModel" "uses" "[I", .fieldLink RX4 32 "CutYardModel" "fresh" "[Z", .fieldLink RX4 51 "CutYardModel" "lengths" "[I", .fieldLink RX4 54 "CutYardModel" "contents" "[I", .fieldLink RX4 23 "CutYardModel" "row" "[I", .methodLink RX4 86 yX4_isPart, .instanceMethod yX4_isPart, .selects RX4 yX4_isPart yX4_isPart, .initialized RX4, .code yX4_isPart cX4_isPart 6 (some .boolean)] ++ wsX40)
def wsX4_give_r1 : List Cond := [Cond.fieldLink RX4 32 "CutYardModel" "fresh" "[Z", Cond.fieldLink RX4 76 "CutYardModel" "cuts" "I", Cond.fieldLink RX4 29 "CutYardModel" "numbers" "[I", Cond.fieldLink RX4 26 "CutYardModel" "ends" "[I", Cond.methodLink RX4 89 yX4_cut, Cond.instanceMethod yX4_cut, Cond.selects RX4 yX4_cut yX4_cut, Cond.initialized RX4, Cond.code yX4_cut cX4_cut 5 none, Cond.fieldLink RX4 79 "CutYardModel" "size" "I", Cond.fieldLink RX4 16 "CutYardModel" "most" "I", Cond.fieldLink RX4 13 "CutYardModel" "least" "I", Cond.fieldLink RX4 7 "CutYardModel" "bits" "I", Cond.methodLink RX4 82 yX4_sum, Cond.instanceMethod yX4_sum, Cond.selects RX4 yX4_sum yX4_sum, Cond.code yX4_sum cX4_sum 6 (some .int), Cond.fieldLink RX4 23 "CutYardModel" "row" "[I", Cond.methodLink RX4 72 yX4_mark, Cond.static yX4_mark, Cond.code yX4_mark cX4_mark 2 (some .int), Cond.constant RX4 71 (-1640531527), Cond.methodLink RX4 92 yX4_beginOf, Cond.instanceMethod yX4_beginOf]
def wsX4_give_r2 : List Cond := [Cond.selects RX4 yX4_beginOf yX4_beginOf, Cond.code yX4_beginOf cX4_beginOf 2 (some .int), Cond.methodLink RX4 95 yX4_numberOf, Cond.instanceMethod yX4_numberOf, Cond.selects RX4 yX4_numberOf yX4_numberOf, Cond.code yX4_numberOf cX4_numberOf 5 (some .int), Cond.fieldLink RX4 48 "CutYardModel" "uses" "[I", Cond.fieldLink RX4 51 "CutYardModel" "lengths" "[I", Cond.fieldLink RX4 54 "CutYardModel" "contents" "[I", Cond.methodLink RX4 86 yX4_isPart, Cond.instanceMethod yX4_isPart, Cond.selects RX4 yX4_isPart yX4_isPart, Cond.code yX4_isPart cX4_isPart 6 (some .boolean)]
def wsX4_give : List Cond := .code yX4_give cX4_give 4 (some .int) :: ((wsX4_give_r1 ++ wsX4_give_r2) ++ wsX40)
def wsX4_take : List Cond := .code yX4_take cX4_take 3 none :: ([.fieldLink RX4 76 "CutYardModel" "cuts" "I", .fieldLink RX4 48 "CutYardModel" "uses" "[I", .fieldLink RX4 29 "CutYardModel" "numbers" "[I", .fieldLink RX4 42 "CutYardModel" "counts" "[I", .fieldLink RX4 45 "CutYardModel" "parts" "[I", .fieldLink RX4 36 "CutYardModel" "sizes" "[I", .fieldLink RX4 79 "CutYardModel" "size" "I", .fieldLink RX4 39 "CutYardModel" "bytes" "[I", .fieldLink RX4 23 "CutYardModel" "row" "[I"] ++ wsX40)
def wsX4_store_r1 : List Cond := [Cond.fieldLink RX4 68 "CutYardModel" "held" "I", Cond.fieldLink RX4 79 "CutYardModel" "size" "I", Cond.fieldLink RX4 23 "CutYardModel" "row" "[I", Cond.fieldLink RX4 19 "CutYardModel" "hand" "[I", Cond.methodLink RX4 98 yX4_isFile, Cond.static yX4_isFile, Cond.initialized RX4, Cond.code yX4_isFile cX4_isFile 1 (some .boolean), Cond.methodLink RX4 60 yX4_in, Cond.static yX4_in, Cond.code yX4_in cX4_in 3 (some .boolean), Cond.methodLink RX4 64 yX4_refuse, Cond.instanceMethod yX4_refuse, Cond.selects RX4 yX4_refuse yX4_refuse, Cond.code yX4_refuse cX4_refuse 4 (some .boolean), Cond.fieldLink RX4 57 "CutYardModel" "thrown" "I", Cond.methodLink RX4 102 yX4_give, Cond.instanceMethod yX4_give, Cond.selects RX4 yX4_give yX4_give, Cond.code yX4_give cX4_give 4 (some .int), Cond.fieldLink RX4 32 "CutYardModel" "fresh" "[Z", Cond.fieldLink RX4 76 "CutYardModel" "cuts" "I", Cond.fieldLink RX4 29 "CutYardModel" "numbers" "[I", Cond.fieldLink RX4 26 "CutYardModel" "ends" "[I"]
def wsX4_store_r2 : List Cond := [Cond.methodLink RX4 89 yX4_cut, Cond.instanceMethod yX4_cut, Cond.selects RX4 yX4_cut yX4_cut, Cond.code yX4_cut cX4_cut 5 none, Cond.fieldLink RX4 16 "CutYardModel" "most" "I", Cond.fieldLink RX4 13 "CutYardModel" "least" "I", Cond.fieldLink RX4 7 "CutYardModel" "bits" "I", Cond.methodLink RX4 82 yX4_sum, Cond.instanceMethod yX4_sum, Cond.selects RX4 yX4_sum yX4_sum, Cond.code yX4_sum cX4_sum 6 (some .int), Cond.methodLink RX4 72 yX4_mark, Cond.static yX4_mark, Cond.code yX4_mark cX4_mark 2 (some .int), Cond.constant RX4 71 (-1640531527), Cond.methodLink RX4 92 yX4_beginOf, Cond.instanceMethod yX4_beginOf, Cond.selects RX4 yX4_beginOf yX4_beginOf, Cond.code yX4_beginOf cX4_beginOf 2 (some .int), Cond.methodLink RX4 95 yX4_numberOf, Cond.instanceMethod yX4_numberOf, Cond.selects RX4 yX4_numberOf yX4_numberOf, Cond.code yX4_numberOf cX4_numberOf 5 (some .int), Cond.fieldLink RX4 48 "CutYardModel" "uses" "[I"]
def wsX4_store_r3 : List Cond := [Cond.fieldLink RX4 51 "CutYardModel" "lengths" "[I", Cond.fieldLink RX4 54 "CutYardModel" "contents" "[I", Cond.methodLink RX4 86 yX4_isPart, Cond.instanceMethod yX4_isPart, Cond.selects RX4 yX4_isPart yX4_isPart, Cond.code yX4_isPart cX4_isPart 6 (some .boolean), Cond.methodLink RX4 106 yX4_take, Cond.instanceMethod yX4_take, Cond.selects RX4 yX4_take yX4_take, Cond.code yX4_take cX4_take 3 none, Cond.fieldLink RX4 42 "CutYardModel" "counts" "[I", Cond.fieldLink RX4 45 "CutYardModel" "parts" "[I", Cond.fieldLink RX4 36 "CutYardModel" "sizes" "[I", Cond.fieldLink RX4 39 "CutYardModel" "bytes" "[I"]
def wsX4_store : List Cond := .code yX4_store cX4_store 3 (some .int) :: ((wsX4_store_r1 ++ (wsX4_store_r2 ++ wsX4_store_r3)) ++ wsX40)
def wsX4_edit_r1 : List Cond := [Cond.fieldLink RX4 36 "CutYardModel" "sizes" "[I", Cond.fieldLink RX4 68 "CutYardModel" "held" "I", Cond.fieldLink RX4 79 "CutYardModel" "size" "I", Cond.fieldLink RX4 23 "CutYardModel" "row" "[I", Cond.fieldLink RX4 39 "CutYardModel" "bytes" "[I", Cond.fieldLink RX4 19 "CutYardModel" "hand" "[I", Cond.methodLink RX4 98 yX4_isFile, Cond.static yX4_isFile, Cond.initialized RX4, Cond.code yX4_isFile cX4_isFile 1 (some .boolean), Cond.methodLink RX4 60 yX4_in, Cond.static yX4_in, Cond.code yX4_in cX4_in 3 (some .boolean), Cond.methodLink RX4 64 yX4_refuse, Cond.instanceMethod yX4_refuse, Cond.selects RX4 yX4_refuse yX4_refuse, Cond.code yX4_refuse cX4_refuse 4 (some .boolean), Cond.fieldLink RX4 57 "CutYardModel" "thrown" "I", Cond.methodLink RX4 102 yX4_give, Cond.instanceMethod yX4_give, Cond.selects RX4 yX4_give yX4_give, Cond.code yX4_give cX4_give 4 (some .int), Cond.fieldLink RX4 32 "CutYardModel" "fresh" "[Z", Cond.fieldLink RX4 76 "CutYardModel" "cuts" "I"]
def wsX4_edit_r2 : List Cond := [Cond.fieldLink RX4 29 "CutYardModel" "numbers" "[I", Cond.fieldLink RX4 26 "CutYardModel" "ends" "[I", Cond.methodLink RX4 89 yX4_cut, Cond.instanceMethod yX4_cut, Cond.selects RX4 yX4_cut yX4_cut, Cond.code yX4_cut cX4_cut 5 none, Cond.fieldLink RX4 16 "CutYardModel" "most" "I", Cond.fieldLink RX4 13 "CutYardModel" "least" "I", Cond.fieldLink RX4 7 "CutYardModel" "bits" "I", Cond.methodLink RX4 82 yX4_sum, Cond.instanceMethod yX4_sum, Cond.selects RX4 yX4_sum yX4_sum, Cond.code yX4_sum cX4_sum 6 (some .int), Cond.methodLink RX4 72 yX4_mark, Cond.static yX4_mark, Cond.code yX4_mark cX4_mark 2 (some .int), Cond.constant RX4 71 (-1640531527), Cond.methodLink RX4 92 yX4_beginOf, Cond.instanceMethod yX4_beginOf, Cond.selects RX4 yX4_beginOf yX4_beginOf, Cond.code yX4_beginOf cX4_beginOf 2 (some .int), Cond.methodLink RX4 95 yX4_numberOf, Cond.instanceMethod yX4_numberOf, Cond.selects RX4 yX4_numberOf yX4_numberOf]
def wsX4_edit_r3 : List Cond := [Cond.code yX4_numberOf cX4_numberOf 5 (some .int), Cond.fieldLink RX4 48 "CutYardModel" "uses" "[I", Cond.fieldLink RX4 51 "CutYardModel" "lengths" "[I", Cond.fieldLink RX4 54 "CutYardModel" "contents" "[I", Cond.methodLink RX4 86 yX4_isPart, Cond.instanceMethod yX4_isPart, Cond.selects RX4 yX4_isPart yX4_isPart, Cond.code yX4_isPart cX4_isPart 6 (some .boolean), Cond.methodLink RX4 106 yX4_take, Cond.instanceMethod yX4_take, Cond.selects RX4 yX4_take yX4_take, Cond.code yX4_take cX4_take 3 none, Cond.fieldLink RX4 42 "CutYardModel" "counts" "[I", Cond.fieldLink RX4 45 "CutYardModel" "parts" "[I"]
def wsX4_edit : List Cond := .code yX4_edit cX4_edit 8 (some .int) :: ((wsX4_edit_r1 ++ (wsX4_edit_r2 ++ wsX4_edit_r3)) ++ wsX40)
def wsX4_copy_r1 : List Cond := [Cond.fieldLink RX4 36 "CutYardModel" "sizes" "[I", Cond.fieldLink RX4 79 "CutYardModel" "size" "I", Cond.fieldLink RX4 42 "CutYardModel" "counts" "[I", Cond.fieldLink RX4 76 "CutYardModel" "cuts" "I", Cond.fieldLink RX4 23 "CutYardModel" "row" "[I", Cond.fieldLink RX4 39 "CutYardModel" "bytes" "[I", Cond.fieldLink RX4 29 "CutYardModel" "numbers" "[I", Cond.fieldLink RX4 45 "CutYardModel" "parts" "[I", Cond.methodLink RX4 98 yX4_isFile, Cond.static yX4_isFile, Cond.initialized RX4, Cond.code yX4_isFile cX4_isFile 1 (some .boolean), Cond.methodLink RX4 60 yX4_in, Cond.static yX4_in, Cond.code yX4_in cX4_in 3 (some .boolean), Cond.methodLink RX4 64 yX4_refuse, Cond.instanceMethod yX4_refuse, Cond.selects RX4 yX4_refuse yX4_refuse, Cond.code yX4_refuse cX4_refuse 4 (some .boolean), Cond.fieldLink RX4 57 "CutYardModel" "thrown" "I", Cond.methodLink RX4 106 yX4_take, Cond.instanceMethod yX4_take, Cond.selects RX4 yX4_take yX4_take, Cond.code yX4_take cX4_take 3 none]
def wsX4_copy_r2 : List Cond := [Cond.fieldLink RX4 48 "CutYardModel" "uses" "[I"]
def wsX4_copy : List Cond := .code yX4_copy cX4_copy 4 none :: ((wsX4_copy_r1 ++ wsX4_copy_r2) ++ wsX40)
def wsX4_size : List Cond := .code yX4_size cX4_size 2 (some .int) :: ([.fieldLink RX4 36 "CutYardModel" "sizes" "[I", .methodLink RX4 98 yX4_isFile, .static yX4_isFile, .initialized RX4, .code yX4_isFile cX4_isFile 1 (some .boolean), .methodLink RX4 60 yX4_in, .static yX4_in, .code yX4_in cX4_in 3 (some .boolean), .methodLink RX4 64 yX4_refuse, .instanceMethod yX4_refuse, .selects RX4 yX4_refuse yX4_refuse, .code yX4_refuse cX4_refuse 4 (some .boolean), .fieldLink RX4 57 "CutYardModel" "thrown" "I"] ++ wsX40)
def wsX4_get : List Cond := .code yX4_get cX4_get 4 (some .int) :: ([.fieldLink RX4 36 "CutYardModel" "sizes" "[I", .fieldLink RX4 39 "CutYardModel" "bytes" "[I", .methodLink RX4 98 yX4_isFile, .static yX4_isFile, .initialized RX4, .code yX4_isFile cX4_isFile 1 (some .boolean), .methodLink RX4 60 yX4_in, .static yX4_in, .code yX4_in cX4_in 3 (some .boolean), .methodLink RX4 64 yX4_refuse, .instanceMethod yX4_refuse, .selects RX4 yX4_refuse yX4_refuse, .code yX4_refuse cX4_refuse 4 (some .boolean), .fieldLink RX4 57 "CutYardModel" "thrown" "I"] ++ wsX40)
def wsX4_parts : List Cond := .code yX4_parts cX4_parts 2 (some .int) :: ([.fieldLink RX4 42 "CutYardModel" "counts" "[I", .methodLink RX4 98 yX4_isFile, .static yX4_isFile, .initialized RX4, .code yX4_isFile cX4_isFile 1 (some .boolean), .methodLink RX4 60 yX4_in, .static yX4_in, .code yX4_in cX4_in 3 (some .boolean), .methodLink RX4 64 yX4_refuse, .instanceMethod yX4_refuse, .selects RX4 yX4_refuse yX4_refuse, .code yX4_refuse cX4_refuse 4 (some .boolean), .fieldLink RX4 57 "CutYardModel" "thrown" "I"] ++ wsX40)
def wsX4_part : List Cond := .code yX4_part cX4_part 4 (some .int) :: ([.fieldLink RX4 42 "CutYardModel" "counts" "[I", .fieldLink RX4 45 "CutYardModel" "parts" "[I", .methodLink RX4 98 yX4_isFile, .static yX4_isFile, .initialized RX4, .code yX4_isFile cX4_isFile 1 (some .boolean), .methodLink RX4 60 yX4_in, .static yX4_in, .code yX4_in cX4_in 3 (some .boolean), .methodLink RX4 64 yX4_refuse, .instanceMethod yX4_refuse, .selects RX4 yX4_refuse yX4_refuse, .code yX4_refuse cX4_refuse 4 (some .boolean), .fieldLink RX4 57 "CutYardModel" "thrown" "I"] ++ wsX40)
def wsX4_has : List Cond := .code yX4_has cX4_has 5 (some .boolean) :: ([.fieldLink RX4 42 "CutYardModel" "counts" "[I", .fieldLink RX4 45 "CutYardModel" "parts" "[I"] ++ wsX40)
def wsX4_about : List Cond := .code yX4_about cX4_about 6 (some .int) :: ([.fieldLink RX4 48 "CutYardModel" "uses" "[I", .fieldLink RX4 51 "CutYardModel" "lengths" "[I", .methodLink RX4 60 yX4_in, .static yX4_in, .initialized RX4, .code yX4_in cX4_in 3 (some .boolean), .methodLink RX4 64 yX4_refuse, .instanceMethod yX4_refuse, .selects RX4 yX4_refuse yX4_refuse, .code yX4_refuse cX4_refuse 4 (some .boolean), .fieldLink RX4 57 "CutYardModel" "thrown" "I", .methodLink RX4 110 yX4_has, .instanceMethod yX4_has, .selects RX4 yX4_has yX4_has, .code yX4_has cX4_has 5 (some .boolean), .fieldLink RX4 42 "CutYardModel" "counts" "[I", .fieldLink RX4 45 "CutYardModel" "parts" "[I"] ++ wsX40)
def wsX4_common : List Cond := .code yX4_common cX4_common 6 (some .int) :: ([.fieldLink RX4 42 "CutYardModel" "counts" "[I", .fieldLink RX4 45 "CutYardModel" "parts" "[I", .fieldLink RX4 51 "CutYardModel" "lengths" "[I", .methodLink RX4 98 yX4_isFile, .static yX4_isFile, .initialized RX4, .code yX4_isFile cX4_isFile 1 (some .boolean), .methodLink RX4 60 yX4_in, .static yX4_in, .code yX4_in cX4_in 3 (some .boolean), .methodLink RX4 64 yX4_refuse, .instanceMethod yX4_refuse, .selects RX4 yX4_refuse yX4_refuse, .code yX4_refuse cX4_refuse 4 (some .boolean), .fieldLink RX4 57 "CutYardModel" "thrown" "I", .methodLink RX4 110 yX4_has, .instanceMethod yX4_has, .selects RX4 yX4_has yX4_has, .code yX4_has cX4_has 5 (some .boolean)] ++ wsX40)
def wsX4_all : List Cond := .code yX4_all cX4_all 5 (some .int) :: ([.fieldLink RX4 48 "CutYardModel" "uses" "[I", .fieldLink RX4 51 "CutYardModel" "lengths" "[I", .fieldLink RX4 68 "CutYardModel" "held" "I", .methodLink RX4 60 yX4_in, .static yX4_in, .initialized RX4, .code yX4_in cX4_in 3 (some .boolean), .methodLink RX4 64 yX4_refuse, .instanceMethod yX4_refuse, .selects RX4 yX4_refuse yX4_refuse, .code yX4_refuse cX4_refuse 4 (some .boolean), .fieldLink RX4 57 "CutYardModel" "thrown" "I"] ++ wsX40)
def wsJ9_max_7cf53 : List Cond := .code yJ9_max_7cf53 cJ9_max_7cf53 2 (some .int) :: ([])
def wsJ9_min_7cf53 : List Cond := .code yJ9_min_7cf53 cJ9_min_7cf53 2 (some .int) :: ([])
theorem inJx8e188 : ∀ w ∈ wsJx8e1880, w ∈ lw_tbl := by decide +kernel
theorem inJ9 : ∀ w ∈ wsJ90, w ∈ lw_tbl := by decide +kernel
theorem inJ0 : ∀ w ∈ wsJ00, w ∈ lw_tbl := by decide +kernel
theorem inJ10 : ∀ w ∈ wsJ100, w ∈ lw_tbl := by decide +kernel
theorem inJ7 : ∀ w ∈ wsJ70, w ∈ lw_tbl := by decide +kernel
set_option maxRecDepth 20000 in
theorem ggX1_endOfPart_X1_turned : GoodIn wsX1_endOfPart wsX1_turned := goodIn_r _ [11] (by decide +kernel) (by decide +kernel)
set_option maxRecDepth 20000 in
theorem gX1_endOfPart_X1_turned : GoodIn wsX1_endOfPart (va_wsS RX1 25 yX1_turned wsX1_turned) := goodIn_app (goodIn_of _ (by decide +kernel)) ggX1_endOfPart_X1_turned
set_option maxRecDepth 20000 in
theorem ggX1_endOfPart_X1_mark : GoodIn wsX1_endOfPart wsX1_mark := goodIn_r _ [14, 15] (by decide +kernel) (by decide +kernel)
set_option maxRecDepth 20000 in
theorem gX1_endOfPart_X1_mark : GoodIn wsX1_endOfPart (va_wsS RX1 28 yX1_mark wsX1_mark) := goodIn_app (goodIn_of _ (by decide +kernel)) ggX1_endOfPart_X1_mark
set_option maxRecDepth 20000 in
theorem ggX2_init_J7_fill_53178 : GoodIn wsX2_init wsJ7_fill_53178 := goodIn_r _ [18] (by decide +kernel) (by decide +kernel)
set_option maxRecDepth 20000 in
theorem gX2_init_J7_fill_53178 : GoodIn wsX2_init (va_wsS RX2 41 yJ7_fill_53178 wsJ7_fill_53178) := goodIn_app (goodIn_of _ (by decide +kernel)) ggX2_init_J7_fill_53178
set_option maxRecDepth 20000 in
theorem ggX2_empty_J7_fill_53178 : GoodIn wsX2_empty wsJ7_fill_53178 := goodIn_r _ [9] (by decide +kernel) (by decide +kernel)
set_option maxRecDepth 20000 in
theorem gX2_empty_J7_fill_53178 : GoodIn wsX2_empty (va_wsS RX2 41 yJ7_fill_53178 wsJ7_fill_53178) := goodIn_app (goodIn_of _ (by decide +kernel)) ggX2_empty_J7_fill_53178
set_option maxRecDepth 20000 in
theorem ggX2_usesOf_X2_has : GoodIn wsX2_usesOf wsX2_has := goodIn_r _ [6, 1, 7, 8, 9, 10, 11, 12, 13, 14, 15] (by decide +kernel) (by decide +kernel)
set_option maxRecDepth 20000 in
theorem gX2_usesOf_X2_has : GoodIn wsX2_usesOf (wsV RX2 47 RX2 yX2_has wsX2_has) := goodIn_app (goodIn_of _ (by decide +kernel)) ggX2_usesOf_X2_has
set_option maxRecDepth 20000 in
theorem ggX2_lengthOf_X2_has : GoodIn wsX2_lengthOf wsX2_has := goodIn_r _ [6, 7, 8, 9, 10, 11, 12, 13, 14, 15, 16] (by decide +kernel) (by decide +kernel)
set_option maxRecDepth 20000 in
theorem gX2_lengthOf_X2_has : GoodIn wsX2_lengthOf (wsV RX2 47 RX2 yX2_has wsX2_has) := goodIn_app (goodIn_of _ (by decide +kernel)) ggX2_lengthOf_X2_has
set_option maxRecDepth 20000 in
theorem ggX2_byteOf_X2_lengthOf : GoodIn wsX2_byteOf wsX2_lengthOf := goodIn_r _ [6, 7, 8, 9, 10, 5, 11, 12, 13, 14, 15, 16, 17, 18, 19, 20, 21] (by decide +kernel) (by decide +kernel)
set_option maxRecDepth 20000 in
theorem gX2_byteOf_X2_lengthOf : GoodIn wsX2_byteOf (wsV RX2 51 RX2 yX2_lengthOf wsX2_lengthOf) := goodIn_app (goodIn_of _ (by decide +kernel)) ggX2_byteOf_X2_lengthOf
set_option maxRecDepth 20000 in
theorem ggX2_writeOut_X2_lengthOf : GoodIn wsX2_writeOut wsX2_lengthOf := goodIn_r _ [10, 11, 12, 13, 14, 9, 15, 16, 17, 18, 19, 20, 21, 22, 23, 24, 25] (by decide +kernel) (by decide +kernel)
set_option maxRecDepth 20000 in
theorem gX2_writeOut_X2_lengthOf : GoodIn wsX2_writeOut (wsV RX2 51 RX2 yX2_lengthOf wsX2_lengthOf) := goodIn_app (goodIn_of _ (by decide +kernel)) ggX2_writeOut_X2_lengthOf
set_option maxRecDepth 20000 in
theorem ggX2_useAgain_X2_has : GoodIn wsX2_useAgain wsX2_has := goodIn_r _ [6, 1, 7, 8, 9, 10, 11, 12, 13, 14, 15] (by decide +kernel) (by decide +kernel)
set_option maxRecDepth 20000 in
theorem gX2_useAgain_X2_has : GoodIn wsX2_useAgain (wsV RX2 47 RX2 yX2_has wsX2_has) := goodIn_app (goodIn_of _ (by decide +kernel)) ggX2_useAgain_X2_has
set_option maxRecDepth 20000 in
theorem ggX2_take_X2_hashOf : GoodIn wsX2_take wsX2_hashOf := goodIn_r _ [4] (by decide +kernel) (by decide +kernel)
set_option maxRecDepth 20000 in
theorem gX2_take_X2_hashOf : GoodIn wsX2_take (va_wsS RX2 61 yX2_hashOf wsX2_hashOf) := goodIn_app (goodIn_of _ (by decide +kernel)) ggX2_take_X2_hashOf
set_option maxRecDepth 20000 in
theorem ggX2_take_X2_find : GoodIn wsX2_take wsX2_find := goodIn_r _ [8, 9, 10, 11, 12, 13, 14, 15, 3, 16, 17, 18, 19, 20, 21, 22, 66, 67, 68, 69, 70, 71, 72, 73, 74] (by decide +kernel) (by decide +kernel)
set_option maxRecDepth 20000 in
theorem gX2_take_X2_find : GoodIn wsX2_take (wsV RX2 65 RX2 yX2_find wsX2_find) := goodIn_app (goodIn_of _ (by decide +kernel)) ggX2_take_X2_find
set_option maxRecDepth 20000 in
theorem ggX2_take_X2_add : GoodIn wsX2_take wsX2_add := goodIn_r _ [26, 22, 27, 28, 29, 30, 17, 11, 10, 12, 9, 31, 32, 33, 34, 35, 3, 36, 37, 38, 39, 40, 41, 42, 43, 44, 45, 46, 47, 48, 49, 50, 51, 52, 53, 54, 55, 56, 57, 58, 59, 60, 61, 66, 67, 68, 69, 70, 71, 72, 73, 74] (by decide +kernel) (by decide +kernel)
set_option maxRecDepth 20000 in
theorem gX2_take_X2_add : GoodIn wsX2_take (wsV RX2 69 RX2 yX2_add wsX2_add) := goodIn_app (goodIn_of _ (by decide +kernel)) ggX2_take_X2_add
set_option maxRecDepth 20000 in
theorem ggX2_take_X2_useAgain : GoodIn wsX2_take wsX2_useAgain := goodIn_r _ [65, 17, 13, 14, 15, 3, 16, 66, 67, 68, 69, 70, 71, 72, 73, 74] (by decide +kernel) (by decide +kernel)
set_option maxRecDepth 20000 in
theorem gX2_take_X2_useAgain : GoodIn wsX2_take (wsV RX2 72 RX2 yX2_useAgain wsX2_useAgain) := goodIn_app (goodIn_of _ (by decide +kernel)) ggX2_take_X2_useAgain
set_option maxRecDepth 20000 in
theorem ggX2_giveBack_X2_has : GoodIn wsX2_giveBack wsX2_has := goodIn_r _ [14, 1, 22, 23, 24, 25, 26, 27, 28, 29, 30] (by decide +kernel) (by decide +kernel)
set_option maxRecDepth 20000 in
theorem gX2_giveBack_X2_has : GoodIn wsX2_giveBack (wsV RX2 47 RX2 yX2_has wsX2_has) := goodIn_app (goodIn_of _ (by decide +kernel)) ggX2_giveBack_X2_has
set_option maxRecDepth 20000 in
theorem ggX2_giveBack_X2_unchain : GoodIn wsX2_giveBack wsX2_unchain := goodIn_r _ [18, 19, 20, 21, 10, 11, 12, 13, 14, 1, 22, 23, 24, 25, 26, 27, 28, 29, 30] (by decide +kernel) (by decide +kernel)
set_option maxRecDepth 20000 in
theorem gX2_giveBack_X2_unchain : GoodIn wsX2_giveBack (wsV RX2 76 RX2 yX2_unchain wsX2_unchain) := goodIn_app (goodIn_of _ (by decide +kernel)) ggX2_giveBack_X2_unchain
set_option maxRecDepth 20000 in
theorem ggX2_find_X2_has : GoodIn wsX2_find wsX2_has := goodIn_r _ [9, 10, 16, 17, 18, 19, 20, 21, 22, 23, 24] (by decide +kernel) (by decide +kernel)
set_option maxRecDepth 20000 in
theorem gX2_find_X2_has : GoodIn wsX2_find (wsV RX2 47 RX2 yX2_has wsX2_has) := goodIn_app (goodIn_of _ (by decide +kernel)) ggX2_find_X2_has
set_option maxRecDepth 20000 in
theorem ggX2_find_X2_sameBytes : GoodIn wsX2_find wsX2_sameBytes := goodIn_r _ [14, 3, 15, 16, 17, 18, 19, 20, 21, 22, 23, 24] (by decide +kernel) (by decide +kernel)
set_option maxRecDepth 20000 in
theorem gX2_find_X2_sameBytes : GoodIn wsX2_find (wsV RX2 85 RX2 yX2_sameBytes wsX2_sameBytes) := goodIn_app (goodIn_of _ (by decide +kernel)) ggX2_find_X2_sameBytes
set_option maxRecDepth 20000 in
theorem ggX2_add_X2_leastFree : GoodIn wsX2_add wsX2_leastFree := goodIn_r _ [17, 18, 6, 43, 44, 45, 46, 47, 48, 49, 50, 51] (by decide +kernel) (by decide +kernel)
set_option maxRecDepth 20000 in
theorem gX2_add_X2_leastFree : GoodIn wsX2_add (wsV RX2 89 RX2 yX2_leastFree wsX2_leastFree) := goodIn_app (goodIn_of _ (by decide +kernel)) ggX2_add_X2_leastFree
set_option maxRecDepth 20000 in
theorem ggX2_add_X2_makeRoomFor : GoodIn wsX2_add wsX2_makeRoomFor := goodIn_r _ [22, 1, 23, 24, 25, 26, 27, 28, 29, 30, 31, 32, 33, 34, 35, 36, 37, 38, 39, 40, 41, 42, 3, 4, 5, 43, 44, 45, 46, 47, 48, 49, 50, 51] (by decide +kernel) (by decide +kernel)
set_option maxRecDepth 20000 in
theorem gX2_add_X2_makeRoomFor : GoodIn wsX2_add (wsV RX2 93 RX2 yX2_makeRoomFor wsX2_makeRoomFor) := goodIn_app (goodIn_of _ (by decide +kernel)) ggX2_add_X2_makeRoomFor
set_option maxRecDepth 20000 in
theorem ggX2_makeRoomFor_J7_copyOf_9075b : GoodIn wsX2_makeRoomFor wsJ7_copyOf_9075b := goodIn_r _ [12, 13, 14, 15, 16, 17, 18, 19, 20, 7, 4, 8, 21, 22, 23, 24] (by decide +kernel) (by decide +kernel)
set_option maxRecDepth 20000 in
theorem gX2_makeRoomFor_J7_copyOf_9075b : GoodIn wsX2_makeRoomFor (va_wsS RX2 99 yJ7_copyOf_9075b wsJ7_copyOf_9075b) := goodIn_app (goodIn_of _ (by decide +kernel)) ggX2_makeRoomFor_J7_copyOf_9075b
set_option maxRecDepth 20000 in
theorem ggX2_unchain_X2_has : GoodIn wsX2_unchain wsX2_has := goodIn_r _ [8, 9, 10, 11, 12, 13, 14, 15, 16, 17, 18] (by decide +kernel) (by decide +kernel)
set_option maxRecDepth 20000 in
theorem gX2_unchain_X2_has : GoodIn wsX2_unchain (wsV RX2 47 RX2 yX2_has wsX2_has) := goodIn_app (goodIn_of _ (by decide +kernel)) ggX2_unchain_X2_has
set_option maxRecDepth 20000 in
theorem ggX3_init_X1_init : GoodIn wsX3_init wsX1_init := goodIn_r _ [24, 25, 2, 3, 26, 27, 28, 52, 53, 54] (by decide +kernel) (by decide +kernel)
set_option maxRecDepth 20000 in
theorem gX3_init_X1_init_n9 : GoodIn wsX3_init (wsX1_init) := ggX3_init_X1_init
set_option maxRecDepth 20000 in
theorem ggX3_init_X2_init : GoodIn wsX3_init wsX2_init := goodIn_r _ [31, 32, 2, 3, 18, 33, 34, 35, 36, 37, 14, 38, 39, 40, 41, 42, 43, 44, 45, 63, 64, 65, 66, 67, 68, 69, 70, 71] (by decide +kernel) (by decide +kernel)
set_option maxRecDepth 20000 in
theorem gX3_init_X2_init : GoodIn wsX3_init (wsX2_init) := ggX3_init_X2_init
set_option maxRecDepth 20000 in
theorem ggX3_init_X0_init : GoodIn wsX3_init wsX0_init := goodIn_r _ [47, 48, 2, 3, 18, 49, 50, 51, 72, 73, 74] (by decide +kernel) (by decide +kernel)
set_option maxRecDepth 20000 in
theorem gX3_init_X0_init_n47 : GoodIn wsX3_init (wsX0_init) := ggX3_init_X0_init
set_option maxRecDepth 20000 in
theorem ggX3_takeParts_X1_endOfPart : GoodIn wsX3_takeParts wsX1_endOfPart := goodIn_r _ [8, 9, 10, 11, 12, 13, 14, 15, 16, 17, 7, 18, 19, 20, 21, 22, 110, 111, 112] (by decide +kernel) (by decide +kernel)
set_option maxRecDepth 20000 in
theorem gX3_takeParts_X1_endOfPart : GoodIn wsX3_takeParts (wsV RX3 162 RX1 yX1_endOfPart wsX1_endOfPart) := goodIn_app (goodIn_of _ (by decide +kernel)) ggX3_takeParts_X1_endOfPart
set_option maxRecDepth 20000 in
theorem ggX3_takeParts_X2_take : GoodIn wsX3_takeParts wsX2_take := goodIn_r _ [27, 28, 29, 26, 30, 31, 32, 33, 34, 35, 36, 37, 38, 39, 40, 41, 42, 43, 44, 45, 46, 47, 48, 49, 50, 51, 52, 53, 54, 55, 56, 57, 58, 59, 60, 61, 62, 63, 64, 65, 66, 67, 68, 69, 12, 70, 71, 11, 13, 72, 73, 74, 75, 76, 77, 78, 79, 80, 81, 82, 83, 84, 85, 86, 87, 88, 113, 114, 115, 116, 117, 118, 119, 120, 121] (by decide +kernel) (by decide +kernel)
set_option maxRecDepth 20000 in
theorem gX3_takeParts_X2_take : GoodIn wsX3_takeParts (wsV RX3 166 RX2 yX2_take wsX2_take) := goodIn_app (goodIn_of _ (by decide +kernel)) ggX3_takeParts_X2_take
set_option maxRecDepth 20000 in
theorem ggX3_takeParts_X3_giveBack : GoodIn wsX3_takeParts wsX3_giveBack := goodIn_r _ [93, 2, 94, 95, 96, 26, 97, 43, 63, 71, 11, 12, 13, 57, 58, 37, 39, 40, 41, 42, 98, 99, 100, 101, 36, 35, 38, 102, 103, 104, 105, 106, 107, 108, 109, 113, 114, 115, 116, 117, 118, 119, 120, 121] (by decide +kernel) (by decide +kernel)
set_option maxRecDepth 20000 in
theorem gX3_takeParts_X3_giveBack : GoodIn wsX3_takeParts (wsV RX3 109 RX3 yX3_giveBack wsX3_giveBack) := goodIn_app (goodIn_of _ (by decide +kernel)) ggX3_takeParts_X3_giveBack
set_option maxRecDepth 20000 in
theorem ggX3_giveBack_X2_giveBack : GoodIn wsX3_giveBack wsX2_giveBack := goodIn_r _ [6, 7, 8, 9, 10, 11, 12, 13, 14, 15, 16, 17, 18, 5, 19, 20, 21, 22, 23, 24, 25, 26, 35, 36, 37, 38, 39, 40, 41, 42, 43] (by decide +kernel) (by decide +kernel)
set_option maxRecDepth 20000 in
theorem gX3_giveBack_X2_giveBack : GoodIn wsX3_giveBack (wsV RX3 169 RX2 yX2_giveBack wsX2_giveBack) := goodIn_app (goodIn_of _ (by decide +kernel)) ggX3_giveBack_X2_giveBack
set_option maxRecDepth 20000 in
theorem ggX3_layOut_X2_writeOut : GoodIn wsX3_layOut wsX2_writeOut := goodIn_r _ [7, 8, 9, 10, 11, 12, 13, 14, 15, 6, 16, 17, 18, 19, 20, 21, 22, 34, 35, 36, 37, 38, 39, 40, 41, 42] (by decide +kernel) (by decide +kernel)
set_option maxRecDepth 20000 in
theorem gX3_layOut_X2_writeOut : GoodIn wsX3_layOut (wsV RX3 171 RX2 yX2_writeOut wsX2_writeOut) := goodIn_app (goodIn_of _ (by decide +kernel)) ggX3_layOut_X2_writeOut
set_option maxRecDepth 20000 in
theorem ggX3_filesWith_X0_hasNumber : GoodIn wsX3_filesWith wsX0_hasNumber := goodIn_r _ [6, 7, 8, 17, 18, 19] (by decide +kernel) (by decide +kernel)
set_option maxRecDepth 20000 in
theorem gX3_filesWith_X0_hasNumber : GoodIn wsX3_filesWith (wsV RX3 175 RX0 yX0_hasNumber wsX0_hasNumber) := goodIn_app (goodIn_of _ (by decide +kernel)) ggX3_filesWith_X0_hasNumber
set_option maxRecDepth 20000 in
theorem ggX4_isFile_X4_in : GoodIn wsX4_isFile wsX4_in := goodIn_r _ [4] (by decide +kernel) (by decide +kernel)
set_option maxRecDepth 20000 in
theorem gX4_isFile_X4_in : GoodIn wsX4_isFile (va_wsS RX4 60 yX4_in wsX4_in) := goodIn_app (goodIn_of _ (by decide +kernel)) ggX4_isFile_X4_in
set_option maxRecDepth 20000 in
theorem ggX4_begin_X4_in : GoodIn wsX4_begin wsX4_in := goodIn_r _ [10] (by decide +kernel) (by decide +kernel)
set_option maxRecDepth 20000 in
theorem gX4_begin_X4_in : GoodIn wsX4_begin (va_wsS RX4 60 yX4_in wsX4_in) := goodIn_app (goodIn_of _ (by decide +kernel)) ggX4_begin_X4_in
set_option maxRecDepth 20000 in
theorem ggX4_begin_X4_refuse : GoodIn wsX4_begin wsX4_refuse := goodIn_r _ [14, 15, 16, 17, 18, 19, 20, 21, 22, 23, 24, 25, 26, 27, 28, 29, 30, 31, 32, 33, 34] (by decide +kernel) (by decide +kernel)
set_option maxRecDepth 20000 in
theorem gX4_begin_X4_refuse : GoodIn wsX4_begin (wsV RX4 64 RX4 yX4_refuse wsX4_refuse) := goodIn_app (goodIn_of _ (by decide +kernel)) ggX4_begin_X4_refuse
set_option maxRecDepth 20000 in
theorem ggX4_put_X4_in : GoodIn wsX4_put wsX4_in := goodIn_r _ [6] (by decide +kernel) (by decide +kernel)
set_option maxRecDepth 20000 in
theorem gX4_put_X4_in : GoodIn wsX4_put (va_wsS RX4 60 yX4_in wsX4_in) := goodIn_app (goodIn_of _ (by decide +kernel)) ggX4_put_X4_in
set_option maxRecDepth 20000 in
theorem ggX4_put_X4_refuse : GoodIn wsX4_put wsX4_refuse := goodIn_r _ [10, 11, 12, 13, 14, 15, 16, 17, 18, 19, 20, 21, 22, 23, 24, 25, 26, 27, 28, 29, 30] (by decide +kernel) (by decide +kernel)
set_option maxRecDepth 20000 in
theorem gX4_put_X4_refuse : GoodIn wsX4_put (wsV RX4 64 RX4 yX4_refuse wsX4_refuse) := goodIn_app (goodIn_of _ (by decide +kernel)) ggX4_put_X4_refuse
set_option maxRecDepth 20000 in
theorem ggX4_sum_X4_mark : GoodIn wsX4_sum wsX4_mark := goodIn_r _ [5, 6] (by decide +kernel) (by decide +kernel)
set_option maxRecDepth 20000 in
theorem gX4_sum_X4_mark : GoodIn wsX4_sum (va_wsS RX4 72 yX4_mark wsX4_mark) := goodIn_app (goodIn_of _ (by decide +kernel)) ggX4_sum_X4_mark
set_option maxRecDepth 20000 in
theorem ggX4_cut_X4_sum : GoodIn wsX4_cut wsX4_sum := goodIn_r _ [11, 12, 13, 14, 10, 15, 16, 17, 18, 19, 20, 21, 22, 23, 24, 25, 26, 27, 28, 29, 30, 31, 32, 33, 34, 35] (by decide +kernel) (by decide +kernel)
set_option maxRecDepth 20000 in
theorem gX4_cut_X4_sum : GoodIn wsX4_cut (wsV RX4 82 RX4 yX4_sum wsX4_sum) := goodIn_app (goodIn_of _ (by decide +kernel)) ggX4_cut_X4_sum
set_option maxRecDepth 20000 in
theorem ggX4_numberOf_X4_isPart : GoodIn wsX4_numberOf wsX4_isPart := goodIn_r _ [10, 1, 2, 3, 4, 5, 11, 12, 13, 14, 15, 16, 17, 18, 19, 20, 21, 22, 23, 24, 25, 26, 27, 28, 29] (by decide +kernel) (by decide +kernel)
set_option maxRecDepth 20000 in
theorem gX4_numberOf_X4_isPart : GoodIn wsX4_numberOf (wsV RX4 86 RX4 yX4_isPart wsX4_isPart) := goodIn_app (goodIn_of _ (by decide +kernel)) ggX4_numberOf_X4_isPart
set_option maxRecDepth 20000 in
theorem ggX4_give_X4_cut : GoodIn wsX4_give wsX4_cut := goodIn_r _ [9, 2, 10, 11, 12, 13, 4, 14, 15, 16, 8, 17, 18, 19, 20, 21, 22, 38, 39, 40, 41, 42, 43, 44, 45, 46, 47, 48, 49, 50, 51, 52, 53, 54, 55, 56] (by decide +kernel) (by decide +kernel)
set_option maxRecDepth 20000 in
theorem gX4_give_X4_cut : GoodIn wsX4_give (wsV RX4 89 RX4 yX4_cut wsX4_cut) := goodIn_app (goodIn_of _ (by decide +kernel)) ggX4_give_X4_cut
set_option maxRecDepth 20000 in
theorem ggX4_give_X4_beginOf : GoodIn wsX4_give wsX4_beginOf := goodIn_r _ [26, 4, 38, 39, 40, 41, 42, 43, 44, 45, 46, 47, 48, 49, 50, 51, 52, 53, 54, 55, 56] (by decide +kernel) (by decide +kernel)
set_option maxRecDepth 20000 in
theorem gX4_give_X4_beginOf : GoodIn wsX4_give (wsV RX4 92 RX4 yX4_beginOf wsX4_beginOf) := goodIn_app (goodIn_of _ (by decide +kernel)) ggX4_give_X4_beginOf
set_option maxRecDepth 20000 in
theorem ggX4_give_X4_numberOf : GoodIn wsX4_give wsX4_numberOf := goodIn_r _ [30, 31, 1, 32, 33, 18, 34, 35, 36, 8, 37, 38, 39, 40, 41, 42, 43, 44, 45, 46, 47, 48, 49, 50, 51, 52, 53, 54, 55, 56] (by decide +kernel) (by decide +kernel)
set_option maxRecDepth 20000 in
theorem gX4_give_X4_numberOf : GoodIn wsX4_give (wsV RX4 95 RX4 yX4_numberOf wsX4_numberOf) := goodIn_app (goodIn_of _ (by decide +kernel)) ggX4_give_X4_numberOf
set_option maxRecDepth 20000 in
theorem ggX4_store_X4_isFile : GoodIn wsX4_store wsX4_isFile := goodIn_r _ [8, 9, 10, 7, 11] (by decide +kernel) (by decide +kernel)
set_option maxRecDepth 20000 in
theorem gX4_store_X4_isFile : GoodIn wsX4_store (va_wsS RX4 98 yX4_isFile wsX4_isFile) := goodIn_app (goodIn_of _ (by decide +kernel)) ggX4_store_X4_isFile
set_option maxRecDepth 20000 in
theorem ggX4_store_X4_refuse : GoodIn wsX4_store wsX4_refuse := goodIn_r _ [15, 16, 63, 64, 65, 66, 67, 68, 69, 70, 71, 72, 73, 74, 75, 76, 77, 78, 79, 80, 81] (by decide +kernel) (by decide +kernel)
set_option maxRecDepth 20000 in
theorem gX4_store_X4_refuse : GoodIn wsX4_store (wsV RX4 64 RX4 yX4_refuse wsX4_refuse) := goodIn_app (goodIn_of _ (by decide +kernel)) ggX4_store_X4_refuse
set_option maxRecDepth 20000 in
theorem ggX4_store_X4_give : GoodIn wsX4_store wsX4_give := goodIn_r _ [20, 21, 22, 23, 24, 25, 26, 27, 7, 28, 2, 29, 30, 31, 32, 33, 34, 35, 3, 36, 37, 38, 39, 40, 41, 42, 43, 44, 45, 46, 47, 48, 49, 50, 51, 52, 53, 54, 63, 64, 65, 66, 67, 68, 69, 70, 71, 72, 73, 74, 75, 76, 77, 78, 79, 80, 81] (by decide +kernel) (by decide +kernel)
set_option maxRecDepth 20000 in
theorem gX4_store_X4_give : GoodIn wsX4_store (wsV RX4 102 RX4 yX4_give wsX4_give) := goodIn_app (goodIn_of _ (by decide +kernel)) ggX4_store_X4_give
set_option maxRecDepth 20000 in
theorem ggX4_store_X4_take : GoodIn wsX4_store wsX4_take := goodIn_r _ [58, 22, 48, 23, 59, 60, 61, 2, 62, 3, 63, 64, 65, 66, 67, 68, 69, 70, 71, 72, 73, 74, 75, 76, 77, 78, 79, 80, 81] (by decide +kernel) (by decide +kernel)
set_option maxRecDepth 20000 in
theorem gX4_store_X4_take : GoodIn wsX4_store (wsV RX4 106 RX4 yX4_take wsX4_take) := goodIn_app (goodIn_of _ (by decide +kernel)) ggX4_store_X4_take
set_option maxRecDepth 20000 in
theorem ggX4_edit_X4_isFile : GoodIn wsX4_edit wsX4_isFile := goodIn_r _ [10, 11, 12, 9, 13] (by decide +kernel) (by decide +kernel)
set_option maxRecDepth 20000 in
theorem gX4_edit_X4_isFile : GoodIn wsX4_edit (va_wsS RX4 98 yX4_isFile wsX4_isFile) := goodIn_app (goodIn_of _ (by decide +kernel)) ggX4_edit_X4_isFile
set_option maxRecDepth 20000 in
theorem ggX4_edit_X4_in : GoodIn wsX4_edit wsX4_in := goodIn_r _ [13] (by decide +kernel) (by decide +kernel)
set_option maxRecDepth 20000 in
theorem gX4_edit_X4_in : GoodIn wsX4_edit (va_wsS RX4 60 yX4_in wsX4_in) := goodIn_app (goodIn_of _ (by decide +kernel)) ggX4_edit_X4_in
set_option maxRecDepth 20000 in
theorem ggX4_edit_X4_refuse : GoodIn wsX4_edit wsX4_refuse := goodIn_r _ [17, 18, 63, 64, 65, 66, 67, 68, 69, 70, 71, 72, 73, 74, 75, 76, 77, 78, 79, 80, 81] (by decide +kernel) (by decide +kernel)
set_option maxRecDepth 20000 in
theorem gX4_edit_X4_refuse : GoodIn wsX4_edit (wsV RX4 64 RX4 yX4_refuse wsX4_refuse) := goodIn_app (goodIn_of _ (by decide +kernel)) ggX4_edit_X4_refuse
set_option maxRecDepth 20000 in
theorem ggX4_edit_X4_give : GoodIn wsX4_edit wsX4_give := goodIn_r _ [22, 23, 24, 25, 26, 27, 28, 29, 9, 30, 3, 31, 32, 33, 34, 35, 36, 37, 4, 38, 39, 40, 41, 42, 43, 44, 45, 46, 47, 48, 49, 50, 51, 52, 53, 54, 55, 56, 63, 64, 65, 66, 67, 68, 69, 70, 71, 72, 73, 74, 75, 76, 77, 78, 79, 80, 81] (by decide +kernel) (by decide +kernel)
set_option maxRecDepth 20000 in
theorem gX4_edit_X4_give : GoodIn wsX4_edit (wsV RX4 102 RX4 yX4_give wsX4_give) := goodIn_app (goodIn_of _ (by decide +kernel)) ggX4_edit_X4_give
set_option maxRecDepth 20000 in
theorem ggX4_edit_X4_take : GoodIn wsX4_edit wsX4_take := goodIn_r _ [60, 24, 50, 25, 61, 62, 1, 3, 5, 4, 63, 64, 65, 66, 67, 68, 69, 70, 71, 72, 73, 74, 75, 76, 77, 78, 79, 80, 81] (by decide +kernel) (by decide +kernel)
set_option maxRecDepth 20000 in
theorem gX4_edit_X4_take : GoodIn wsX4_edit (wsV RX4 106 RX4 yX4_take wsX4_take) := goodIn_app (goodIn_of _ (by decide +kernel)) ggX4_edit_X4_take
set_option maxRecDepth 20000 in
theorem ggX4_copy_X4_isFile : GoodIn wsX4_copy wsX4_isFile := goodIn_r _ [12, 13, 14, 11, 15] (by decide +kernel) (by decide +kernel)
set_option maxRecDepth 20000 in
theorem gX4_copy_X4_isFile : GoodIn wsX4_copy (va_wsS RX4 98 yX4_isFile wsX4_isFile) := goodIn_app (goodIn_of _ (by decide +kernel)) ggX4_copy_X4_isFile
set_option maxRecDepth 20000 in
theorem ggX4_copy_X4_refuse : GoodIn wsX4_copy wsX4_refuse := goodIn_r _ [19, 20, 26, 27, 28, 29, 30, 31, 32, 33, 34, 35, 36, 37, 38, 39, 40, 41, 42, 43, 44] (by decide +kernel) (by decide +kernel)
set_option maxRecDepth 20000 in
theorem gX4_copy_X4_refuse : GoodIn wsX4_copy (wsV RX4 64 RX4 yX4_refuse wsX4_refuse) := goodIn_app (goodIn_of _ (by decide +kernel)) ggX4_copy_X4_refuse
set_option maxRecDepth 20000 in
theorem ggX4_copy_X4_take : GoodIn wsX4_copy wsX4_take := goodIn_r _ [24, 4, 25, 7, 3, 8, 1, 2, 6, 5, 26, 27, 28, 29, 30, 31, 32, 33, 34, 35, 36, 37, 38, 39, 40, 41, 42, 43, 44] (by decide +kernel) (by decide +kernel)
set_option maxRecDepth 20000 in
theorem gX4_copy_X4_take : GoodIn wsX4_copy (wsV RX4 106 RX4 yX4_take wsX4_take) := goodIn_app (goodIn_of _ (by decide +kernel)) ggX4_copy_X4_take
set_option maxRecDepth 20000 in
theorem ggX4_size_X4_isFile : GoodIn wsX4_size wsX4_isFile := goodIn_r _ [5, 6, 7, 4, 8] (by decide +kernel) (by decide +kernel)
set_option maxRecDepth 20000 in
theorem gX4_size_X4_isFile : GoodIn wsX4_size (va_wsS RX4 98 yX4_isFile wsX4_isFile) := goodIn_app (goodIn_of _ (by decide +kernel)) ggX4_size_X4_isFile
set_option maxRecDepth 20000 in
theorem ggX4_size_X4_refuse : GoodIn wsX4_size wsX4_refuse := goodIn_r _ [12, 13, 14, 15, 16, 17, 18, 19, 20, 21, 22, 23, 24, 25, 26, 27, 28, 29, 30, 31, 32] (by decide +kernel) (by decide +kernel)
set_option maxRecDepth 20000 in
theorem gX4_size_X4_refuse : GoodIn wsX4_size (wsV RX4 64 RX4 yX4_refuse wsX4_refuse) := goodIn_app (goodIn_of _ (by decide +kernel)) ggX4_size_X4_refuse
set_option maxRecDepth 20000 in
theorem ggX4_get_X4_isFile : GoodIn wsX4_get wsX4_isFile := goodIn_r _ [6, 7, 8, 5, 9] (by decide +kernel) (by decide +kernel)
set_option maxRecDepth 20000 in
theorem gX4_get_X4_isFile : GoodIn wsX4_get (va_wsS RX4 98 yX4_isFile wsX4_isFile) := goodIn_app (goodIn_of _ (by decide +kernel)) ggX4_get_X4_isFile
set_option maxRecDepth 20000 in
theorem ggX4_get_X4_in : GoodIn wsX4_get wsX4_in := goodIn_r _ [9] (by decide +kernel) (by decide +kernel)
set_option maxRecDepth 20000 in
theorem gX4_get_X4_in : GoodIn wsX4_get (va_wsS RX4 60 yX4_in wsX4_in) := goodIn_app (goodIn_of _ (by decide +kernel)) ggX4_get_X4_in
set_option maxRecDepth 20000 in
theorem ggX4_get_X4_refuse : GoodIn wsX4_get wsX4_refuse := goodIn_r _ [13, 14, 15, 16, 17, 18, 19, 20, 21, 22, 23, 24, 25, 26, 27, 28, 29, 30, 31, 32, 33] (by decide +kernel) (by decide +kernel)
set_option maxRecDepth 20000 in
theorem gX4_get_X4_refuse : GoodIn wsX4_get (wsV RX4 64 RX4 yX4_refuse wsX4_refuse) := goodIn_app (goodIn_of _ (by decide +kernel)) ggX4_get_X4_refuse
set_option maxRecDepth 20000 in
theorem ggX4_parts_X4_isFile : GoodIn wsX4_parts wsX4_isFile := goodIn_r _ [5, 6, 7, 4, 8] (by decide +kernel) (by decide +kernel)
set_option maxRecDepth 20000 in
theorem gX4_parts_X4_isFile : GoodIn wsX4_parts (va_wsS RX4 98 yX4_isFile wsX4_isFile) := goodIn_app (goodIn_of _ (by decide +kernel)) ggX4_parts_X4_isFile
set_option maxRecDepth 20000 in
theorem ggX4_parts_X4_refuse : GoodIn wsX4_parts wsX4_refuse := goodIn_r _ [12, 13, 14, 15, 16, 17, 18, 19, 20, 21, 22, 23, 24, 25, 26, 27, 28, 29, 30, 31, 32] (by decide +kernel) (by decide +kernel)
set_option maxRecDepth 20000 in
theorem gX4_parts_X4_refuse : GoodIn wsX4_parts (wsV RX4 64 RX4 yX4_refuse wsX4_refuse) := goodIn_app (goodIn_of _ (by decide +kernel)) ggX4_parts_X4_refuse
set_option maxRecDepth 20000 in
theorem ggX4_part_X4_isFile : GoodIn wsX4_part wsX4_isFile := goodIn_r _ [6, 7, 8, 5, 9] (by decide +kernel) (by decide +kernel)
set_option maxRecDepth 20000 in
theorem gX4_part_X4_isFile : GoodIn wsX4_part (va_wsS RX4 98 yX4_isFile wsX4_isFile) := goodIn_app (goodIn_of _ (by decide +kernel)) ggX4_part_X4_isFile
set_option maxRecDepth 20000 in
theorem ggX4_part_X4_in : GoodIn wsX4_part wsX4_in := goodIn_r _ [9] (by decide +kernel) (by decide +kernel)
set_option maxRecDepth 20000 in
theorem gX4_part_X4_in : GoodIn wsX4_part (va_wsS RX4 60 yX4_in wsX4_in) := goodIn_app (goodIn_of _ (by decide +kernel)) ggX4_part_X4_in
set_option maxRecDepth 20000 in
theorem ggX4_part_X4_refuse : GoodIn wsX4_part wsX4_refuse := goodIn_r _ [13, 14, 15, 16, 17, 18, 19, 20, 21, 22, 23, 24, 25, 26, 27, 28, 29, 30, 31, 32, 33] (by decide +kernel) (by decide +kernel)
set_option maxRecDepth 20000 in
theorem gX4_part_X4_refuse : GoodIn wsX4_part (wsV RX4 64 RX4 yX4_refuse wsX4_refuse) := goodIn_app (goodIn_of _ (by decide +kernel)) ggX4_part_X4_refuse
set_option maxRecDepth 20000 in
theorem ggX4_about_X4_in : GoodIn wsX4_about wsX4_in := goodIn_r _ [6] (by decide +kernel) (by decide +kernel)
set_option maxRecDepth 20000 in
theorem gX4_about_X4_in : GoodIn wsX4_about (va_wsS RX4 60 yX4_in wsX4_in) := goodIn_app (goodIn_of _ (by decide +kernel)) ggX4_about_X4_in
set_option maxRecDepth 20000 in
theorem ggX4_about_X4_refuse : GoodIn wsX4_about wsX4_refuse := goodIn_r _ [10, 11, 18, 19, 20, 21, 22, 23, 24, 25, 26, 27, 28, 29, 30, 31, 32, 33, 34, 35, 36] (by decide +kernel) (by decide +kernel)
set_option maxRecDepth 20000 in
theorem gX4_about_X4_refuse : GoodIn wsX4_about (wsV RX4 64 RX4 yX4_refuse wsX4_refuse) := goodIn_app (goodIn_of _ (by decide +kernel)) ggX4_about_X4_refuse
set_option maxRecDepth 20000 in
theorem ggX4_about_X4_has : GoodIn wsX4_about wsX4_has := goodIn_r _ [15, 16, 17, 18, 19, 20, 21, 22, 23, 24, 25, 26, 27, 28, 29, 30, 31, 32, 33, 34, 35, 36] (by decide +kernel) (by decide +kernel)
set_option maxRecDepth 20000 in
theorem gX4_about_X4_has : GoodIn wsX4_about (wsV RX4 110 RX4 yX4_has wsX4_has) := goodIn_app (goodIn_of _ (by decide +kernel)) ggX4_about_X4_has
set_option maxRecDepth 20000 in
theorem ggX4_common_X4_isFile : GoodIn wsX4_common wsX4_isFile := goodIn_r _ [7, 8, 9, 6, 10] (by decide +kernel) (by decide +kernel)
set_option maxRecDepth 20000 in
theorem gX4_common_X4_isFile : GoodIn wsX4_common (va_wsS RX4 98 yX4_isFile wsX4_isFile) := goodIn_app (goodIn_of _ (by decide +kernel)) ggX4_common_X4_isFile
set_option maxRecDepth 20000 in
theorem ggX4_common_X4_refuse : GoodIn wsX4_common wsX4_refuse := goodIn_r _ [14, 15, 20, 21, 22, 23, 24, 25, 26, 27, 28, 29, 30, 31, 32, 33, 34, 35, 36, 37, 38] (by decide +kernel) (by decide +kernel)
set_option maxRecDepth 20000 in
theorem gX4_common_X4_refuse : GoodIn wsX4_common (wsV RX4 64 RX4 yX4_refuse wsX4_refuse) := goodIn_app (goodIn_of _ (by decide +kernel)) ggX4_common_X4_refuse
set_option maxRecDepth 20000 in
theorem ggX4_common_X4_has : GoodIn wsX4_common wsX4_has := goodIn_r _ [19, 1, 2, 20, 21, 22, 23, 24, 25, 26, 27, 28, 29, 30, 31, 32, 33, 34, 35, 36, 37, 38] (by decide +kernel) (by decide +kernel)
set_option maxRecDepth 20000 in
theorem gX4_common_X4_has : GoodIn wsX4_common (wsV RX4 110 RX4 yX4_has wsX4_has) := goodIn_app (goodIn_of _ (by decide +kernel)) ggX4_common_X4_has
set_option maxRecDepth 20000 in
theorem ggX4_all_X4_in : GoodIn wsX4_all wsX4_in := goodIn_r _ [7] (by decide +kernel) (by decide +kernel)
set_option maxRecDepth 20000 in
theorem gX4_all_X4_in : GoodIn wsX4_all (va_wsS RX4 60 yX4_in wsX4_in) := goodIn_app (goodIn_of _ (by decide +kernel)) ggX4_all_X4_in
set_option maxRecDepth 20000 in
theorem ggX4_all_X4_refuse : GoodIn wsX4_all wsX4_refuse := goodIn_r _ [11, 12, 13, 14, 15, 16, 17, 18, 19, 20, 21, 22, 23, 24, 25, 26, 27, 28, 29, 30, 31] (by decide +kernel) (by decide +kernel)
set_option maxRecDepth 20000 in
theorem gX4_all_X4_refuse : GoodIn wsX4_all (wsV RX4 64 RX4 yX4_refuse wsX4_refuse) := goodIn_app (goodIn_of _ (by decide +kernel)) ggX4_all_X4_refuse
abbrev vwCl : List vw_C := [(RX0, TX0, 3), (RX1, TX1, 3), (RX2, TX2, 9), (RX3, TX3, 8), (RX4, TX4, 19)]
end
section
theorem dX0_init_0 : decode cX0_init 0 = .ok (.aload_n 0, 1) := by decide +kernel
theorem dX0_init_1 : decode cX0_init 1 = .ok (.invokespecial 3, 3) := by decide +kernel
theorem dX0_init_4 : decode cX0_init 4 = .ok (.aload_n 0, 1) := by decide +kernel
theorem dX0_init_5 : decode cX0_init 5 = .ok (.bipush 16, 2) := by decide +kernel
theorem dX0_init_7 : decode cX0_init 7 = .ok (.newarray .int, 2) := by decide +kernel
theorem dX0_init_9 : decode cX0_init 9 = .ok (.putfield 11, 3) := by decide +kernel
theorem dX0_init_12 : decode cX0_init 12 = .ok (.aload_n 0, 1) := by decide +kernel
theorem dX0_init_13 : decode cX0_init 13 = .ok (.iconst 0, 1) := by decide +kernel
theorem dX0_init_14 : decode cX0_init 14 = .ok (.putfield 15, 3) := by decide +kernel
theorem dX0_init_17 : decode cX0_init 17 = .ok (.aload_n 0, 1) := by decide +kernel
theorem dX0_init_18 : decode cX0_init 18 = .ok (.iconst 0, 1) := by decide +kernel
theorem dX0_init_19 : decode cX0_init 19 = .ok (.putfield 19, 3) := by decide +kernel
theorem dX0_init_22 : decode cX0_init 22 = .ok (.return_, 1) := by decide +kernel
theorem dX0_empty_0 : decode cX0_empty 0 = .ok (.aload_n 0, 1) := by decide +kernel
theorem dX0_empty_1 : decode cX0_empty 1 = .ok (.iconst 0, 1) := by decide +kernel
theorem dX0_empty_2 : decode cX0_empty 2 = .ok (.putfield 15, 3) := by decide +kernel
theorem dX0_empty_5 : decode cX0_empty 5 = .ok (.aload_n 0, 1) := by decide +kernel
theorem dX0_empty_6 : decode cX0_empty 6 = .ok (.iconst 0, 1) := by decide +kernel
theorem dX0_empty_7 : decode cX0_empty 7 = .ok (.putfield 19, 3) := by decide +kernel
theorem dX0_empty_10 : decode cX0_empty 10 = .ok (.return_, 1) := by decide +kernel
theorem dX0_become_0 : decode cX0_become 0 = .ok (.iload_n 2, 1) := by decide +kernel
theorem dX0_become_1 : decode cX0_become 1 = .ok (.aload_n 0, 1) := by decide +kernel
theorem dX0_become_2 : decode cX0_become 2 = .ok (.getfield 11, 3) := by decide +kernel
theorem dX0_become_5 : decode cX0_become 5 = .ok (.arraylength, 1) := by decide +kernel
theorem dX0_become_6 : decode cX0_become 6 = .ok (.if_icmp .le 26, 3) := by decide +kernel
theorem dX0_become_9 : decode cX0_become 9 = .ok (.aload_n 0, 1) := by decide +kernel
theorem dX0_become_10 : decode cX0_become 10 = .ok (.sipush 1500, 3) := by decide +kernel
theorem dX0_become_13 : decode cX0_become 13 = .ok (.iload_n 2, 1) := by decide +kernel
theorem dX0_become_14 : decode cX0_become 14 = .ok (.iconst 2, 1) := by decide +kernel
theorem dX0_become_15 : decode cX0_become 15 = .ok (.aload_n 0, 1) := by decide +kernel
theorem dX0_become_16 : decode cX0_become 16 = .ok (.getfield 11, 3) := by decide +kernel
theorem dX0_become_19 : decode cX0_become 19 = .ok (.arraylength, 1) := by decide +kernel
theorem dX0_become_20 : decode cX0_become 20 = .ok (.imul, 1) := by decide +kernel
theorem dX0_become_21 : decode cX0_become 21 = .ok (.invokestatic 22, 3) := by decide +kernel
theorem dX0_become_24 : decode cX0_become 24 = .ok (.invokestatic 28, 3) := by decide +kernel
theorem dX0_become_27 : decode cX0_become 27 = .ok (.newarray .int, 2) := by decide +kernel
theorem dX0_become_29 : decode cX0_become 29 = .ok (.putfield 11, 3) := by decide +kernel
theorem dX0_become_32 : decode cX0_become 32 = .ok (.aload_n 1, 1) := by decide +kernel
theorem dX0_become_33 : decode cX0_become 33 = .ok (.iconst 0, 1) := by decide +kernel
theorem dX0_become_34 : decode cX0_become 34 = .ok (.aload_n 0, 1) := by decide +kernel
theorem dX0_become_35 : decode cX0_become 35 = .ok (.getfield 11, 3) := by decide +kernel
theorem dX0_become_38 : decode cX0_become 38 = .ok (.iconst 0, 1) := by decide +kernel
theorem dX0_become_39 : decode cX0_become 39 = .ok (.iload_n 2, 1) := by decide +kernel
theorem dX0_become_40 : decode cX0_become 40 = .ok (.invokestatic 31, 3) := by decide +kernel
theorem dX0_become_43 : decode cX0_become 43 = .ok (.aload_n 0, 1) := by decide +kernel
theorem dX0_become_44 : decode cX0_become 44 = .ok (.iload_n 2, 1) := by decide +kernel
theorem dX0_become_45 : decode cX0_become 45 = .ok (.putfield 15, 3) := by decide +kernel
theorem dX0_become_48 : decode cX0_become 48 = .ok (.aload_n 0, 1) := by decide +kernel
theorem dX0_become_49 : decode cX0_become 49 = .ok (.iload_n 3, 1) := by decide +kernel
theorem dX0_become_50 : decode cX0_become 50 = .ok (.putfield 19, 3) := by decide +kernel
theorem dX0_become_53 : decode cX0_become 53 = .ok (.return_, 1) := by decide +kernel
theorem dX0_hasNumber_0 : decode cX0_hasNumber 0 = .ok (.iconst 0, 1) := by decide +kernel
theorem dX0_hasNumber_1 : decode cX0_hasNumber 1 = .ok (.istore_n 2, 1) := by decide +kernel
theorem dX0_hasNumber_2 : decode cX0_hasNumber 2 = .ok (.iload_n 2, 1) := by decide +kernel
theorem dX0_hasNumber_3 : decode cX0_hasNumber 3 = .ok (.aload_n 0, 1) := by decide +kernel
theorem dX0_hasNumber_4 : decode cX0_hasNumber 4 = .ok (.getfield 15, 3) := by decide +kernel
theorem dX0_hasNumber_7 : decode cX0_hasNumber 7 = .ok (.if_icmp .ge 21, 3) := by decide +kernel
theorem dX0_hasNumber_10 : decode cX0_hasNumber 10 = .ok (.aload_n 0, 1) := by decide +kernel
theorem dX0_hasNumber_11 : decode cX0_hasNumber 11 = .ok (.getfield 11, 3) := by decide +kernel
theorem dX0_hasNumber_14 : decode cX0_hasNumber 14 = .ok (.iload_n 2, 1) := by decide +kernel
theorem dX0_hasNumber_15 : decode cX0_hasNumber 15 = .ok (.iaload, 1) := by decide +kernel
theorem dX0_hasNumber_16 : decode cX0_hasNumber 16 = .ok (.iload_n 1, 1) := by decide +kernel
theorem dX0_hasNumber_17 : decode cX0_hasNumber 17 = .ok (.if_icmp .ne 5, 3) := by decide +kernel
theorem dX0_hasNumber_20 : decode cX0_hasNumber 20 = .ok (.iconst 1, 1) := by decide +kernel
theorem dX0_hasNumber_21 : decode cX0_hasNumber 21 = .ok (.ireturn, 1) := by decide +kernel
theorem dX0_hasNumber_22 : decode cX0_hasNumber 22 = .ok (.iinc 2 1, 3) := by decide +kernel
theorem dX0_hasNumber_25 : decode cX0_hasNumber 25 = .ok (.goto (-23), 3) := by decide +kernel
theorem dX0_hasNumber_28 : decode cX0_hasNumber 28 = .ok (.iconst 0, 1) := by decide +kernel
theorem dX0_hasNumber_29 : decode cX0_hasNumber 29 = .ok (.ireturn, 1) := by decide +kernel
theorem dX1_init_0 : decode cX1_init 0 = .ok (.aload_n 0, 1) := by decide +kernel
theorem dX1_init_1 : decode cX1_init 1 = .ok (.invokespecial 1, 3) := by decide +kernel
theorem dX1_init_4 : decode cX1_init 4 = .ok (.aload_n 0, 1) := by decide +kernel
theorem dX1_init_5 : decode cX1_init 5 = .ok (.bipush 15, 2) := by decide +kernel
theorem dX1_init_7 : decode cX1_init 7 = .ok (.putfield 7, 3) := by decide +kernel
theorem dX1_init_10 : decode cX1_init 10 = .ok (.aload_n 0, 1) := by decide +kernel
theorem dX1_init_11 : decode cX1_init 11 = .ok (.iconst 4, 1) := by decide +kernel
theorem dX1_init_12 : decode cX1_init 12 = .ok (.putfield 13, 3) := by decide +kernel
theorem dX1_init_15 : decode cX1_init 15 = .ok (.aload_n 0, 1) := by decide +kernel
theorem dX1_init_16 : decode cX1_init 16 = .ok (.bipush 32, 2) := by decide +kernel
theorem dX1_init_18 : decode cX1_init 18 = .ok (.putfield 16, 3) := by decide +kernel
theorem dX1_init_21 : decode cX1_init 21 = .ok (.return_, 1) := by decide +kernel
theorem dX1_setRule_0 : decode cX1_setRule 0 = .ok (.aload_n 0, 1) := by decide +kernel
theorem dX1_setRule_1 : decode cX1_setRule 1 = .ok (.iconst 1, 1) := by decide +kernel
theorem dX1_setRule_2 : decode cX1_setRule 2 = .ok (.iload_n 1, 1) := by decide +kernel
theorem dX1_setRule_3 : decode cX1_setRule 3 = .ok (.ishl, 1) := by decide +kernel
theorem dX1_setRule_4 : decode cX1_setRule 4 = .ok (.iconst 1, 1) := by decide +kernel
theorem dX1_setRule_5 : decode cX1_setRule 5 = .ok (.isub, 1) := by decide +kernel
theorem dX1_setRule_6 : decode cX1_setRule 6 = .ok (.putfield 7, 3) := by decide +kernel
theorem dX1_setRule_9 : decode cX1_setRule 9 = .ok (.aload_n 0, 1) := by decide +kernel
theorem dX1_setRule_10 : decode cX1_setRule 10 = .ok (.iload_n 2, 1) := by decide +kernel
theorem dX1_setRule_11 : decode cX1_setRule 11 = .ok (.putfield 13, 3) := by decide +kernel
theorem dX1_setRule_14 : decode cX1_setRule 14 = .ok (.aload_n 0, 1) := by decide +kernel
theorem dX1_setRule_15 : decode cX1_setRule 15 = .ok (.iload_n 3, 1) := by decide +kernel
theorem dX1_setRule_16 : decode cX1_setRule 16 = .ok (.putfield 16, 3) := by decide +kernel
theorem dX1_setRule_19 : decode cX1_setRule 19 = .ok (.return_, 1) := by decide +kernel
theorem dX1_endOfPart_0 : decode cX1_endOfPart 0 = .ok (.iload_n 3, 1) := by decide +kernel
theorem dX1_endOfPart_1 : decode cX1_endOfPart 1 = .ok (.iload_n 2, 1) := by decide +kernel
theorem dX1_endOfPart_2 : decode cX1_endOfPart 2 = .ok (.aload_n 0, 1) := by decide +kernel
theorem dX1_endOfPart_3 : decode cX1_endOfPart 3 = .ok (.getfield 16, 3) := by decide +kernel
theorem dX1_endOfPart_6 : decode cX1_endOfPart 6 = .ok (.iadd, 1) := by decide +kernel
theorem dX1_endOfPart_7 : decode cX1_endOfPart 7 = .ok (.invokestatic 19, 3) := by decide +kernel
theorem dX1_endOfPart_10 : decode cX1_endOfPart 10 = .ok (.istore 4, 2) := by decide +kernel
theorem dX1_endOfPart_12 : decode cX1_endOfPart 12 = .ok (.iconst 0, 1) := by decide +kernel
theorem dX1_endOfPart_13 : decode cX1_endOfPart 13 = .ok (.istore 5, 2) := by decide +kernel
theorem dX1_endOfPart_15 : decode cX1_endOfPart 15 = .ok (.iload_n 2, 1) := by decide +kernel
theorem dX1_endOfPart_16 : decode cX1_endOfPart 16 = .ok (.istore 6, 2) := by decide +kernel
theorem dX1_endOfPart_18 : decode cX1_endOfPart 18 = .ok (.iload 6, 2) := by decide +kernel
theorem dX1_endOfPart_20 : decode cX1_endOfPart 20 = .ok (.iload 4, 2) := by decide +kernel
theorem dX1_endOfPart_22 : decode cX1_endOfPart 22 = .ok (.if_icmp .ge 82, 3) := by decide +kernel
theorem dX1_endOfPart_25 : decode cX1_endOfPart 25 = .ok (.iload 5, 2) := by decide +kernel
theorem dX1_endOfPart_27 : decode cX1_endOfPart 27 = .ok (.iconst 1, 1) := by decide +kernel
theorem dX1_endOfPart_28 : decode cX1_endOfPart 28 = .ok (.invokestatic 25, 3) := by decide +kernel
theorem dX1_endOfPart_31 : decode cX1_endOfPart 31 = .ok (.aload_n 1, 1) := by decide +kernel
theorem dX1_endOfPart_32 : decode cX1_endOfPart 32 = .ok (.iload 6, 2) := by decide +kernel
theorem dX1_endOfPart_34 : decode cX1_endOfPart 34 = .ok (.baload, 1) := by decide +kernel
theorem dX1_endOfPart_35 : decode cX1_endOfPart 35 = .ok (.invokestatic 28, 3) := by decide +kernel
theorem dX1_endOfPart_38 : decode cX1_endOfPart 38 = .ok (.ixor, 1) := by decide +kernel
theorem dX1_endOfPart_39 : decode cX1_endOfPart 39 = .ok (.istore 5, 2) := by decide +kernel
theorem dX1_endOfPart_41 : decode cX1_endOfPart 41 = .ok (.iload 6, 2) := by decide +kernel
theorem dX1_endOfPart_43 : decode cX1_endOfPart 43 = .ok (.iload_n 2, 1) := by decide +kernel
theorem dX1_endOfPart_44 : decode cX1_endOfPart 44 = .ok (.isub, 1) := by decide +kernel
theorem dX1_endOfPart_45 : decode cX1_endOfPart 45 = .ok (.bipush 8, 2) := by decide +kernel
theorem dX1_endOfPart_47 : decode cX1_endOfPart 47 = .ok (.if_icmp .lt 23, 3) := by decide +kernel
theorem dX1_endOfPart_50 : decode cX1_endOfPart 50 = .ok (.iload 5, 2) := by decide +kernel
theorem dX1_endOfPart_52 : decode cX1_endOfPart 52 = .ok (.aload_n 1, 1) := by decide +kernel
theorem dX1_endOfPart_53 : decode cX1_endOfPart 53 = .ok (.iload 6, 2) := by decide +kernel
theorem dX1_endOfPart_55 : decode cX1_endOfPart 55 = .ok (.bipush 8, 2) := by decide +kernel
theorem dX1_endOfPart_57 : decode cX1_endOfPart 57 = .ok (.isub, 1) := by decide +kernel
theorem dX1_endOfPart_58 : decode cX1_endOfPart 58 = .ok (.baload, 1) := by decide +kernel
theorem dX1_endOfPart_59 : decode cX1_endOfPart 59 = .ok (.invokestatic 28, 3) := by decide +kernel
theorem dX1_endOfPart_62 : decode cX1_endOfPart 62 = .ok (.bipush 8, 2) := by decide +kernel
theorem dX1_endOfPart_64 : decode cX1_endOfPart 64 = .ok (.invokestatic 25, 3) := by decide +kernel
theorem dX1_endOfPart_67 : decode cX1_endOfPart 67 = .ok (.ixor, 1) := by decide +kernel
theorem dX1_endOfPart_68 : decode cX1_endOfPart 68 = .ok (.istore 5, 2) := by decide +kernel
theorem dX1_endOfPart_70 : decode cX1_endOfPart 70 = .ok (.iload 6, 2) := by decide +kernel
theorem dX1_endOfPart_72 : decode cX1_endOfPart 72 = .ok (.iload_n 2, 1) := by decide +kernel
theorem dX1_endOfPart_73 : decode cX1_endOfPart 73 = .ok (.isub, 1) := by decide +kernel
theorem dX1_endOfPart_74 : decode cX1_endOfPart 74 = .ok (.iconst 1, 1) := by decide +kernel
theorem dX1_endOfPart_75 : decode cX1_endOfPart 75 = .ok (.iadd, 1) := by decide +kernel
theorem dX1_endOfPart_76 : decode cX1_endOfPart 76 = .ok (.aload_n 0, 1) := by decide +kernel
theorem dX1_endOfPart_77 : decode cX1_endOfPart 77 = .ok (.getfield 13, 3) := by decide +kernel
theorem dX1_endOfPart_80 : decode cX1_endOfPart 80 = .ok (.if_icmp .lt 18, 3) := by decide +kernel
theorem dX1_endOfPart_83 : decode cX1_endOfPart 83 = .ok (.iload 5, 2) := by decide +kernel
theorem dX1_endOfPart_85 : decode cX1_endOfPart 85 = .ok (.aload_n 0, 1) := by decide +kernel
theorem dX1_endOfPart_86 : decode cX1_endOfPart 86 = .ok (.getfield 7, 3) := by decide +kernel
theorem dX1_endOfPart_89 : decode cX1_endOfPart 89 = .ok (.iand, 1) := by decide +kernel
theorem dX1_endOfPart_90 : decode cX1_endOfPart 90 = .ok (.ifCond .ne 8, 3) := by decide +kernel
theorem dX1_endOfPart_93 : decode cX1_endOfPart 93 = .ok (.iload 6, 2) := by decide +kernel
theorem dX1_endOfPart_95 : decode cX1_endOfPart 95 = .ok (.iconst 1, 1) := by decide +kernel
theorem dX1_endOfPart_96 : decode cX1_endOfPart 96 = .ok (.iadd, 1) := by decide +kernel
theorem dX1_endOfPart_97 : decode cX1_endOfPart 97 = .ok (.ireturn, 1) := by decide +kernel
theorem dX1_endOfPart_98 : decode cX1_endOfPart 98 = .ok (.iinc 6 1, 3) := by decide +kernel
theorem dX1_endOfPart_101 : decode cX1_endOfPart 101 = .ok (.goto (-83), 3) := by decide +kernel
theorem dX1_endOfPart_104 : decode cX1_endOfPart 104 = .ok (.iload 4, 2) := by decide +kernel
theorem dX1_endOfPart_106 : decode cX1_endOfPart 106 = .ok (.ireturn, 1) := by decide +kernel
theorem dX1_mark_0 : decode cX1_mark 0 = .ok (.iload_n 0, 1) := by decide +kernel
theorem dX1_mark_1 : decode cX1_mark 1 = .ok (.sipush 255, 3) := by decide +kernel
theorem dX1_mark_4 : decode cX1_mark 4 = .ok (.iand, 1) := by decide +kernel
theorem dX1_mark_5 : decode cX1_mark 5 = .ok (.iconst 1, 1) := by decide +kernel
theorem dX1_mark_6 : decode cX1_mark 6 = .ok (.iadd, 1) := by decide +kernel
theorem dX1_mark_7 : decode cX1_mark 7 = .ok (.ldc 32, 2) := by decide +kernel
theorem dX1_mark_9 : decode cX1_mark 9 = .ok (.imul, 1) := by decide +kernel
theorem dX1_mark_10 : decode cX1_mark 10 = .ok (.istore_n 1, 1) := by decide +kernel
theorem dX1_mark_11 : decode cX1_mark 11 = .ok (.iload_n 1, 1) := by decide +kernel
theorem dX1_mark_12 : decode cX1_mark 12 = .ok (.iload_n 1, 1) := by decide +kernel
theorem dX1_mark_13 : decode cX1_mark 13 = .ok (.bipush 15, 2) := by decide +kernel
theorem dX1_mark_15 : decode cX1_mark 15 = .ok (.iushr, 1) := by decide +kernel
theorem dX1_mark_16 : decode cX1_mark 16 = .ok (.ixor, 1) := by decide +kernel
theorem dX1_mark_17 : decode cX1_mark 17 = .ok (.ireturn, 1) := by decide +kernel
theorem dX1_turned_0 : decode cX1_turned 0 = .ok (.iload_n 0, 1) := by decide +kernel
theorem dX1_turned_1 : decode cX1_turned 1 = .ok (.iload_n 1, 1) := by decide +kernel
theorem dX1_turned_2 : decode cX1_turned 2 = .ok (.ishl, 1) := by decide +kernel
theorem dX1_turned_3 : decode cX1_turned 3 = .ok (.iload_n 0, 1) := by decide +kernel
theorem dX1_turned_4 : decode cX1_turned 4 = .ok (.bipush 32, 2) := by decide +kernel
theorem dX1_turned_6 : decode cX1_turned 6 = .ok (.iload_n 1, 1) := by decide +kernel
theorem dX1_turned_7 : decode cX1_turned 7 = .ok (.isub, 1) := by decide +kernel
theorem dX1_turned_8 : decode cX1_turned 8 = .ok (.iushr, 1) := by decide +kernel
theorem dX1_turned_9 : decode cX1_turned 9 = .ok (.ior, 1) := by decide +kernel
theorem dX1_turned_10 : decode cX1_turned 10 = .ok (.ireturn, 1) := by decide +kernel
theorem dX2_init_0 : decode cX2_init 0 = .ok (.aload_n 0, 1) := by decide +kernel
theorem dX2_init_1 : decode cX2_init 1 = .ok (.invokespecial 3, 3) := by decide +kernel
theorem dX2_init_4 : decode cX2_init 4 = .ok (.aload_n 0, 1) := by decide +kernel
theorem dX2_init_5 : decode cX2_init 5 = .ok (.sipush 400, 3) := by decide +kernel
theorem dX2_init_8 : decode cX2_init 8 = .ok (.newarray .int, 2) := by decide +kernel
theorem dX2_init_10 : decode cX2_init 10 = .ok (.putfield 9, 3) := by decide +kernel
theorem dX2_init_13 : decode cX2_init 13 = .ok (.aload_n 0, 1) := by decide +kernel
theorem dX2_init_14 : decode cX2_init 14 = .ok (.sipush 400, 3) := by decide +kernel
theorem dX2_init_17 : decode cX2_init 17 = .ok (.newarray .int, 2) := by decide +kernel
theorem dX2_init_19 : decode cX2_init 19 = .ok (.putfield 15, 3) := by decide +kernel
theorem dX2_init_22 : decode cX2_init 22 = .ok (.aload_n 0, 1) := by decide +kernel
theorem dX2_init_23 : decode cX2_init 23 = .ok (.sipush 400, 3) := by decide +kernel
theorem dX2_init_26 : decode cX2_init 26 = .ok (.newarray .int, 2) := by decide +kernel
theorem dX2_init_28 : decode cX2_init 28 = .ok (.putfield 18, 3) := by decide +kernel
theorem dX2_init_31 : decode cX2_init 31 = .ok (.aload_n 0, 1) := by decide +kernel
theorem dX2_init_32 : decode cX2_init 32 = .ok (.sipush 400, 3) := by decide +kernel
theorem dX2_init_35 : decode cX2_init 35 = .ok (.newarray .int, 2) := by decide +kernel
theorem dX2_init_37 : decode cX2_init 37 = .ok (.putfield 21, 3) := by decide +kernel
theorem dX2_init_40 : decode cX2_init 40 = .ok (.aload_n 0, 1) := by decide +kernel
theorem dX2_init_41 : decode cX2_init 41 = .ok (.sipush 512, 3) := by decide +kernel
theorem dX2_init_44 : decode cX2_init 44 = .ok (.newarray .int, 2) := by decide +kernel
theorem dX2_init_46 : decode cX2_init 46 = .ok (.putfield 24, 3) := by decide +kernel
theorem dX2_init_49 : decode cX2_init 49 = .ok (.aload_n 0, 1) := by decide +kernel
theorem dX2_init_50 : decode cX2_init 50 = .ok (.sipush 1024, 3) := by decide +kernel
theorem dX2_init_53 : decode cX2_init 53 = .ok (.newarray .byte, 2) := by decide +kernel
theorem dX2_init_55 : decode cX2_init 55 = .ok (.putfield 27, 3) := by decide +kernel
theorem dX2_init_58 : decode cX2_init 58 = .ok (.aload_n 0, 1) := by decide +kernel
theorem dX2_init_59 : decode cX2_init 59 = .ok (.iconst 0, 1) := by decide +kernel
theorem dX2_init_60 : decode cX2_init 60 = .ok (.putfield 31, 3) := by decide +kernel
theorem dX2_init_63 : decode cX2_init 63 = .ok (.aload_n 0, 1) := by decide +kernel
theorem dX2_init_64 : decode cX2_init 64 = .ok (.iconst 0, 1) := by decide +kernel
theorem dX2_init_65 : decode cX2_init 65 = .ok (.putfield 35, 3) := by decide +kernel
theorem dX2_init_68 : decode cX2_init 68 = .ok (.aload_n 0, 1) := by decide +kernel
theorem dX2_init_69 : decode cX2_init 69 = .ok (.iconst 0, 1) := by decide +kernel
theorem dX2_init_70 : decode cX2_init 70 = .ok (.putfield 38, 3) := by decide +kernel
theorem dX2_init_73 : decode cX2_init 73 = .ok (.aload_n 0, 1) := by decide +kernel
theorem dX2_init_74 : decode cX2_init 74 = .ok (.getfield 24, 3) := by decide +kernel
theorem dX2_init_77 : decode cX2_init 77 = .ok (.iconst (-1), 1) := by decide +kernel
theorem dX2_init_78 : decode cX2_init 78 = .ok (.invokestatic 41, 3) := by decide +kernel
theorem dX2_init_81 : decode cX2_init 81 = .ok (.return_, 1) := by decide +kernel
theorem dX2_empty_0 : decode cX2_empty 0 = .ok (.aload_n 0, 1) := by decide +kernel
theorem dX2_empty_1 : decode cX2_empty 1 = .ok (.getfield 9, 3) := by decide +kernel
theorem dX2_empty_4 : decode cX2_empty 4 = .ok (.iconst 0, 1) := by decide +kernel
theorem dX2_empty_5 : decode cX2_empty 5 = .ok (.invokestatic 41, 3) := by decide +kernel
theorem dX2_empty_8 : decode cX2_empty 8 = .ok (.aload_n 0, 1) := by decide +kernel
theorem dX2_empty_9 : decode cX2_empty 9 = .ok (.getfield 24, 3) := by decide +kernel
theorem dX2_empty_12 : decode cX2_empty 12 = .ok (.iconst (-1), 1) := by decide +kernel
theorem dX2_empty_13 : decode cX2_empty 13 = .ok (.invokestatic 41, 3) := by decide +kernel
theorem dX2_empty_16 : decode cX2_empty 16 = .ok (.aload_n 0, 1) := by decide +kernel
theorem dX2_empty_17 : decode cX2_empty 17 = .ok (.iconst 0, 1) := by decide +kernel
theorem dX2_empty_18 : decode cX2_empty 18 = .ok (.putfield 31, 3) := by decide +kernel
theorem dX2_empty_21 : decode cX2_empty 21 = .ok (.aload_n 0, 1) := by decide +kernel
theorem dX2_empty_22 : decode cX2_empty 22 = .ok (.iconst 0, 1) := by decide +kernel
theorem dX2_empty_23 : decode cX2_empty 23 = .ok (.putfield 35, 3) := by decide +kernel
theorem dX2_empty_26 : decode cX2_empty 26 = .ok (.aload_n 0, 1) := by decide +kernel
theorem dX2_empty_27 : decode cX2_empty 27 = .ok (.iconst 0, 1) := by decide +kernel
theorem dX2_empty_28 : decode cX2_empty 28 = .ok (.putfield 38, 3) := by decide +kernel
theorem dX2_empty_31 : decode cX2_empty 31 = .ok (.return_, 1) := by decide +kernel
theorem dX2_has_0 : decode cX2_has 0 = .ok (.iload_n 1, 1) := by decide +kernel
theorem dX2_has_1 : decode cX2_has 1 = .ok (.ifCond .lt 23, 3) := by decide +kernel
theorem dX2_has_4 : decode cX2_has 4 = .ok (.iload_n 1, 1) := by decide +kernel
theorem dX2_has_5 : decode cX2_has 5 = .ok (.sipush 400, 3) := by decide +kernel
theorem dX2_has_8 : decode cX2_has 8 = .ok (.if_icmp .ge 16, 3) := by decide +kernel
theorem dX2_has_11 : decode cX2_has 11 = .ok (.aload_n 0, 1) := by decide +kernel
theorem dX2_has_12 : decode cX2_has 12 = .ok (.getfield 9, 3) := by decide +kernel
theorem dX2_has_15 : decode cX2_has 15 = .ok (.iload_n 1, 1) := by decide +kernel
theorem dX2_has_16 : decode cX2_has 16 = .ok (.iaload, 1) := by decide +kernel
theorem dX2_has_17 : decode cX2_has 17 = .ok (.ifCond .le 7, 3) := by decide +kernel
theorem dX2_has_20 : decode cX2_has 20 = .ok (.iconst 1, 1) := by decide +kernel
theorem dX2_has_21 : decode cX2_has 21 = .ok (.goto 4, 3) := by decide +kernel
theorem dX2_has_24 : decode cX2_has 24 = .ok (.iconst 0, 1) := by decide +kernel
theorem dX2_has_25 : decode cX2_has 25 = .ok (.ireturn, 1) := by decide +kernel
theorem dX2_usesOf_0 : decode cX2_usesOf 0 = .ok (.aload_n 0, 1) := by decide +kernel
theorem dX2_usesOf_1 : decode cX2_usesOf 1 = .ok (.iload_n 1, 1) := by decide +kernel
theorem dX2_usesOf_2 : decode cX2_usesOf 2 = .ok (.invokevirtual 47, 3) := by decide +kernel
theorem dX2_usesOf_5 : decode cX2_usesOf 5 = .ok (.ifCond .eq 12, 3) := by decide +kernel
theorem dX2_usesOf_8 : decode cX2_usesOf 8 = .ok (.aload_n 0, 1) := by decide +kernel
theorem dX2_usesOf_9 : decode cX2_usesOf 9 = .ok (.getfield 9, 3) := by decide +kernel
theorem dX2_usesOf_12 : decode cX2_usesOf 12 = .ok (.iload_n 1, 1) := by decide +kernel
theorem dX2_usesOf_13 : decode cX2_usesOf 13 = .ok (.iaload, 1) := by decide +kernel
theorem dX2_usesOf_14 : decode cX2_usesOf 14 = .ok (.goto 4, 3) := by decide +kernel
theorem dX2_usesOf_17 : decode cX2_usesOf 17 = .ok (.iconst 0, 1) := by decide +kernel
theorem dX2_usesOf_18 : decode cX2_usesOf 18 = .ok (.ireturn, 1) := by decide +kernel
theorem dX2_lengthOf_0 : decode cX2_lengthOf 0 = .ok (.aload_n 0, 1) := by decide +kernel
theorem dX2_lengthOf_1 : decode cX2_lengthOf 1 = .ok (.iload_n 1, 1) := by decide +kernel
theorem dX2_lengthOf_2 : decode cX2_lengthOf 2 = .ok (.invokevirtual 47, 3) := by decide +kernel
theorem dX2_lengthOf_5 : decode cX2_lengthOf 5 = .ok (.ifCond .eq 12, 3) := by decide +kernel
theorem dX2_lengthOf_8 : decode cX2_lengthOf 8 = .ok (.aload_n 0, 1) := by decide +kernel
theorem dX2_lengthOf_9 : decode cX2_lengthOf 9 = .ok (.getfield 15, 3) := by decide +kernel
theorem dX2_lengthOf_12 : decode cX2_lengthOf 12 = .ok (.iload_n 1, 1) := by decide +kernel
theorem dX2_lengthOf_13 : decode cX2_lengthOf 13 = .ok (.iaload, 1) := by decide +kernel
theorem dX2_lengthOf_14 : decode cX2_lengthOf 14 = .ok (.goto 4, 3) := by decide +kernel
theorem dX2_lengthOf_17 : decode cX2_lengthOf 17 = .ok (.iconst 0, 1) := by decide +kernel
theorem dX2_lengthOf_18 : decode cX2_lengthOf 18 = .ok (.ireturn, 1) := by decide +kernel
theorem dX2_byteOf_0 : decode cX2_byteOf 0 = .ok (.iload_n 2, 1) := by decide +kernel
theorem dX2_byteOf_1 : decode cX2_byteOf 1 = .ok (.ifCond .lt 12, 3) := by decide +kernel
theorem dX2_byteOf_4 : decode cX2_byteOf 4 = .ok (.iload_n 2, 1) := by decide +kernel
theorem dX2_byteOf_5 : decode cX2_byteOf 5 = .ok (.aload_n 0, 1) := by decide +kernel
theorem dX2_byteOf_6 : decode cX2_byteOf 6 = .ok (.iload_n 1, 1) := by decide +kernel
theorem dX2_byteOf_7 : decode cX2_byteOf 7 = .ok (.invokevirtual 51, 3) := by decide +kernel
theorem dX2_byteOf_10 : decode cX2_byteOf 10 = .ok (.if_icmp .lt 5, 3) := by decide +kernel
theorem dX2_byteOf_13 : decode cX2_byteOf 13 = .ok (.iconst (-1), 1) := by decide +kernel
theorem dX2_byteOf_14 : decode cX2_byteOf 14 = .ok (.ireturn, 1) := by decide +kernel
theorem dX2_byteOf_15 : decode cX2_byteOf 15 = .ok (.aload_n 0, 1) := by decide +kernel
theorem dX2_byteOf_16 : decode cX2_byteOf 16 = .ok (.getfield 27, 3) := by decide +kernel
theorem dX2_byteOf_19 : decode cX2_byteOf 19 = .ok (.iload_n 1, 1) := by decide +kernel
theorem dX2_byteOf_20 : decode cX2_byteOf 20 = .ok (.bipush 64, 2) := by decide +kernel
theorem dX2_byteOf_22 : decode cX2_byteOf 22 = .ok (.imul, 1) := by decide +kernel
theorem dX2_byteOf_23 : decode cX2_byteOf 23 = .ok (.iload_n 2, 1) := by decide +kernel
theorem dX2_byteOf_24 : decode cX2_byteOf 24 = .ok (.iadd, 1) := by decide +kernel
theorem dX2_byteOf_25 : decode cX2_byteOf 25 = .ok (.baload, 1) := by decide +kernel
theorem dX2_byteOf_26 : decode cX2_byteOf 26 = .ok (.sipush 255, 3) := by decide +kernel
theorem dX2_byteOf_29 : decode cX2_byteOf 29 = .ok (.iand, 1) := by decide +kernel
theorem dX2_byteOf_30 : decode cX2_byteOf 30 = .ok (.ireturn, 1) := by decide +kernel
theorem dX2_writeOut_0 : decode cX2_writeOut 0 = .ok (.aload_n 0, 1) := by decide +kernel
theorem dX2_writeOut_1 : decode cX2_writeOut 1 = .ok (.iload_n 1, 1) := by decide +kernel
theorem dX2_writeOut_2 : decode cX2_writeOut 2 = .ok (.invokevirtual 51, 3) := by decide +kernel
theorem dX2_writeOut_5 : decode cX2_writeOut 5 = .ok (.istore 4, 2) := by decide +kernel
theorem dX2_writeOut_7 : decode cX2_writeOut 7 = .ok (.iload 4, 2) := by decide +kernel
theorem dX2_writeOut_9 : decode cX2_writeOut 9 = .ok (.ifCond .eq 16, 3) := by decide +kernel
theorem dX2_writeOut_12 : decode cX2_writeOut 12 = .ok (.iload_n 3, 1) := by decide +kernel
theorem dX2_writeOut_13 : decode cX2_writeOut 13 = .ok (.ifCond .lt 12, 3) := by decide +kernel
theorem dX2_writeOut_16 : decode cX2_writeOut 16 = .ok (.iload 4, 2) := by decide +kernel
theorem dX2_writeOut_18 : decode cX2_writeOut 18 = .ok (.aload_n 2, 1) := by decide +kernel
theorem dX2_writeOut_19 : decode cX2_writeOut 19 = .ok (.arraylength, 1) := by decide +kernel
theorem dX2_writeOut_20 : decode cX2_writeOut 20 = .ok (.iload_n 3, 1) := by decide +kernel
theorem dX2_writeOut_21 : decode cX2_writeOut 21 = .ok (.isub, 1) := by decide +kernel
theorem dX2_writeOut_22 : decode cX2_writeOut 22 = .ok (.if_icmp .le 5, 3) := by decide +kernel
theorem dX2_writeOut_25 : decode cX2_writeOut 25 = .ok (.iconst 0, 1) := by decide +kernel
theorem dX2_writeOut_26 : decode cX2_writeOut 26 = .ok (.ireturn, 1) := by decide +kernel
theorem dX2_writeOut_27 : decode cX2_writeOut 27 = .ok (.aload_n 0, 1) := by decide +kernel
theorem dX2_writeOut_28 : decode cX2_writeOut 28 = .ok (.getfield 27, 3) := by decide +kernel
theorem dX2_writeOut_31 : decode cX2_writeOut 31 = .ok (.iload_n 1, 1) := by decide +kernel
theorem dX2_writeOut_32 : decode cX2_writeOut 32 = .ok (.bipush 64, 2) := by decide +kernel
theorem dX2_writeOut_34 : decode cX2_writeOut 34 = .ok (.imul, 1) := by decide +kernel
theorem dX2_writeOut_35 : decode cX2_writeOut 35 = .ok (.aload_n 2, 1) := by decide +kernel
theorem dX2_writeOut_36 : decode cX2_writeOut 36 = .ok (.iload_n 3, 1) := by decide +kernel
theorem dX2_writeOut_37 : decode cX2_writeOut 37 = .ok (.iload 4, 2) := by decide +kernel
theorem dX2_writeOut_39 : decode cX2_writeOut 39 = .ok (.invokestatic 55, 3) := by decide +kernel
theorem dX2_writeOut_42 : decode cX2_writeOut 42 = .ok (.iload 4, 2) := by decide +kernel
theorem dX2_writeOut_44 : decode cX2_writeOut 44 = .ok (.ireturn, 1) := by decide +kernel
theorem dX2_useAgain_0 : decode cX2_useAgain 0 = .ok (.aload_n 0, 1) := by decide +kernel
theorem dX2_useAgain_1 : decode cX2_useAgain 1 = .ok (.iload_n 1, 1) := by decide +kernel
theorem dX2_useAgain_2 : decode cX2_useAgain 2 = .ok (.invokevirtual 47, 3) := by decide +kernel
theorem dX2_useAgain_5 : decode cX2_useAgain 5 = .ok (.ifCond .eq 13, 3) := by decide +kernel
theorem dX2_useAgain_8 : decode cX2_useAgain 8 = .ok (.aload_n 0, 1) := by decide +kernel
theorem dX2_useAgain_9 : decode cX2_useAgain 9 = .ok (.getfield 9, 3) := by decide +kernel
theorem dX2_useAgain_12 : decode cX2_useAgain 12 = .ok (.iload_n 1, 1) := by decide +kernel
theorem dX2_useAgain_13 : decode cX2_useAgain 13 = .ok (.dup2, 1) := by decide +kernel
theorem dX2_useAgain_14 : decode cX2_useAgain 14 = .ok (.iaload, 1) := by decide +kernel
theorem dX2_useAgain_15 : decode cX2_useAgain 15 = .ok (.iconst 1, 1) := by decide +kernel
theorem dX2_useAgain_16 : decode cX2_useAgain 16 = .ok (.iadd, 1) := by decide +kernel
theorem dX2_useAgain_17 : decode cX2_useAgain 17 = .ok (.iastore, 1) := by decide +kernel
theorem dX2_useAgain_18 : decode cX2_useAgain 18 = .ok (.return_, 1) := by decide +kernel
theorem dX2_take_0 : decode cX2_take 0 = .ok (.aload_n 1, 1) := by decide +kernel
theorem dX2_take_1 : decode cX2_take 1 = .ok (.iload_n 2, 1) := by decide +kernel
theorem dX2_take_2 : decode cX2_take 2 = .ok (.iload_n 3, 1) := by decide +kernel
theorem dX2_take_3 : decode cX2_take 3 = .ok (.invokestatic 61, 3) := by decide +kernel
theorem dX2_take_6 : decode cX2_take 6 = .ok (.istore 4, 2) := by decide +kernel
theorem dX2_take_8 : decode cX2_take 8 = .ok (.aload_n 0, 1) := by decide +kernel
theorem dX2_take_9 : decode cX2_take 9 = .ok (.iload 4, 2) := by decide +kernel
theorem dX2_take_11 : decode cX2_take 11 = .ok (.aload_n 1, 1) := by decide +kernel
theorem dX2_take_12 : decode cX2_take 12 = .ok (.iload_n 2, 1) := by decide +kernel
theorem dX2_take_13 : decode cX2_take 13 = .ok (.iload_n 3, 1) := by decide +kernel
theorem dX2_take_14 : decode cX2_take 14 = .ok (.iload_n 2, 1) := by decide +kernel
theorem dX2_take_15 : decode cX2_take 15 = .ok (.isub, 1) := by decide +kernel
theorem dX2_take_16 : decode cX2_take 16 = .ok (.invokevirtual 65, 3) := by decide +kernel
theorem dX2_take_19 : decode cX2_take 19 = .ok (.istore 5, 2) := by decide +kernel
theorem dX2_take_21 : decode cX2_take 21 = .ok (.iload 5, 2) := by decide +kernel
theorem dX2_take_23 : decode cX2_take 23 = .ok (.iconst (-1), 1) := by decide +kernel
theorem dX2_take_24 : decode cX2_take 24 = .ok (.if_icmp .ne 15, 3) := by decide +kernel
theorem dX2_take_27 : decode cX2_take 27 = .ok (.aload_n 0, 1) := by decide +kernel
theorem dX2_take_28 : decode cX2_take 28 = .ok (.iload 4, 2) := by decide +kernel
theorem dX2_take_30 : decode cX2_take 30 = .ok (.aload_n 1, 1) := by decide +kernel
theorem dX2_take_31 : decode cX2_take 31 = .ok (.iload_n 2, 1) := by decide +kernel
theorem dX2_take_32 : decode cX2_take 32 = .ok (.iload_n 3, 1) := by decide +kernel
theorem dX2_take_33 : decode cX2_take 33 = .ok (.iload_n 2, 1) := by decide +kernel
theorem dX2_take_34 : decode cX2_take 34 = .ok (.isub, 1) := by decide +kernel
theorem dX2_take_35 : decode cX2_take 35 = .ok (.invokevirtual 69, 3) := by decide +kernel
theorem dX2_take_38 : decode cX2_take 38 = .ok (.ireturn, 1) := by decide +kernel
theorem dX2_take_39 : decode cX2_take 39 = .ok (.aload_n 0, 1) := by decide +kernel
theorem dX2_take_40 : decode cX2_take 40 = .ok (.iload 5, 2) := by decide +kernel
theorem dX2_take_42 : decode cX2_take 42 = .ok (.invokevirtual 72, 3) := by decide +kernel
theorem dX2_take_45 : decode cX2_take 45 = .ok (.iload 5, 2) := by decide +kernel
theorem dX2_take_47 : decode cX2_take 47 = .ok (.ireturn, 1) := by decide +kernel
theorem dX2_giveBack_0 : decode cX2_giveBack 0 = .ok (.aload_n 0, 1) := by decide +kernel
theorem dX2_giveBack_1 : decode cX2_giveBack 1 = .ok (.iload_n 1, 1) := by decide +kernel
theorem dX2_giveBack_2 : decode cX2_giveBack 2 = .ok (.invokevirtual 47, 3) := by decide +kernel
theorem dX2_giveBack_5 : decode cX2_giveBack 5 = .ok (.ifCond .ne 4, 3) := by decide +kernel
theorem dX2_giveBack_8 : decode cX2_giveBack 8 = .ok (.return_, 1) := by decide +kernel
theorem dX2_giveBack_9 : decode cX2_giveBack 9 = .ok (.aload_n 0, 1) := by decide +kernel
theorem dX2_giveBack_10 : decode cX2_giveBack 10 = .ok (.getfield 9, 3) := by decide +kernel
theorem dX2_giveBack_13 : decode cX2_giveBack 13 = .ok (.iload_n 1, 1) := by decide +kernel
theorem dX2_giveBack_14 : decode cX2_giveBack 14 = .ok (.dup2, 1) := by decide +kernel
theorem dX2_giveBack_15 : decode cX2_giveBack 15 = .ok (.iaload, 1) := by decide +kernel
theorem dX2_giveBack_16 : decode cX2_giveBack 16 = .ok (.iconst 1, 1) := by decide +kernel
theorem dX2_giveBack_17 : decode cX2_giveBack 17 = .ok (.isub, 1) := by decide +kernel
theorem dX2_giveBack_18 : decode cX2_giveBack 18 = .ok (.iastore, 1) := by decide +kernel
theorem dX2_giveBack_19 : decode cX2_giveBack 19 = .ok (.aload_n 0, 1) := by decide +kernel
theorem dX2_giveBack_20 : decode cX2_giveBack 20 = .ok (.getfield 9, 3) := by decide +kernel
theorem dX2_giveBack_23 : decode cX2_giveBack 23 = .ok (.iload_n 1, 1) := by decide +kernel
theorem dX2_giveBack_24 : decode cX2_giveBack 24 = .ok (.iaload, 1) := by decide +kernel
theorem dX2_giveBack_25 : decode cX2_giveBack 25 = .ok (.ifCond .ne 45, 3) := by decide +kernel
theorem dX2_giveBack_28 : decode cX2_giveBack 28 = .ok (.aload_n 0, 1) := by decide +kernel
theorem dX2_giveBack_29 : decode cX2_giveBack 29 = .ok (.iload_n 1, 1) := by decide +kernel
theorem dX2_giveBack_30 : decode cX2_giveBack 30 = .ok (.invokevirtual 76, 3) := by decide +kernel
theorem dX2_giveBack_33 : decode cX2_giveBack 33 = .ok (.aload_n 0, 1) := by decide +kernel
theorem dX2_giveBack_34 : decode cX2_giveBack 34 = .ok (.aload_n 0, 1) := by decide +kernel
theorem dX2_giveBack_35 : decode cX2_giveBack 35 = .ok (.getfield 31, 3) := by decide +kernel
theorem dX2_giveBack_38 : decode cX2_giveBack 38 = .ok (.iload_n 1, 1) := by decide +kernel
theorem dX2_giveBack_39 : decode cX2_giveBack 39 = .ok (.invokestatic 79, 3) := by decide +kernel
theorem dX2_giveBack_42 : decode cX2_giveBack 42 = .ok (.putfield 31, 3) := by decide +kernel
theorem dX2_giveBack_45 : decode cX2_giveBack 45 = .ok (.aload_n 0, 1) := by decide +kernel
theorem dX2_giveBack_46 : decode cX2_giveBack 46 = .ok (.dup, 1) := by decide +kernel
theorem dX2_giveBack_47 : decode cX2_giveBack 47 = .ok (.getfield 35, 3) := by decide +kernel
theorem dX2_giveBack_50 : decode cX2_giveBack 50 = .ok (.iconst 1, 1) := by decide +kernel
theorem dX2_giveBack_51 : decode cX2_giveBack 51 = .ok (.isub, 1) := by decide +kernel
theorem dX2_giveBack_52 : decode cX2_giveBack 52 = .ok (.putfield 35, 3) := by decide +kernel
theorem dX2_giveBack_55 : decode cX2_giveBack 55 = .ok (.aload_n 0, 1) := by decide +kernel
theorem dX2_giveBack_56 : decode cX2_giveBack 56 = .ok (.dup, 1) := by decide +kernel
theorem dX2_giveBack_57 : decode cX2_giveBack 57 = .ok (.getfield 38, 3) := by decide +kernel
theorem dX2_giveBack_60 : decode cX2_giveBack 60 = .ok (.aload_n 0, 1) := by decide +kernel
theorem dX2_giveBack_61 : decode cX2_giveBack 61 = .ok (.getfield 15, 3) := by decide +kernel
theorem dX2_giveBack_64 : decode cX2_giveBack 64 = .ok (.iload_n 1, 1) := by decide +kernel
theorem dX2_giveBack_65 : decode cX2_giveBack 65 = .ok (.iaload, 1) := by decide +kernel
theorem dX2_giveBack_66 : decode cX2_giveBack 66 = .ok (.isub, 1) := by decide +kernel
theorem dX2_giveBack_67 : decode cX2_giveBack 67 = .ok (.putfield 38, 3) := by decide +kernel
theorem dX2_giveBack_70 : decode cX2_giveBack 70 = .ok (.return_, 1) := by decide +kernel
theorem dX2_hashOf_0 : decode cX2_hashOf 0 = .ok (.iconst 0, 1) := by decide +kernel
theorem dX2_hashOf_1 : decode cX2_hashOf 1 = .ok (.istore_n 3, 1) := by decide +kernel
theorem dX2_hashOf_2 : decode cX2_hashOf 2 = .ok (.iload_n 1, 1) := by decide +kernel
theorem dX2_hashOf_3 : decode cX2_hashOf 3 = .ok (.istore 4, 2) := by decide +kernel
theorem dX2_hashOf_5 : decode cX2_hashOf 5 = .ok (.iload 4, 2) := by decide +kernel
theorem dX2_hashOf_7 : decode cX2_hashOf 7 = .ok (.iload_n 2, 1) := by decide +kernel
theorem dX2_hashOf_8 : decode cX2_hashOf 8 = .ok (.if_icmp .ge 19, 3) := by decide +kernel
theorem dX2_hashOf_11 : decode cX2_hashOf 11 = .ok (.iload_n 3, 1) := by decide +kernel
theorem dX2_hashOf_12 : decode cX2_hashOf 12 = .ok (.bipush 31, 2) := by decide +kernel
theorem dX2_hashOf_14 : decode cX2_hashOf 14 = .ok (.imul, 1) := by decide +kernel
theorem dX2_hashOf_15 : decode cX2_hashOf 15 = .ok (.aload_n 0, 1) := by decide +kernel
theorem dX2_hashOf_16 : decode cX2_hashOf 16 = .ok (.iload 4, 2) := by decide +kernel
theorem dX2_hashOf_18 : decode cX2_hashOf 18 = .ok (.baload, 1) := by decide +kernel
theorem dX2_hashOf_19 : decode cX2_hashOf 19 = .ok (.iadd, 1) := by decide +kernel
theorem dX2_hashOf_20 : decode cX2_hashOf 20 = .ok (.istore_n 3, 1) := by decide +kernel
theorem dX2_hashOf_21 : decode cX2_hashOf 21 = .ok (.iinc 4 1, 3) := by decide +kernel
theorem dX2_hashOf_24 : decode cX2_hashOf 24 = .ok (.goto (-19), 3) := by decide +kernel
theorem dX2_hashOf_27 : decode cX2_hashOf 27 = .ok (.iload_n 3, 1) := by decide +kernel
theorem dX2_hashOf_28 : decode cX2_hashOf 28 = .ok (.iload_n 3, 1) := by decide +kernel
theorem dX2_hashOf_29 : decode cX2_hashOf 29 = .ok (.bipush 9, 2) := by decide +kernel
theorem dX2_hashOf_31 : decode cX2_hashOf 31 = .ok (.iushr, 1) := by decide +kernel
theorem dX2_hashOf_32 : decode cX2_hashOf 32 = .ok (.ixor, 1) := by decide +kernel
theorem dX2_hashOf_33 : decode cX2_hashOf 33 = .ok (.ireturn, 1) := by decide +kernel
theorem dX2_find_0 : decode cX2_find 0 = .ok (.aload_n 0, 1) := by decide +kernel
theorem dX2_find_1 : decode cX2_find 1 = .ok (.getfield 24, 3) := by decide +kernel
theorem dX2_find_4 : decode cX2_find 4 = .ok (.iload_n 1, 1) := by decide +kernel
theorem dX2_find_5 : decode cX2_find 5 = .ok (.sipush 511, 3) := by decide +kernel
theorem dX2_find_8 : decode cX2_find 8 = .ok (.iand, 1) := by decide +kernel
theorem dX2_find_9 : decode cX2_find 9 = .ok (.iaload, 1) := by decide +kernel
theorem dX2_find_10 : decode cX2_find 10 = .ok (.istore 5, 2) := by decide +kernel
theorem dX2_find_12 : decode cX2_find 12 = .ok (.iconst 0, 1) := by decide +kernel
theorem dX2_find_13 : decode cX2_find 13 = .ok (.istore 6, 2) := by decide +kernel
theorem dX2_find_15 : decode cX2_find 15 = .ok (.iload 6, 2) := by decide +kernel
theorem dX2_find_17 : decode cX2_find 17 = .ok (.sipush 400, 3) := by decide +kernel
theorem dX2_find_20 : decode cX2_find 20 = .ok (.if_icmp .ge 64, 3) := by decide +kernel
theorem dX2_find_23 : decode cX2_find 23 = .ok (.aload_n 0, 1) := by decide +kernel
theorem dX2_find_24 : decode cX2_find 24 = .ok (.iload 5, 2) := by decide +kernel
theorem dX2_find_26 : decode cX2_find 26 = .ok (.invokevirtual 47, 3) := by decide +kernel
theorem dX2_find_29 : decode cX2_find 29 = .ok (.ifCond .eq 55, 3) := by decide +kernel
theorem dX2_find_32 : decode cX2_find 32 = .ok (.aload_n 0, 1) := by decide +kernel
theorem dX2_find_33 : decode cX2_find 33 = .ok (.getfield 18, 3) := by decide +kernel
theorem dX2_find_36 : decode cX2_find 36 = .ok (.iload 5, 2) := by decide +kernel
theorem dX2_find_38 : decode cX2_find 38 = .ok (.iaload, 1) := by decide +kernel
theorem dX2_find_39 : decode cX2_find 39 = .ok (.iload_n 1, 1) := by decide +kernel
theorem dX2_find_40 : decode cX2_find 40 = .ok (.if_icmp .ne 29, 3) := by decide +kernel
theorem dX2_find_43 : decode cX2_find 43 = .ok (.aload_n 0, 1) := by decide +kernel
theorem dX2_find_44 : decode cX2_find 44 = .ok (.getfield 15, 3) := by decide +kernel
theorem dX2_find_47 : decode cX2_find 47 = .ok (.iload 5, 2) := by decide +kernel
theorem dX2_find_49 : decode cX2_find 49 = .ok (.iaload, 1) := by decide +kernel
theorem dX2_find_50 : decode cX2_find 50 = .ok (.iload 4, 2) := by decide +kernel
theorem dX2_find_52 : decode cX2_find 52 = .ok (.if_icmp .ne 17, 3) := by decide +kernel
theorem dX2_find_55 : decode cX2_find 55 = .ok (.aload_n 0, 1) := by decide +kernel
theorem dX2_find_56 : decode cX2_find 56 = .ok (.iload 5, 2) := by decide +kernel
theorem dX2_find_58 : decode cX2_find 58 = .ok (.aload_n 2, 1) := by decide +kernel
theorem dX2_find_59 : decode cX2_find 59 = .ok (.iload_n 3, 1) := by decide +kernel
theorem dX2_find_60 : decode cX2_find 60 = .ok (.invokevirtual 85, 3) := by decide +kernel
theorem dX2_find_63 : decode cX2_find 63 = .ok (.ifCond .eq 6, 3) := by decide +kernel
theorem dX2_find_66 : decode cX2_find 66 = .ok (.iload 5, 2) := by decide +kernel
theorem dX2_find_68 : decode cX2_find 68 = .ok (.ireturn, 1) := by decide +kernel
theorem dX2_find_69 : decode cX2_find 69 = .ok (.aload_n 0, 1) := by decide +kernel
theorem dX2_find_70 : decode cX2_find 70 = .ok (.getfield 21, 3) := by decide +kernel
theorem dX2_find_73 : decode cX2_find 73 = .ok (.iload 5, 2) := by decide +kernel
theorem dX2_find_75 : decode cX2_find 75 = .ok (.iaload, 1) := by decide +kernel
theorem dX2_find_76 : decode cX2_find 76 = .ok (.istore 5, 2) := by decide +kernel
theorem dX2_find_78 : decode cX2_find 78 = .ok (.iinc 6 1, 3) := by decide +kernel
theorem dX2_find_81 : decode cX2_find 81 = .ok (.goto (-66), 3) := by decide +kernel
theorem dX2_find_84 : decode cX2_find 84 = .ok (.iconst (-1), 1) := by decide +kernel
theorem dX2_find_85 : decode cX2_find 85 = .ok (.ireturn, 1) := by decide +kernel
theorem dX2_sameBytes_0 : decode cX2_sameBytes 0 = .ok (.iload_n 1, 1) := by decide +kernel
theorem dX2_sameBytes_1 : decode cX2_sameBytes 1 = .ok (.bipush 64, 2) := by decide +kernel
theorem dX2_sameBytes_3 : decode cX2_sameBytes 3 = .ok (.imul, 1) := by decide +kernel
theorem dX2_sameBytes_4 : decode cX2_sameBytes 4 = .ok (.istore 4, 2) := by decide +kernel
theorem dX2_sameBytes_6 : decode cX2_sameBytes 6 = .ok (.iconst 0, 1) := by decide +kernel
theorem dX2_sameBytes_7 : decode cX2_sameBytes 7 = .ok (.istore 5, 2) := by decide +kernel
theorem dX2_sameBytes_9 : decode cX2_sameBytes 9 = .ok (.iload 5, 2) := by decide +kernel
theorem dX2_sameBytes_11 : decode cX2_sameBytes 11 = .ok (.aload_n 0, 1) := by decide +kernel
theorem dX2_sameBytes_12 : decode cX2_sameBytes 12 = .ok (.getfield 15, 3) := by decide +kernel
theorem dX2_sameBytes_15 : decode cX2_sameBytes 15 = .ok (.iload_n 1, 1) := by decide +kernel
theorem dX2_sameBytes_16 : decode cX2_sameBytes 16 = .ok (.iaload, 1) := by decide +kernel
theorem dX2_sameBytes_17 : decode cX2_sameBytes 17 = .ok (.if_icmp .ge 30, 3) := by decide +kernel
theorem dX2_sameBytes_20 : decode cX2_sameBytes 20 = .ok (.aload_n 0, 1) := by decide +kernel
theorem dX2_sameBytes_21 : decode cX2_sameBytes 21 = .ok (.getfield 27, 3) := by decide +kernel
theorem dX2_sameBytes_24 : decode cX2_sameBytes 24 = .ok (.iload 4, 2) := by decide +kernel
theorem dX2_sameBytes_26 : decode cX2_sameBytes 26 = .ok (.iload 5, 2) := by decide +kernel
theorem dX2_sameBytes_28 : decode cX2_sameBytes 28 = .ok (.iadd, 1) := by decide +kernel
theorem dX2_sameBytes_29 : decode cX2_sameBytes 29 = .ok (.baload, 1) := by decide +kernel
theorem dX2_sameBytes_30 : decode cX2_sameBytes 30 = .ok (.aload_n 2, 1) := by decide +kernel
theorem dX2_sameBytes_31 : decode cX2_sameBytes 31 = .ok (.iload_n 3, 1) := by decide +kernel
theorem dX2_sameBytes_32 : decode cX2_sameBytes 32 = .ok (.iload 5, 2) := by decide +kernel
theorem dX2_sameBytes_34 : decode cX2_sameBytes 34 = .ok (.iadd, 1) := by decide +kernel
theorem dX2_sameBytes_35 : decode cX2_sameBytes 35 = .ok (.baload, 1) := by decide +kernel
theorem dX2_sameBytes_36 : decode cX2_sameBytes 36 = .ok (.if_icmp .eq 5, 3) := by decide +kernel
theorem dX2_sameBytes_39 : decode cX2_sameBytes 39 = .ok (.iconst 0, 1) := by decide +kernel
theorem dX2_sameBytes_40 : decode cX2_sameBytes 40 = .ok (.ireturn, 1) := by decide +kernel
theorem dX2_sameBytes_41 : decode cX2_sameBytes 41 = .ok (.iinc 5 1, 3) := by decide +kernel
theorem dX2_sameBytes_44 : decode cX2_sameBytes 44 = .ok (.goto (-35), 3) := by decide +kernel
theorem dX2_sameBytes_47 : decode cX2_sameBytes 47 = .ok (.iconst 1, 1) := by decide +kernel
theorem dX2_sameBytes_48 : decode cX2_sameBytes 48 = .ok (.ireturn, 1) := by decide +kernel
theorem dX2_add_0 : decode cX2_add 0 = .ok (.aload_n 0, 1) := by decide +kernel
theorem dX2_add_1 : decode cX2_add 1 = .ok (.invokevirtual 89, 3) := by decide +kernel
theorem dX2_add_4 : decode cX2_add 4 = .ok (.istore 5, 2) := by decide +kernel
theorem dX2_add_6 : decode cX2_add 6 = .ok (.iload 5, 2) := by decide +kernel
theorem dX2_add_8 : decode cX2_add 8 = .ok (.iconst (-1), 1) := by decide +kernel
theorem dX2_add_9 : decode cX2_add 9 = .ok (.if_icmp .ne 5, 3) := by decide +kernel
theorem dX2_add_12 : decode cX2_add 12 = .ok (.iconst (-1), 1) := by decide +kernel
theorem dX2_add_13 : decode cX2_add 13 = .ok (.ireturn, 1) := by decide +kernel
theorem dX2_add_14 : decode cX2_add 14 = .ok (.aload_n 0, 1) := by decide +kernel
theorem dX2_add_15 : decode cX2_add 15 = .ok (.iload 5, 2) := by decide +kernel
theorem dX2_add_17 : decode cX2_add 17 = .ok (.invokevirtual 93, 3) := by decide +kernel
theorem dX2_add_20 : decode cX2_add 20 = .ok (.aload_n 2, 1) := by decide +kernel
theorem dX2_add_21 : decode cX2_add 21 = .ok (.iload_n 3, 1) := by decide +kernel
theorem dX2_add_22 : decode cX2_add 22 = .ok (.aload_n 0, 1) := by decide +kernel
theorem dX2_add_23 : decode cX2_add 23 = .ok (.getfield 27, 3) := by decide +kernel
theorem dX2_add_26 : decode cX2_add 26 = .ok (.iload 5, 2) := by decide +kernel
theorem dX2_add_28 : decode cX2_add 28 = .ok (.bipush 64, 2) := by decide +kernel
theorem dX2_add_30 : decode cX2_add 30 = .ok (.imul, 1) := by decide +kernel
theorem dX2_add_31 : decode cX2_add 31 = .ok (.iload 4, 2) := by decide +kernel
theorem dX2_add_33 : decode cX2_add 33 = .ok (.invokestatic 55, 3) := by decide +kernel
theorem dX2_add_36 : decode cX2_add 36 = .ok (.aload_n 0, 1) := by decide +kernel
theorem dX2_add_37 : decode cX2_add 37 = .ok (.getfield 9, 3) := by decide +kernel
theorem dX2_add_40 : decode cX2_add 40 = .ok (.iload 5, 2) := by decide +kernel
theorem dX2_add_42 : decode cX2_add 42 = .ok (.iconst 1, 1) := by decide +kernel
theorem dX2_add_43 : decode cX2_add 43 = .ok (.iastore, 1) := by decide +kernel
theorem dX2_add_44 : decode cX2_add 44 = .ok (.aload_n 0, 1) := by decide +kernel
theorem dX2_add_45 : decode cX2_add 45 = .ok (.getfield 15, 3) := by decide +kernel
theorem dX2_add_48 : decode cX2_add 48 = .ok (.iload 5, 2) := by decide +kernel
theorem dX2_add_50 : decode cX2_add 50 = .ok (.iload 4, 2) := by decide +kernel
theorem dX2_add_52 : decode cX2_add 52 = .ok (.iastore, 1) := by decide +kernel
theorem dX2_add_53 : decode cX2_add 53 = .ok (.aload_n 0, 1) := by decide +kernel
theorem dX2_add_54 : decode cX2_add 54 = .ok (.getfield 18, 3) := by decide +kernel
theorem dX2_add_57 : decode cX2_add 57 = .ok (.iload 5, 2) := by decide +kernel
theorem dX2_add_59 : decode cX2_add 59 = .ok (.iload_n 1, 1) := by decide +kernel
theorem dX2_add_60 : decode cX2_add 60 = .ok (.iastore, 1) := by decide +kernel
theorem dX2_add_61 : decode cX2_add 61 = .ok (.aload_n 0, 1) := by decide +kernel
theorem dX2_add_62 : decode cX2_add 62 = .ok (.getfield 21, 3) := by decide +kernel
theorem dX2_add_65 : decode cX2_add 65 = .ok (.iload 5, 2) := by decide +kernel
theorem dX2_add_67 : decode cX2_add 67 = .ok (.aload_n 0, 1) := by decide +kernel
theorem dX2_add_68 : decode cX2_add 68 = .ok (.getfield 24, 3) := by decide +kernel
theorem dX2_add_71 : decode cX2_add 71 = .ok (.iload_n 1, 1) := by decide +kernel
theorem dX2_add_72 : decode cX2_add 72 = .ok (.sipush 511, 3) := by decide +kernel
theorem dX2_add_75 : decode cX2_add 75 = .ok (.iand, 1) := by decide +kernel
theorem dX2_add_76 : decode cX2_add 76 = .ok (.iaload, 1) := by decide +kernel
theorem dX2_add_77 : decode cX2_add 77 = .ok (.iastore, 1) := by decide +kernel
theorem dX2_add_78 : decode cX2_add 78 = .ok (.aload_n 0, 1) := by decide +kernel
theorem dX2_add_79 : decode cX2_add 79 = .ok (.getfield 24, 3) := by decide +kernel
theorem dX2_add_82 : decode cX2_add 82 = .ok (.iload_n 1, 1) := by decide +kernel
theorem dX2_add_83 : decode cX2_add 83 = .ok (.sipush 511, 3) := by decide +kernel
theorem dX2_add_86 : decode cX2_add 86 = .ok (.iand, 1) := by decide +kernel
theorem dX2_add_87 : decode cX2_add 87 = .ok (.iload 5, 2) := by decide +kernel
theorem dX2_add_89 : decode cX2_add 89 = .ok (.iastore, 1) := by decide +kernel
theorem dX2_add_90 : decode cX2_add 90 = .ok (.aload_n 0, 1) := by decide +kernel
theorem dX2_add_91 : decode cX2_add 91 = .ok (.dup, 1) := by decide +kernel
theorem dX2_add_92 : decode cX2_add 92 = .ok (.getfield 35, 3) := by decide +kernel
theorem dX2_add_95 : decode cX2_add 95 = .ok (.iconst 1, 1) := by decide +kernel
theorem dX2_add_96 : decode cX2_add 96 = .ok (.iadd, 1) := by decide +kernel
theorem dX2_add_97 : decode cX2_add 97 = .ok (.putfield 35, 3) := by decide +kernel
theorem dX2_add_100 : decode cX2_add 100 = .ok (.aload_n 0, 1) := by decide +kernel
theorem dX2_add_101 : decode cX2_add 101 = .ok (.dup, 1) := by decide +kernel
theorem dX2_add_102 : decode cX2_add 102 = .ok (.getfield 38, 3) := by decide +kernel
theorem dX2_add_105 : decode cX2_add 105 = .ok (.iload 4, 2) := by decide +kernel
theorem dX2_add_107 : decode cX2_add 107 = .ok (.iadd, 1) := by decide +kernel
theorem dX2_add_108 : decode cX2_add 108 = .ok (.putfield 38, 3) := by decide +kernel
theorem dX2_add_111 : decode cX2_add 111 = .ok (.iload 5, 2) := by decide +kernel
theorem dX2_add_113 : decode cX2_add 113 = .ok (.ireturn, 1) := by decide +kernel
theorem dX2_leastFree_0 : decode cX2_leastFree 0 = .ok (.aload_n 0, 1) := by decide +kernel
theorem dX2_leastFree_1 : decode cX2_leastFree 1 = .ok (.getfield 31, 3) := by decide +kernel
theorem dX2_leastFree_4 : decode cX2_leastFree 4 = .ok (.sipush 400, 3) := by decide +kernel
theorem dX2_leastFree_7 : decode cX2_leastFree 7 = .ok (.if_icmp .ge 28, 3) := by decide +kernel
theorem dX2_leastFree_10 : decode cX2_leastFree 10 = .ok (.aload_n 0, 1) := by decide +kernel
theorem dX2_leastFree_11 : decode cX2_leastFree 11 = .ok (.getfield 9, 3) := by decide +kernel
theorem dX2_leastFree_14 : decode cX2_leastFree 14 = .ok (.aload_n 0, 1) := by decide +kernel
theorem dX2_leastFree_15 : decode cX2_leastFree 15 = .ok (.getfield 31, 3) := by decide +kernel
theorem dX2_leastFree_18 : decode cX2_leastFree 18 = .ok (.iaload, 1) := by decide +kernel
theorem dX2_leastFree_19 : decode cX2_leastFree 19 = .ok (.ifCond .le 16, 3) := by decide +kernel
theorem dX2_leastFree_22 : decode cX2_leastFree 22 = .ok (.aload_n 0, 1) := by decide +kernel
theorem dX2_leastFree_23 : decode cX2_leastFree 23 = .ok (.dup, 1) := by decide +kernel
theorem dX2_leastFree_24 : decode cX2_leastFree 24 = .ok (.getfield 31, 3) := by decide +kernel
theorem dX2_leastFree_27 : decode cX2_leastFree 27 = .ok (.iconst 1, 1) := by decide +kernel
theorem dX2_leastFree_28 : decode cX2_leastFree 28 = .ok (.iadd, 1) := by decide +kernel
theorem dX2_leastFree_29 : decode cX2_leastFree 29 = .ok (.putfield 31, 3) := by decide +kernel
theorem dX2_leastFree_32 : decode cX2_leastFree 32 = .ok (.goto (-32), 3) := by decide +kernel
theorem dX2_leastFree_35 : decode cX2_leastFree 35 = .ok (.aload_n 0, 1) := by decide +kernel
theorem dX2_leastFree_36 : decode cX2_leastFree 36 = .ok (.getfield 31, 3) := by decide +kernel
theorem dX2_leastFree_39 : decode cX2_leastFree 39 = .ok (.sipush 400, 3) := by decide +kernel
theorem dX2_leastFree_42 : decode cX2_leastFree 42 = .ok (.if_icmp .ge 10, 3) := by decide +kernel
theorem dX2_leastFree_45 : decode cX2_leastFree 45 = .ok (.aload_n 0, 1) := by decide +kernel
theorem dX2_leastFree_46 : decode cX2_leastFree 46 = .ok (.getfield 31, 3) := by decide +kernel
theorem dX2_leastFree_49 : decode cX2_leastFree 49 = .ok (.goto 4, 3) := by decide +kernel
theorem dX2_leastFree_52 : decode cX2_leastFree 52 = .ok (.iconst (-1), 1) := by decide +kernel
theorem dX2_leastFree_53 : decode cX2_leastFree 53 = .ok (.ireturn, 1) := by decide +kernel
theorem dX2_makeRoomFor_0 : decode cX2_makeRoomFor 0 = .ok (.iload_n 1, 1) := by decide +kernel
theorem dX2_makeRoomFor_1 : decode cX2_makeRoomFor 1 = .ok (.iconst 1, 1) := by decide +kernel
theorem dX2_makeRoomFor_2 : decode cX2_makeRoomFor 2 = .ok (.iadd, 1) := by decide +kernel
theorem dX2_makeRoomFor_3 : decode cX2_makeRoomFor 3 = .ok (.bipush 64, 2) := by decide +kernel
theorem dX2_makeRoomFor_5 : decode cX2_makeRoomFor 5 = .ok (.imul, 1) := by decide +kernel
theorem dX2_makeRoomFor_6 : decode cX2_makeRoomFor 6 = .ok (.istore_n 2, 1) := by decide +kernel
theorem dX2_makeRoomFor_7 : decode cX2_makeRoomFor 7 = .ok (.iload_n 2, 1) := by decide +kernel
theorem dX2_makeRoomFor_8 : decode cX2_makeRoomFor 8 = .ok (.aload_n 0, 1) := by decide +kernel
theorem dX2_makeRoomFor_9 : decode cX2_makeRoomFor 9 = .ok (.getfield 27, 3) := by decide +kernel
theorem dX2_makeRoomFor_12 : decode cX2_makeRoomFor 12 = .ok (.arraylength, 1) := by decide +kernel
theorem dX2_makeRoomFor_13 : decode cX2_makeRoomFor 13 = .ok (.if_icmp .le 31, 3) := by decide +kernel
theorem dX2_makeRoomFor_16 : decode cX2_makeRoomFor 16 = .ok (.aload_n 0, 1) := by decide +kernel
theorem dX2_makeRoomFor_17 : decode cX2_makeRoomFor 17 = .ok (.aload_n 0, 1) := by decide +kernel
theorem dX2_makeRoomFor_18 : decode cX2_makeRoomFor 18 = .ok (.getfield 27, 3) := by decide +kernel
theorem dX2_makeRoomFor_21 : decode cX2_makeRoomFor 21 = .ok (.sipush 25600, 3) := by decide +kernel
theorem dX2_makeRoomFor_24 : decode cX2_makeRoomFor 24 = .ok (.iload_n 2, 1) := by decide +kernel
theorem dX2_makeRoomFor_25 : decode cX2_makeRoomFor 25 = .ok (.iconst 2, 1) := by decide +kernel
theorem dX2_makeRoomFor_26 : decode cX2_makeRoomFor 26 = .ok (.aload_n 0, 1) := by decide +kernel
theorem dX2_makeRoomFor_27 : decode cX2_makeRoomFor 27 = .ok (.getfield 27, 3) := by decide +kernel
theorem dX2_makeRoomFor_30 : decode cX2_makeRoomFor 30 = .ok (.arraylength, 1) := by decide +kernel
theorem dX2_makeRoomFor_31 : decode cX2_makeRoomFor 31 = .ok (.imul, 1) := by decide +kernel
theorem dX2_makeRoomFor_32 : decode cX2_makeRoomFor 32 = .ok (.invokestatic 96, 3) := by decide +kernel
theorem dX2_makeRoomFor_35 : decode cX2_makeRoomFor 35 = .ok (.invokestatic 79, 3) := by decide +kernel
theorem dX2_makeRoomFor_38 : decode cX2_makeRoomFor 38 = .ok (.invokestatic 99, 3) := by decide +kernel
theorem dX2_makeRoomFor_41 : decode cX2_makeRoomFor 41 = .ok (.putfield 27, 3) := by decide +kernel
theorem dX2_makeRoomFor_44 : decode cX2_makeRoomFor 44 = .ok (.return_, 1) := by decide +kernel
theorem dX2_unchain_0 : decode cX2_unchain 0 = .ok (.aload_n 0, 1) := by decide +kernel
theorem dX2_unchain_1 : decode cX2_unchain 1 = .ok (.getfield 18, 3) := by decide +kernel
theorem dX2_unchain_4 : decode cX2_unchain 4 = .ok (.iload_n 1, 1) := by decide +kernel
theorem dX2_unchain_5 : decode cX2_unchain 5 = .ok (.iaload, 1) := by decide +kernel
theorem dX2_unchain_6 : decode cX2_unchain 6 = .ok (.sipush 511, 3) := by decide +kernel
theorem dX2_unchain_9 : decode cX2_unchain 9 = .ok (.iand, 1) := by decide +kernel
theorem dX2_unchain_10 : decode cX2_unchain 10 = .ok (.istore_n 2, 1) := by decide +kernel
theorem dX2_unchain_11 : decode cX2_unchain 11 = .ok (.aload_n 0, 1) := by decide +kernel
theorem dX2_unchain_12 : decode cX2_unchain 12 = .ok (.getfield 24, 3) := by decide +kernel
theorem dX2_unchain_15 : decode cX2_unchain 15 = .ok (.iload_n 2, 1) := by decide +kernel
theorem dX2_unchain_16 : decode cX2_unchain 16 = .ok (.iaload, 1) := by decide +kernel
theorem dX2_unchain_17 : decode cX2_unchain 17 = .ok (.iload_n 1, 1) := by decide +kernel
theorem dX2_unchain_18 : decode cX2_unchain 18 = .ok (.if_icmp .ne 16, 3) := by decide +kernel
theorem dX2_unchain_21 : decode cX2_unchain 21 = .ok (.aload_n 0, 1) := by decide +kernel
theorem dX2_unchain_22 : decode cX2_unchain 22 = .ok (.getfield 24, 3) := by decide +kernel
theorem dX2_unchain_25 : decode cX2_unchain 25 = .ok (.iload_n 2, 1) := by decide +kernel
theorem dX2_unchain_26 : decode cX2_unchain 26 = .ok (.aload_n 0, 1) := by decide +kernel
theorem dX2_unchain_27 : decode cX2_unchain 27 = .ok (.getfield 21, 3) := by decide +kernel
theorem dX2_unchain_30 : decode cX2_unchain 30 = .ok (.iload_n 1, 1) := by decide +kernel
theorem dX2_unchain_31 : decode cX2_unchain 31 = .ok (.iaload, 1) := by decide +kernel
theorem dX2_unchain_32 : decode cX2_unchain 32 = .ok (.iastore, 1) := by decide +kernel
theorem dX2_unchain_33 : decode cX2_unchain 33 = .ok (.return_, 1) := by decide +kernel
theorem dX2_unchain_34 : decode cX2_unchain 34 = .ok (.aload_n 0, 1) := by decide +kernel
theorem dX2_unchain_35 : decode cX2_unchain 35 = .ok (.getfield 24, 3) := by decide +kernel
theorem dX2_unchain_38 : decode cX2_unchain 38 = .ok (.iload_n 2, 1) := by decide +kernel
theorem dX2_unchain_39 : decode cX2_unchain 39 = .ok (.iaload, 1) := by decide +kernel
theorem dX2_unchain_40 : decode cX2_unchain 40 = .ok (.istore_n 3, 1) := by decide +kernel
theorem dX2_unchain_41 : decode cX2_unchain 41 = .ok (.iconst 0, 1) := by decide +kernel
theorem dX2_unchain_42 : decode cX2_unchain 42 = .ok (.istore 4, 2) := by decide +kernel
theorem dX2_unchain_44 : decode cX2_unchain 44 = .ok (.iload 4, 2) := by decide +kernel
theorem dX2_unchain_46 : decode cX2_unchain 46 = .ok (.sipush 400, 3) := by decide +kernel
theorem dX2_unchain_49 : decode cX2_unchain 49 = .ok (.if_icmp .ge 47, 3) := by decide +kernel
theorem dX2_unchain_52 : decode cX2_unchain 52 = .ok (.aload_n 0, 1) := by decide +kernel
theorem dX2_unchain_53 : decode cX2_unchain 53 = .ok (.iload_n 3, 1) := by decide +kernel
theorem dX2_unchain_54 : decode cX2_unchain 54 = .ok (.invokevirtual 47, 3) := by decide +kernel
theorem dX2_unchain_57 : decode cX2_unchain 57 = .ok (.ifCond .eq 39, 3) := by decide +kernel
theorem dX2_unchain_60 : decode cX2_unchain 60 = .ok (.aload_n 0, 1) := by decide +kernel
theorem dX2_unchain_61 : decode cX2_unchain 61 = .ok (.getfield 21, 3) := by decide +kernel
theorem dX2_unchain_64 : decode cX2_unchain 64 = .ok (.iload_n 3, 1) := by decide +kernel
theorem dX2_unchain_65 : decode cX2_unchain 65 = .ok (.iaload, 1) := by decide +kernel
theorem dX2_unchain_66 : decode cX2_unchain 66 = .ok (.iload_n 1, 1) := by decide +kernel
theorem dX2_unchain_67 : decode cX2_unchain 67 = .ok (.if_icmp .ne 16, 3) := by decide +kernel
theorem dX2_unchain_70 : decode cX2_unchain 70 = .ok (.aload_n 0, 1) := by decide +kernel
theorem dX2_unchain_71 : decode cX2_unchain 71 = .ok (.getfield 21, 3) := by decide +kernel
theorem dX2_unchain_74 : decode cX2_unchain 74 = .ok (.iload_n 3, 1) := by decide +kernel
theorem dX2_unchain_75 : decode cX2_unchain 75 = .ok (.aload_n 0, 1) := by decide +kernel
theorem dX2_unchain_76 : decode cX2_unchain 76 = .ok (.getfield 21, 3) := by decide +kernel
theorem dX2_unchain_79 : decode cX2_unchain 79 = .ok (.iload_n 1, 1) := by decide +kernel
theorem dX2_unchain_80 : decode cX2_unchain 80 = .ok (.iaload, 1) := by decide +kernel
theorem dX2_unchain_81 : decode cX2_unchain 81 = .ok (.iastore, 1) := by decide +kernel
theorem dX2_unchain_82 : decode cX2_unchain 82 = .ok (.return_, 1) := by decide +kernel
theorem dX2_unchain_83 : decode cX2_unchain 83 = .ok (.aload_n 0, 1) := by decide +kernel
theorem dX2_unchain_84 : decode cX2_unchain 84 = .ok (.getfield 21, 3) := by decide +kernel
theorem dX2_unchain_87 : decode cX2_unchain 87 = .ok (.iload_n 3, 1) := by decide +kernel
theorem dX2_unchain_88 : decode cX2_unchain 88 = .ok (.iaload, 1) := by decide +kernel
theorem dX2_unchain_89 : decode cX2_unchain 89 = .ok (.istore_n 3, 1) := by decide +kernel
theorem dX2_unchain_90 : decode cX2_unchain 90 = .ok (.iinc 4 1, 3) := by decide +kernel
theorem dX2_unchain_93 : decode cX2_unchain 93 = .ok (.goto (-49), 3) := by decide +kernel
theorem dX2_unchain_96 : decode cX2_unchain 96 = .ok (.return_, 1) := by decide +kernel
theorem dX3_init_0 : decode cX3_init 0 = .ok (.aload_n 0, 1) := by decide +kernel
theorem dX3_init_1 : decode cX3_init 1 = .ok (.invokespecial 1, 3) := by decide +kernel
theorem dX3_init_4 : decode cX3_init 4 = .ok (.aload_n 0, 1) := by decide +kernel
theorem dX3_init_5 : decode cX3_init 5 = .ok (.new 7, 3) := by decide +kernel
theorem dX3_init_8 : decode cX3_init 8 = .ok (.dup, 1) := by decide +kernel
theorem dX3_init_9 : decode cX3_init 9 = .ok (.invokespecial 9, 3) := by decide +kernel
theorem dX3_init_12 : decode cX3_init 12 = .ok (.putfield 10, 3) := by decide +kernel
theorem dX3_init_15 : decode cX3_init 15 = .ok (.aload_n 0, 1) := by decide +kernel
theorem dX3_init_16 : decode cX3_init 16 = .ok (.new 16, 3) := by decide +kernel
theorem dX3_init_19 : decode cX3_init 19 = .ok (.dup, 1) := by decide +kernel
theorem dX3_init_20 : decode cX3_init 20 = .ok (.invokespecial 18, 3) := by decide +kernel
theorem dX3_init_23 : decode cX3_init 23 = .ok (.putfield 19, 3) := by decide +kernel
theorem dX3_init_26 : decode cX3_init 26 = .ok (.aload_n 0, 1) := by decide +kernel
theorem dX3_init_27 : decode cX3_init 27 = .ok (.bipush 16, 2) := by decide +kernel
theorem dX3_init_29 : decode cX3_init 29 = .ok (.anewarray 23, 3) := by decide +kernel
theorem dX3_init_32 : decode cX3_init 32 = .ok (.putfield 25, 3) := by decide +kernel
theorem dX3_init_35 : decode cX3_init 35 = .ok (.aload_n 0, 1) := by decide +kernel
theorem dX3_init_36 : decode cX3_init 36 = .ok (.sipush 1500, 3) := by decide +kernel
theorem dX3_init_39 : decode cX3_init 39 = .ok (.newarray .byte, 2) := by decide +kernel
theorem dX3_init_41 : decode cX3_init 41 = .ok (.putfield 29, 3) := by decide +kernel
theorem dX3_init_44 : decode cX3_init 44 = .ok (.aload_n 0, 1) := by decide +kernel
theorem dX3_init_45 : decode cX3_init 45 = .ok (.iconst 0, 1) := by decide +kernel
theorem dX3_init_46 : decode cX3_init 46 = .ok (.putfield 33, 3) := by decide +kernel
theorem dX3_init_49 : decode cX3_init 49 = .ok (.aload_n 0, 1) := by decide +kernel
theorem dX3_init_50 : decode cX3_init 50 = .ok (.sipush 1500, 3) := by decide +kernel
theorem dX3_init_53 : decode cX3_init 53 = .ok (.newarray .byte, 2) := by decide +kernel
theorem dX3_init_55 : decode cX3_init 55 = .ok (.putfield 37, 3) := by decide +kernel
theorem dX3_init_58 : decode cX3_init 58 = .ok (.aload_n 0, 1) := by decide +kernel
theorem dX3_init_59 : decode cX3_init 59 = .ok (.sipush 1500, 3) := by decide +kernel
theorem dX3_init_62 : decode cX3_init 62 = .ok (.newarray .int, 2) := by decide +kernel
theorem dX3_init_64 : decode cX3_init 64 = .ok (.putfield 40, 3) := by decide +kernel
theorem dX3_init_67 : decode cX3_init 67 = .ok (.aload_n 0, 1) := by decide +kernel
theorem dX3_init_68 : decode cX3_init 68 = .ok (.sipush 400, 3) := by decide +kernel
theorem dX3_init_71 : decode cX3_init 71 = .ok (.newarray .int, 2) := by decide +kernel
theorem dX3_init_73 : decode cX3_init 73 = .ok (.putfield 44, 3) := by decide +kernel
theorem dX3_init_76 : decode cX3_init 76 = .ok (.iconst 0, 1) := by decide +kernel
theorem dX3_init_77 : decode cX3_init 77 = .ok (.istore_n 1, 1) := by decide +kernel
theorem dX3_init_78 : decode cX3_init 78 = .ok (.iload_n 1, 1) := by decide +kernel
theorem dX3_init_79 : decode cX3_init 79 = .ok (.bipush 16, 2) := by decide +kernel
theorem dX3_init_81 : decode cX3_init 81 = .ok (.if_icmp .ge 22, 3) := by decide +kernel
theorem dX3_init_84 : decode cX3_init 84 = .ok (.aload_n 0, 1) := by decide +kernel
theorem dX3_init_85 : decode cX3_init 85 = .ok (.getfield 25, 3) := by decide +kernel
theorem dX3_init_88 : decode cX3_init 88 = .ok (.iload_n 1, 1) := by decide +kernel
theorem dX3_init_89 : decode cX3_init 89 = .ok (.new 23, 3) := by decide +kernel
theorem dX3_init_92 : decode cX3_init 92 = .ok (.dup, 1) := by decide +kernel
theorem dX3_init_93 : decode cX3_init 93 = .ok (.invokespecial 47, 3) := by decide +kernel
theorem dX3_init_96 : decode cX3_init 96 = .ok (.aastore, 1) := by decide +kernel
theorem dX3_init_97 : decode cX3_init 97 = .ok (.iinc 1 1, 3) := by decide +kernel
theorem dX3_init_100 : decode cX3_init 100 = .ok (.goto (-22), 3) := by decide +kernel
theorem dX3_init_103 : decode cX3_init 103 = .ok (.return_, 1) := by decide +kernel
theorem dX3_begin_0 : decode cX3_begin 0 = .ok (.iload_n 1, 1) := by decide +kernel
theorem dX3_begin_1 : decode cX3_begin 1 = .ok (.iconst 1, 1) := by decide +kernel
theorem dX3_begin_2 : decode cX3_begin 2 = .ok (.if_icmp .lt 9, 3) := by decide +kernel
theorem dX3_begin_5 : decode cX3_begin 5 = .ok (.iload_n 1, 1) := by decide +kernel
theorem dX3_begin_6 : decode cX3_begin 6 = .ok (.bipush 8, 2) := by decide +kernel
theorem dX3_begin_8 : decode cX3_begin 8 = .ok (.if_icmp .le 13, 3) := by decide +kernel
theorem dX3_begin_11 : decode cX3_begin 11 = .ok (.new 48, 3) := by decide +kernel
theorem dX3_begin_14 : decode cX3_begin 14 = .ok (.dup, 1) := by decide +kernel
theorem dX3_begin_15 : decode cX3_begin 15 = .ok (.ldc 50, 2) := by decide +kernel
theorem dX3_begin_17 : decode cX3_begin 17 = .ok (.invokespecial 52, 3) := by decide +kernel
theorem dX3_begin_20 : decode cX3_begin 20 = .ok (.athrow, 1) := by decide +kernel
theorem dX3_begin_21 : decode cX3_begin 21 = .ok (.iload_n 2, 1) := by decide +kernel
theorem dX3_begin_22 : decode cX3_begin 22 = .ok (.iconst 1, 1) := by decide +kernel
theorem dX3_begin_23 : decode cX3_begin 23 = .ok (.if_icmp .lt 9, 3) := by decide +kernel
theorem dX3_begin_26 : decode cX3_begin 26 = .ok (.iload_n 2, 1) := by decide +kernel
theorem dX3_begin_27 : decode cX3_begin 27 = .ok (.bipush 32, 2) := by decide +kernel
theorem dX3_begin_29 : decode cX3_begin 29 = .ok (.if_icmp .le 13, 3) := by decide +kernel
theorem dX3_begin_32 : decode cX3_begin 32 = .ok (.new 48, 3) := by decide +kernel
theorem dX3_begin_35 : decode cX3_begin 35 = .ok (.dup, 1) := by decide +kernel
theorem dX3_begin_36 : decode cX3_begin 36 = .ok (.ldc 55, 2) := by decide +kernel
theorem dX3_begin_38 : decode cX3_begin 38 = .ok (.invokespecial 52, 3) := by decide +kernel
theorem dX3_begin_41 : decode cX3_begin 41 = .ok (.athrow, 1) := by decide +kernel
theorem dX3_begin_42 : decode cX3_begin 42 = .ok (.iload_n 3, 1) := by decide +kernel
theorem dX3_begin_43 : decode cX3_begin 43 = .ok (.iload_n 2, 1) := by decide +kernel
theorem dX3_begin_44 : decode cX3_begin 44 = .ok (.if_icmp .lt 9, 3) := by decide +kernel
theorem dX3_begin_47 : decode cX3_begin 47 = .ok (.iload_n 3, 1) := by decide +kernel
theorem dX3_begin_48 : decode cX3_begin 48 = .ok (.bipush 64, 2) := by decide +kernel
theorem dX3_begin_50 : decode cX3_begin 50 = .ok (.if_icmp .le 13, 3) := by decide +kernel
theorem dX3_begin_53 : decode cX3_begin 53 = .ok (.new 48, 3) := by decide +kernel
theorem dX3_begin_56 : decode cX3_begin 56 = .ok (.dup, 1) := by decide +kernel
theorem dX3_begin_57 : decode cX3_begin 57 = .ok (.ldc 57, 2) := by decide +kernel
theorem dX3_begin_59 : decode cX3_begin 59 = .ok (.invokespecial 52, 3) := by decide +kernel
theorem dX3_begin_62 : decode cX3_begin 62 = .ok (.athrow, 1) := by decide +kernel
theorem dX3_begin_63 : decode cX3_begin 63 = .ok (.aload_n 0, 1) := by decide +kernel
theorem dX3_begin_64 : decode cX3_begin 64 = .ok (.getfield 10, 3) := by decide +kernel
theorem dX3_begin_67 : decode cX3_begin 67 = .ok (.iload_n 1, 1) := by decide +kernel
theorem dX3_begin_68 : decode cX3_begin 68 = .ok (.iload_n 2, 1) := by decide +kernel
theorem dX3_begin_69 : decode cX3_begin 69 = .ok (.iload_n 3, 1) := by decide +kernel
theorem dX3_begin_70 : decode cX3_begin 70 = .ok (.invokevirtual 59, 3) := by decide +kernel
theorem dX3_begin_73 : decode cX3_begin 73 = .ok (.aload_n 0, 1) := by decide +kernel
theorem dX3_begin_74 : decode cX3_begin 74 = .ok (.getfield 19, 3) := by decide +kernel
theorem dX3_begin_77 : decode cX3_begin 77 = .ok (.invokevirtual 63, 3) := by decide +kernel
theorem dX3_begin_80 : decode cX3_begin 80 = .ok (.iconst 0, 1) := by decide +kernel
theorem dX3_begin_81 : decode cX3_begin 81 = .ok (.istore 4, 2) := by decide +kernel
theorem dX3_begin_83 : decode cX3_begin 83 = .ok (.iload 4, 2) := by decide +kernel
theorem dX3_begin_85 : decode cX3_begin 85 = .ok (.bipush 16, 2) := by decide +kernel
theorem dX3_begin_87 : decode cX3_begin 87 = .ok (.if_icmp .ge 19, 3) := by decide +kernel
theorem dX3_begin_90 : decode cX3_begin 90 = .ok (.aload_n 0, 1) := by decide +kernel
theorem dX3_begin_91 : decode cX3_begin 91 = .ok (.getfield 25, 3) := by decide +kernel
theorem dX3_begin_94 : decode cX3_begin 94 = .ok (.iload 4, 2) := by decide +kernel
theorem dX3_begin_96 : decode cX3_begin 96 = .ok (.aaload, 1) := by decide +kernel
theorem dX3_begin_97 : decode cX3_begin 97 = .ok (.invokevirtual 66, 3) := by decide +kernel
theorem dX3_begin_100 : decode cX3_begin 100 = .ok (.iinc 4 1, 3) := by decide +kernel
theorem dX3_begin_103 : decode cX3_begin 103 = .ok (.goto (-20), 3) := by decide +kernel
theorem dX3_begin_106 : decode cX3_begin 106 = .ok (.return_, 1) := by decide +kernel
theorem dX3_put_0 : decode cX3_put 0 = .ok (.iload_n 1, 1) := by decide +kernel
theorem dX3_put_1 : decode cX3_put 1 = .ok (.iconst 1, 1) := by decide +kernel
theorem dX3_put_2 : decode cX3_put 2 = .ok (.if_icmp .lt 8, 3) := by decide +kernel
theorem dX3_put_5 : decode cX3_put 5 = .ok (.iload_n 1, 1) := by decide +kernel
theorem dX3_put_6 : decode cX3_put 6 = .ok (.iconst 4, 1) := by decide +kernel
theorem dX3_put_7 : decode cX3_put 7 = .ok (.if_icmp .le 13, 3) := by decide +kernel
theorem dX3_put_10 : decode cX3_put 10 = .ok (.new 48, 3) := by decide +kernel
theorem dX3_put_13 : decode cX3_put 13 = .ok (.dup, 1) := by decide +kernel
theorem dX3_put_14 : decode cX3_put 14 = .ok (.ldc 67, 2) := by decide +kernel
theorem dX3_put_16 : decode cX3_put 16 = .ok (.invokespecial 52, 3) := by decide +kernel
theorem dX3_put_19 : decode cX3_put 19 = .ok (.athrow, 1) := by decide +kernel
theorem dX3_put_20 : decode cX3_put 20 = .ok (.aload_n 0, 1) := by decide +kernel
theorem dX3_put_21 : decode cX3_put 21 = .ok (.getfield 33, 3) := by decide +kernel
theorem dX3_put_24 : decode cX3_put 24 = .ok (.iload_n 1, 1) := by decide +kernel
theorem dX3_put_25 : decode cX3_put 25 = .ok (.iadd, 1) := by decide +kernel
theorem dX3_put_26 : decode cX3_put 26 = .ok (.sipush 1500, 3) := by decide +kernel
theorem dX3_put_29 : decode cX3_put 29 = .ok (.if_icmp .le 13, 3) := by decide +kernel
theorem dX3_put_32 : decode cX3_put 32 = .ok (.new 69, 3) := by decide +kernel
theorem dX3_put_35 : decode cX3_put 35 = .ok (.dup, 1) := by decide +kernel
theorem dX3_put_36 : decode cX3_put 36 = .ok (.ldc 71, 2) := by decide +kernel
theorem dX3_put_38 : decode cX3_put 38 = .ok (.invokespecial 73, 3) := by decide +kernel
theorem dX3_put_41 : decode cX3_put 41 = .ok (.athrow, 1) := by decide +kernel
theorem dX3_put_42 : decode cX3_put 42 = .ok (.iconst 0, 1) := by decide +kernel
theorem dX3_put_43 : decode cX3_put 43 = .ok (.istore_n 3, 1) := by decide +kernel
theorem dX3_put_44 : decode cX3_put 44 = .ok (.iload_n 3, 1) := by decide +kernel
theorem dX3_put_45 : decode cX3_put 45 = .ok (.iload_n 1, 1) := by decide +kernel
theorem dX3_put_46 : decode cX3_put 46 = .ok (.if_icmp .ge 27, 3) := by decide +kernel
theorem dX3_put_49 : decode cX3_put 49 = .ok (.aload_n 0, 1) := by decide +kernel
theorem dX3_put_50 : decode cX3_put 50 = .ok (.getfield 29, 3) := by decide +kernel
theorem dX3_put_53 : decode cX3_put 53 = .ok (.aload_n 0, 1) := by decide +kernel
theorem dX3_put_54 : decode cX3_put 54 = .ok (.getfield 33, 3) := by decide +kernel
theorem dX3_put_57 : decode cX3_put 57 = .ok (.iload_n 3, 1) := by decide +kernel
theorem dX3_put_58 : decode cX3_put 58 = .ok (.iadd, 1) := by decide +kernel
theorem dX3_put_59 : decode cX3_put 59 = .ok (.iload_n 2, 1) := by decide +kernel
theorem dX3_put_60 : decode cX3_put 60 = .ok (.bipush 8, 2) := by decide +kernel
theorem dX3_put_62 : decode cX3_put 62 = .ok (.iload_n 3, 1) := by decide +kernel
theorem dX3_put_63 : decode cX3_put 63 = .ok (.imul, 1) := by decide +kernel
theorem dX3_put_64 : decode cX3_put 64 = .ok (.iushr, 1) := by decide +kernel
theorem dX3_put_65 : decode cX3_put 65 = .ok (.i2b, 1) := by decide +kernel
theorem dX3_put_66 : decode cX3_put 66 = .ok (.bastore, 1) := by decide +kernel
theorem dX3_put_67 : decode cX3_put 67 = .ok (.iinc 3 1, 3) := by decide +kernel
theorem dX3_put_70 : decode cX3_put 70 = .ok (.goto (-26), 3) := by decide +kernel
theorem dX3_put_73 : decode cX3_put 73 = .ok (.aload_n 0, 1) := by decide +kernel
theorem dX3_put_74 : decode cX3_put 74 = .ok (.dup, 1) := by decide +kernel
theorem dX3_put_75 : decode cX3_put 75 = .ok (.getfield 33, 3) := by decide +kernel
theorem dX3_put_78 : decode cX3_put 78 = .ok (.iload_n 1, 1) := by decide +kernel
theorem dX3_put_79 : decode cX3_put 79 = .ok (.iadd, 1) := by decide +kernel
theorem dX3_put_80 : decode cX3_put 80 = .ok (.putfield 33, 3) := by decide +kernel
theorem dX3_put_83 : decode cX3_put 83 = .ok (.aload_n 0, 1) := by decide +kernel
theorem dX3_put_84 : decode cX3_put 84 = .ok (.getfield 33, 3) := by decide +kernel
theorem dX3_put_87 : decode cX3_put 87 = .ok (.ireturn, 1) := by decide +kernel
theorem dX3_store_0 : decode cX3_store 0 = .ok (.aload_n 0, 1) := by decide +kernel
theorem dX3_store_1 : decode cX3_store 1 = .ok (.aload_n 0, 1) := by decide +kernel
theorem dX3_store_2 : decode cX3_store 2 = .ok (.iload_n 1, 1) := by decide +kernel
theorem dX3_store_3 : decode cX3_store 3 = .ok (.invokevirtual 74, 3) := by decide +kernel
theorem dX3_store_6 : decode cX3_store 6 = .ok (.aload_n 0, 1) := by decide +kernel
theorem dX3_store_7 : decode cX3_store 7 = .ok (.getfield 29, 3) := by decide +kernel
theorem dX3_store_10 : decode cX3_store 10 = .ok (.aload_n 0, 1) := by decide +kernel
theorem dX3_store_11 : decode cX3_store 11 = .ok (.getfield 33, 3) := by decide +kernel
theorem dX3_store_14 : decode cX3_store 14 = .ok (.invokevirtual 78, 3) := by decide +kernel
theorem dX3_store_17 : decode cX3_store 17 = .ok (.ireturn, 1) := by decide +kernel
theorem dX3_edit_0 : decode cX3_edit 0 = .ok (.aload_n 0, 1) := by decide +kernel
theorem dX3_edit_1 : decode cX3_edit 1 = .ok (.iload_n 1, 1) := by decide +kernel
theorem dX3_edit_2 : decode cX3_edit 2 = .ok (.invokevirtual 74, 3) := by decide +kernel
theorem dX3_edit_5 : decode cX3_edit 5 = .ok (.astore 4, 2) := by decide +kernel
theorem dX3_edit_7 : decode cX3_edit 7 = .ok (.iload_n 2, 1) := by decide +kernel
theorem dX3_edit_8 : decode cX3_edit 8 = .ok (.ifCond .lt 27, 3) := by decide +kernel
theorem dX3_edit_11 : decode cX3_edit 11 = .ok (.iload_n 2, 1) := by decide +kernel
theorem dX3_edit_12 : decode cX3_edit 12 = .ok (.aload 4, 2) := by decide +kernel
theorem dX3_edit_14 : decode cX3_edit 14 = .ok (.getfield 82, 3) := by decide +kernel
theorem dX3_edit_17 : decode cX3_edit 17 = .ok (.if_icmp .gt 18, 3) := by decide +kernel
theorem dX3_edit_20 : decode cX3_edit 20 = .ok (.iload_n 3, 1) := by decide +kernel
theorem dX3_edit_21 : decode cX3_edit 21 = .ok (.ifCond .lt 14, 3) := by decide +kernel
theorem dX3_edit_24 : decode cX3_edit 24 = .ok (.iload_n 3, 1) := by decide +kernel
theorem dX3_edit_25 : decode cX3_edit 25 = .ok (.aload 4, 2) := by decide +kernel
theorem dX3_edit_27 : decode cX3_edit 27 = .ok (.getfield 82, 3) := by decide +kernel
theorem dX3_edit_30 : decode cX3_edit 30 = .ok (.iload_n 2, 1) := by decide +kernel
theorem dX3_edit_31 : decode cX3_edit 31 = .ok (.isub, 1) := by decide +kernel
theorem dX3_edit_32 : decode cX3_edit 32 = .ok (.if_icmp .le 13, 3) := by decide +kernel
theorem dX3_edit_35 : decode cX3_edit 35 = .ok (.new 48, 3) := by decide +kernel
theorem dX3_edit_38 : decode cX3_edit 38 = .ok (.dup, 1) := by decide +kernel
theorem dX3_edit_39 : decode cX3_edit 39 = .ok (.ldc 85, 2) := by decide +kernel
theorem dX3_edit_41 : decode cX3_edit 41 = .ok (.invokespecial 52, 3) := by decide +kernel
theorem dX3_edit_44 : decode cX3_edit 44 = .ok (.athrow, 1) := by decide +kernel
theorem dX3_edit_45 : decode cX3_edit 45 = .ok (.aload 4, 2) := by decide +kernel
theorem dX3_edit_47 : decode cX3_edit 47 = .ok (.getfield 82, 3) := by decide +kernel
theorem dX3_edit_50 : decode cX3_edit 50 = .ok (.iload_n 3, 1) := by decide +kernel
theorem dX3_edit_51 : decode cX3_edit 51 = .ok (.isub, 1) := by decide +kernel
theorem dX3_edit_52 : decode cX3_edit 52 = .ok (.aload_n 0, 1) := by decide +kernel
theorem dX3_edit_53 : decode cX3_edit 53 = .ok (.getfield 33, 3) := by decide +kernel
theorem dX3_edit_56 : decode cX3_edit 56 = .ok (.iadd, 1) := by decide +kernel
theorem dX3_edit_57 : decode cX3_edit 57 = .ok (.istore 5, 2) := by decide +kernel
theorem dX3_edit_59 : decode cX3_edit 59 = .ok (.iload 5, 2) := by decide +kernel
theorem dX3_edit_61 : decode cX3_edit 61 = .ok (.sipush 1500, 3) := by decide +kernel
theorem dX3_edit_64 : decode cX3_edit 64 = .ok (.if_icmp .le 13, 3) := by decide +kernel
theorem dX3_edit_67 : decode cX3_edit 67 = .ok (.new 69, 3) := by decide +kernel
theorem dX3_edit_70 : decode cX3_edit 70 = .ok (.dup, 1) := by decide +kernel
theorem dX3_edit_71 : decode cX3_edit 71 = .ok (.ldc 87, 2) := by decide +kernel
theorem dX3_edit_73 : decode cX3_edit 73 = .ok (.invokespecial 73, 3) := by decide +kernel
theorem dX3_edit_76 : decode cX3_edit 76 = .ok (.athrow, 1) := by decide +kernel
theorem dX3_edit_77 : decode cX3_edit 77 = .ok (.aload_n 0, 1) := by decide +kernel
theorem dX3_edit_78 : decode cX3_edit 78 = .ok (.aload 4, 2) := by decide +kernel
theorem dX3_edit_80 : decode cX3_edit 80 = .ok (.invokevirtual 89, 3) := by decide +kernel
theorem dX3_edit_83 : decode cX3_edit 83 = .ok (.aload_n 0, 1) := by decide +kernel
theorem dX3_edit_84 : decode cX3_edit 84 = .ok (.getfield 37, 3) := by decide +kernel
theorem dX3_edit_87 : decode cX3_edit 87 = .ok (.iload_n 2, 1) := by decide +kernel
theorem dX3_edit_88 : decode cX3_edit 88 = .ok (.iload_n 3, 1) := by decide +kernel
theorem dX3_edit_89 : decode cX3_edit 89 = .ok (.iadd, 1) := by decide +kernel
theorem dX3_edit_90 : decode cX3_edit 90 = .ok (.aload_n 0, 1) := by decide +kernel
theorem dX3_edit_91 : decode cX3_edit 91 = .ok (.getfield 37, 3) := by decide +kernel
theorem dX3_edit_94 : decode cX3_edit 94 = .ok (.iload_n 2, 1) := by decide +kernel
theorem dX3_edit_95 : decode cX3_edit 95 = .ok (.aload_n 0, 1) := by decide +kernel
theorem dX3_edit_96 : decode cX3_edit 96 = .ok (.getfield 33, 3) := by decide +kernel
theorem dX3_edit_99 : decode cX3_edit 99 = .ok (.iadd, 1) := by decide +kernel
theorem dX3_edit_100 : decode cX3_edit 100 = .ok (.aload 4, 2) := by decide +kernel
theorem dX3_edit_102 : decode cX3_edit 102 = .ok (.getfield 82, 3) := by decide +kernel
theorem dX3_edit_105 : decode cX3_edit 105 = .ok (.iload_n 2, 1) := by decide +kernel
theorem dX3_edit_106 : decode cX3_edit 106 = .ok (.isub, 1) := by decide +kernel
theorem dX3_edit_107 : decode cX3_edit 107 = .ok (.iload_n 3, 1) := by decide +kernel
theorem dX3_edit_108 : decode cX3_edit 108 = .ok (.isub, 1) := by decide +kernel
theorem dX3_edit_109 : decode cX3_edit 109 = .ok (.invokestatic 93, 3) := by decide +kernel
theorem dX3_edit_112 : decode cX3_edit 112 = .ok (.aload_n 0, 1) := by decide +kernel
theorem dX3_edit_113 : decode cX3_edit 113 = .ok (.getfield 29, 3) := by decide +kernel
theorem dX3_edit_116 : decode cX3_edit 116 = .ok (.iconst 0, 1) := by decide +kernel
theorem dX3_edit_117 : decode cX3_edit 117 = .ok (.aload_n 0, 1) := by decide +kernel
theorem dX3_edit_118 : decode cX3_edit 118 = .ok (.getfield 37, 3) := by decide +kernel
theorem dX3_edit_121 : decode cX3_edit 121 = .ok (.iload_n 2, 1) := by decide +kernel
theorem dX3_edit_122 : decode cX3_edit 122 = .ok (.aload_n 0, 1) := by decide +kernel
theorem dX3_edit_123 : decode cX3_edit 123 = .ok (.getfield 33, 3) := by decide +kernel
theorem dX3_edit_126 : decode cX3_edit 126 = .ok (.invokestatic 93, 3) := by decide +kernel
theorem dX3_edit_129 : decode cX3_edit 129 = .ok (.aload_n 0, 1) := by decide +kernel
theorem dX3_edit_130 : decode cX3_edit 130 = .ok (.aload 4, 2) := by decide +kernel
theorem dX3_edit_132 : decode cX3_edit 132 = .ok (.aload_n 0, 1) := by decide +kernel
theorem dX3_edit_133 : decode cX3_edit 133 = .ok (.getfield 37, 3) := by decide +kernel
theorem dX3_edit_136 : decode cX3_edit 136 = .ok (.iload 5, 2) := by decide +kernel
theorem dX3_edit_138 : decode cX3_edit 138 = .ok (.invokevirtual 78, 3) := by decide +kernel
theorem dX3_edit_141 : decode cX3_edit 141 = .ok (.ireturn, 1) := by decide +kernel
theorem dX3_copy_0 : decode cX3_copy 0 = .ok (.aload_n 0, 1) := by decide +kernel
theorem dX3_copy_1 : decode cX3_copy 1 = .ok (.iload_n 1, 1) := by decide +kernel
theorem dX3_copy_2 : decode cX3_copy 2 = .ok (.invokevirtual 74, 3) := by decide +kernel
theorem dX3_copy_5 : decode cX3_copy 5 = .ok (.astore_n 3, 1) := by decide +kernel
theorem dX3_copy_6 : decode cX3_copy 6 = .ok (.aload_n 0, 1) := by decide +kernel
theorem dX3_copy_7 : decode cX3_copy 7 = .ok (.iload_n 2, 1) := by decide +kernel
theorem dX3_copy_8 : decode cX3_copy 8 = .ok (.invokevirtual 74, 3) := by decide +kernel
theorem dX3_copy_11 : decode cX3_copy 11 = .ok (.astore 4, 2) := by decide +kernel
theorem dX3_copy_13 : decode cX3_copy 13 = .ok (.iconst 0, 1) := by decide +kernel
theorem dX3_copy_14 : decode cX3_copy 14 = .ok (.istore 5, 2) := by decide +kernel
theorem dX3_copy_16 : decode cX3_copy 16 = .ok (.iload 5, 2) := by decide +kernel
theorem dX3_copy_18 : decode cX3_copy 18 = .ok (.aload_n 3, 1) := by decide +kernel
theorem dX3_copy_19 : decode cX3_copy 19 = .ok (.getfield 99, 3) := by decide +kernel
theorem dX3_copy_22 : decode cX3_copy 22 = .ok (.if_icmp .ge 23, 3) := by decide +kernel
theorem dX3_copy_25 : decode cX3_copy 25 = .ok (.aload_n 0, 1) := by decide +kernel
theorem dX3_copy_26 : decode cX3_copy 26 = .ok (.getfield 19, 3) := by decide +kernel
theorem dX3_copy_29 : decode cX3_copy 29 = .ok (.aload_n 3, 1) := by decide +kernel
theorem dX3_copy_30 : decode cX3_copy 30 = .ok (.getfield 102, 3) := by decide +kernel
theorem dX3_copy_33 : decode cX3_copy 33 = .ok (.iload 5, 2) := by decide +kernel
theorem dX3_copy_35 : decode cX3_copy 35 = .ok (.iaload, 1) := by decide +kernel
theorem dX3_copy_36 : decode cX3_copy 36 = .ok (.invokevirtual 105, 3) := by decide +kernel
theorem dX3_copy_39 : decode cX3_copy 39 = .ok (.iinc 5 1, 3) := by decide +kernel
theorem dX3_copy_42 : decode cX3_copy 42 = .ok (.goto (-26), 3) := by decide +kernel
theorem dX3_copy_45 : decode cX3_copy 45 = .ok (.aload_n 0, 1) := by decide +kernel
theorem dX3_copy_46 : decode cX3_copy 46 = .ok (.aload 4, 2) := by decide +kernel
theorem dX3_copy_48 : decode cX3_copy 48 = .ok (.getfield 102, 3) := by decide +kernel
theorem dX3_copy_51 : decode cX3_copy 51 = .ok (.aload 4, 2) := by decide +kernel
theorem dX3_copy_53 : decode cX3_copy 53 = .ok (.getfield 99, 3) := by decide +kernel
theorem dX3_copy_56 : decode cX3_copy 56 = .ok (.invokevirtual 109, 3) := by decide +kernel
theorem dX3_copy_59 : decode cX3_copy 59 = .ok (.aload 4, 2) := by decide +kernel
theorem dX3_copy_61 : decode cX3_copy 61 = .ok (.aload_n 3, 1) := by decide +kernel
theorem dX3_copy_62 : decode cX3_copy 62 = .ok (.getfield 102, 3) := by decide +kernel
theorem dX3_copy_65 : decode cX3_copy 65 = .ok (.aload_n 3, 1) := by decide +kernel
theorem dX3_copy_66 : decode cX3_copy 66 = .ok (.getfield 99, 3) := by decide +kernel
theorem dX3_copy_69 : decode cX3_copy 69 = .ok (.aload_n 3, 1) := by decide +kernel
theorem dX3_copy_70 : decode cX3_copy 70 = .ok (.getfield 82, 3) := by decide +kernel
theorem dX3_copy_73 : decode cX3_copy 73 = .ok (.invokevirtual 113, 3) := by decide +kernel
theorem dX3_copy_76 : decode cX3_copy 76 = .ok (.return_, 1) := by decide +kernel
theorem dX3_size_0 : decode cX3_size 0 = .ok (.aload_n 0, 1) := by decide +kernel
theorem dX3_size_1 : decode cX3_size 1 = .ok (.iload_n 1, 1) := by decide +kernel
theorem dX3_size_2 : decode cX3_size 2 = .ok (.invokevirtual 74, 3) := by decide +kernel
theorem dX3_size_5 : decode cX3_size 5 = .ok (.getfield 82, 3) := by decide +kernel
theorem dX3_size_8 : decode cX3_size 8 = .ok (.ireturn, 1) := by decide +kernel
theorem dX3_get_0 : decode cX3_get 0 = .ok (.aload_n 0, 1) := by decide +kernel
theorem dX3_get_1 : decode cX3_get 1 = .ok (.iload_n 1, 1) := by decide +kernel
theorem dX3_get_2 : decode cX3_get 2 = .ok (.invokevirtual 74, 3) := by decide +kernel
theorem dX3_get_5 : decode cX3_get 5 = .ok (.astore_n 3, 1) := by decide +kernel
theorem dX3_get_6 : decode cX3_get 6 = .ok (.iload_n 2, 1) := by decide +kernel
theorem dX3_get_7 : decode cX3_get 7 = .ok (.ifCond .lt 11, 3) := by decide +kernel
theorem dX3_get_10 : decode cX3_get 10 = .ok (.iload_n 2, 1) := by decide +kernel
theorem dX3_get_11 : decode cX3_get 11 = .ok (.aload_n 3, 1) := by decide +kernel
theorem dX3_get_12 : decode cX3_get 12 = .ok (.getfield 82, 3) := by decide +kernel
theorem dX3_get_15 : decode cX3_get 15 = .ok (.if_icmp .lt 13, 3) := by decide +kernel
theorem dX3_get_18 : decode cX3_get 18 = .ok (.new 117, 3) := by decide +kernel
theorem dX3_get_21 : decode cX3_get 21 = .ok (.dup, 1) := by decide +kernel
theorem dX3_get_22 : decode cX3_get 22 = .ok (.ldc 119, 2) := by decide +kernel
theorem dX3_get_24 : decode cX3_get 24 = .ok (.invokespecial 121, 3) := by decide +kernel
theorem dX3_get_27 : decode cX3_get 27 = .ok (.athrow, 1) := by decide +kernel
theorem dX3_get_28 : decode cX3_get 28 = .ok (.iload_n 2, 1) := by decide +kernel
theorem dX3_get_29 : decode cX3_get 29 = .ok (.istore 4, 2) := by decide +kernel
theorem dX3_get_31 : decode cX3_get 31 = .ok (.iconst 0, 1) := by decide +kernel
theorem dX3_get_32 : decode cX3_get 32 = .ok (.istore 5, 2) := by decide +kernel
theorem dX3_get_34 : decode cX3_get 34 = .ok (.iload 5, 2) := by decide +kernel
theorem dX3_get_36 : decode cX3_get 36 = .ok (.aload_n 3, 1) := by decide +kernel
theorem dX3_get_37 : decode cX3_get 37 = .ok (.getfield 99, 3) := by decide +kernel
theorem dX3_get_40 : decode cX3_get 40 = .ok (.iconst 1, 1) := by decide +kernel
theorem dX3_get_41 : decode cX3_get 41 = .ok (.isub, 1) := by decide +kernel
theorem dX3_get_42 : decode cX3_get 42 = .ok (.if_icmp .ge 47, 3) := by decide +kernel
theorem dX3_get_45 : decode cX3_get 45 = .ok (.iload 4, 2) := by decide +kernel
theorem dX3_get_47 : decode cX3_get 47 = .ok (.aload_n 0, 1) := by decide +kernel
theorem dX3_get_48 : decode cX3_get 48 = .ok (.getfield 19, 3) := by decide +kernel
theorem dX3_get_51 : decode cX3_get 51 = .ok (.aload_n 3, 1) := by decide +kernel
theorem dX3_get_52 : decode cX3_get 52 = .ok (.getfield 102, 3) := by decide +kernel
theorem dX3_get_55 : decode cX3_get 55 = .ok (.iload 5, 2) := by decide +kernel
theorem dX3_get_57 : decode cX3_get 57 = .ok (.iaload, 1) := by decide +kernel
theorem dX3_get_58 : decode cX3_get 58 = .ok (.invokevirtual 122, 3) := by decide +kernel
theorem dX3_get_61 : decode cX3_get 61 = .ok (.if_icmp .lt 28, 3) := by decide +kernel
theorem dX3_get_64 : decode cX3_get 64 = .ok (.iload 4, 2) := by decide +kernel
theorem dX3_get_66 : decode cX3_get 66 = .ok (.aload_n 0, 1) := by decide +kernel
theorem dX3_get_67 : decode cX3_get 67 = .ok (.getfield 19, 3) := by decide +kernel
theorem dX3_get_70 : decode cX3_get 70 = .ok (.aload_n 3, 1) := by decide +kernel
theorem dX3_get_71 : decode cX3_get 71 = .ok (.getfield 102, 3) := by decide +kernel
theorem dX3_get_74 : decode cX3_get 74 = .ok (.iload 5, 2) := by decide +kernel
theorem dX3_get_76 : decode cX3_get 76 = .ok (.iaload, 1) := by decide +kernel
theorem dX3_get_77 : decode cX3_get 77 = .ok (.invokevirtual 122, 3) := by decide +kernel
theorem dX3_get_80 : decode cX3_get 80 = .ok (.isub, 1) := by decide +kernel
theorem dX3_get_81 : decode cX3_get 81 = .ok (.istore 4, 2) := by decide +kernel
theorem dX3_get_83 : decode cX3_get 83 = .ok (.iinc 5 1, 3) := by decide +kernel
theorem dX3_get_86 : decode cX3_get 86 = .ok (.goto (-52), 3) := by decide +kernel
theorem dX3_get_89 : decode cX3_get 89 = .ok (.aload_n 0, 1) := by decide +kernel
theorem dX3_get_90 : decode cX3_get 90 = .ok (.getfield 19, 3) := by decide +kernel
theorem dX3_get_93 : decode cX3_get 93 = .ok (.aload_n 3, 1) := by decide +kernel
theorem dX3_get_94 : decode cX3_get 94 = .ok (.getfield 102, 3) := by decide +kernel
theorem dX3_get_97 : decode cX3_get 97 = .ok (.iload 5, 2) := by decide +kernel
theorem dX3_get_99 : decode cX3_get 99 = .ok (.iaload, 1) := by decide +kernel
theorem dX3_get_100 : decode cX3_get 100 = .ok (.iload 4, 2) := by decide +kernel
theorem dX3_get_102 : decode cX3_get 102 = .ok (.invokevirtual 126, 3) := by decide +kernel
theorem dX3_get_105 : decode cX3_get 105 = .ok (.ireturn, 1) := by decide +kernel
theorem dX3_parts_0 : decode cX3_parts 0 = .ok (.aload_n 0, 1) := by decide +kernel
theorem dX3_parts_1 : decode cX3_parts 1 = .ok (.iload_n 1, 1) := by decide +kernel
theorem dX3_parts_2 : decode cX3_parts 2 = .ok (.invokevirtual 74, 3) := by decide +kernel
theorem dX3_parts_5 : decode cX3_parts 5 = .ok (.getfield 99, 3) := by decide +kernel
theorem dX3_parts_8 : decode cX3_parts 8 = .ok (.ireturn, 1) := by decide +kernel
theorem dX3_part_0 : decode cX3_part 0 = .ok (.aload_n 0, 1) := by decide +kernel
theorem dX3_part_1 : decode cX3_part 1 = .ok (.iload_n 1, 1) := by decide +kernel
theorem dX3_part_2 : decode cX3_part 2 = .ok (.invokevirtual 74, 3) := by decide +kernel
theorem dX3_part_5 : decode cX3_part 5 = .ok (.astore_n 3, 1) := by decide +kernel
theorem dX3_part_6 : decode cX3_part 6 = .ok (.iload_n 2, 1) := by decide +kernel
theorem dX3_part_7 : decode cX3_part 7 = .ok (.ifCond .lt 11, 3) := by decide +kernel
theorem dX3_part_10 : decode cX3_part 10 = .ok (.iload_n 2, 1) := by decide +kernel
theorem dX3_part_11 : decode cX3_part 11 = .ok (.aload_n 3, 1) := by decide +kernel
theorem dX3_part_12 : decode cX3_part 12 = .ok (.getfield 99, 3) := by decide +kernel
theorem dX3_part_15 : decode cX3_part 15 = .ok (.if_icmp .lt 13, 3) := by decide +kernel
theorem dX3_part_18 : decode cX3_part 18 = .ok (.new 117, 3) := by decide +kernel
theorem dX3_part_21 : decode cX3_part 21 = .ok (.dup, 1) := by decide +kernel
theorem dX3_part_22 : decode cX3_part 22 = .ok (.ldc 130, 2) := by decide +kernel
theorem dX3_part_24 : decode cX3_part 24 = .ok (.invokespecial 121, 3) := by decide +kernel
theorem dX3_part_27 : decode cX3_part 27 = .ok (.athrow, 1) := by decide +kernel
theorem dX3_part_28 : decode cX3_part 28 = .ok (.aload_n 3, 1) := by decide +kernel
theorem dX3_part_29 : decode cX3_part 29 = .ok (.getfield 102, 3) := by decide +kernel
theorem dX3_part_32 : decode cX3_part 32 = .ok (.iload_n 2, 1) := by decide +kernel
theorem dX3_part_33 : decode cX3_part 33 = .ok (.iaload, 1) := by decide +kernel
theorem dX3_part_34 : decode cX3_part 34 = .ok (.ireturn, 1) := by decide +kernel
theorem dX3_about_0 : decode cX3_about 0 = .ok (.aload_n 0, 1) := by decide +kernel
theorem dX3_about_1 : decode cX3_about 1 = .ok (.getfield 19, 3) := by decide +kernel
theorem dX3_about_4 : decode cX3_about 4 = .ok (.iload_n 1, 1) := by decide +kernel
theorem dX3_about_5 : decode cX3_about 5 = .ok (.invokevirtual 132, 3) := by decide +kernel
theorem dX3_about_8 : decode cX3_about 8 = .ok (.ifCond .ne 13, 3) := by decide +kernel
theorem dX3_about_11 : decode cX3_about 11 = .ok (.new 136, 3) := by decide +kernel
theorem dX3_about_14 : decode cX3_about 14 = .ok (.dup, 1) := by decide +kernel
theorem dX3_about_15 : decode cX3_about 15 = .ok (.ldc 130, 2) := by decide +kernel
theorem dX3_about_17 : decode cX3_about 17 = .ok (.invokespecial 138, 3) := by decide +kernel
theorem dX3_about_20 : decode cX3_about 20 = .ok (.athrow, 1) := by decide +kernel
theorem dX3_about_21 : decode cX3_about 21 = .ok (.iload_n 2, 1) := by decide +kernel
theorem dX3_about_22 : decode cX3_about 22 = .ok (.tableswitch 50 0 2 #[26, 35, 44], 26) := by decide +kernel
theorem dX3_about_48 : decode cX3_about 48 = .ok (.aload_n 0, 1) := by decide +kernel
theorem dX3_about_49 : decode cX3_about 49 = .ok (.getfield 19, 3) := by decide +kernel
theorem dX3_about_52 : decode cX3_about 52 = .ok (.iload_n 1, 1) := by decide +kernel
theorem dX3_about_53 : decode cX3_about 53 = .ok (.invokevirtual 122, 3) := by decide +kernel
theorem dX3_about_56 : decode cX3_about 56 = .ok (.ireturn, 1) := by decide +kernel
theorem dX3_about_57 : decode cX3_about 57 = .ok (.aload_n 0, 1) := by decide +kernel
theorem dX3_about_58 : decode cX3_about 58 = .ok (.getfield 19, 3) := by decide +kernel
theorem dX3_about_61 : decode cX3_about 61 = .ok (.iload_n 1, 1) := by decide +kernel
theorem dX3_about_62 : decode cX3_about 62 = .ok (.invokevirtual 139, 3) := by decide +kernel
theorem dX3_about_65 : decode cX3_about 65 = .ok (.ireturn, 1) := by decide +kernel
theorem dX3_about_66 : decode cX3_about 66 = .ok (.aload_n 0, 1) := by decide +kernel
theorem dX3_about_67 : decode cX3_about 67 = .ok (.iload_n 1, 1) := by decide +kernel
theorem dX3_about_68 : decode cX3_about 68 = .ok (.invokevirtual 142, 3) := by decide +kernel
theorem dX3_about_71 : decode cX3_about 71 = .ok (.ireturn, 1) := by decide +kernel
theorem dX3_about_72 : decode cX3_about 72 = .ok (.new 48, 3) := by decide +kernel
theorem dX3_about_75 : decode cX3_about 75 = .ok (.dup, 1) := by decide +kernel
theorem dX3_about_76 : decode cX3_about 76 = .ok (.ldc 145, 2) := by decide +kernel
theorem dX3_about_78 : decode cX3_about 78 = .ok (.invokespecial 52, 3) := by decide +kernel
theorem dX3_about_81 : decode cX3_about 81 = .ok (.athrow, 1) := by decide +kernel
theorem dX3_common_0 : decode cX3_common 0 = .ok (.aload_n 0, 1) := by decide +kernel
theorem dX3_common_1 : decode cX3_common 1 = .ok (.iload_n 1, 1) := by decide +kernel
theorem dX3_common_2 : decode cX3_common 2 = .ok (.invokevirtual 74, 3) := by decide +kernel
theorem dX3_common_5 : decode cX3_common 5 = .ok (.astore_n 3, 1) := by decide +kernel
theorem dX3_common_6 : decode cX3_common 6 = .ok (.aload_n 0, 1) := by decide +kernel
theorem dX3_common_7 : decode cX3_common 7 = .ok (.iload_n 2, 1) := by decide +kernel
theorem dX3_common_8 : decode cX3_common 8 = .ok (.invokevirtual 74, 3) := by decide +kernel
theorem dX3_common_11 : decode cX3_common 11 = .ok (.astore 4, 2) := by decide +kernel
theorem dX3_common_13 : decode cX3_common 13 = .ok (.aload_n 0, 1) := by decide +kernel
theorem dX3_common_14 : decode cX3_common 14 = .ok (.getfield 44, 3) := by decide +kernel
theorem dX3_common_17 : decode cX3_common 17 = .ok (.iconst 0, 1) := by decide +kernel
theorem dX3_common_18 : decode cX3_common 18 = .ok (.invokestatic 147, 3) := by decide +kernel
theorem dX3_common_21 : decode cX3_common 21 = .ok (.iconst 0, 1) := by decide +kernel
theorem dX3_common_22 : decode cX3_common 22 = .ok (.istore 5, 2) := by decide +kernel
theorem dX3_common_24 : decode cX3_common 24 = .ok (.iload 5, 2) := by decide +kernel
theorem dX3_common_26 : decode cX3_common 26 = .ok (.aload 4, 2) := by decide +kernel
theorem dX3_common_28 : decode cX3_common 28 = .ok (.getfield 99, 3) := by decide +kernel
theorem dX3_common_31 : decode cX3_common 31 = .ok (.if_icmp .ge 39, 3) := by decide +kernel
theorem dX3_common_34 : decode cX3_common 34 = .ok (.aload 4, 2) := by decide +kernel
theorem dX3_common_36 : decode cX3_common 36 = .ok (.getfield 102, 3) := by decide +kernel
theorem dX3_common_39 : decode cX3_common 39 = .ok (.iload 5, 2) := by decide +kernel
theorem dX3_common_41 : decode cX3_common 41 = .ok (.iaload, 1) := by decide +kernel
theorem dX3_common_42 : decode cX3_common 42 = .ok (.istore 6, 2) := by decide +kernel
theorem dX3_common_44 : decode cX3_common 44 = .ok (.aload_n 0, 1) := by decide +kernel
theorem dX3_common_45 : decode cX3_common 45 = .ok (.getfield 19, 3) := by decide +kernel
theorem dX3_common_48 : decode cX3_common 48 = .ok (.iload 6, 2) := by decide +kernel
theorem dX3_common_50 : decode cX3_common 50 = .ok (.invokevirtual 132, 3) := by decide +kernel
theorem dX3_common_53 : decode cX3_common 53 = .ok (.ifCond .eq 11, 3) := by decide +kernel
theorem dX3_common_56 : decode cX3_common 56 = .ok (.aload_n 0, 1) := by decide +kernel
theorem dX3_common_57 : decode cX3_common 57 = .ok (.getfield 44, 3) := by decide +kernel
theorem dX3_common_60 : decode cX3_common 60 = .ok (.iload 6, 2) := by decide +kernel
theorem dX3_common_62 : decode cX3_common 62 = .ok (.iconst 1, 1) := by decide +kernel
theorem dX3_common_63 : decode cX3_common 63 = .ok (.iastore, 1) := by decide +kernel
theorem dX3_common_64 : decode cX3_common 64 = .ok (.iinc 5 1, 3) := by decide +kernel
theorem dX3_common_67 : decode cX3_common 67 = .ok (.goto (-43), 3) := by decide +kernel
theorem dX3_common_70 : decode cX3_common 70 = .ok (.iconst 0, 1) := by decide +kernel
theorem dX3_common_71 : decode cX3_common 71 = .ok (.istore 5, 2) := by decide +kernel
theorem dX3_common_73 : decode cX3_common 73 = .ok (.iconst 0, 1) := by decide +kernel
theorem dX3_common_74 : decode cX3_common 74 = .ok (.istore 6, 2) := by decide +kernel
theorem dX3_common_76 : decode cX3_common 76 = .ok (.iload 6, 2) := by decide +kernel
theorem dX3_common_78 : decode cX3_common 78 = .ok (.aload_n 3, 1) := by decide +kernel
theorem dX3_common_79 : decode cX3_common 79 = .ok (.getfield 99, 3) := by decide +kernel
theorem dX3_common_82 : decode cX3_common 82 = .ok (.if_icmp .ge 55, 3) := by decide +kernel
theorem dX3_common_85 : decode cX3_common 85 = .ok (.aload_n 3, 1) := by decide +kernel
theorem dX3_common_86 : decode cX3_common 86 = .ok (.getfield 102, 3) := by decide +kernel
theorem dX3_common_89 : decode cX3_common 89 = .ok (.iload 6, 2) := by decide +kernel
theorem dX3_common_91 : decode cX3_common 91 = .ok (.iaload, 1) := by decide +kernel
theorem dX3_common_92 : decode cX3_common 92 = .ok (.istore 7, 2) := by decide +kernel
theorem dX3_common_94 : decode cX3_common 94 = .ok (.aload_n 0, 1) := by decide +kernel
theorem dX3_common_95 : decode cX3_common 95 = .ok (.getfield 19, 3) := by decide +kernel
theorem dX3_common_98 : decode cX3_common 98 = .ok (.iload 7, 2) := by decide +kernel
theorem dX3_common_100 : decode cX3_common 100 = .ok (.invokevirtual 132, 3) := by decide +kernel
theorem dX3_common_103 : decode cX3_common 103 = .ok (.ifCond .eq 28, 3) := by decide +kernel
theorem dX3_common_106 : decode cX3_common 106 = .ok (.aload_n 0, 1) := by decide +kernel
theorem dX3_common_107 : decode cX3_common 107 = .ok (.getfield 44, 3) := by decide +kernel
theorem dX3_common_110 : decode cX3_common 110 = .ok (.iload 7, 2) := by decide +kernel
theorem dX3_common_112 : decode cX3_common 112 = .ok (.iaload, 1) := by decide +kernel
theorem dX3_common_113 : decode cX3_common 113 = .ok (.iconst 1, 1) := by decide +kernel
theorem dX3_common_114 : decode cX3_common 114 = .ok (.if_icmp .ne 17, 3) := by decide +kernel
theorem dX3_common_117 : decode cX3_common 117 = .ok (.iload 5, 2) := by decide +kernel
theorem dX3_common_119 : decode cX3_common 119 = .ok (.aload_n 0, 1) := by decide +kernel
theorem dX3_common_120 : decode cX3_common 120 = .ok (.getfield 19, 3) := by decide +kernel
theorem dX3_common_123 : decode cX3_common 123 = .ok (.iload 7, 2) := by decide +kernel
theorem dX3_common_125 : decode cX3_common 125 = .ok (.invokevirtual 122, 3) := by decide +kernel
theorem dX3_common_128 : decode cX3_common 128 = .ok (.iadd, 1) := by decide +kernel
theorem dX3_common_129 : decode cX3_common 129 = .ok (.istore 5, 2) := by decide +kernel
theorem dX3_common_131 : decode cX3_common 131 = .ok (.iinc 6 1, 3) := by decide +kernel
theorem dX3_common_134 : decode cX3_common 134 = .ok (.goto (-58), 3) := by decide +kernel
theorem dX3_common_137 : decode cX3_common 137 = .ok (.iload 5, 2) := by decide +kernel
theorem dX3_common_139 : decode cX3_common 139 = .ok (.ireturn, 1) := by decide +kernel
theorem dX3_all_0 : decode cX3_all 0 = .ok (.iload_n 1, 1) := by decide +kernel
theorem dX3_all_1 : decode cX3_all 1 = .ok (.tableswitch 48 0 2 #[27, 35, 43], 27) := by decide +kernel
theorem dX3_all_28 : decode cX3_all 28 = .ok (.aload_n 0, 1) := by decide +kernel
theorem dX3_all_29 : decode cX3_all 29 = .ok (.getfield 19, 3) := by decide +kernel
theorem dX3_all_32 : decode cX3_all 32 = .ok (.getfield 152, 3) := by decide +kernel
theorem dX3_all_35 : decode cX3_all 35 = .ok (.ireturn, 1) := by decide +kernel
theorem dX3_all_36 : decode cX3_all 36 = .ok (.aload_n 0, 1) := by decide +kernel
theorem dX3_all_37 : decode cX3_all 37 = .ok (.getfield 19, 3) := by decide +kernel
theorem dX3_all_40 : decode cX3_all 40 = .ok (.getfield 153, 3) := by decide +kernel
theorem dX3_all_43 : decode cX3_all 43 = .ok (.ireturn, 1) := by decide +kernel
theorem dX3_all_44 : decode cX3_all 44 = .ok (.aload_n 0, 1) := by decide +kernel
theorem dX3_all_45 : decode cX3_all 45 = .ok (.getfield 33, 3) := by decide +kernel
theorem dX3_all_48 : decode cX3_all 48 = .ok (.ireturn, 1) := by decide +kernel
theorem dX3_all_49 : decode cX3_all 49 = .ok (.new 48, 3) := by decide +kernel
theorem dX3_all_52 : decode cX3_all 52 = .ok (.dup, 1) := by decide +kernel
theorem dX3_all_53 : decode cX3_all 53 = .ok (.ldc 145, 2) := by decide +kernel
theorem dX3_all_55 : decode cX3_all 55 = .ok (.invokespecial 52, 3) := by decide +kernel
theorem dX3_all_58 : decode cX3_all 58 = .ok (.athrow, 1) := by decide +kernel
theorem dX3_fileAt_0 : decode cX3_fileAt 0 = .ok (.iload_n 1, 1) := by decide +kernel
theorem dX3_fileAt_1 : decode cX3_fileAt 1 = .ok (.ifCond .lt 9, 3) := by decide +kernel
theorem dX3_fileAt_4 : decode cX3_fileAt 4 = .ok (.iload_n 1, 1) := by decide +kernel
theorem dX3_fileAt_5 : decode cX3_fileAt 5 = .ok (.bipush 16, 2) := by decide +kernel
theorem dX3_fileAt_7 : decode cX3_fileAt 7 = .ok (.if_icmp .lt 13, 3) := by decide +kernel
theorem dX3_fileAt_10 : decode cX3_fileAt 10 = .ok (.new 117, 3) := by decide +kernel
theorem dX3_fileAt_13 : decode cX3_fileAt 13 = .ok (.dup, 1) := by decide +kernel
theorem dX3_fileAt_14 : decode cX3_fileAt 14 = .ok (.ldc 154, 2) := by decide +kernel
theorem dX3_fileAt_16 : decode cX3_fileAt 16 = .ok (.invokespecial 121, 3) := by decide +kernel
theorem dX3_fileAt_19 : decode cX3_fileAt 19 = .ok (.athrow, 1) := by decide +kernel
theorem dX3_fileAt_20 : decode cX3_fileAt 20 = .ok (.aload_n 0, 1) := by decide +kernel
theorem dX3_fileAt_21 : decode cX3_fileAt 21 = .ok (.getfield 25, 3) := by decide +kernel
theorem dX3_fileAt_24 : decode cX3_fileAt 24 = .ok (.iload_n 1, 1) := by decide +kernel
theorem dX3_fileAt_25 : decode cX3_fileAt 25 = .ok (.aaload, 1) := by decide +kernel
theorem dX3_fileAt_26 : decode cX3_fileAt 26 = .ok (.areturn, 1) := by decide +kernel
theorem dX3_fillFile_0 : decode cX3_fillFile 0 = .ok (.aload_n 0, 1) := by decide +kernel
theorem dX3_fillFile_1 : decode cX3_fillFile 1 = .ok (.getfield 19, 3) := by decide +kernel
theorem dX3_fillFile_4 : decode cX3_fillFile 4 = .ok (.getfield 152, 3) := by decide +kernel
theorem dX3_fillFile_7 : decode cX3_fillFile 7 = .ok (.istore 4, 2) := by decide +kernel
theorem dX3_fillFile_9 : decode cX3_fillFile 9 = .ok (.aload_n 0, 1) := by decide +kernel
theorem dX3_fillFile_10 : decode cX3_fillFile 10 = .ok (.aload_n 2, 1) := by decide +kernel
theorem dX3_fillFile_11 : decode cX3_fillFile 11 = .ok (.iload_n 3, 1) := by decide +kernel
theorem dX3_fillFile_12 : decode cX3_fillFile 12 = .ok (.invokevirtual 156, 3) := by decide +kernel
theorem dX3_fillFile_15 : decode cX3_fillFile 15 = .ok (.istore 5, 2) := by decide +kernel
theorem dX3_fillFile_17 : decode cX3_fillFile 17 = .ok (.iload 5, 2) := by decide +kernel
theorem dX3_fillFile_19 : decode cX3_fillFile 19 = .ok (.iconst (-1), 1) := by decide +kernel
theorem dX3_fillFile_20 : decode cX3_fillFile 20 = .ok (.if_icmp .ne 13, 3) := by decide +kernel
theorem dX3_fillFile_23 : decode cX3_fillFile 23 = .ok (.new 69, 3) := by decide +kernel
theorem dX3_fillFile_26 : decode cX3_fillFile 26 = .ok (.dup, 1) := by decide +kernel
theorem dX3_fillFile_27 : decode cX3_fillFile 27 = .ok (.ldc 160, 2) := by decide +kernel
theorem dX3_fillFile_29 : decode cX3_fillFile 29 = .ok (.invokespecial 73, 3) := by decide +kernel
theorem dX3_fillFile_32 : decode cX3_fillFile 32 = .ok (.athrow, 1) := by decide +kernel
theorem dX3_fillFile_33 : decode cX3_fillFile 33 = .ok (.aload_n 0, 1) := by decide +kernel
theorem dX3_fillFile_34 : decode cX3_fillFile 34 = .ok (.getfield 19, 3) := by decide +kernel
theorem dX3_fillFile_37 : decode cX3_fillFile 37 = .ok (.getfield 152, 3) := by decide +kernel
theorem dX3_fillFile_40 : decode cX3_fillFile 40 = .ok (.iload 4, 2) := by decide +kernel
theorem dX3_fillFile_42 : decode cX3_fillFile 42 = .ok (.isub, 1) := by decide +kernel
theorem dX3_fillFile_43 : decode cX3_fillFile 43 = .ok (.istore 6, 2) := by decide +kernel
theorem dX3_fillFile_45 : decode cX3_fillFile 45 = .ok (.aload_n 0, 1) := by decide +kernel
theorem dX3_fillFile_46 : decode cX3_fillFile 46 = .ok (.aload_n 1, 1) := by decide +kernel
theorem dX3_fillFile_47 : decode cX3_fillFile 47 = .ok (.getfield 102, 3) := by decide +kernel
theorem dX3_fillFile_50 : decode cX3_fillFile 50 = .ok (.aload_n 1, 1) := by decide +kernel
theorem dX3_fillFile_51 : decode cX3_fillFile 51 = .ok (.getfield 99, 3) := by decide +kernel
theorem dX3_fillFile_54 : decode cX3_fillFile 54 = .ok (.invokevirtual 109, 3) := by decide +kernel
theorem dX3_fillFile_57 : decode cX3_fillFile 57 = .ok (.aload_n 1, 1) := by decide +kernel
theorem dX3_fillFile_58 : decode cX3_fillFile 58 = .ok (.aload_n 0, 1) := by decide +kernel
theorem dX3_fillFile_59 : decode cX3_fillFile 59 = .ok (.getfield 40, 3) := by decide +kernel
theorem dX3_fillFile_62 : decode cX3_fillFile 62 = .ok (.iload 5, 2) := by decide +kernel
theorem dX3_fillFile_64 : decode cX3_fillFile 64 = .ok (.iload_n 3, 1) := by decide +kernel
theorem dX3_fillFile_65 : decode cX3_fillFile 65 = .ok (.invokevirtual 113, 3) := by decide +kernel
theorem dX3_fillFile_68 : decode cX3_fillFile 68 = .ok (.aload_n 0, 1) := by decide +kernel
theorem dX3_fillFile_69 : decode cX3_fillFile 69 = .ok (.iconst 0, 1) := by decide +kernel
theorem dX3_fillFile_70 : decode cX3_fillFile 70 = .ok (.putfield 33, 3) := by decide +kernel
theorem dX3_fillFile_73 : decode cX3_fillFile 73 = .ok (.iload 6, 2) := by decide +kernel
theorem dX3_fillFile_75 : decode cX3_fillFile 75 = .ok (.ireturn, 1) := by decide +kernel
theorem dX3_takeParts_0 : decode cX3_takeParts 0 = .ok (.iconst 0, 1) := by decide +kernel
theorem dX3_takeParts_1 : decode cX3_takeParts 1 = .ok (.istore_n 3, 1) := by decide +kernel
theorem dX3_takeParts_2 : decode cX3_takeParts 2 = .ok (.iconst 0, 1) := by decide +kernel
theorem dX3_takeParts_3 : decode cX3_takeParts 3 = .ok (.istore 4, 2) := by decide +kernel
theorem dX3_takeParts_5 : decode cX3_takeParts 5 = .ok (.iload 4, 2) := by decide +kernel
theorem dX3_takeParts_7 : decode cX3_takeParts 7 = .ok (.iload_n 2, 1) := by decide +kernel
theorem dX3_takeParts_8 : decode cX3_takeParts 8 = .ok (.if_icmp .ge 72, 3) := by decide +kernel
theorem dX3_takeParts_11 : decode cX3_takeParts 11 = .ok (.iload_n 3, 1) := by decide +kernel
theorem dX3_takeParts_12 : decode cX3_takeParts 12 = .ok (.sipush 1500, 3) := by decide +kernel
theorem dX3_takeParts_15 : decode cX3_takeParts 15 = .ok (.if_icmp .ge 65, 3) := by decide +kernel
theorem dX3_takeParts_18 : decode cX3_takeParts 18 = .ok (.aload_n 0, 1) := by decide +kernel
theorem dX3_takeParts_19 : decode cX3_takeParts 19 = .ok (.getfield 10, 3) := by decide +kernel
theorem dX3_takeParts_22 : decode cX3_takeParts 22 = .ok (.aload_n 1, 1) := by decide +kernel
theorem dX3_takeParts_23 : decode cX3_takeParts 23 = .ok (.iload 4, 2) := by decide +kernel
theorem dX3_takeParts_25 : decode cX3_takeParts 25 = .ok (.iload_n 2, 1) := by decide +kernel
theorem dX3_takeParts_26 : decode cX3_takeParts 26 = .ok (.invokevirtual 162, 3) := by decide +kernel
theorem dX3_takeParts_29 : decode cX3_takeParts 29 = .ok (.istore 5, 2) := by decide +kernel
theorem dX3_takeParts_31 : decode cX3_takeParts 31 = .ok (.aload_n 0, 1) := by decide +kernel
theorem dX3_takeParts_32 : decode cX3_takeParts 32 = .ok (.getfield 19, 3) := by decide +kernel
theorem dX3_takeParts_35 : decode cX3_takeParts 35 = .ok (.aload_n 1, 1) := by decide +kernel
theorem dX3_takeParts_36 : decode cX3_takeParts 36 = .ok (.iload 4, 2) := by decide +kernel
theorem dX3_takeParts_38 : decode cX3_takeParts 38 = .ok (.iload 5, 2) := by decide +kernel
theorem dX3_takeParts_40 : decode cX3_takeParts 40 = .ok (.invokevirtual 166, 3) := by decide +kernel
theorem dX3_takeParts_43 : decode cX3_takeParts 43 = .ok (.istore 6, 2) := by decide +kernel
theorem dX3_takeParts_45 : decode cX3_takeParts 45 = .ok (.iload 6, 2) := by decide +kernel
theorem dX3_takeParts_47 : decode cX3_takeParts 47 = .ok (.iconst (-1), 1) := by decide +kernel
theorem dX3_takeParts_48 : decode cX3_takeParts 48 = .ok (.if_icmp .ne 14, 3) := by decide +kernel
theorem dX3_takeParts_51 : decode cX3_takeParts 51 = .ok (.aload_n 0, 1) := by decide +kernel
theorem dX3_takeParts_52 : decode cX3_takeParts 52 = .ok (.aload_n 0, 1) := by decide +kernel
theorem dX3_takeParts_53 : decode cX3_takeParts 53 = .ok (.getfield 40, 3) := by decide +kernel
theorem dX3_takeParts_56 : decode cX3_takeParts 56 = .ok (.iload_n 3, 1) := by decide +kernel
theorem dX3_takeParts_57 : decode cX3_takeParts 57 = .ok (.invokevirtual 109, 3) := by decide +kernel
theorem dX3_takeParts_60 : decode cX3_takeParts 60 = .ok (.iconst (-1), 1) := by decide +kernel
theorem dX3_takeParts_61 : decode cX3_takeParts 61 = .ok (.ireturn, 1) := by decide +kernel
theorem dX3_takeParts_62 : decode cX3_takeParts 62 = .ok (.aload_n 0, 1) := by decide +kernel
theorem dX3_takeParts_63 : decode cX3_takeParts 63 = .ok (.getfield 40, 3) := by decide +kernel
theorem dX3_takeParts_66 : decode cX3_takeParts 66 = .ok (.iload_n 3, 1) := by decide +kernel
theorem dX3_takeParts_67 : decode cX3_takeParts 67 = .ok (.iload 6, 2) := by decide +kernel
theorem dX3_takeParts_69 : decode cX3_takeParts 69 = .ok (.iastore, 1) := by decide +kernel
theorem dX3_takeParts_70 : decode cX3_takeParts 70 = .ok (.iinc 3 1, 3) := by decide +kernel
theorem dX3_takeParts_73 : decode cX3_takeParts 73 = .ok (.iload 5, 2) := by decide +kernel
theorem dX3_takeParts_75 : decode cX3_takeParts 75 = .ok (.istore 4, 2) := by decide +kernel
theorem dX3_takeParts_77 : decode cX3_takeParts 77 = .ok (.goto (-72), 3) := by decide +kernel
theorem dX3_takeParts_80 : decode cX3_takeParts 80 = .ok (.iload_n 3, 1) := by decide +kernel
theorem dX3_takeParts_81 : decode cX3_takeParts 81 = .ok (.ireturn, 1) := by decide +kernel
theorem dX3_giveBack_0 : decode cX3_giveBack 0 = .ok (.iconst 0, 1) := by decide +kernel
theorem dX3_giveBack_1 : decode cX3_giveBack 1 = .ok (.istore_n 3, 1) := by decide +kernel
theorem dX3_giveBack_2 : decode cX3_giveBack 2 = .ok (.iload_n 3, 1) := by decide +kernel
theorem dX3_giveBack_3 : decode cX3_giveBack 3 = .ok (.iload_n 2, 1) := by decide +kernel
theorem dX3_giveBack_4 : decode cX3_giveBack 4 = .ok (.if_icmp .ge 19, 3) := by decide +kernel
theorem dX3_giveBack_7 : decode cX3_giveBack 7 = .ok (.aload_n 0, 1) := by decide +kernel
theorem dX3_giveBack_8 : decode cX3_giveBack 8 = .ok (.getfield 19, 3) := by decide +kernel
theorem dX3_giveBack_11 : decode cX3_giveBack 11 = .ok (.aload_n 1, 1) := by decide +kernel
theorem dX3_giveBack_12 : decode cX3_giveBack 12 = .ok (.iload_n 3, 1) := by decide +kernel
theorem dX3_giveBack_13 : decode cX3_giveBack 13 = .ok (.iaload, 1) := by decide +kernel
theorem dX3_giveBack_14 : decode cX3_giveBack 14 = .ok (.invokevirtual 169, 3) := by decide +kernel
theorem dX3_giveBack_17 : decode cX3_giveBack 17 = .ok (.iinc 3 1, 3) := by decide +kernel
theorem dX3_giveBack_20 : decode cX3_giveBack 20 = .ok (.goto (-18), 3) := by decide +kernel
theorem dX3_giveBack_23 : decode cX3_giveBack 23 = .ok (.return_, 1) := by decide +kernel
theorem dX3_layOut_0 : decode cX3_layOut 0 = .ok (.iconst 0, 1) := by decide +kernel
theorem dX3_layOut_1 : decode cX3_layOut 1 = .ok (.istore_n 2, 1) := by decide +kernel
theorem dX3_layOut_2 : decode cX3_layOut 2 = .ok (.iconst 0, 1) := by decide +kernel
theorem dX3_layOut_3 : decode cX3_layOut 3 = .ok (.istore_n 3, 1) := by decide +kernel
theorem dX3_layOut_4 : decode cX3_layOut 4 = .ok (.iload_n 3, 1) := by decide +kernel
theorem dX3_layOut_5 : decode cX3_layOut 5 = .ok (.aload_n 1, 1) := by decide +kernel
theorem dX3_layOut_6 : decode cX3_layOut 6 = .ok (.getfield 99, 3) := by decide +kernel
theorem dX3_layOut_9 : decode cX3_layOut 9 = .ok (.if_icmp .ge 30, 3) := by decide +kernel
theorem dX3_layOut_12 : decode cX3_layOut 12 = .ok (.iload_n 2, 1) := by decide +kernel
theorem dX3_layOut_13 : decode cX3_layOut 13 = .ok (.aload_n 0, 1) := by decide +kernel
theorem dX3_layOut_14 : decode cX3_layOut 14 = .ok (.getfield 19, 3) := by decide +kernel
theorem dX3_layOut_17 : decode cX3_layOut 17 = .ok (.aload_n 1, 1) := by decide +kernel
theorem dX3_layOut_18 : decode cX3_layOut 18 = .ok (.getfield 102, 3) := by decide +kernel
theorem dX3_layOut_21 : decode cX3_layOut 21 = .ok (.iload_n 3, 1) := by decide +kernel
theorem dX3_layOut_22 : decode cX3_layOut 22 = .ok (.iaload, 1) := by decide +kernel
theorem dX3_layOut_23 : decode cX3_layOut 23 = .ok (.aload_n 0, 1) := by decide +kernel
theorem dX3_layOut_24 : decode cX3_layOut 24 = .ok (.getfield 37, 3) := by decide +kernel
theorem dX3_layOut_27 : decode cX3_layOut 27 = .ok (.iload_n 2, 1) := by decide +kernel
theorem dX3_layOut_28 : decode cX3_layOut 28 = .ok (.invokevirtual 171, 3) := by decide +kernel
theorem dX3_layOut_31 : decode cX3_layOut 31 = .ok (.iadd, 1) := by decide +kernel
theorem dX3_layOut_32 : decode cX3_layOut 32 = .ok (.istore_n 2, 1) := by decide +kernel
theorem dX3_layOut_33 : decode cX3_layOut 33 = .ok (.iinc 3 1, 3) := by decide +kernel
theorem dX3_layOut_36 : decode cX3_layOut 36 = .ok (.goto (-32), 3) := by decide +kernel
theorem dX3_layOut_39 : decode cX3_layOut 39 = .ok (.return_, 1) := by decide +kernel
theorem dX3_filesWith_0 : decode cX3_filesWith 0 = .ok (.iconst 0, 1) := by decide +kernel
theorem dX3_filesWith_1 : decode cX3_filesWith 1 = .ok (.istore_n 2, 1) := by decide +kernel
theorem dX3_filesWith_2 : decode cX3_filesWith 2 = .ok (.iconst 0, 1) := by decide +kernel
theorem dX3_filesWith_3 : decode cX3_filesWith 3 = .ok (.istore_n 3, 1) := by decide +kernel
theorem dX3_filesWith_4 : decode cX3_filesWith 4 = .ok (.iload_n 3, 1) := by decide +kernel
theorem dX3_filesWith_5 : decode cX3_filesWith 5 = .ok (.bipush 16, 2) := by decide +kernel
theorem dX3_filesWith_7 : decode cX3_filesWith 7 = .ok (.if_icmp .ge 25, 3) := by decide +kernel
theorem dX3_filesWith_10 : decode cX3_filesWith 10 = .ok (.aload_n 0, 1) := by decide +kernel
theorem dX3_filesWith_11 : decode cX3_filesWith 11 = .ok (.getfield 25, 3) := by decide +kernel
theorem dX3_filesWith_14 : decode cX3_filesWith 14 = .ok (.iload_n 3, 1) := by decide +kernel
theorem dX3_filesWith_15 : decode cX3_filesWith 15 = .ok (.aaload, 1) := by decide +kernel
theorem dX3_filesWith_16 : decode cX3_filesWith 16 = .ok (.iload_n 1, 1) := by decide +kernel
theorem dX3_filesWith_17 : decode cX3_filesWith 17 = .ok (.invokevirtual 175, 3) := by decide +kernel
theorem dX3_filesWith_20 : decode cX3_filesWith 20 = .ok (.ifCond .eq 6, 3) := by decide +kernel
theorem dX3_filesWith_23 : decode cX3_filesWith 23 = .ok (.iinc 2 1, 3) := by decide +kernel
theorem dX3_filesWith_26 : decode cX3_filesWith 26 = .ok (.iinc 3 1, 3) := by decide +kernel
theorem dX3_filesWith_29 : decode cX3_filesWith 29 = .ok (.goto (-25), 3) := by decide +kernel
theorem dX3_filesWith_32 : decode cX3_filesWith 32 = .ok (.iload_n 2, 1) := by decide +kernel
theorem dX3_filesWith_33 : decode cX3_filesWith 33 = .ok (.ireturn, 1) := by decide +kernel
theorem dX4_init_0 : decode cX4_init 0 = .ok (.aload_n 0, 1) := by decide +kernel
theorem dX4_init_1 : decode cX4_init 1 = .ok (.invokespecial 1, 3) := by decide +kernel
theorem dX4_init_4 : decode cX4_init 4 = .ok (.aload_n 0, 1) := by decide +kernel
theorem dX4_init_5 : decode cX4_init 5 = .ok (.iconst 4, 1) := by decide +kernel
theorem dX4_init_6 : decode cX4_init 6 = .ok (.putfield 7, 3) := by decide +kernel
theorem dX4_init_9 : decode cX4_init 9 = .ok (.aload_n 0, 1) := by decide +kernel
theorem dX4_init_10 : decode cX4_init 10 = .ok (.iconst 4, 1) := by decide +kernel
theorem dX4_init_11 : decode cX4_init 11 = .ok (.putfield 13, 3) := by decide +kernel
end
section
theorem dX4_init_14 : decode cX4_init 14 = .ok (.aload_n 0, 1) := by decide +kernel
theorem dX4_init_15 : decode cX4_init 15 = .ok (.bipush 32, 2) := by decide +kernel
theorem dX4_init_17 : decode cX4_init 17 = .ok (.putfield 16, 3) := by decide +kernel
theorem dX4_init_20 : decode cX4_init 20 = .ok (.aload_n 0, 1) := by decide +kernel
theorem dX4_init_21 : decode cX4_init 21 = .ok (.sipush 1500, 3) := by decide +kernel
theorem dX4_init_24 : decode cX4_init 24 = .ok (.newarray .int, 2) := by decide +kernel
theorem dX4_init_26 : decode cX4_init 26 = .ok (.putfield 19, 3) := by decide +kernel
theorem dX4_init_29 : decode cX4_init 29 = .ok (.aload_n 0, 1) := by decide +kernel
theorem dX4_init_30 : decode cX4_init 30 = .ok (.sipush 1500, 3) := by decide +kernel
theorem dX4_init_33 : decode cX4_init 33 = .ok (.newarray .int, 2) := by decide +kernel
theorem dX4_init_35 : decode cX4_init 35 = .ok (.putfield 23, 3) := by decide +kernel
theorem dX4_init_38 : decode cX4_init 38 = .ok (.aload_n 0, 1) := by decide +kernel
theorem dX4_init_39 : decode cX4_init 39 = .ok (.sipush 1500, 3) := by decide +kernel
theorem dX4_init_42 : decode cX4_init 42 = .ok (.newarray .int, 2) := by decide +kernel
theorem dX4_init_44 : decode cX4_init 44 = .ok (.putfield 26, 3) := by decide +kernel
theorem dX4_init_47 : decode cX4_init 47 = .ok (.aload_n 0, 1) := by decide +kernel
theorem dX4_init_48 : decode cX4_init 48 = .ok (.sipush 1500, 3) := by decide +kernel
theorem dX4_init_51 : decode cX4_init 51 = .ok (.newarray .int, 2) := by decide +kernel
theorem dX4_init_53 : decode cX4_init 53 = .ok (.putfield 29, 3) := by decide +kernel
theorem dX4_init_56 : decode cX4_init 56 = .ok (.aload_n 0, 1) := by decide +kernel
theorem dX4_init_57 : decode cX4_init 57 = .ok (.sipush 400, 3) := by decide +kernel
theorem dX4_init_60 : decode cX4_init 60 = .ok (.newarray .boolean, 2) := by decide +kernel
theorem dX4_init_62 : decode cX4_init 62 = .ok (.putfield 32, 3) := by decide +kernel
theorem dX4_init_65 : decode cX4_init 65 = .ok (.aload_n 0, 1) := by decide +kernel
theorem dX4_init_66 : decode cX4_init 66 = .ok (.bipush 16, 2) := by decide +kernel
theorem dX4_init_68 : decode cX4_init 68 = .ok (.newarray .int, 2) := by decide +kernel
theorem dX4_init_70 : decode cX4_init 70 = .ok (.putfield 36, 3) := by decide +kernel
theorem dX4_init_73 : decode cX4_init 73 = .ok (.aload_n 0, 1) := by decide +kernel
theorem dX4_init_74 : decode cX4_init 74 = .ok (.sipush 24000, 3) := by decide +kernel
theorem dX4_init_77 : decode cX4_init 77 = .ok (.newarray .int, 2) := by decide +kernel
theorem dX4_init_79 : decode cX4_init 79 = .ok (.putfield 39, 3) := by decide +kernel
theorem dX4_init_82 : decode cX4_init 82 = .ok (.aload_n 0, 1) := by decide +kernel
theorem dX4_init_83 : decode cX4_init 83 = .ok (.bipush 16, 2) := by decide +kernel
theorem dX4_init_85 : decode cX4_init 85 = .ok (.newarray .int, 2) := by decide +kernel
theorem dX4_init_87 : decode cX4_init 87 = .ok (.putfield 42, 3) := by decide +kernel
theorem dX4_init_90 : decode cX4_init 90 = .ok (.aload_n 0, 1) := by decide +kernel
theorem dX4_init_91 : decode cX4_init 91 = .ok (.sipush 24000, 3) := by decide +kernel
theorem dX4_init_94 : decode cX4_init 94 = .ok (.newarray .int, 2) := by decide +kernel
theorem dX4_init_96 : decode cX4_init 96 = .ok (.putfield 45, 3) := by decide +kernel
theorem dX4_init_99 : decode cX4_init 99 = .ok (.aload_n 0, 1) := by decide +kernel
theorem dX4_init_100 : decode cX4_init 100 = .ok (.sipush 400, 3) := by decide +kernel
theorem dX4_init_103 : decode cX4_init 103 = .ok (.newarray .int, 2) := by decide +kernel
theorem dX4_init_105 : decode cX4_init 105 = .ok (.putfield 48, 3) := by decide +kernel
theorem dX4_init_108 : decode cX4_init 108 = .ok (.aload_n 0, 1) := by decide +kernel
theorem dX4_init_109 : decode cX4_init 109 = .ok (.sipush 400, 3) := by decide +kernel
theorem dX4_init_112 : decode cX4_init 112 = .ok (.newarray .int, 2) := by decide +kernel
theorem dX4_init_114 : decode cX4_init 114 = .ok (.putfield 51, 3) := by decide +kernel
theorem dX4_init_117 : decode cX4_init 117 = .ok (.aload_n 0, 1) := by decide +kernel
theorem dX4_init_118 : decode cX4_init 118 = .ok (.sipush 25600, 3) := by decide +kernel
theorem dX4_init_121 : decode cX4_init 121 = .ok (.newarray .int, 2) := by decide +kernel
theorem dX4_init_123 : decode cX4_init 123 = .ok (.putfield 54, 3) := by decide +kernel
theorem dX4_init_126 : decode cX4_init 126 = .ok (.return_, 1) := by decide +kernel
theorem dX4_thrown_0 : decode cX4_thrown 0 = .ok (.aload_n 0, 1) := by decide +kernel
theorem dX4_thrown_1 : decode cX4_thrown 1 = .ok (.getfield 57, 3) := by decide +kernel
theorem dX4_thrown_4 : decode cX4_thrown 4 = .ok (.ireturn, 1) := by decide +kernel
theorem dX4_refuse_0 : decode cX4_refuse 0 = .ok (.aload_n 0, 1) := by decide +kernel
theorem dX4_refuse_1 : decode cX4_refuse 1 = .ok (.iload_n 1, 1) := by decide +kernel
theorem dX4_refuse_2 : decode cX4_refuse 2 = .ok (.ifCond .eq 7, 3) := by decide +kernel
theorem dX4_refuse_5 : decode cX4_refuse 5 = .ok (.iconst 1, 1) := by decide +kernel
theorem dX4_refuse_6 : decode cX4_refuse 6 = .ok (.goto 20, 3) := by decide +kernel
theorem dX4_refuse_9 : decode cX4_refuse 9 = .ok (.iload_n 2, 1) := by decide +kernel
theorem dX4_refuse_10 : decode cX4_refuse 10 = .ok (.ifCond .eq 7, 3) := by decide +kernel
theorem dX4_refuse_13 : decode cX4_refuse 13 = .ok (.iconst 2, 1) := by decide +kernel
theorem dX4_refuse_14 : decode cX4_refuse 14 = .ok (.goto 12, 3) := by decide +kernel
theorem dX4_refuse_17 : decode cX4_refuse 17 = .ok (.iload_n 3, 1) := by decide +kernel
theorem dX4_refuse_18 : decode cX4_refuse 18 = .ok (.ifCond .eq 7, 3) := by decide +kernel
theorem dX4_refuse_21 : decode cX4_refuse 21 = .ok (.iconst 3, 1) := by decide +kernel
theorem dX4_refuse_22 : decode cX4_refuse 22 = .ok (.goto 4, 3) := by decide +kernel
theorem dX4_refuse_25 : decode cX4_refuse 25 = .ok (.iconst 0, 1) := by decide +kernel
theorem dX4_refuse_26 : decode cX4_refuse 26 = .ok (.putfield 57, 3) := by decide +kernel
theorem dX4_refuse_29 : decode cX4_refuse 29 = .ok (.aload_n 0, 1) := by decide +kernel
theorem dX4_refuse_30 : decode cX4_refuse 30 = .ok (.getfield 57, 3) := by decide +kernel
theorem dX4_refuse_33 : decode cX4_refuse 33 = .ok (.ifCond .le 7, 3) := by decide +kernel
theorem dX4_refuse_36 : decode cX4_refuse 36 = .ok (.iconst 1, 1) := by decide +kernel
theorem dX4_refuse_37 : decode cX4_refuse 37 = .ok (.goto 4, 3) := by decide +kernel
theorem dX4_refuse_40 : decode cX4_refuse 40 = .ok (.iconst 0, 1) := by decide +kernel
theorem dX4_refuse_41 : decode cX4_refuse 41 = .ok (.ireturn, 1) := by decide +kernel
theorem dX4_in_0 : decode cX4_in 0 = .ok (.iload_n 0, 1) := by decide +kernel
theorem dX4_in_1 : decode cX4_in 1 = .ok (.iload_n 1, 1) := by decide +kernel
theorem dX4_in_2 : decode cX4_in 2 = .ok (.if_icmp .lt 12, 3) := by decide +kernel
theorem dX4_in_5 : decode cX4_in 5 = .ok (.iload_n 0, 1) := by decide +kernel
theorem dX4_in_6 : decode cX4_in 6 = .ok (.iload_n 2, 1) := by decide +kernel
theorem dX4_in_7 : decode cX4_in 7 = .ok (.if_icmp .gt 7, 3) := by decide +kernel
theorem dX4_in_10 : decode cX4_in 10 = .ok (.iconst 1, 1) := by decide +kernel
theorem dX4_in_11 : decode cX4_in 11 = .ok (.goto 4, 3) := by decide +kernel
theorem dX4_in_14 : decode cX4_in 14 = .ok (.iconst 0, 1) := by decide +kernel
theorem dX4_in_15 : decode cX4_in 15 = .ok (.ireturn, 1) := by decide +kernel
theorem dX4_isFile_0 : decode cX4_isFile 0 = .ok (.iload_n 0, 1) := by decide +kernel
theorem dX4_isFile_1 : decode cX4_isFile 1 = .ok (.iconst 0, 1) := by decide +kernel
theorem dX4_isFile_2 : decode cX4_isFile 2 = .ok (.bipush 15, 2) := by decide +kernel
theorem dX4_isFile_4 : decode cX4_isFile 4 = .ok (.invokestatic 60, 3) := by decide +kernel
theorem dX4_isFile_7 : decode cX4_isFile 7 = .ok (.ireturn, 1) := by decide +kernel
theorem dX4_begin_0 : decode cX4_begin 0 = .ok (.iload_n 1, 1) := by decide +kernel
theorem dX4_begin_1 : decode cX4_begin 1 = .ok (.iconst 1, 1) := by decide +kernel
theorem dX4_begin_2 : decode cX4_begin 2 = .ok (.bipush 8, 2) := by decide +kernel
theorem dX4_begin_4 : decode cX4_begin 4 = .ok (.invokestatic 60, 3) := by decide +kernel
theorem dX4_begin_7 : decode cX4_begin 7 = .ok (.ifCond .eq 27, 3) := by decide +kernel
theorem dX4_begin_10 : decode cX4_begin 10 = .ok (.iload_n 2, 1) := by decide +kernel
theorem dX4_begin_11 : decode cX4_begin 11 = .ok (.iconst 1, 1) := by decide +kernel
theorem dX4_begin_12 : decode cX4_begin 12 = .ok (.bipush 32, 2) := by decide +kernel
theorem dX4_begin_14 : decode cX4_begin 14 = .ok (.invokestatic 60, 3) := by decide +kernel
theorem dX4_begin_17 : decode cX4_begin 17 = .ok (.ifCond .eq 17, 3) := by decide +kernel
theorem dX4_begin_20 : decode cX4_begin 20 = .ok (.iload_n 3, 1) := by decide +kernel
theorem dX4_begin_21 : decode cX4_begin 21 = .ok (.iload_n 2, 1) := by decide +kernel
theorem dX4_begin_22 : decode cX4_begin 22 = .ok (.bipush 64, 2) := by decide +kernel
theorem dX4_begin_24 : decode cX4_begin 24 = .ok (.invokestatic 60, 3) := by decide +kernel
theorem dX4_begin_27 : decode cX4_begin 27 = .ok (.ifCond .eq 7, 3) := by decide +kernel
theorem dX4_begin_30 : decode cX4_begin 30 = .ok (.iconst 1, 1) := by decide +kernel
theorem dX4_begin_31 : decode cX4_begin 31 = .ok (.goto 4, 3) := by decide +kernel
theorem dX4_begin_34 : decode cX4_begin 34 = .ok (.iconst 0, 1) := by decide +kernel
theorem dX4_begin_35 : decode cX4_begin 35 = .ok (.istore 4, 2) := by decide +kernel
theorem dX4_begin_37 : decode cX4_begin 37 = .ok (.aload_n 0, 1) := by decide +kernel
theorem dX4_begin_38 : decode cX4_begin 38 = .ok (.iload 4, 2) := by decide +kernel
theorem dX4_begin_40 : decode cX4_begin 40 = .ok (.ifCond .ne 7, 3) := by decide +kernel
theorem dX4_begin_43 : decode cX4_begin 43 = .ok (.iconst 1, 1) := by decide +kernel
theorem dX4_begin_44 : decode cX4_begin 44 = .ok (.goto 4, 3) := by decide +kernel
theorem dX4_begin_47 : decode cX4_begin 47 = .ok (.iconst 0, 1) := by decide +kernel
theorem dX4_begin_48 : decode cX4_begin 48 = .ok (.iconst 0, 1) := by decide +kernel
theorem dX4_begin_49 : decode cX4_begin 49 = .ok (.iconst 0, 1) := by decide +kernel
theorem dX4_begin_50 : decode cX4_begin 50 = .ok (.invokevirtual 64, 3) := by decide +kernel
theorem dX4_begin_53 : decode cX4_begin 53 = .ok (.ifCond .ne 75, 3) := by decide +kernel
theorem dX4_begin_56 : decode cX4_begin 56 = .ok (.aload_n 0, 1) := by decide +kernel
theorem dX4_begin_57 : decode cX4_begin 57 = .ok (.iload_n 1, 1) := by decide +kernel
theorem dX4_begin_58 : decode cX4_begin 58 = .ok (.putfield 7, 3) := by decide +kernel
theorem dX4_begin_61 : decode cX4_begin 61 = .ok (.aload_n 0, 1) := by decide +kernel
theorem dX4_begin_62 : decode cX4_begin 62 = .ok (.iload_n 2, 1) := by decide +kernel
theorem dX4_begin_63 : decode cX4_begin 63 = .ok (.putfield 13, 3) := by decide +kernel
theorem dX4_begin_66 : decode cX4_begin 66 = .ok (.aload_n 0, 1) := by decide +kernel
theorem dX4_begin_67 : decode cX4_begin 67 = .ok (.iload_n 3, 1) := by decide +kernel
theorem dX4_begin_68 : decode cX4_begin 68 = .ok (.putfield 16, 3) := by decide +kernel
theorem dX4_begin_71 : decode cX4_begin 71 = .ok (.iconst 0, 1) := by decide +kernel
theorem dX4_begin_72 : decode cX4_begin 72 = .ok (.istore 5, 2) := by decide +kernel
theorem dX4_begin_74 : decode cX4_begin 74 = .ok (.iload 5, 2) := by decide +kernel
theorem dX4_begin_76 : decode cX4_begin 76 = .ok (.bipush 16, 2) := by decide +kernel
theorem dX4_begin_78 : decode cX4_begin 78 = .ok (.if_icmp .ge 25, 3) := by decide +kernel
theorem dX4_begin_81 : decode cX4_begin 81 = .ok (.aload_n 0, 1) := by decide +kernel
theorem dX4_begin_82 : decode cX4_begin 82 = .ok (.getfield 36, 3) := by decide +kernel
theorem dX4_begin_85 : decode cX4_begin 85 = .ok (.iload 5, 2) := by decide +kernel
theorem dX4_begin_87 : decode cX4_begin 87 = .ok (.iconst 0, 1) := by decide +kernel
theorem dX4_begin_88 : decode cX4_begin 88 = .ok (.iastore, 1) := by decide +kernel
theorem dX4_begin_89 : decode cX4_begin 89 = .ok (.aload_n 0, 1) := by decide +kernel
theorem dX4_begin_90 : decode cX4_begin 90 = .ok (.getfield 42, 3) := by decide +kernel
theorem dX4_begin_93 : decode cX4_begin 93 = .ok (.iload 5, 2) := by decide +kernel
theorem dX4_begin_95 : decode cX4_begin 95 = .ok (.iconst 0, 1) := by decide +kernel
theorem dX4_begin_96 : decode cX4_begin 96 = .ok (.iastore, 1) := by decide +kernel
theorem dX4_begin_97 : decode cX4_begin 97 = .ok (.iinc 5 1, 3) := by decide +kernel
theorem dX4_begin_100 : decode cX4_begin 100 = .ok (.goto (-26), 3) := by decide +kernel
theorem dX4_begin_103 : decode cX4_begin 103 = .ok (.iconst 0, 1) := by decide +kernel
theorem dX4_begin_104 : decode cX4_begin 104 = .ok (.istore 5, 2) := by decide +kernel
theorem dX4_begin_106 : decode cX4_begin 106 = .ok (.iload 5, 2) := by decide +kernel
theorem dX4_begin_108 : decode cX4_begin 108 = .ok (.sipush 400, 3) := by decide +kernel
theorem dX4_begin_111 : decode cX4_begin 111 = .ok (.if_icmp .ge 17, 3) := by decide +kernel
theorem dX4_begin_114 : decode cX4_begin 114 = .ok (.aload_n 0, 1) := by decide +kernel
theorem dX4_begin_115 : decode cX4_begin 115 = .ok (.getfield 48, 3) := by decide +kernel
theorem dX4_begin_118 : decode cX4_begin 118 = .ok (.iload 5, 2) := by decide +kernel
theorem dX4_begin_120 : decode cX4_begin 120 = .ok (.iconst 0, 1) := by decide +kernel
theorem dX4_begin_121 : decode cX4_begin 121 = .ok (.iastore, 1) := by decide +kernel
theorem dX4_begin_122 : decode cX4_begin 122 = .ok (.iinc 5 1, 3) := by decide +kernel
theorem dX4_begin_125 : decode cX4_begin 125 = .ok (.goto (-19), 3) := by decide +kernel
theorem dX4_begin_128 : decode cX4_begin 128 = .ok (.return_, 1) := by decide +kernel
theorem dX4_put_0 : decode cX4_put 0 = .ok (.iload_n 1, 1) := by decide +kernel
theorem dX4_put_1 : decode cX4_put 1 = .ok (.iconst 1, 1) := by decide +kernel
theorem dX4_put_2 : decode cX4_put 2 = .ok (.iconst 4, 1) := by decide +kernel
theorem dX4_put_3 : decode cX4_put 3 = .ok (.invokestatic 60, 3) := by decide +kernel
theorem dX4_put_6 : decode cX4_put 6 = .ok (.istore_n 3, 1) := by decide +kernel
theorem dX4_put_7 : decode cX4_put 7 = .ok (.aload_n 0, 1) := by decide +kernel
theorem dX4_put_8 : decode cX4_put 8 = .ok (.iload_n 3, 1) := by decide +kernel
theorem dX4_put_9 : decode cX4_put 9 = .ok (.ifCond .ne 7, 3) := by decide +kernel
theorem dX4_put_12 : decode cX4_put 12 = .ok (.iconst 1, 1) := by decide +kernel
theorem dX4_put_13 : decode cX4_put 13 = .ok (.goto 4, 3) := by decide +kernel
theorem dX4_put_16 : decode cX4_put 16 = .ok (.iconst 0, 1) := by decide +kernel
theorem dX4_put_17 : decode cX4_put 17 = .ok (.iload_n 3, 1) := by decide +kernel
theorem dX4_put_18 : decode cX4_put 18 = .ok (.ifCond .eq 19, 3) := by decide +kernel
theorem dX4_put_21 : decode cX4_put 21 = .ok (.aload_n 0, 1) := by decide +kernel
theorem dX4_put_22 : decode cX4_put 22 = .ok (.getfield 68, 3) := by decide +kernel
theorem dX4_put_25 : decode cX4_put 25 = .ok (.iload_n 1, 1) := by decide +kernel
theorem dX4_put_26 : decode cX4_put 26 = .ok (.iadd, 1) := by decide +kernel
theorem dX4_put_27 : decode cX4_put 27 = .ok (.sipush 1500, 3) := by decide +kernel
theorem dX4_put_30 : decode cX4_put 30 = .ok (.if_icmp .le 7, 3) := by decide +kernel
theorem dX4_put_33 : decode cX4_put 33 = .ok (.iconst 1, 1) := by decide +kernel
theorem dX4_put_34 : decode cX4_put 34 = .ok (.goto 4, 3) := by decide +kernel
theorem dX4_put_37 : decode cX4_put 37 = .ok (.iconst 0, 1) := by decide +kernel
theorem dX4_put_38 : decode cX4_put 38 = .ok (.iconst 0, 1) := by decide +kernel
theorem dX4_put_39 : decode cX4_put 39 = .ok (.invokevirtual 64, 3) := by decide +kernel
theorem dX4_put_42 : decode cX4_put 42 = .ok (.ifCond .eq 5, 3) := by decide +kernel
theorem dX4_put_45 : decode cX4_put 45 = .ok (.iconst 0, 1) := by decide +kernel
theorem dX4_put_46 : decode cX4_put 46 = .ok (.ireturn, 1) := by decide +kernel
theorem dX4_put_47 : decode cX4_put 47 = .ok (.iconst 0, 1) := by decide +kernel
theorem dX4_put_48 : decode cX4_put 48 = .ok (.istore 4, 2) := by decide +kernel
theorem dX4_put_50 : decode cX4_put 50 = .ok (.iload 4, 2) := by decide +kernel
theorem dX4_put_52 : decode cX4_put 52 = .ok (.iload_n 1, 1) := by decide +kernel
theorem dX4_put_53 : decode cX4_put 53 = .ok (.if_icmp .ge 39, 3) := by decide +kernel
theorem dX4_put_56 : decode cX4_put 56 = .ok (.aload_n 0, 1) := by decide +kernel
theorem dX4_put_57 : decode cX4_put 57 = .ok (.getfield 19, 3) := by decide +kernel
theorem dX4_put_60 : decode cX4_put 60 = .ok (.aload_n 0, 1) := by decide +kernel
theorem dX4_put_61 : decode cX4_put 61 = .ok (.getfield 68, 3) := by decide +kernel
theorem dX4_put_64 : decode cX4_put 64 = .ok (.iload_n 2, 1) := by decide +kernel
theorem dX4_put_65 : decode cX4_put 65 = .ok (.bipush 8, 2) := by decide +kernel
theorem dX4_put_67 : decode cX4_put 67 = .ok (.iload 4, 2) := by decide +kernel
theorem dX4_put_69 : decode cX4_put 69 = .ok (.imul, 1) := by decide +kernel
theorem dX4_put_70 : decode cX4_put 70 = .ok (.ishr, 1) := by decide +kernel
theorem dX4_put_71 : decode cX4_put 71 = .ok (.sipush 255, 3) := by decide +kernel
theorem dX4_put_74 : decode cX4_put 74 = .ok (.iand, 1) := by decide +kernel
theorem dX4_put_75 : decode cX4_put 75 = .ok (.iastore, 1) := by decide +kernel
theorem dX4_put_76 : decode cX4_put 76 = .ok (.aload_n 0, 1) := by decide +kernel
theorem dX4_put_77 : decode cX4_put 77 = .ok (.dup, 1) := by decide +kernel
theorem dX4_put_78 : decode cX4_put 78 = .ok (.getfield 68, 3) := by decide +kernel
theorem dX4_put_81 : decode cX4_put 81 = .ok (.iconst 1, 1) := by decide +kernel
theorem dX4_put_82 : decode cX4_put 82 = .ok (.iadd, 1) := by decide +kernel
theorem dX4_put_83 : decode cX4_put 83 = .ok (.putfield 68, 3) := by decide +kernel
theorem dX4_put_86 : decode cX4_put 86 = .ok (.iinc 4 1, 3) := by decide +kernel
theorem dX4_put_89 : decode cX4_put 89 = .ok (.goto (-39), 3) := by decide +kernel
theorem dX4_put_92 : decode cX4_put 92 = .ok (.aload_n 0, 1) := by decide +kernel
theorem dX4_put_93 : decode cX4_put 93 = .ok (.getfield 68, 3) := by decide +kernel
theorem dX4_put_96 : decode cX4_put 96 = .ok (.ireturn, 1) := by decide +kernel
theorem dX4_mark_0 : decode cX4_mark 0 = .ok (.iload_n 0, 1) := by decide +kernel
theorem dX4_mark_1 : decode cX4_mark 1 = .ok (.iconst 1, 1) := by decide +kernel
theorem dX4_mark_2 : decode cX4_mark 2 = .ok (.iadd, 1) := by decide +kernel
theorem dX4_mark_3 : decode cX4_mark 3 = .ok (.ldc 71, 2) := by decide +kernel
theorem dX4_mark_5 : decode cX4_mark 5 = .ok (.imul, 1) := by decide +kernel
theorem dX4_mark_6 : decode cX4_mark 6 = .ok (.istore_n 1, 1) := by decide +kernel
theorem dX4_mark_7 : decode cX4_mark 7 = .ok (.iload_n 1, 1) := by decide +kernel
theorem dX4_mark_8 : decode cX4_mark 8 = .ok (.iload_n 1, 1) := by decide +kernel
theorem dX4_mark_9 : decode cX4_mark 9 = .ok (.bipush 15, 2) := by decide +kernel
theorem dX4_mark_11 : decode cX4_mark 11 = .ok (.iushr, 1) := by decide +kernel
theorem dX4_mark_12 : decode cX4_mark 12 = .ok (.ixor, 1) := by decide +kernel
theorem dX4_mark_13 : decode cX4_mark 13 = .ok (.ireturn, 1) := by decide +kernel
theorem dX4_sum_0 : decode cX4_sum 0 = .ok (.iconst 0, 1) := by decide +kernel
theorem dX4_sum_1 : decode cX4_sum 1 = .ok (.istore_n 3, 1) := by decide +kernel
theorem dX4_sum_2 : decode cX4_sum 2 = .ok (.iconst 0, 1) := by decide +kernel
theorem dX4_sum_3 : decode cX4_sum 3 = .ok (.istore 4, 2) := by decide +kernel
theorem dX4_sum_5 : decode cX4_sum 5 = .ok (.iload 4, 2) := by decide +kernel
theorem dX4_sum_7 : decode cX4_sum 7 = .ok (.bipush 8, 2) := by decide +kernel
theorem dX4_sum_9 : decode cX4_sum 9 = .ok (.if_icmp .ge 61, 3) := by decide +kernel
theorem dX4_sum_12 : decode cX4_sum 12 = .ok (.iload_n 2, 1) := by decide +kernel
theorem dX4_sum_13 : decode cX4_sum 13 = .ok (.iconst 1, 1) := by decide +kernel
theorem dX4_sum_14 : decode cX4_sum 14 = .ok (.isub, 1) := by decide +kernel
theorem dX4_sum_15 : decode cX4_sum 15 = .ok (.iload 4, 2) := by decide +kernel
theorem dX4_sum_17 : decode cX4_sum 17 = .ok (.isub, 1) := by decide +kernel
theorem dX4_sum_18 : decode cX4_sum 18 = .ok (.iload_n 1, 1) := by decide +kernel
theorem dX4_sum_19 : decode cX4_sum 19 = .ok (.if_icmp .lt 51, 3) := by decide +kernel
theorem dX4_sum_22 : decode cX4_sum 22 = .ok (.aload_n 0, 1) := by decide +kernel
theorem dX4_sum_23 : decode cX4_sum 23 = .ok (.getfield 23, 3) := by decide +kernel
theorem dX4_sum_26 : decode cX4_sum 26 = .ok (.iload_n 2, 1) := by decide +kernel
theorem dX4_sum_27 : decode cX4_sum 27 = .ok (.iconst 1, 1) := by decide +kernel
theorem dX4_sum_28 : decode cX4_sum 28 = .ok (.isub, 1) := by decide +kernel
theorem dX4_sum_29 : decode cX4_sum 29 = .ok (.iload 4, 2) := by decide +kernel
theorem dX4_sum_31 : decode cX4_sum 31 = .ok (.isub, 1) := by decide +kernel
theorem dX4_sum_32 : decode cX4_sum 32 = .ok (.iaload, 1) := by decide +kernel
theorem dX4_sum_33 : decode cX4_sum 33 = .ok (.invokestatic 72, 3) := by decide +kernel
theorem dX4_sum_36 : decode cX4_sum 36 = .ok (.istore 5, 2) := by decide +kernel
theorem dX4_sum_38 : decode cX4_sum 38 = .ok (.iload_n 3, 1) := by decide +kernel
theorem dX4_sum_39 : decode cX4_sum 39 = .ok (.iload 5, 2) := by decide +kernel
theorem dX4_sum_41 : decode cX4_sum 41 = .ok (.iload 4, 2) := by decide +kernel
theorem dX4_sum_43 : decode cX4_sum 43 = .ok (.ishl, 1) := by decide +kernel
theorem dX4_sum_44 : decode cX4_sum 44 = .ok (.iload 4, 2) := by decide +kernel
theorem dX4_sum_46 : decode cX4_sum 46 = .ok (.ifCond .ne 7, 3) := by decide +kernel
theorem dX4_sum_49 : decode cX4_sum 49 = .ok (.iconst 0, 1) := by decide +kernel
theorem dX4_sum_50 : decode cX4_sum 50 = .ok (.goto 11, 3) := by decide +kernel
theorem dX4_sum_53 : decode cX4_sum 53 = .ok (.iload 5, 2) := by decide +kernel
theorem dX4_sum_55 : decode cX4_sum 55 = .ok (.bipush 32, 2) := by decide +kernel
theorem dX4_sum_57 : decode cX4_sum 57 = .ok (.iload 4, 2) := by decide +kernel
theorem dX4_sum_59 : decode cX4_sum 59 = .ok (.isub, 1) := by decide +kernel
theorem dX4_sum_60 : decode cX4_sum 60 = .ok (.iushr, 1) := by decide +kernel
theorem dX4_sum_61 : decode cX4_sum 61 = .ok (.ior, 1) := by decide +kernel
theorem dX4_sum_62 : decode cX4_sum 62 = .ok (.ixor, 1) := by decide +kernel
theorem dX4_sum_63 : decode cX4_sum 63 = .ok (.istore_n 3, 1) := by decide +kernel
theorem dX4_sum_64 : decode cX4_sum 64 = .ok (.iinc 4 1, 3) := by decide +kernel
theorem dX4_sum_67 : decode cX4_sum 67 = .ok (.goto (-62), 3) := by decide +kernel
theorem dX4_sum_70 : decode cX4_sum 70 = .ok (.iload_n 3, 1) := by decide +kernel
theorem dX4_sum_71 : decode cX4_sum 71 = .ok (.ireturn, 1) := by decide +kernel
theorem dX4_cut_0 : decode cX4_cut 0 = .ok (.aload_n 0, 1) := by decide +kernel
theorem dX4_cut_1 : decode cX4_cut 1 = .ok (.iconst 0, 1) := by decide +kernel
theorem dX4_cut_2 : decode cX4_cut 2 = .ok (.putfield 76, 3) := by decide +kernel
theorem dX4_cut_5 : decode cX4_cut 5 = .ok (.iconst 0, 1) := by decide +kernel
theorem dX4_cut_6 : decode cX4_cut 6 = .ok (.istore_n 1, 1) := by decide +kernel
theorem dX4_cut_7 : decode cX4_cut 7 = .ok (.iconst 1, 1) := by decide +kernel
theorem dX4_cut_8 : decode cX4_cut 8 = .ok (.istore_n 2, 1) := by decide +kernel
theorem dX4_cut_9 : decode cX4_cut 9 = .ok (.iload_n 2, 1) := by decide +kernel
theorem dX4_cut_10 : decode cX4_cut 10 = .ok (.aload_n 0, 1) := by decide +kernel
theorem dX4_cut_11 : decode cX4_cut 11 = .ok (.getfield 79, 3) := by decide +kernel
theorem dX4_cut_14 : decode cX4_cut 14 = .ok (.if_icmp .gt 89, 3) := by decide +kernel
theorem dX4_cut_17 : decode cX4_cut 17 = .ok (.iload_n 2, 1) := by decide +kernel
theorem dX4_cut_18 : decode cX4_cut 18 = .ok (.iload_n 1, 1) := by decide +kernel
theorem dX4_cut_19 : decode cX4_cut 19 = .ok (.isub, 1) := by decide +kernel
theorem dX4_cut_20 : decode cX4_cut 20 = .ok (.istore_n 3, 1) := by decide +kernel
theorem dX4_cut_21 : decode cX4_cut 21 = .ok (.iload_n 2, 1) := by decide +kernel
theorem dX4_cut_22 : decode cX4_cut 22 = .ok (.aload_n 0, 1) := by decide +kernel
theorem dX4_cut_23 : decode cX4_cut 23 = .ok (.getfield 79, 3) := by decide +kernel
theorem dX4_cut_26 : decode cX4_cut 26 = .ok (.if_icmp .eq 37, 3) := by decide +kernel
theorem dX4_cut_29 : decode cX4_cut 29 = .ok (.iload_n 3, 1) := by decide +kernel
theorem dX4_cut_30 : decode cX4_cut 30 = .ok (.aload_n 0, 1) := by decide +kernel
theorem dX4_cut_31 : decode cX4_cut 31 = .ok (.getfield 16, 3) := by decide +kernel
theorem dX4_cut_34 : decode cX4_cut 34 = .ok (.if_icmp .eq 29, 3) := by decide +kernel
theorem dX4_cut_37 : decode cX4_cut 37 = .ok (.iload_n 3, 1) := by decide +kernel
theorem dX4_cut_38 : decode cX4_cut 38 = .ok (.aload_n 0, 1) := by decide +kernel
theorem dX4_cut_39 : decode cX4_cut 39 = .ok (.getfield 13, 3) := by decide +kernel
theorem dX4_cut_42 : decode cX4_cut 42 = .ok (.if_icmp .lt 25, 3) := by decide +kernel
theorem dX4_cut_45 : decode cX4_cut 45 = .ok (.aload_n 0, 1) := by decide +kernel
theorem dX4_cut_46 : decode cX4_cut 46 = .ok (.iload_n 1, 1) := by decide +kernel
theorem dX4_cut_47 : decode cX4_cut 47 = .ok (.iload_n 2, 1) := by decide +kernel
theorem dX4_cut_48 : decode cX4_cut 48 = .ok (.invokevirtual 82, 3) := by decide +kernel
theorem dX4_cut_51 : decode cX4_cut 51 = .ok (.iconst 1, 1) := by decide +kernel
theorem dX4_cut_52 : decode cX4_cut 52 = .ok (.aload_n 0, 1) := by decide +kernel
theorem dX4_cut_53 : decode cX4_cut 53 = .ok (.getfield 7, 3) := by decide +kernel
theorem dX4_cut_56 : decode cX4_cut 56 = .ok (.ishl, 1) := by decide +kernel
theorem dX4_cut_57 : decode cX4_cut 57 = .ok (.iconst 1, 1) := by decide +kernel
theorem dX4_cut_58 : decode cX4_cut 58 = .ok (.isub, 1) := by decide +kernel
theorem dX4_cut_59 : decode cX4_cut 59 = .ok (.iand, 1) := by decide +kernel
theorem dX4_cut_60 : decode cX4_cut 60 = .ok (.ifCond .ne 7, 3) := by decide +kernel
theorem dX4_cut_63 : decode cX4_cut 63 = .ok (.iconst 1, 1) := by decide +kernel
theorem dX4_cut_64 : decode cX4_cut 64 = .ok (.goto 4, 3) := by decide +kernel
theorem dX4_cut_67 : decode cX4_cut 67 = .ok (.iconst 0, 1) := by decide +kernel
theorem dX4_cut_68 : decode cX4_cut 68 = .ok (.istore 4, 2) := by decide +kernel
theorem dX4_cut_70 : decode cX4_cut 70 = .ok (.iload 4, 2) := by decide +kernel
theorem dX4_cut_72 : decode cX4_cut 72 = .ok (.ifCond .eq 25, 3) := by decide +kernel
theorem dX4_cut_75 : decode cX4_cut 75 = .ok (.aload_n 0, 1) := by decide +kernel
theorem dX4_cut_76 : decode cX4_cut 76 = .ok (.getfield 26, 3) := by decide +kernel
theorem dX4_cut_79 : decode cX4_cut 79 = .ok (.aload_n 0, 1) := by decide +kernel
theorem dX4_cut_80 : decode cX4_cut 80 = .ok (.getfield 76, 3) := by decide +kernel
theorem dX4_cut_83 : decode cX4_cut 83 = .ok (.iload_n 2, 1) := by decide +kernel
theorem dX4_cut_84 : decode cX4_cut 84 = .ok (.iastore, 1) := by decide +kernel
theorem dX4_cut_85 : decode cX4_cut 85 = .ok (.aload_n 0, 1) := by decide +kernel
theorem dX4_cut_86 : decode cX4_cut 86 = .ok (.dup, 1) := by decide +kernel
theorem dX4_cut_87 : decode cX4_cut 87 = .ok (.getfield 76, 3) := by decide +kernel
theorem dX4_cut_90 : decode cX4_cut 90 = .ok (.iconst 1, 1) := by decide +kernel
theorem dX4_cut_91 : decode cX4_cut 91 = .ok (.iadd, 1) := by decide +kernel
theorem dX4_cut_92 : decode cX4_cut 92 = .ok (.putfield 76, 3) := by decide +kernel
theorem dX4_cut_95 : decode cX4_cut 95 = .ok (.iload_n 2, 1) := by decide +kernel
theorem dX4_cut_96 : decode cX4_cut 96 = .ok (.istore_n 1, 1) := by decide +kernel
theorem dX4_cut_97 : decode cX4_cut 97 = .ok (.iinc 2 1, 3) := by decide +kernel
theorem dX4_cut_100 : decode cX4_cut 100 = .ok (.goto (-91), 3) := by decide +kernel
theorem dX4_cut_103 : decode cX4_cut 103 = .ok (.return_, 1) := by decide +kernel
theorem dX4_beginOf_0 : decode cX4_beginOf 0 = .ok (.iload_n 1, 1) := by decide +kernel
theorem dX4_beginOf_1 : decode cX4_beginOf 1 = .ok (.ifCond .ne 7, 3) := by decide +kernel
theorem dX4_beginOf_4 : decode cX4_beginOf 4 = .ok (.iconst 0, 1) := by decide +kernel
theorem dX4_beginOf_5 : decode cX4_beginOf 5 = .ok (.goto 11, 3) := by decide +kernel
theorem dX4_beginOf_8 : decode cX4_beginOf 8 = .ok (.aload_n 0, 1) := by decide +kernel
theorem dX4_beginOf_9 : decode cX4_beginOf 9 = .ok (.getfield 26, 3) := by decide +kernel
theorem dX4_beginOf_12 : decode cX4_beginOf 12 = .ok (.iload_n 1, 1) := by decide +kernel
theorem dX4_beginOf_13 : decode cX4_beginOf 13 = .ok (.iconst 1, 1) := by decide +kernel
theorem dX4_beginOf_14 : decode cX4_beginOf 14 = .ok (.isub, 1) := by decide +kernel
theorem dX4_beginOf_15 : decode cX4_beginOf 15 = .ok (.iaload, 1) := by decide +kernel
theorem dX4_beginOf_16 : decode cX4_beginOf 16 = .ok (.ireturn, 1) := by decide +kernel
theorem dX4_isPart_0 : decode cX4_isPart 0 = .ok (.aload_n 0, 1) := by decide +kernel
theorem dX4_isPart_1 : decode cX4_isPart 1 = .ok (.getfield 48, 3) := by decide +kernel
theorem dX4_isPart_4 : decode cX4_isPart 4 = .ok (.iload_n 1, 1) := by decide +kernel
theorem dX4_isPart_5 : decode cX4_isPart 5 = .ok (.iaload, 1) := by decide +kernel
theorem dX4_isPart_6 : decode cX4_isPart 6 = .ok (.ifCond .gt 12, 3) := by decide +kernel
theorem dX4_isPart_9 : decode cX4_isPart 9 = .ok (.aload_n 0, 1) := by decide +kernel
theorem dX4_isPart_10 : decode cX4_isPart 10 = .ok (.getfield 32, 3) := by decide +kernel
theorem dX4_isPart_13 : decode cX4_isPart 13 = .ok (.iload_n 1, 1) := by decide +kernel
theorem dX4_isPart_14 : decode cX4_isPart 14 = .ok (.baload, 1) := by decide +kernel
theorem dX4_isPart_15 : decode cX4_isPart 15 = .ok (.ifCond .eq 19, 3) := by decide +kernel
theorem dX4_isPart_18 : decode cX4_isPart 18 = .ok (.aload_n 0, 1) := by decide +kernel
theorem dX4_isPart_19 : decode cX4_isPart 19 = .ok (.getfield 51, 3) := by decide +kernel
theorem dX4_isPart_22 : decode cX4_isPart 22 = .ok (.iload_n 1, 1) := by decide +kernel
theorem dX4_isPart_23 : decode cX4_isPart 23 = .ok (.iaload, 1) := by decide +kernel
theorem dX4_isPart_24 : decode cX4_isPart 24 = .ok (.iload_n 3, 1) := by decide +kernel
theorem dX4_isPart_25 : decode cX4_isPart 25 = .ok (.iload_n 2, 1) := by decide +kernel
theorem dX4_isPart_26 : decode cX4_isPart 26 = .ok (.isub, 1) := by decide +kernel
theorem dX4_isPart_27 : decode cX4_isPart 27 = .ok (.if_icmp .ne 7, 3) := by decide +kernel
theorem dX4_isPart_30 : decode cX4_isPart 30 = .ok (.iconst 1, 1) := by decide +kernel
theorem dX4_isPart_31 : decode cX4_isPart 31 = .ok (.goto 4, 3) := by decide +kernel
theorem dX4_isPart_34 : decode cX4_isPart 34 = .ok (.iconst 0, 1) := by decide +kernel
theorem dX4_isPart_35 : decode cX4_isPart 35 = .ok (.istore 4, 2) := by decide +kernel
theorem dX4_isPart_37 : decode cX4_isPart 37 = .ok (.iconst 0, 1) := by decide +kernel
theorem dX4_isPart_38 : decode cX4_isPart 38 = .ok (.istore 5, 2) := by decide +kernel
theorem dX4_isPart_40 : decode cX4_isPart 40 = .ok (.iload 5, 2) := by decide +kernel
theorem dX4_isPart_42 : decode cX4_isPart 42 = .ok (.iload_n 3, 1) := by decide +kernel
theorem dX4_isPart_43 : decode cX4_isPart 43 = .ok (.iload_n 2, 1) := by decide +kernel
theorem dX4_isPart_44 : decode cX4_isPart 44 = .ok (.isub, 1) := by decide +kernel
theorem dX4_isPart_45 : decode cX4_isPart 45 = .ok (.if_icmp .ge 45, 3) := by decide +kernel
theorem dX4_isPart_48 : decode cX4_isPart 48 = .ok (.iload 4, 2) := by decide +kernel
theorem dX4_isPart_50 : decode cX4_isPart 50 = .ok (.ifCond .eq 40, 3) := by decide +kernel
theorem dX4_isPart_53 : decode cX4_isPart 53 = .ok (.aload_n 0, 1) := by decide +kernel
theorem dX4_isPart_54 : decode cX4_isPart 54 = .ok (.getfield 54, 3) := by decide +kernel
theorem dX4_isPart_57 : decode cX4_isPart 57 = .ok (.bipush 64, 2) := by decide +kernel
theorem dX4_isPart_59 : decode cX4_isPart 59 = .ok (.iload_n 1, 1) := by decide +kernel
theorem dX4_isPart_60 : decode cX4_isPart 60 = .ok (.imul, 1) := by decide +kernel
theorem dX4_isPart_61 : decode cX4_isPart 61 = .ok (.iload 5, 2) := by decide +kernel
theorem dX4_isPart_63 : decode cX4_isPart 63 = .ok (.iadd, 1) := by decide +kernel
theorem dX4_isPart_64 : decode cX4_isPart 64 = .ok (.iaload, 1) := by decide +kernel
theorem dX4_isPart_65 : decode cX4_isPart 65 = .ok (.aload_n 0, 1) := by decide +kernel
theorem dX4_isPart_66 : decode cX4_isPart 66 = .ok (.getfield 23, 3) := by decide +kernel
theorem dX4_isPart_69 : decode cX4_isPart 69 = .ok (.iload_n 2, 1) := by decide +kernel
theorem dX4_isPart_70 : decode cX4_isPart 70 = .ok (.iload 5, 2) := by decide +kernel
theorem dX4_isPart_72 : decode cX4_isPart 72 = .ok (.iadd, 1) := by decide +kernel
theorem dX4_isPart_73 : decode cX4_isPart 73 = .ok (.iaload, 1) := by decide +kernel
theorem dX4_isPart_74 : decode cX4_isPart 74 = .ok (.if_icmp .ne 7, 3) := by decide +kernel
theorem dX4_isPart_77 : decode cX4_isPart 77 = .ok (.iconst 1, 1) := by decide +kernel
theorem dX4_isPart_78 : decode cX4_isPart 78 = .ok (.goto 4, 3) := by decide +kernel
theorem dX4_isPart_81 : decode cX4_isPart 81 = .ok (.iconst 0, 1) := by decide +kernel
theorem dX4_isPart_82 : decode cX4_isPart 82 = .ok (.istore 4, 2) := by decide +kernel
theorem dX4_isPart_84 : decode cX4_isPart 84 = .ok (.iinc 5 1, 3) := by decide +kernel
theorem dX4_isPart_87 : decode cX4_isPart 87 = .ok (.goto (-47), 3) := by decide +kernel
theorem dX4_isPart_90 : decode cX4_isPart 90 = .ok (.iload 4, 2) := by decide +kernel
theorem dX4_isPart_92 : decode cX4_isPart 92 = .ok (.ireturn, 1) := by decide +kernel
theorem dX4_numberOf_0 : decode cX4_numberOf 0 = .ok (.iconst (-1), 1) := by decide +kernel
theorem dX4_numberOf_1 : decode cX4_numberOf 1 = .ok (.istore_n 3, 1) := by decide +kernel
theorem dX4_numberOf_2 : decode cX4_numberOf 2 = .ok (.iconst 0, 1) := by decide +kernel
theorem dX4_numberOf_3 : decode cX4_numberOf 3 = .ok (.istore 4, 2) := by decide +kernel
theorem dX4_numberOf_5 : decode cX4_numberOf 5 = .ok (.iload 4, 2) := by decide +kernel
theorem dX4_numberOf_7 : decode cX4_numberOf 7 = .ok (.sipush 400, 3) := by decide +kernel
theorem dX4_numberOf_10 : decode cX4_numberOf 10 = .ok (.if_icmp .ge 54, 3) := by decide +kernel
theorem dX4_numberOf_13 : decode cX4_numberOf 13 = .ok (.aload_n 0, 1) := by decide +kernel
theorem dX4_numberOf_14 : decode cX4_numberOf 14 = .ok (.iload 4, 2) := by decide +kernel
theorem dX4_numberOf_16 : decode cX4_numberOf 16 = .ok (.iload_n 1, 1) := by decide +kernel
theorem dX4_numberOf_17 : decode cX4_numberOf 17 = .ok (.iload_n 2, 1) := by decide +kernel
theorem dX4_numberOf_18 : decode cX4_numberOf 18 = .ok (.invokevirtual 86, 3) := by decide +kernel
theorem dX4_numberOf_21 : decode cX4_numberOf 21 = .ok (.ifCond .eq 6, 3) := by decide +kernel
theorem dX4_numberOf_24 : decode cX4_numberOf 24 = .ok (.iload 4, 2) := by decide +kernel
theorem dX4_numberOf_26 : decode cX4_numberOf 26 = .ok (.ireturn, 1) := by decide +kernel
theorem dX4_numberOf_27 : decode cX4_numberOf 27 = .ok (.iload_n 3, 1) := by decide +kernel
theorem dX4_numberOf_28 : decode cX4_numberOf 28 = .ok (.ifCond .ge 28, 3) := by decide +kernel
theorem dX4_numberOf_31 : decode cX4_numberOf 31 = .ok (.aload_n 0, 1) := by decide +kernel
theorem dX4_numberOf_32 : decode cX4_numberOf 32 = .ok (.getfield 48, 3) := by decide +kernel
theorem dX4_numberOf_35 : decode cX4_numberOf 35 = .ok (.iload 4, 2) := by decide +kernel
theorem dX4_numberOf_37 : decode cX4_numberOf 37 = .ok (.iaload, 1) := by decide +kernel
theorem dX4_numberOf_38 : decode cX4_numberOf 38 = .ok (.ifCond .ne 18, 3) := by decide +kernel
theorem dX4_numberOf_41 : decode cX4_numberOf 41 = .ok (.aload_n 0, 1) := by decide +kernel
theorem dX4_numberOf_42 : decode cX4_numberOf 42 = .ok (.getfield 32, 3) := by decide +kernel
theorem dX4_numberOf_45 : decode cX4_numberOf 45 = .ok (.iload 4, 2) := by decide +kernel
theorem dX4_numberOf_47 : decode cX4_numberOf 47 = .ok (.baload, 1) := by decide +kernel
theorem dX4_numberOf_48 : decode cX4_numberOf 48 = .ok (.ifCond .ne 8, 3) := by decide +kernel
theorem dX4_numberOf_51 : decode cX4_numberOf 51 = .ok (.iload 4, 2) := by decide +kernel
theorem dX4_numberOf_53 : decode cX4_numberOf 53 = .ok (.goto 4, 3) := by decide +kernel
theorem dX4_numberOf_56 : decode cX4_numberOf 56 = .ok (.iload_n 3, 1) := by decide +kernel
theorem dX4_numberOf_57 : decode cX4_numberOf 57 = .ok (.istore_n 3, 1) := by decide +kernel
theorem dX4_numberOf_58 : decode cX4_numberOf 58 = .ok (.iinc 4 1, 3) := by decide +kernel
theorem dX4_numberOf_61 : decode cX4_numberOf 61 = .ok (.goto (-56), 3) := by decide +kernel
theorem dX4_numberOf_64 : decode cX4_numberOf 64 = .ok (.iload_n 3, 1) := by decide +kernel
theorem dX4_numberOf_65 : decode cX4_numberOf 65 = .ok (.ifCond .lt 57, 3) := by decide +kernel
theorem dX4_numberOf_68 : decode cX4_numberOf 68 = .ok (.aload_n 0, 1) := by decide +kernel
theorem dX4_numberOf_69 : decode cX4_numberOf 69 = .ok (.getfield 32, 3) := by decide +kernel
theorem dX4_numberOf_72 : decode cX4_numberOf 72 = .ok (.iload_n 3, 1) := by decide +kernel
theorem dX4_numberOf_73 : decode cX4_numberOf 73 = .ok (.iconst 1, 1) := by decide +kernel
theorem dX4_numberOf_74 : decode cX4_numberOf 74 = .ok (.bastore, 1) := by decide +kernel
theorem dX4_numberOf_75 : decode cX4_numberOf 75 = .ok (.aload_n 0, 1) := by decide +kernel
theorem dX4_numberOf_76 : decode cX4_numberOf 76 = .ok (.getfield 51, 3) := by decide +kernel
theorem dX4_numberOf_79 : decode cX4_numberOf 79 = .ok (.iload_n 3, 1) := by decide +kernel
theorem dX4_numberOf_80 : decode cX4_numberOf 80 = .ok (.iload_n 2, 1) := by decide +kernel
theorem dX4_numberOf_81 : decode cX4_numberOf 81 = .ok (.iload_n 1, 1) := by decide +kernel
theorem dX4_numberOf_82 : decode cX4_numberOf 82 = .ok (.isub, 1) := by decide +kernel
theorem dX4_numberOf_83 : decode cX4_numberOf 83 = .ok (.iastore, 1) := by decide +kernel
theorem dX4_numberOf_84 : decode cX4_numberOf 84 = .ok (.iconst 0, 1) := by decide +kernel
theorem dX4_numberOf_85 : decode cX4_numberOf 85 = .ok (.istore 4, 2) := by decide +kernel
theorem dX4_numberOf_87 : decode cX4_numberOf 87 = .ok (.iload 4, 2) := by decide +kernel
theorem dX4_numberOf_89 : decode cX4_numberOf 89 = .ok (.iload_n 2, 1) := by decide +kernel
theorem dX4_numberOf_90 : decode cX4_numberOf 90 = .ok (.iload_n 1, 1) := by decide +kernel
theorem dX4_numberOf_91 : decode cX4_numberOf 91 = .ok (.isub, 1) := by decide +kernel
theorem dX4_numberOf_92 : decode cX4_numberOf 92 = .ok (.if_icmp .ge 30, 3) := by decide +kernel
theorem dX4_numberOf_95 : decode cX4_numberOf 95 = .ok (.aload_n 0, 1) := by decide +kernel
theorem dX4_numberOf_96 : decode cX4_numberOf 96 = .ok (.getfield 54, 3) := by decide +kernel
theorem dX4_numberOf_99 : decode cX4_numberOf 99 = .ok (.bipush 64, 2) := by decide +kernel
theorem dX4_numberOf_101 : decode cX4_numberOf 101 = .ok (.iload_n 3, 1) := by decide +kernel
theorem dX4_numberOf_102 : decode cX4_numberOf 102 = .ok (.imul, 1) := by decide +kernel
theorem dX4_numberOf_103 : decode cX4_numberOf 103 = .ok (.iload 4, 2) := by decide +kernel
theorem dX4_numberOf_105 : decode cX4_numberOf 105 = .ok (.iadd, 1) := by decide +kernel
theorem dX4_numberOf_106 : decode cX4_numberOf 106 = .ok (.aload_n 0, 1) := by decide +kernel
theorem dX4_numberOf_107 : decode cX4_numberOf 107 = .ok (.getfield 23, 3) := by decide +kernel
theorem dX4_numberOf_110 : decode cX4_numberOf 110 = .ok (.iload_n 1, 1) := by decide +kernel
theorem dX4_numberOf_111 : decode cX4_numberOf 111 = .ok (.iload 4, 2) := by decide +kernel
theorem dX4_numberOf_113 : decode cX4_numberOf 113 = .ok (.iadd, 1) := by decide +kernel
theorem dX4_numberOf_114 : decode cX4_numberOf 114 = .ok (.iaload, 1) := by decide +kernel
theorem dX4_numberOf_115 : decode cX4_numberOf 115 = .ok (.iastore, 1) := by decide +kernel
theorem dX4_numberOf_116 : decode cX4_numberOf 116 = .ok (.iinc 4 1, 3) := by decide +kernel
theorem dX4_numberOf_119 : decode cX4_numberOf 119 = .ok (.goto (-32), 3) := by decide +kernel
theorem dX4_numberOf_122 : decode cX4_numberOf 122 = .ok (.iload_n 3, 1) := by decide +kernel
theorem dX4_numberOf_123 : decode cX4_numberOf 123 = .ok (.ireturn, 1) := by decide +kernel
theorem dX4_give_0 : decode cX4_give 0 = .ok (.iconst 0, 1) := by decide +kernel
theorem dX4_give_1 : decode cX4_give 1 = .ok (.istore_n 1, 1) := by decide +kernel
theorem dX4_give_2 : decode cX4_give 2 = .ok (.iload_n 1, 1) := by decide +kernel
theorem dX4_give_3 : decode cX4_give 3 = .ok (.sipush 400, 3) := by decide +kernel
theorem dX4_give_6 : decode cX4_give 6 = .ok (.if_icmp .ge 16, 3) := by decide +kernel
theorem dX4_give_9 : decode cX4_give 9 = .ok (.aload_n 0, 1) := by decide +kernel
theorem dX4_give_10 : decode cX4_give 10 = .ok (.getfield 32, 3) := by decide +kernel
theorem dX4_give_13 : decode cX4_give 13 = .ok (.iload_n 1, 1) := by decide +kernel
theorem dX4_give_14 : decode cX4_give 14 = .ok (.iconst 0, 1) := by decide +kernel
theorem dX4_give_15 : decode cX4_give 15 = .ok (.bastore, 1) := by decide +kernel
theorem dX4_give_16 : decode cX4_give 16 = .ok (.iinc 1 1, 3) := by decide +kernel
theorem dX4_give_19 : decode cX4_give 19 = .ok (.goto (-17), 3) := by decide +kernel
theorem dX4_give_22 : decode cX4_give 22 = .ok (.aload_n 0, 1) := by decide +kernel
theorem dX4_give_23 : decode cX4_give 23 = .ok (.invokevirtual 89, 3) := by decide +kernel
theorem dX4_give_26 : decode cX4_give 26 = .ok (.iconst 1, 1) := by decide +kernel
theorem dX4_give_27 : decode cX4_give 27 = .ok (.istore_n 1, 1) := by decide +kernel
theorem dX4_give_28 : decode cX4_give 28 = .ok (.iconst 0, 1) := by decide +kernel
theorem dX4_give_29 : decode cX4_give 29 = .ok (.istore_n 2, 1) := by decide +kernel
theorem dX4_give_30 : decode cX4_give 30 = .ok (.iload_n 2, 1) := by decide +kernel
theorem dX4_give_31 : decode cX4_give 31 = .ok (.aload_n 0, 1) := by decide +kernel
theorem dX4_give_32 : decode cX4_give 32 = .ok (.getfield 76, 3) := by decide +kernel
theorem dX4_give_35 : decode cX4_give 35 = .ok (.if_icmp .ge 49, 3) := by decide +kernel
theorem dX4_give_38 : decode cX4_give 38 = .ok (.iload_n 1, 1) := by decide +kernel
theorem dX4_give_39 : decode cX4_give 39 = .ok (.ifCond .eq 45, 3) := by decide +kernel
theorem dX4_give_42 : decode cX4_give 42 = .ok (.aload_n 0, 1) := by decide +kernel
theorem dX4_give_43 : decode cX4_give 43 = .ok (.getfield 29, 3) := by decide +kernel
theorem dX4_give_46 : decode cX4_give 46 = .ok (.iload_n 2, 1) := by decide +kernel
theorem dX4_give_47 : decode cX4_give 47 = .ok (.aload_n 0, 1) := by decide +kernel
theorem dX4_give_48 : decode cX4_give 48 = .ok (.aload_n 0, 1) := by decide +kernel
theorem dX4_give_49 : decode cX4_give 49 = .ok (.iload_n 2, 1) := by decide +kernel
theorem dX4_give_50 : decode cX4_give 50 = .ok (.invokevirtual 92, 3) := by decide +kernel
theorem dX4_give_53 : decode cX4_give 53 = .ok (.aload_n 0, 1) := by decide +kernel
theorem dX4_give_54 : decode cX4_give 54 = .ok (.getfield 26, 3) := by decide +kernel
theorem dX4_give_57 : decode cX4_give 57 = .ok (.iload_n 2, 1) := by decide +kernel
theorem dX4_give_58 : decode cX4_give 58 = .ok (.iaload, 1) := by decide +kernel
theorem dX4_give_59 : decode cX4_give 59 = .ok (.invokevirtual 95, 3) := by decide +kernel
theorem dX4_give_62 : decode cX4_give 62 = .ok (.iastore, 1) := by decide +kernel
theorem dX4_give_63 : decode cX4_give 63 = .ok (.aload_n 0, 1) := by decide +kernel
theorem dX4_give_64 : decode cX4_give 64 = .ok (.getfield 29, 3) := by decide +kernel
theorem dX4_give_67 : decode cX4_give 67 = .ok (.iload_n 2, 1) := by decide +kernel
theorem dX4_give_68 : decode cX4_give 68 = .ok (.iaload, 1) := by decide +kernel
theorem dX4_give_69 : decode cX4_give 69 = .ok (.ifCond .lt 7, 3) := by decide +kernel
theorem dX4_give_72 : decode cX4_give 72 = .ok (.iconst 1, 1) := by decide +kernel
theorem dX4_give_73 : decode cX4_give 73 = .ok (.goto 4, 3) := by decide +kernel
theorem dX4_give_76 : decode cX4_give 76 = .ok (.iconst 0, 1) := by decide +kernel
theorem dX4_give_77 : decode cX4_give 77 = .ok (.istore_n 1, 1) := by decide +kernel
theorem dX4_give_78 : decode cX4_give 78 = .ok (.iinc 2 1, 3) := by decide +kernel
theorem dX4_give_81 : decode cX4_give 81 = .ok (.goto (-51), 3) := by decide +kernel
theorem dX4_give_84 : decode cX4_give 84 = .ok (.iconst 0, 1) := by decide +kernel
theorem dX4_give_85 : decode cX4_give 85 = .ok (.istore_n 2, 1) := by decide +kernel
theorem dX4_give_86 : decode cX4_give 86 = .ok (.iconst 0, 1) := by decide +kernel
theorem dX4_give_87 : decode cX4_give 87 = .ok (.istore_n 3, 1) := by decide +kernel
theorem dX4_give_88 : decode cX4_give 88 = .ok (.iload_n 3, 1) := by decide +kernel
theorem dX4_give_89 : decode cX4_give 89 = .ok (.sipush 400, 3) := by decide +kernel
theorem dX4_give_92 : decode cX4_give 92 = .ok (.if_icmp .ge 26, 3) := by decide +kernel
theorem dX4_give_95 : decode cX4_give 95 = .ok (.aload_n 0, 1) := by decide +kernel
theorem dX4_give_96 : decode cX4_give 96 = .ok (.getfield 32, 3) := by decide +kernel
theorem dX4_give_99 : decode cX4_give 99 = .ok (.iload_n 3, 1) := by decide +kernel
theorem dX4_give_100 : decode cX4_give 100 = .ok (.baload, 1) := by decide +kernel
theorem dX4_give_101 : decode cX4_give 101 = .ok (.ifCond .eq 9, 3) := by decide +kernel
theorem dX4_give_104 : decode cX4_give 104 = .ok (.iload_n 2, 1) := by decide +kernel
theorem dX4_give_105 : decode cX4_give 105 = .ok (.iconst 1, 1) := by decide +kernel
theorem dX4_give_106 : decode cX4_give 106 = .ok (.iadd, 1) := by decide +kernel
theorem dX4_give_107 : decode cX4_give 107 = .ok (.goto 4, 3) := by decide +kernel
theorem dX4_give_110 : decode cX4_give 110 = .ok (.iload_n 2, 1) := by decide +kernel
theorem dX4_give_111 : decode cX4_give 111 = .ok (.istore_n 2, 1) := by decide +kernel
theorem dX4_give_112 : decode cX4_give 112 = .ok (.iinc 3 1, 3) := by decide +kernel
theorem dX4_give_115 : decode cX4_give 115 = .ok (.goto (-27), 3) := by decide +kernel
theorem dX4_give_118 : decode cX4_give 118 = .ok (.iload_n 1, 1) := by decide +kernel
theorem dX4_give_119 : decode cX4_give 119 = .ok (.ifCond .eq 7, 3) := by decide +kernel
theorem dX4_give_122 : decode cX4_give 122 = .ok (.iload_n 2, 1) := by decide +kernel
theorem dX4_give_123 : decode cX4_give 123 = .ok (.goto 4, 3) := by decide +kernel
theorem dX4_give_126 : decode cX4_give 126 = .ok (.iconst (-1), 1) := by decide +kernel
theorem dX4_give_127 : decode cX4_give 127 = .ok (.ireturn, 1) := by decide +kernel
theorem dX4_take_0 : decode cX4_take 0 = .ok (.iconst 0, 1) := by decide +kernel
theorem dX4_take_1 : decode cX4_take 1 = .ok (.istore_n 2, 1) := by decide +kernel
theorem dX4_take_2 : decode cX4_take 2 = .ok (.iload_n 2, 1) := by decide +kernel
theorem dX4_take_3 : decode cX4_take 3 = .ok (.aload_n 0, 1) := by decide +kernel
theorem dX4_take_4 : decode cX4_take 4 = .ok (.getfield 76, 3) := by decide +kernel
theorem dX4_take_7 : decode cX4_take 7 = .ok (.if_icmp .ge 24, 3) := by decide +kernel
theorem dX4_take_10 : decode cX4_take 10 = .ok (.aload_n 0, 1) := by decide +kernel
theorem dX4_take_11 : decode cX4_take 11 = .ok (.getfield 48, 3) := by decide +kernel
theorem dX4_take_14 : decode cX4_take 14 = .ok (.aload_n 0, 1) := by decide +kernel
theorem dX4_take_15 : decode cX4_take 15 = .ok (.getfield 29, 3) := by decide +kernel
theorem dX4_take_18 : decode cX4_take 18 = .ok (.iload_n 2, 1) := by decide +kernel
theorem dX4_take_19 : decode cX4_take 19 = .ok (.iaload, 1) := by decide +kernel
theorem dX4_take_20 : decode cX4_take 20 = .ok (.dup2, 1) := by decide +kernel
theorem dX4_take_21 : decode cX4_take 21 = .ok (.iaload, 1) := by decide +kernel
theorem dX4_take_22 : decode cX4_take 22 = .ok (.iconst 1, 1) := by decide +kernel
theorem dX4_take_23 : decode cX4_take 23 = .ok (.iadd, 1) := by decide +kernel
theorem dX4_take_24 : decode cX4_take 24 = .ok (.iastore, 1) := by decide +kernel
theorem dX4_take_25 : decode cX4_take 25 = .ok (.iinc 2 1, 3) := by decide +kernel
theorem dX4_take_28 : decode cX4_take 28 = .ok (.goto (-26), 3) := by decide +kernel
theorem dX4_take_31 : decode cX4_take 31 = .ok (.iconst 0, 1) := by decide +kernel
theorem dX4_take_32 : decode cX4_take 32 = .ok (.istore_n 2, 1) := by decide +kernel
theorem dX4_take_33 : decode cX4_take 33 = .ok (.iload_n 2, 1) := by decide +kernel
theorem dX4_take_34 : decode cX4_take 34 = .ok (.aload_n 0, 1) := by decide +kernel
theorem dX4_take_35 : decode cX4_take 35 = .ok (.getfield 42, 3) := by decide +kernel
theorem dX4_take_38 : decode cX4_take 38 = .ok (.iload_n 1, 1) := by decide +kernel
theorem dX4_take_39 : decode cX4_take 39 = .ok (.iaload, 1) := by decide +kernel
theorem dX4_take_40 : decode cX4_take 40 = .ok (.if_icmp .ge 30, 3) := by decide +kernel
theorem dX4_take_43 : decode cX4_take 43 = .ok (.aload_n 0, 1) := by decide +kernel
theorem dX4_take_44 : decode cX4_take 44 = .ok (.getfield 48, 3) := by decide +kernel
theorem dX4_take_47 : decode cX4_take 47 = .ok (.aload_n 0, 1) := by decide +kernel
theorem dX4_take_48 : decode cX4_take 48 = .ok (.getfield 45, 3) := by decide +kernel
theorem dX4_take_51 : decode cX4_take 51 = .ok (.sipush 1500, 3) := by decide +kernel
theorem dX4_take_54 : decode cX4_take 54 = .ok (.iload_n 1, 1) := by decide +kernel
theorem dX4_take_55 : decode cX4_take 55 = .ok (.imul, 1) := by decide +kernel
theorem dX4_take_56 : decode cX4_take 56 = .ok (.iload_n 2, 1) := by decide +kernel
theorem dX4_take_57 : decode cX4_take 57 = .ok (.iadd, 1) := by decide +kernel
theorem dX4_take_58 : decode cX4_take 58 = .ok (.iaload, 1) := by decide +kernel
theorem dX4_take_59 : decode cX4_take 59 = .ok (.dup2, 1) := by decide +kernel
theorem dX4_take_60 : decode cX4_take 60 = .ok (.iaload, 1) := by decide +kernel
theorem dX4_take_61 : decode cX4_take 61 = .ok (.iconst 1, 1) := by decide +kernel
theorem dX4_take_62 : decode cX4_take 62 = .ok (.isub, 1) := by decide +kernel
theorem dX4_take_63 : decode cX4_take 63 = .ok (.iastore, 1) := by decide +kernel
theorem dX4_take_64 : decode cX4_take 64 = .ok (.iinc 2 1, 3) := by decide +kernel
theorem dX4_take_67 : decode cX4_take 67 = .ok (.goto (-34), 3) := by decide +kernel
theorem dX4_take_70 : decode cX4_take 70 = .ok (.aload_n 0, 1) := by decide +kernel
theorem dX4_take_71 : decode cX4_take 71 = .ok (.getfield 36, 3) := by decide +kernel
theorem dX4_take_74 : decode cX4_take 74 = .ok (.iload_n 1, 1) := by decide +kernel
theorem dX4_take_75 : decode cX4_take 75 = .ok (.aload_n 0, 1) := by decide +kernel
theorem dX4_take_76 : decode cX4_take 76 = .ok (.getfield 79, 3) := by decide +kernel
theorem dX4_take_79 : decode cX4_take 79 = .ok (.iastore, 1) := by decide +kernel
theorem dX4_take_80 : decode cX4_take 80 = .ok (.aload_n 0, 1) := by decide +kernel
theorem dX4_take_81 : decode cX4_take 81 = .ok (.getfield 42, 3) := by decide +kernel
theorem dX4_take_84 : decode cX4_take 84 = .ok (.iload_n 1, 1) := by decide +kernel
theorem dX4_take_85 : decode cX4_take 85 = .ok (.aload_n 0, 1) := by decide +kernel
theorem dX4_take_86 : decode cX4_take 86 = .ok (.getfield 76, 3) := by decide +kernel
theorem dX4_take_89 : decode cX4_take 89 = .ok (.iastore, 1) := by decide +kernel
theorem dX4_take_90 : decode cX4_take 90 = .ok (.iconst 0, 1) := by decide +kernel
theorem dX4_take_91 : decode cX4_take 91 = .ok (.istore_n 2, 1) := by decide +kernel
theorem dX4_take_92 : decode cX4_take 92 = .ok (.iload_n 2, 1) := by decide +kernel
theorem dX4_take_93 : decode cX4_take 93 = .ok (.aload_n 0, 1) := by decide +kernel
theorem dX4_take_94 : decode cX4_take 94 = .ok (.getfield 79, 3) := by decide +kernel
theorem dX4_take_97 : decode cX4_take 97 = .ok (.if_icmp .ge 27, 3) := by decide +kernel
theorem dX4_take_100 : decode cX4_take 100 = .ok (.aload_n 0, 1) := by decide +kernel
theorem dX4_take_101 : decode cX4_take 101 = .ok (.getfield 39, 3) := by decide +kernel
theorem dX4_take_104 : decode cX4_take 104 = .ok (.sipush 1500, 3) := by decide +kernel
theorem dX4_take_107 : decode cX4_take 107 = .ok (.iload_n 1, 1) := by decide +kernel
theorem dX4_take_108 : decode cX4_take 108 = .ok (.imul, 1) := by decide +kernel
theorem dX4_take_109 : decode cX4_take 109 = .ok (.iload_n 2, 1) := by decide +kernel
theorem dX4_take_110 : decode cX4_take 110 = .ok (.iadd, 1) := by decide +kernel
theorem dX4_take_111 : decode cX4_take 111 = .ok (.aload_n 0, 1) := by decide +kernel
theorem dX4_take_112 : decode cX4_take 112 = .ok (.getfield 23, 3) := by decide +kernel
theorem dX4_take_115 : decode cX4_take 115 = .ok (.iload_n 2, 1) := by decide +kernel
theorem dX4_take_116 : decode cX4_take 116 = .ok (.iaload, 1) := by decide +kernel
theorem dX4_take_117 : decode cX4_take 117 = .ok (.iastore, 1) := by decide +kernel
theorem dX4_take_118 : decode cX4_take 118 = .ok (.iinc 2 1, 3) := by decide +kernel
theorem dX4_take_121 : decode cX4_take 121 = .ok (.goto (-29), 3) := by decide +kernel
theorem dX4_take_124 : decode cX4_take 124 = .ok (.iconst 0, 1) := by decide +kernel
theorem dX4_take_125 : decode cX4_take 125 = .ok (.istore_n 2, 1) := by decide +kernel
theorem dX4_take_126 : decode cX4_take 126 = .ok (.iload_n 2, 1) := by decide +kernel
theorem dX4_take_127 : decode cX4_take 127 = .ok (.aload_n 0, 1) := by decide +kernel
theorem dX4_take_128 : decode cX4_take 128 = .ok (.getfield 76, 3) := by decide +kernel
theorem dX4_take_131 : decode cX4_take 131 = .ok (.if_icmp .ge 27, 3) := by decide +kernel
theorem dX4_take_134 : decode cX4_take 134 = .ok (.aload_n 0, 1) := by decide +kernel
theorem dX4_take_135 : decode cX4_take 135 = .ok (.getfield 45, 3) := by decide +kernel
theorem dX4_take_138 : decode cX4_take 138 = .ok (.sipush 1500, 3) := by decide +kernel
theorem dX4_take_141 : decode cX4_take 141 = .ok (.iload_n 1, 1) := by decide +kernel
theorem dX4_take_142 : decode cX4_take 142 = .ok (.imul, 1) := by decide +kernel
theorem dX4_take_143 : decode cX4_take 143 = .ok (.iload_n 2, 1) := by decide +kernel
theorem dX4_take_144 : decode cX4_take 144 = .ok (.iadd, 1) := by decide +kernel
theorem dX4_take_145 : decode cX4_take 145 = .ok (.aload_n 0, 1) := by decide +kernel
theorem dX4_take_146 : decode cX4_take 146 = .ok (.getfield 29, 3) := by decide +kernel
theorem dX4_take_149 : decode cX4_take 149 = .ok (.iload_n 2, 1) := by decide +kernel
theorem dX4_take_150 : decode cX4_take 150 = .ok (.iaload, 1) := by decide +kernel
theorem dX4_take_151 : decode cX4_take 151 = .ok (.iastore, 1) := by decide +kernel
theorem dX4_take_152 : decode cX4_take 152 = .ok (.iinc 2 1, 3) := by decide +kernel
theorem dX4_take_155 : decode cX4_take 155 = .ok (.goto (-29), 3) := by decide +kernel
theorem dX4_take_158 : decode cX4_take 158 = .ok (.return_, 1) := by decide +kernel
theorem dX4_store_0 : decode cX4_store 0 = .ok (.aload_n 0, 1) := by decide +kernel
theorem dX4_store_1 : decode cX4_store 1 = .ok (.iload_n 1, 1) := by decide +kernel
theorem dX4_store_2 : decode cX4_store 2 = .ok (.invokestatic 98, 3) := by decide +kernel
theorem dX4_store_5 : decode cX4_store 5 = .ok (.ifCond .ne 7, 3) := by decide +kernel
theorem dX4_store_8 : decode cX4_store 8 = .ok (.iconst 1, 1) := by decide +kernel
theorem dX4_store_9 : decode cX4_store 9 = .ok (.goto 4, 3) := by decide +kernel
theorem dX4_store_12 : decode cX4_store 12 = .ok (.iconst 0, 1) := by decide +kernel
theorem dX4_store_13 : decode cX4_store 13 = .ok (.iconst 0, 1) := by decide +kernel
theorem dX4_store_14 : decode cX4_store 14 = .ok (.iconst 0, 1) := by decide +kernel
theorem dX4_store_15 : decode cX4_store 15 = .ok (.invokevirtual 64, 3) := by decide +kernel
theorem dX4_store_18 : decode cX4_store 18 = .ok (.ifCond .eq 5, 3) := by decide +kernel
theorem dX4_store_21 : decode cX4_store 21 = .ok (.iconst 0, 1) := by decide +kernel
theorem dX4_store_22 : decode cX4_store 22 = .ok (.ireturn, 1) := by decide +kernel
theorem dX4_store_23 : decode cX4_store 23 = .ok (.aload_n 0, 1) := by decide +kernel
theorem dX4_store_24 : decode cX4_store 24 = .ok (.aload_n 0, 1) := by decide +kernel
theorem dX4_store_25 : decode cX4_store 25 = .ok (.getfield 68, 3) := by decide +kernel
theorem dX4_store_28 : decode cX4_store 28 = .ok (.putfield 79, 3) := by decide +kernel
theorem dX4_store_31 : decode cX4_store 31 = .ok (.iconst 0, 1) := by decide +kernel
theorem dX4_store_32 : decode cX4_store 32 = .ok (.istore_n 2, 1) := by decide +kernel
theorem dX4_store_33 : decode cX4_store 33 = .ok (.iload_n 2, 1) := by decide +kernel
theorem dX4_store_34 : decode cX4_store 34 = .ok (.aload_n 0, 1) := by decide +kernel
theorem dX4_store_35 : decode cX4_store 35 = .ok (.getfield 79, 3) := by decide +kernel
theorem dX4_store_38 : decode cX4_store 38 = .ok (.if_icmp .ge 21, 3) := by decide +kernel
theorem dX4_store_41 : decode cX4_store 41 = .ok (.aload_n 0, 1) := by decide +kernel
theorem dX4_store_42 : decode cX4_store 42 = .ok (.getfield 23, 3) := by decide +kernel
theorem dX4_store_45 : decode cX4_store 45 = .ok (.iload_n 2, 1) := by decide +kernel
theorem dX4_store_46 : decode cX4_store 46 = .ok (.aload_n 0, 1) := by decide +kernel
theorem dX4_store_47 : decode cX4_store 47 = .ok (.getfield 19, 3) := by decide +kernel
theorem dX4_store_50 : decode cX4_store 50 = .ok (.iload_n 2, 1) := by decide +kernel
theorem dX4_store_51 : decode cX4_store 51 = .ok (.iaload, 1) := by decide +kernel
theorem dX4_store_52 : decode cX4_store 52 = .ok (.iastore, 1) := by decide +kernel
theorem dX4_store_53 : decode cX4_store 53 = .ok (.iinc 2 1, 3) := by decide +kernel
theorem dX4_store_56 : decode cX4_store 56 = .ok (.goto (-23), 3) := by decide +kernel
theorem dX4_store_59 : decode cX4_store 59 = .ok (.aload_n 0, 1) := by decide +kernel
theorem dX4_store_60 : decode cX4_store 60 = .ok (.invokevirtual 102, 3) := by decide +kernel
theorem dX4_store_63 : decode cX4_store 63 = .ok (.istore_n 2, 1) := by decide +kernel
theorem dX4_store_64 : decode cX4_store 64 = .ok (.aload_n 0, 1) := by decide +kernel
theorem dX4_store_65 : decode cX4_store 65 = .ok (.iconst 0, 1) := by decide +kernel
theorem dX4_store_66 : decode cX4_store 66 = .ok (.iload_n 2, 1) := by decide +kernel
theorem dX4_store_67 : decode cX4_store 67 = .ok (.ifCond .ge 7, 3) := by decide +kernel
theorem dX4_store_70 : decode cX4_store 70 = .ok (.iconst 1, 1) := by decide +kernel
theorem dX4_store_71 : decode cX4_store 71 = .ok (.goto 4, 3) := by decide +kernel
theorem dX4_store_74 : decode cX4_store 74 = .ok (.iconst 0, 1) := by decide +kernel
theorem dX4_store_75 : decode cX4_store 75 = .ok (.iconst 0, 1) := by decide +kernel
theorem dX4_store_76 : decode cX4_store 76 = .ok (.invokevirtual 64, 3) := by decide +kernel
theorem dX4_store_79 : decode cX4_store 79 = .ok (.ifCond .eq 5, 3) := by decide +kernel
theorem dX4_store_82 : decode cX4_store 82 = .ok (.iconst 0, 1) := by decide +kernel
theorem dX4_store_83 : decode cX4_store 83 = .ok (.ireturn, 1) := by decide +kernel
theorem dX4_store_84 : decode cX4_store 84 = .ok (.aload_n 0, 1) := by decide +kernel
theorem dX4_store_85 : decode cX4_store 85 = .ok (.iload_n 1, 1) := by decide +kernel
theorem dX4_store_86 : decode cX4_store 86 = .ok (.invokevirtual 106, 3) := by decide +kernel
theorem dX4_store_89 : decode cX4_store 89 = .ok (.aload_n 0, 1) := by decide +kernel
theorem dX4_store_90 : decode cX4_store 90 = .ok (.iconst 0, 1) := by decide +kernel
theorem dX4_store_91 : decode cX4_store 91 = .ok (.putfield 68, 3) := by decide +kernel
theorem dX4_store_94 : decode cX4_store 94 = .ok (.iload_n 2, 1) := by decide +kernel
theorem dX4_store_95 : decode cX4_store 95 = .ok (.ireturn, 1) := by decide +kernel
theorem dX4_edit_0 : decode cX4_edit 0 = .ok (.iload_n 1, 1) := by decide +kernel
theorem dX4_edit_1 : decode cX4_edit 1 = .ok (.invokestatic 98, 3) := by decide +kernel
theorem dX4_edit_4 : decode cX4_edit 4 = .ok (.istore 4, 2) := by decide +kernel
theorem dX4_edit_6 : decode cX4_edit 6 = .ok (.iload 4, 2) := by decide +kernel
theorem dX4_edit_8 : decode cX4_edit 8 = .ok (.ifCond .eq 12, 3) := by decide +kernel
theorem dX4_edit_11 : decode cX4_edit 11 = .ok (.aload_n 0, 1) := by decide +kernel
theorem dX4_edit_12 : decode cX4_edit 12 = .ok (.getfield 36, 3) := by decide +kernel
theorem dX4_edit_15 : decode cX4_edit 15 = .ok (.iload_n 1, 1) := by decide +kernel
theorem dX4_edit_16 : decode cX4_edit 16 = .ok (.iaload, 1) := by decide +kernel
theorem dX4_edit_17 : decode cX4_edit 17 = .ok (.goto 4, 3) := by decide +kernel
theorem dX4_edit_20 : decode cX4_edit 20 = .ok (.iconst 0, 1) := by decide +kernel
theorem dX4_edit_21 : decode cX4_edit 21 = .ok (.istore 5, 2) := by decide +kernel
theorem dX4_edit_23 : decode cX4_edit 23 = .ok (.iload 4, 2) := by decide +kernel
theorem dX4_edit_25 : decode cX4_edit 25 = .ok (.ifCond .eq 29, 3) := by decide +kernel
theorem dX4_edit_28 : decode cX4_edit 28 = .ok (.iload_n 2, 1) := by decide +kernel
theorem dX4_edit_29 : decode cX4_edit 29 = .ok (.iconst 0, 1) := by decide +kernel
theorem dX4_edit_30 : decode cX4_edit 30 = .ok (.iload 5, 2) := by decide +kernel
theorem dX4_edit_32 : decode cX4_edit 32 = .ok (.invokestatic 60, 3) := by decide +kernel
theorem dX4_edit_35 : decode cX4_edit 35 = .ok (.ifCond .eq 19, 3) := by decide +kernel
theorem dX4_edit_38 : decode cX4_edit 38 = .ok (.iload_n 3, 1) := by decide +kernel
theorem dX4_edit_39 : decode cX4_edit 39 = .ok (.iconst 0, 1) := by decide +kernel
theorem dX4_edit_40 : decode cX4_edit 40 = .ok (.iload 5, 2) := by decide +kernel
theorem dX4_edit_42 : decode cX4_edit 42 = .ok (.iload_n 2, 1) := by decide +kernel
theorem dX4_edit_43 : decode cX4_edit 43 = .ok (.isub, 1) := by decide +kernel
theorem dX4_edit_44 : decode cX4_edit 44 = .ok (.invokestatic 60, 3) := by decide +kernel
theorem dX4_edit_47 : decode cX4_edit 47 = .ok (.ifCond .eq 7, 3) := by decide +kernel
theorem dX4_edit_50 : decode cX4_edit 50 = .ok (.iconst 1, 1) := by decide +kernel
theorem dX4_edit_51 : decode cX4_edit 51 = .ok (.goto 4, 3) := by decide +kernel
theorem dX4_edit_54 : decode cX4_edit 54 = .ok (.iconst 0, 1) := by decide +kernel
theorem dX4_edit_55 : decode cX4_edit 55 = .ok (.istore 6, 2) := by decide +kernel
theorem dX4_edit_57 : decode cX4_edit 57 = .ok (.aload_n 0, 1) := by decide +kernel
theorem dX4_edit_58 : decode cX4_edit 58 = .ok (.iload 4, 2) := by decide +kernel
theorem dX4_edit_60 : decode cX4_edit 60 = .ok (.ifCond .ne 7, 3) := by decide +kernel
theorem dX4_edit_63 : decode cX4_edit 63 = .ok (.iconst 1, 1) := by decide +kernel
theorem dX4_edit_64 : decode cX4_edit 64 = .ok (.goto 4, 3) := by decide +kernel
theorem dX4_edit_67 : decode cX4_edit 67 = .ok (.iconst 0, 1) := by decide +kernel
theorem dX4_edit_68 : decode cX4_edit 68 = .ok (.iload 4, 2) := by decide +kernel
theorem dX4_edit_70 : decode cX4_edit 70 = .ok (.ifCond .eq 12, 3) := by decide +kernel
theorem dX4_edit_73 : decode cX4_edit 73 = .ok (.iload 6, 2) := by decide +kernel
theorem dX4_edit_75 : decode cX4_edit 75 = .ok (.ifCond .ne 7, 3) := by decide +kernel
theorem dX4_edit_78 : decode cX4_edit 78 = .ok (.iconst 1, 1) := by decide +kernel
theorem dX4_edit_79 : decode cX4_edit 79 = .ok (.goto 4, 3) := by decide +kernel
theorem dX4_edit_82 : decode cX4_edit 82 = .ok (.iconst 0, 1) := by decide +kernel
theorem dX4_edit_83 : decode cX4_edit 83 = .ok (.iload 6, 2) := by decide +kernel
theorem dX4_edit_85 : decode cX4_edit 85 = .ok (.ifCond .eq 22, 3) := by decide +kernel
theorem dX4_edit_88 : decode cX4_edit 88 = .ok (.iload 5, 2) := by decide +kernel
theorem dX4_edit_90 : decode cX4_edit 90 = .ok (.iload_n 3, 1) := by decide +kernel
theorem dX4_edit_91 : decode cX4_edit 91 = .ok (.isub, 1) := by decide +kernel
theorem dX4_edit_92 : decode cX4_edit 92 = .ok (.aload_n 0, 1) := by decide +kernel
theorem dX4_edit_93 : decode cX4_edit 93 = .ok (.getfield 68, 3) := by decide +kernel
theorem dX4_edit_96 : decode cX4_edit 96 = .ok (.iadd, 1) := by decide +kernel
theorem dX4_edit_97 : decode cX4_edit 97 = .ok (.sipush 1500, 3) := by decide +kernel
theorem dX4_edit_100 : decode cX4_edit 100 = .ok (.if_icmp .le 7, 3) := by decide +kernel
theorem dX4_edit_103 : decode cX4_edit 103 = .ok (.iconst 1, 1) := by decide +kernel
theorem dX4_edit_104 : decode cX4_edit 104 = .ok (.goto 4, 3) := by decide +kernel
theorem dX4_edit_107 : decode cX4_edit 107 = .ok (.iconst 0, 1) := by decide +kernel
theorem dX4_edit_108 : decode cX4_edit 108 = .ok (.invokevirtual 64, 3) := by decide +kernel
theorem dX4_edit_111 : decode cX4_edit 111 = .ok (.ifCond .eq 5, 3) := by decide +kernel
theorem dX4_edit_114 : decode cX4_edit 114 = .ok (.iconst 0, 1) := by decide +kernel
theorem dX4_edit_115 : decode cX4_edit 115 = .ok (.ireturn, 1) := by decide +kernel
theorem dX4_edit_116 : decode cX4_edit 116 = .ok (.aload_n 0, 1) := by decide +kernel
theorem dX4_edit_117 : decode cX4_edit 117 = .ok (.iconst 0, 1) := by decide +kernel
theorem dX4_edit_118 : decode cX4_edit 118 = .ok (.putfield 79, 3) := by decide +kernel
theorem dX4_edit_121 : decode cX4_edit 121 = .ok (.iconst 0, 1) := by decide +kernel
theorem dX4_edit_122 : decode cX4_edit 122 = .ok (.istore 7, 2) := by decide +kernel
theorem dX4_edit_124 : decode cX4_edit 124 = .ok (.iload 7, 2) := by decide +kernel
theorem dX4_edit_126 : decode cX4_edit 126 = .ok (.iload_n 2, 1) := by decide +kernel
theorem dX4_edit_127 : decode cX4_edit 127 = .ok (.if_icmp .ge 41, 3) := by decide +kernel
theorem dX4_edit_130 : decode cX4_edit 130 = .ok (.aload_n 0, 1) := by decide +kernel
theorem dX4_edit_131 : decode cX4_edit 131 = .ok (.getfield 23, 3) := by decide +kernel
theorem dX4_edit_134 : decode cX4_edit 134 = .ok (.aload_n 0, 1) := by decide +kernel
theorem dX4_edit_135 : decode cX4_edit 135 = .ok (.getfield 79, 3) := by decide +kernel
theorem dX4_edit_138 : decode cX4_edit 138 = .ok (.aload_n 0, 1) := by decide +kernel
theorem dX4_edit_139 : decode cX4_edit 139 = .ok (.getfield 39, 3) := by decide +kernel
theorem dX4_edit_142 : decode cX4_edit 142 = .ok (.sipush 1500, 3) := by decide +kernel
theorem dX4_edit_145 : decode cX4_edit 145 = .ok (.iload_n 1, 1) := by decide +kernel
theorem dX4_edit_146 : decode cX4_edit 146 = .ok (.imul, 1) := by decide +kernel
theorem dX4_edit_147 : decode cX4_edit 147 = .ok (.iload 7, 2) := by decide +kernel
theorem dX4_edit_149 : decode cX4_edit 149 = .ok (.iadd, 1) := by decide +kernel
theorem dX4_edit_150 : decode cX4_edit 150 = .ok (.iaload, 1) := by decide +kernel
theorem dX4_edit_151 : decode cX4_edit 151 = .ok (.iastore, 1) := by decide +kernel
theorem dX4_edit_152 : decode cX4_edit 152 = .ok (.aload_n 0, 1) := by decide +kernel
theorem dX4_edit_153 : decode cX4_edit 153 = .ok (.dup, 1) := by decide +kernel
theorem dX4_edit_154 : decode cX4_edit 154 = .ok (.getfield 79, 3) := by decide +kernel
theorem dX4_edit_157 : decode cX4_edit 157 = .ok (.iconst 1, 1) := by decide +kernel
theorem dX4_edit_158 : decode cX4_edit 158 = .ok (.iadd, 1) := by decide +kernel
theorem dX4_edit_159 : decode cX4_edit 159 = .ok (.putfield 79, 3) := by decide +kernel
theorem dX4_edit_162 : decode cX4_edit 162 = .ok (.iinc 7 1, 3) := by decide +kernel
theorem dX4_edit_165 : decode cX4_edit 165 = .ok (.goto (-41), 3) := by decide +kernel
theorem dX4_edit_168 : decode cX4_edit 168 = .ok (.iconst 0, 1) := by decide +kernel
theorem dX4_edit_169 : decode cX4_edit 169 = .ok (.istore 7, 2) := by decide +kernel
theorem dX4_edit_171 : decode cX4_edit 171 = .ok (.iload 7, 2) := by decide +kernel
theorem dX4_edit_173 : decode cX4_edit 173 = .ok (.aload_n 0, 1) := by decide +kernel
theorem dX4_edit_174 : decode cX4_edit 174 = .ok (.getfield 68, 3) := by decide +kernel
theorem dX4_edit_177 : decode cX4_edit 177 = .ok (.if_icmp .ge 35, 3) := by decide +kernel
theorem dX4_edit_180 : decode cX4_edit 180 = .ok (.aload_n 0, 1) := by decide +kernel
theorem dX4_edit_181 : decode cX4_edit 181 = .ok (.getfield 23, 3) := by decide +kernel
theorem dX4_edit_184 : decode cX4_edit 184 = .ok (.aload_n 0, 1) := by decide +kernel
theorem dX4_edit_185 : decode cX4_edit 185 = .ok (.getfield 79, 3) := by decide +kernel
theorem dX4_edit_188 : decode cX4_edit 188 = .ok (.aload_n 0, 1) := by decide +kernel
theorem dX4_edit_189 : decode cX4_edit 189 = .ok (.getfield 19, 3) := by decide +kernel
theorem dX4_edit_192 : decode cX4_edit 192 = .ok (.iload 7, 2) := by decide +kernel
theorem dX4_edit_194 : decode cX4_edit 194 = .ok (.iaload, 1) := by decide +kernel
theorem dX4_edit_195 : decode cX4_edit 195 = .ok (.iastore, 1) := by decide +kernel
theorem dX4_edit_196 : decode cX4_edit 196 = .ok (.aload_n 0, 1) := by decide +kernel
theorem dX4_edit_197 : decode cX4_edit 197 = .ok (.dup, 1) := by decide +kernel
theorem dX4_edit_198 : decode cX4_edit 198 = .ok (.getfield 79, 3) := by decide +kernel
theorem dX4_edit_201 : decode cX4_edit 201 = .ok (.iconst 1, 1) := by decide +kernel
theorem dX4_edit_202 : decode cX4_edit 202 = .ok (.iadd, 1) := by decide +kernel
theorem dX4_edit_203 : decode cX4_edit 203 = .ok (.putfield 79, 3) := by decide +kernel
theorem dX4_edit_206 : decode cX4_edit 206 = .ok (.iinc 7 1, 3) := by decide +kernel
theorem dX4_edit_209 : decode cX4_edit 209 = .ok (.goto (-38), 3) := by decide +kernel
theorem dX4_edit_212 : decode cX4_edit 212 = .ok (.iload_n 2, 1) := by decide +kernel
theorem dX4_edit_213 : decode cX4_edit 213 = .ok (.iload_n 3, 1) := by decide +kernel
theorem dX4_edit_214 : decode cX4_edit 214 = .ok (.iadd, 1) := by decide +kernel
theorem dX4_edit_215 : decode cX4_edit 215 = .ok (.istore 7, 2) := by decide +kernel
theorem dX4_edit_217 : decode cX4_edit 217 = .ok (.iload 7, 2) := by decide +kernel
theorem dX4_edit_219 : decode cX4_edit 219 = .ok (.iload 5, 2) := by decide +kernel
theorem dX4_edit_221 : decode cX4_edit 221 = .ok (.if_icmp .ge 41, 3) := by decide +kernel
theorem dX4_edit_224 : decode cX4_edit 224 = .ok (.aload_n 0, 1) := by decide +kernel
theorem dX4_edit_225 : decode cX4_edit 225 = .ok (.getfield 23, 3) := by decide +kernel
theorem dX4_edit_228 : decode cX4_edit 228 = .ok (.aload_n 0, 1) := by decide +kernel
theorem dX4_edit_229 : decode cX4_edit 229 = .ok (.getfield 79, 3) := by decide +kernel
theorem dX4_edit_232 : decode cX4_edit 232 = .ok (.aload_n 0, 1) := by decide +kernel
theorem dX4_edit_233 : decode cX4_edit 233 = .ok (.getfield 39, 3) := by decide +kernel
theorem dX4_edit_236 : decode cX4_edit 236 = .ok (.sipush 1500, 3) := by decide +kernel
theorem dX4_edit_239 : decode cX4_edit 239 = .ok (.iload_n 1, 1) := by decide +kernel
theorem dX4_edit_240 : decode cX4_edit 240 = .ok (.imul, 1) := by decide +kernel
theorem dX4_edit_241 : decode cX4_edit 241 = .ok (.iload 7, 2) := by decide +kernel
theorem dX4_edit_243 : decode cX4_edit 243 = .ok (.iadd, 1) := by decide +kernel
theorem dX4_edit_244 : decode cX4_edit 244 = .ok (.iaload, 1) := by decide +kernel
theorem dX4_edit_245 : decode cX4_edit 245 = .ok (.iastore, 1) := by decide +kernel
theorem dX4_edit_246 : decode cX4_edit 246 = .ok (.aload_n 0, 1) := by decide +kernel
theorem dX4_edit_247 : decode cX4_edit 247 = .ok (.dup, 1) := by decide +kernel
theorem dX4_edit_248 : decode cX4_edit 248 = .ok (.getfield 79, 3) := by decide +kernel
theorem dX4_edit_251 : decode cX4_edit 251 = .ok (.iconst 1, 1) := by decide +kernel
theorem dX4_edit_252 : decode cX4_edit 252 = .ok (.iadd, 1) := by decide +kernel
theorem dX4_edit_253 : decode cX4_edit 253 = .ok (.putfield 79, 3) := by decide +kernel
theorem dX4_edit_256 : decode cX4_edit 256 = .ok (.iinc 7 1, 3) := by decide +kernel
theorem dX4_edit_259 : decode cX4_edit 259 = .ok (.goto (-42), 3) := by decide +kernel
theorem dX4_edit_262 : decode cX4_edit 262 = .ok (.aload_n 0, 1) := by decide +kernel
theorem dX4_edit_263 : decode cX4_edit 263 = .ok (.invokevirtual 102, 3) := by decide +kernel
theorem dX4_edit_266 : decode cX4_edit 266 = .ok (.istore 7, 2) := by decide +kernel
theorem dX4_edit_268 : decode cX4_edit 268 = .ok (.aload_n 0, 1) := by decide +kernel
theorem dX4_edit_269 : decode cX4_edit 269 = .ok (.iconst 0, 1) := by decide +kernel
theorem dX4_edit_270 : decode cX4_edit 270 = .ok (.iconst 0, 1) := by decide +kernel
theorem dX4_edit_271 : decode cX4_edit 271 = .ok (.iload 7, 2) := by decide +kernel
theorem dX4_edit_273 : decode cX4_edit 273 = .ok (.ifCond .ge 7, 3) := by decide +kernel
theorem dX4_edit_276 : decode cX4_edit 276 = .ok (.iconst 1, 1) := by decide +kernel
theorem dX4_edit_277 : decode cX4_edit 277 = .ok (.goto 4, 3) := by decide +kernel
theorem dX4_edit_280 : decode cX4_edit 280 = .ok (.iconst 0, 1) := by decide +kernel
theorem dX4_edit_281 : decode cX4_edit 281 = .ok (.invokevirtual 64, 3) := by decide +kernel
theorem dX4_edit_284 : decode cX4_edit 284 = .ok (.ifCond .eq 5, 3) := by decide +kernel
theorem dX4_edit_287 : decode cX4_edit 287 = .ok (.iconst 0, 1) := by decide +kernel
theorem dX4_edit_288 : decode cX4_edit 288 = .ok (.ireturn, 1) := by decide +kernel
theorem dX4_edit_289 : decode cX4_edit 289 = .ok (.aload_n 0, 1) := by decide +kernel
theorem dX4_edit_290 : decode cX4_edit 290 = .ok (.iload_n 1, 1) := by decide +kernel
theorem dX4_edit_291 : decode cX4_edit 291 = .ok (.invokevirtual 106, 3) := by decide +kernel
theorem dX4_edit_294 : decode cX4_edit 294 = .ok (.aload_n 0, 1) := by decide +kernel
theorem dX4_edit_295 : decode cX4_edit 295 = .ok (.iconst 0, 1) := by decide +kernel
theorem dX4_edit_296 : decode cX4_edit 296 = .ok (.putfield 68, 3) := by decide +kernel
theorem dX4_edit_299 : decode cX4_edit 299 = .ok (.iload 7, 2) := by decide +kernel
theorem dX4_edit_301 : decode cX4_edit 301 = .ok (.ireturn, 1) := by decide +kernel
theorem dX4_copy_0 : decode cX4_copy 0 = .ok (.aload_n 0, 1) := by decide +kernel
theorem dX4_copy_1 : decode cX4_copy 1 = .ok (.iload_n 1, 1) := by decide +kernel
theorem dX4_copy_2 : decode cX4_copy 2 = .ok (.invokestatic 98, 3) := by decide +kernel
theorem dX4_copy_5 : decode cX4_copy 5 = .ok (.ifCond .eq 10, 3) := by decide +kernel
theorem dX4_copy_8 : decode cX4_copy 8 = .ok (.iload_n 2, 1) := by decide +kernel
theorem dX4_copy_9 : decode cX4_copy 9 = .ok (.invokestatic 98, 3) := by decide +kernel
theorem dX4_copy_12 : decode cX4_copy 12 = .ok (.ifCond .ne 7, 3) := by decide +kernel
theorem dX4_copy_15 : decode cX4_copy 15 = .ok (.iconst 1, 1) := by decide +kernel
theorem dX4_copy_16 : decode cX4_copy 16 = .ok (.goto 4, 3) := by decide +kernel
theorem dX4_copy_19 : decode cX4_copy 19 = .ok (.iconst 0, 1) := by decide +kernel
theorem dX4_copy_20 : decode cX4_copy 20 = .ok (.iconst 0, 1) := by decide +kernel
theorem dX4_copy_21 : decode cX4_copy 21 = .ok (.iconst 0, 1) := by decide +kernel
theorem dX4_copy_22 : decode cX4_copy 22 = .ok (.invokevirtual 64, 3) := by decide +kernel
theorem dX4_copy_25 : decode cX4_copy 25 = .ok (.ifCond .ne 8, 3) := by decide +kernel
theorem dX4_copy_28 : decode cX4_copy 28 = .ok (.iload_n 1, 1) := by decide +kernel
theorem dX4_copy_29 : decode cX4_copy 29 = .ok (.iload_n 2, 1) := by decide +kernel
theorem dX4_copy_30 : decode cX4_copy 30 = .ok (.if_icmp .ne 4, 3) := by decide +kernel
theorem dX4_copy_33 : decode cX4_copy 33 = .ok (.return_, 1) := by decide +kernel
theorem dX4_copy_34 : decode cX4_copy 34 = .ok (.aload_n 0, 1) := by decide +kernel
theorem dX4_copy_35 : decode cX4_copy 35 = .ok (.aload_n 0, 1) := by decide +kernel
theorem dX4_copy_36 : decode cX4_copy 36 = .ok (.getfield 36, 3) := by decide +kernel
theorem dX4_copy_39 : decode cX4_copy 39 = .ok (.iload_n 1, 1) := by decide +kernel
theorem dX4_copy_40 : decode cX4_copy 40 = .ok (.iaload, 1) := by decide +kernel
theorem dX4_copy_41 : decode cX4_copy 41 = .ok (.putfield 79, 3) := by decide +kernel
theorem dX4_copy_44 : decode cX4_copy 44 = .ok (.aload_n 0, 1) := by decide +kernel
theorem dX4_copy_45 : decode cX4_copy 45 = .ok (.aload_n 0, 1) := by decide +kernel
theorem dX4_copy_46 : decode cX4_copy 46 = .ok (.getfield 42, 3) := by decide +kernel
theorem dX4_copy_49 : decode cX4_copy 49 = .ok (.iload_n 1, 1) := by decide +kernel
theorem dX4_copy_50 : decode cX4_copy 50 = .ok (.iaload, 1) := by decide +kernel
theorem dX4_copy_51 : decode cX4_copy 51 = .ok (.putfield 76, 3) := by decide +kernel
theorem dX4_copy_54 : decode cX4_copy 54 = .ok (.iconst 0, 1) := by decide +kernel
theorem dX4_copy_55 : decode cX4_copy 55 = .ok (.istore_n 3, 1) := by decide +kernel
theorem dX4_copy_56 : decode cX4_copy 56 = .ok (.iload_n 3, 1) := by decide +kernel
theorem dX4_copy_57 : decode cX4_copy 57 = .ok (.aload_n 0, 1) := by decide +kernel
theorem dX4_copy_58 : decode cX4_copy 58 = .ok (.getfield 79, 3) := by decide +kernel
theorem dX4_copy_61 : decode cX4_copy 61 = .ok (.if_icmp .ge 27, 3) := by decide +kernel
theorem dX4_copy_64 : decode cX4_copy 64 = .ok (.aload_n 0, 1) := by decide +kernel
theorem dX4_copy_65 : decode cX4_copy 65 = .ok (.getfield 23, 3) := by decide +kernel
theorem dX4_copy_68 : decode cX4_copy 68 = .ok (.iload_n 3, 1) := by decide +kernel
theorem dX4_copy_69 : decode cX4_copy 69 = .ok (.aload_n 0, 1) := by decide +kernel
theorem dX4_copy_70 : decode cX4_copy 70 = .ok (.getfield 39, 3) := by decide +kernel
theorem dX4_copy_73 : decode cX4_copy 73 = .ok (.sipush 1500, 3) := by decide +kernel
theorem dX4_copy_76 : decode cX4_copy 76 = .ok (.iload_n 1, 1) := by decide +kernel
theorem dX4_copy_77 : decode cX4_copy 77 = .ok (.imul, 1) := by decide +kernel
theorem dX4_copy_78 : decode cX4_copy 78 = .ok (.iload_n 3, 1) := by decide +kernel
theorem dX4_copy_79 : decode cX4_copy 79 = .ok (.iadd, 1) := by decide +kernel
theorem dX4_copy_80 : decode cX4_copy 80 = .ok (.iaload, 1) := by decide +kernel
theorem dX4_copy_81 : decode cX4_copy 81 = .ok (.iastore, 1) := by decide +kernel
theorem dX4_copy_82 : decode cX4_copy 82 = .ok (.iinc 3 1, 3) := by decide +kernel
theorem dX4_copy_85 : decode cX4_copy 85 = .ok (.goto (-29), 3) := by decide +kernel
theorem dX4_copy_88 : decode cX4_copy 88 = .ok (.iconst 0, 1) := by decide +kernel
theorem dX4_copy_89 : decode cX4_copy 89 = .ok (.istore_n 3, 1) := by decide +kernel
theorem dX4_copy_90 : decode cX4_copy 90 = .ok (.iload_n 3, 1) := by decide +kernel
theorem dX4_copy_91 : decode cX4_copy 91 = .ok (.aload_n 0, 1) := by decide +kernel
theorem dX4_copy_92 : decode cX4_copy 92 = .ok (.getfield 76, 3) := by decide +kernel
theorem dX4_copy_95 : decode cX4_copy 95 = .ok (.if_icmp .ge 27, 3) := by decide +kernel
theorem dX4_copy_98 : decode cX4_copy 98 = .ok (.aload_n 0, 1) := by decide +kernel
theorem dX4_copy_99 : decode cX4_copy 99 = .ok (.getfield 29, 3) := by decide +kernel
theorem dX4_copy_102 : decode cX4_copy 102 = .ok (.iload_n 3, 1) := by decide +kernel
theorem dX4_copy_103 : decode cX4_copy 103 = .ok (.aload_n 0, 1) := by decide +kernel
theorem dX4_copy_104 : decode cX4_copy 104 = .ok (.getfield 45, 3) := by decide +kernel
theorem dX4_copy_107 : decode cX4_copy 107 = .ok (.sipush 1500, 3) := by decide +kernel
theorem dX4_copy_110 : decode cX4_copy 110 = .ok (.iload_n 1, 1) := by decide +kernel
theorem dX4_copy_111 : decode cX4_copy 111 = .ok (.imul, 1) := by decide +kernel
theorem dX4_copy_112 : decode cX4_copy 112 = .ok (.iload_n 3, 1) := by decide +kernel
theorem dX4_copy_113 : decode cX4_copy 113 = .ok (.iadd, 1) := by decide +kernel
theorem dX4_copy_114 : decode cX4_copy 114 = .ok (.iaload, 1) := by decide +kernel
theorem dX4_copy_115 : decode cX4_copy 115 = .ok (.iastore, 1) := by decide +kernel
theorem dX4_copy_116 : decode cX4_copy 116 = .ok (.iinc 3 1, 3) := by decide +kernel
theorem dX4_copy_119 : decode cX4_copy 119 = .ok (.goto (-29), 3) := by decide +kernel
theorem dX4_copy_122 : decode cX4_copy 122 = .ok (.aload_n 0, 1) := by decide +kernel
theorem dX4_copy_123 : decode cX4_copy 123 = .ok (.iload_n 2, 1) := by decide +kernel
theorem dX4_copy_124 : decode cX4_copy 124 = .ok (.invokevirtual 106, 3) := by decide +kernel
theorem dX4_copy_127 : decode cX4_copy 127 = .ok (.return_, 1) := by decide +kernel
theorem dX4_size_0 : decode cX4_size 0 = .ok (.aload_n 0, 1) := by decide +kernel
theorem dX4_size_1 : decode cX4_size 1 = .ok (.iload_n 1, 1) := by decide +kernel
theorem dX4_size_2 : decode cX4_size 2 = .ok (.invokestatic 98, 3) := by decide +kernel
theorem dX4_size_5 : decode cX4_size 5 = .ok (.ifCond .ne 7, 3) := by decide +kernel
theorem dX4_size_8 : decode cX4_size 8 = .ok (.iconst 1, 1) := by decide +kernel
theorem dX4_size_9 : decode cX4_size 9 = .ok (.goto 4, 3) := by decide +kernel
theorem dX4_size_12 : decode cX4_size 12 = .ok (.iconst 0, 1) := by decide +kernel
theorem dX4_size_13 : decode cX4_size 13 = .ok (.iconst 0, 1) := by decide +kernel
theorem dX4_size_14 : decode cX4_size 14 = .ok (.iconst 0, 1) := by decide +kernel
theorem dX4_size_15 : decode cX4_size 15 = .ok (.invokevirtual 64, 3) := by decide +kernel
theorem dX4_size_18 : decode cX4_size 18 = .ok (.ifCond .eq 7, 3) := by decide +kernel
theorem dX4_size_21 : decode cX4_size 21 = .ok (.iconst 0, 1) := by decide +kernel
theorem dX4_size_22 : decode cX4_size 22 = .ok (.goto 9, 3) := by decide +kernel
theorem dX4_size_25 : decode cX4_size 25 = .ok (.aload_n 0, 1) := by decide +kernel
theorem dX4_size_26 : decode cX4_size 26 = .ok (.getfield 36, 3) := by decide +kernel
theorem dX4_size_29 : decode cX4_size 29 = .ok (.iload_n 1, 1) := by decide +kernel
theorem dX4_size_30 : decode cX4_size 30 = .ok (.iaload, 1) := by decide +kernel
theorem dX4_size_31 : decode cX4_size 31 = .ok (.ireturn, 1) := by decide +kernel
theorem dX4_get_0 : decode cX4_get 0 = .ok (.iload_n 1, 1) := by decide +kernel
theorem dX4_get_1 : decode cX4_get 1 = .ok (.invokestatic 98, 3) := by decide +kernel
theorem dX4_get_4 : decode cX4_get 4 = .ok (.ifCond .eq 34, 3) := by decide +kernel
theorem dX4_get_7 : decode cX4_get 7 = .ok (.iload_n 2, 1) := by decide +kernel
theorem dX4_get_8 : decode cX4_get 8 = .ok (.iconst 0, 1) := by decide +kernel
theorem dX4_get_9 : decode cX4_get 9 = .ok (.aload_n 0, 1) := by decide +kernel
theorem dX4_get_10 : decode cX4_get 10 = .ok (.getfield 36, 3) := by decide +kernel
theorem dX4_get_13 : decode cX4_get 13 = .ok (.iload_n 1, 1) := by decide +kernel
theorem dX4_get_14 : decode cX4_get 14 = .ok (.invokestatic 98, 3) := by decide +kernel
theorem dX4_get_17 : decode cX4_get 17 = .ok (.ifCond .eq 7, 3) := by decide +kernel
theorem dX4_get_20 : decode cX4_get 20 = .ok (.iload_n 1, 1) := by decide +kernel
theorem dX4_get_21 : decode cX4_get 21 = .ok (.goto 4, 3) := by decide +kernel
theorem dX4_get_24 : decode cX4_get 24 = .ok (.iconst 0, 1) := by decide +kernel
theorem dX4_get_25 : decode cX4_get 25 = .ok (.iaload, 1) := by decide +kernel
theorem dX4_get_26 : decode cX4_get 26 = .ok (.iconst 1, 1) := by decide +kernel
theorem dX4_get_27 : decode cX4_get 27 = .ok (.isub, 1) := by decide +kernel
theorem dX4_get_28 : decode cX4_get 28 = .ok (.invokestatic 60, 3) := by decide +kernel
theorem dX4_get_31 : decode cX4_get 31 = .ok (.ifCond .eq 7, 3) := by decide +kernel
theorem dX4_get_34 : decode cX4_get 34 = .ok (.iconst 1, 1) := by decide +kernel
theorem dX4_get_35 : decode cX4_get 35 = .ok (.goto 4, 3) := by decide +kernel
theorem dX4_get_38 : decode cX4_get 38 = .ok (.iconst 0, 1) := by decide +kernel
theorem dX4_get_39 : decode cX4_get 39 = .ok (.istore_n 3, 1) := by decide +kernel
theorem dX4_get_40 : decode cX4_get 40 = .ok (.aload_n 0, 1) := by decide +kernel
theorem dX4_get_41 : decode cX4_get 41 = .ok (.iload_n 3, 1) := by decide +kernel
theorem dX4_get_42 : decode cX4_get 42 = .ok (.ifCond .ne 7, 3) := by decide +kernel
theorem dX4_get_45 : decode cX4_get 45 = .ok (.iconst 1, 1) := by decide +kernel
theorem dX4_get_46 : decode cX4_get 46 = .ok (.goto 4, 3) := by decide +kernel
theorem dX4_get_49 : decode cX4_get 49 = .ok (.iconst 0, 1) := by decide +kernel
theorem dX4_get_50 : decode cX4_get 50 = .ok (.iconst 0, 1) := by decide +kernel
theorem dX4_get_51 : decode cX4_get 51 = .ok (.iconst 0, 1) := by decide +kernel
theorem dX4_get_52 : decode cX4_get 52 = .ok (.invokevirtual 64, 3) := by decide +kernel
theorem dX4_get_55 : decode cX4_get 55 = .ok (.ifCond .eq 7, 3) := by decide +kernel
theorem dX4_get_58 : decode cX4_get 58 = .ok (.iconst 0, 1) := by decide +kernel
theorem dX4_get_59 : decode cX4_get 59 = .ok (.goto 15, 3) := by decide +kernel
theorem dX4_get_62 : decode cX4_get 62 = .ok (.aload_n 0, 1) := by decide +kernel
theorem dX4_get_63 : decode cX4_get 63 = .ok (.getfield 39, 3) := by decide +kernel
theorem dX4_get_66 : decode cX4_get 66 = .ok (.sipush 1500, 3) := by decide +kernel
theorem dX4_get_69 : decode cX4_get 69 = .ok (.iload_n 1, 1) := by decide +kernel
theorem dX4_get_70 : decode cX4_get 70 = .ok (.imul, 1) := by decide +kernel
theorem dX4_get_71 : decode cX4_get 71 = .ok (.iload_n 2, 1) := by decide +kernel
theorem dX4_get_72 : decode cX4_get 72 = .ok (.iadd, 1) := by decide +kernel
theorem dX4_get_73 : decode cX4_get 73 = .ok (.iaload, 1) := by decide +kernel
theorem dX4_get_74 : decode cX4_get 74 = .ok (.ireturn, 1) := by decide +kernel
theorem dX4_parts_0 : decode cX4_parts 0 = .ok (.aload_n 0, 1) := by decide +kernel
theorem dX4_parts_1 : decode cX4_parts 1 = .ok (.iload_n 1, 1) := by decide +kernel
theorem dX4_parts_2 : decode cX4_parts 2 = .ok (.invokestatic 98, 3) := by decide +kernel
theorem dX4_parts_5 : decode cX4_parts 5 = .ok (.ifCond .ne 7, 3) := by decide +kernel
theorem dX4_parts_8 : decode cX4_parts 8 = .ok (.iconst 1, 1) := by decide +kernel
theorem dX4_parts_9 : decode cX4_parts 9 = .ok (.goto 4, 3) := by decide +kernel
theorem dX4_parts_12 : decode cX4_parts 12 = .ok (.iconst 0, 1) := by decide +kernel
theorem dX4_parts_13 : decode cX4_parts 13 = .ok (.iconst 0, 1) := by decide +kernel
theorem dX4_parts_14 : decode cX4_parts 14 = .ok (.iconst 0, 1) := by decide +kernel
theorem dX4_parts_15 : decode cX4_parts 15 = .ok (.invokevirtual 64, 3) := by decide +kernel
theorem dX4_parts_18 : decode cX4_parts 18 = .ok (.ifCond .eq 7, 3) := by decide +kernel
theorem dX4_parts_21 : decode cX4_parts 21 = .ok (.iconst 0, 1) := by decide +kernel
theorem dX4_parts_22 : decode cX4_parts 22 = .ok (.goto 9, 3) := by decide +kernel
theorem dX4_parts_25 : decode cX4_parts 25 = .ok (.aload_n 0, 1) := by decide +kernel
theorem dX4_parts_26 : decode cX4_parts 26 = .ok (.getfield 42, 3) := by decide +kernel
theorem dX4_parts_29 : decode cX4_parts 29 = .ok (.iload_n 1, 1) := by decide +kernel
theorem dX4_parts_30 : decode cX4_parts 30 = .ok (.iaload, 1) := by decide +kernel
theorem dX4_parts_31 : decode cX4_parts 31 = .ok (.ireturn, 1) := by decide +kernel
theorem dX4_part_0 : decode cX4_part 0 = .ok (.iload_n 1, 1) := by decide +kernel
theorem dX4_part_1 : decode cX4_part 1 = .ok (.invokestatic 98, 3) := by decide +kernel
theorem dX4_part_4 : decode cX4_part 4 = .ok (.ifCond .eq 34, 3) := by decide +kernel
theorem dX4_part_7 : decode cX4_part 7 = .ok (.iload_n 2, 1) := by decide +kernel
theorem dX4_part_8 : decode cX4_part 8 = .ok (.iconst 0, 1) := by decide +kernel
theorem dX4_part_9 : decode cX4_part 9 = .ok (.aload_n 0, 1) := by decide +kernel
theorem dX4_part_10 : decode cX4_part 10 = .ok (.getfield 42, 3) := by decide +kernel
theorem dX4_part_13 : decode cX4_part 13 = .ok (.iload_n 1, 1) := by decide +kernel
theorem dX4_part_14 : decode cX4_part 14 = .ok (.invokestatic 98, 3) := by decide +kernel
theorem dX4_part_17 : decode cX4_part 17 = .ok (.ifCond .eq 7, 3) := by decide +kernel
theorem dX4_part_20 : decode cX4_part 20 = .ok (.iload_n 1, 1) := by decide +kernel
theorem dX4_part_21 : decode cX4_part 21 = .ok (.goto 4, 3) := by decide +kernel
theorem dX4_part_24 : decode cX4_part 24 = .ok (.iconst 0, 1) := by decide +kernel
theorem dX4_part_25 : decode cX4_part 25 = .ok (.iaload, 1) := by decide +kernel
theorem dX4_part_26 : decode cX4_part 26 = .ok (.iconst 1, 1) := by decide +kernel
theorem dX4_part_27 : decode cX4_part 27 = .ok (.isub, 1) := by decide +kernel
theorem dX4_part_28 : decode cX4_part 28 = .ok (.invokestatic 60, 3) := by decide +kernel
theorem dX4_part_31 : decode cX4_part 31 = .ok (.ifCond .eq 7, 3) := by decide +kernel
theorem dX4_part_34 : decode cX4_part 34 = .ok (.iconst 1, 1) := by decide +kernel
theorem dX4_part_35 : decode cX4_part 35 = .ok (.goto 4, 3) := by decide +kernel
theorem dX4_part_38 : decode cX4_part 38 = .ok (.iconst 0, 1) := by decide +kernel
theorem dX4_part_39 : decode cX4_part 39 = .ok (.istore_n 3, 1) := by decide +kernel
theorem dX4_part_40 : decode cX4_part 40 = .ok (.aload_n 0, 1) := by decide +kernel
theorem dX4_part_41 : decode cX4_part 41 = .ok (.iload_n 3, 1) := by decide +kernel
theorem dX4_part_42 : decode cX4_part 42 = .ok (.ifCond .ne 7, 3) := by decide +kernel
theorem dX4_part_45 : decode cX4_part 45 = .ok (.iconst 1, 1) := by decide +kernel
theorem dX4_part_46 : decode cX4_part 46 = .ok (.goto 4, 3) := by decide +kernel
theorem dX4_part_49 : decode cX4_part 49 = .ok (.iconst 0, 1) := by decide +kernel
theorem dX4_part_50 : decode cX4_part 50 = .ok (.iconst 0, 1) := by decide +kernel
theorem dX4_part_51 : decode cX4_part 51 = .ok (.iconst 0, 1) := by decide +kernel
theorem dX4_part_52 : decode cX4_part 52 = .ok (.invokevirtual 64, 3) := by decide +kernel
theorem dX4_part_55 : decode cX4_part 55 = .ok (.ifCond .eq 7, 3) := by decide +kernel
theorem dX4_part_58 : decode cX4_part 58 = .ok (.iconst 0, 1) := by decide +kernel
theorem dX4_part_59 : decode cX4_part 59 = .ok (.goto 15, 3) := by decide +kernel
theorem dX4_part_62 : decode cX4_part 62 = .ok (.aload_n 0, 1) := by decide +kernel
theorem dX4_part_63 : decode cX4_part 63 = .ok (.getfield 45, 3) := by decide +kernel
theorem dX4_part_66 : decode cX4_part 66 = .ok (.sipush 1500, 3) := by decide +kernel
theorem dX4_part_69 : decode cX4_part 69 = .ok (.iload_n 1, 1) := by decide +kernel
theorem dX4_part_70 : decode cX4_part 70 = .ok (.imul, 1) := by decide +kernel
theorem dX4_part_71 : decode cX4_part 71 = .ok (.iload_n 2, 1) := by decide +kernel
theorem dX4_part_72 : decode cX4_part 72 = .ok (.iadd, 1) := by decide +kernel
theorem dX4_part_73 : decode cX4_part 73 = .ok (.iaload, 1) := by decide +kernel
theorem dX4_part_74 : decode cX4_part 74 = .ok (.ireturn, 1) := by decide +kernel
theorem dX4_has_0 : decode cX4_has 0 = .ok (.iconst 0, 1) := by decide +kernel
theorem dX4_has_1 : decode cX4_has 1 = .ok (.istore_n 3, 1) := by decide +kernel
theorem dX4_has_2 : decode cX4_has 2 = .ok (.iconst 0, 1) := by decide +kernel
theorem dX4_has_3 : decode cX4_has 3 = .ok (.istore 4, 2) := by decide +kernel
theorem dX4_has_5 : decode cX4_has 5 = .ok (.iload 4, 2) := by decide +kernel
theorem dX4_has_7 : decode cX4_has 7 = .ok (.aload_n 0, 1) := by decide +kernel
theorem dX4_has_8 : decode cX4_has 8 = .ok (.getfield 42, 3) := by decide +kernel
theorem dX4_has_11 : decode cX4_has 11 = .ok (.iload_n 1, 1) := by decide +kernel
theorem dX4_has_12 : decode cX4_has 12 = .ok (.iaload, 1) := by decide +kernel
theorem dX4_has_13 : decode cX4_has 13 = .ok (.if_icmp .ge 36, 3) := by decide +kernel
theorem dX4_has_16 : decode cX4_has 16 = .ok (.iload_n 3, 1) := by decide +kernel
theorem dX4_has_17 : decode cX4_has 17 = .ok (.ifCond .ne 20, 3) := by decide +kernel
theorem dX4_has_20 : decode cX4_has 20 = .ok (.aload_n 0, 1) := by decide +kernel
theorem dX4_has_21 : decode cX4_has 21 = .ok (.getfield 45, 3) := by decide +kernel
theorem dX4_has_24 : decode cX4_has 24 = .ok (.sipush 1500, 3) := by decide +kernel
theorem dX4_has_27 : decode cX4_has 27 = .ok (.iload_n 1, 1) := by decide +kernel
theorem dX4_has_28 : decode cX4_has 28 = .ok (.imul, 1) := by decide +kernel
theorem dX4_has_29 : decode cX4_has 29 = .ok (.iload 4, 2) := by decide +kernel
theorem dX4_has_31 : decode cX4_has 31 = .ok (.iadd, 1) := by decide +kernel
theorem dX4_has_32 : decode cX4_has 32 = .ok (.iaload, 1) := by decide +kernel
theorem dX4_has_33 : decode cX4_has 33 = .ok (.iload_n 2, 1) := by decide +kernel
theorem dX4_has_34 : decode cX4_has 34 = .ok (.if_icmp .ne 7, 3) := by decide +kernel
theorem dX4_has_37 : decode cX4_has 37 = .ok (.iconst 1, 1) := by decide +kernel
theorem dX4_has_38 : decode cX4_has 38 = .ok (.goto 4, 3) := by decide +kernel
theorem dX4_has_41 : decode cX4_has 41 = .ok (.iconst 0, 1) := by decide +kernel
theorem dX4_has_42 : decode cX4_has 42 = .ok (.istore_n 3, 1) := by decide +kernel
theorem dX4_has_43 : decode cX4_has 43 = .ok (.iinc 4 1, 3) := by decide +kernel
theorem dX4_has_46 : decode cX4_has 46 = .ok (.goto (-41), 3) := by decide +kernel
theorem dX4_has_49 : decode cX4_has 49 = .ok (.iload_n 3, 1) := by decide +kernel
theorem dX4_has_50 : decode cX4_has 50 = .ok (.ireturn, 1) := by decide +kernel
theorem dX4_about_0 : decode cX4_about 0 = .ok (.iload_n 1, 1) := by decide +kernel
theorem dX4_about_1 : decode cX4_about 1 = .ok (.iconst 0, 1) := by decide +kernel
theorem dX4_about_2 : decode cX4_about 2 = .ok (.sipush 399, 3) := by decide +kernel
theorem dX4_about_5 : decode cX4_about 5 = .ok (.invokestatic 60, 3) := by decide +kernel
theorem dX4_about_8 : decode cX4_about 8 = .ok (.ifCond .eq 31, 3) := by decide +kernel
theorem dX4_about_11 : decode cX4_about 11 = .ok (.aload_n 0, 1) := by decide +kernel
theorem dX4_about_12 : decode cX4_about 12 = .ok (.getfield 48, 3) := by decide +kernel
theorem dX4_about_15 : decode cX4_about 15 = .ok (.iload_n 1, 1) := by decide +kernel
theorem dX4_about_16 : decode cX4_about 16 = .ok (.iconst 0, 1) := by decide +kernel
theorem dX4_about_17 : decode cX4_about 17 = .ok (.sipush 399, 3) := by decide +kernel
theorem dX4_about_20 : decode cX4_about 20 = .ok (.invokestatic 60, 3) := by decide +kernel
theorem dX4_about_23 : decode cX4_about 23 = .ok (.ifCond .eq 7, 3) := by decide +kernel
theorem dX4_about_26 : decode cX4_about 26 = .ok (.iload_n 1, 1) := by decide +kernel
theorem dX4_about_27 : decode cX4_about 27 = .ok (.goto 4, 3) := by decide +kernel
theorem dX4_about_30 : decode cX4_about 30 = .ok (.iconst 0, 1) := by decide +kernel
theorem dX4_about_31 : decode cX4_about 31 = .ok (.iaload, 1) := by decide +kernel
theorem dX4_about_32 : decode cX4_about 32 = .ok (.ifCond .le 7, 3) := by decide +kernel
theorem dX4_about_35 : decode cX4_about 35 = .ok (.iconst 1, 1) := by decide +kernel
theorem dX4_about_36 : decode cX4_about 36 = .ok (.goto 4, 3) := by decide +kernel
theorem dX4_about_39 : decode cX4_about 39 = .ok (.iconst 0, 1) := by decide +kernel
theorem dX4_about_40 : decode cX4_about 40 = .ok (.istore_n 3, 1) := by decide +kernel
theorem dX4_about_41 : decode cX4_about 41 = .ok (.aload_n 0, 1) := by decide +kernel
theorem dX4_about_42 : decode cX4_about 42 = .ok (.iload_n 3, 1) := by decide +kernel
theorem dX4_about_43 : decode cX4_about 43 = .ok (.ifCond .ne 7, 3) := by decide +kernel
theorem dX4_about_46 : decode cX4_about 46 = .ok (.iconst 1, 1) := by decide +kernel
theorem dX4_about_47 : decode cX4_about 47 = .ok (.goto 4, 3) := by decide +kernel
theorem dX4_about_50 : decode cX4_about 50 = .ok (.iconst 0, 1) := by decide +kernel
theorem dX4_about_51 : decode cX4_about 51 = .ok (.iload_n 3, 1) := by decide +kernel
theorem dX4_about_52 : decode cX4_about 52 = .ok (.ifCond .eq 16, 3) := by decide +kernel
theorem dX4_about_55 : decode cX4_about 55 = .ok (.iload_n 2, 1) := by decide +kernel
theorem dX4_about_56 : decode cX4_about 56 = .ok (.iconst 0, 1) := by decide +kernel
theorem dX4_about_57 : decode cX4_about 57 = .ok (.iconst 2, 1) := by decide +kernel
theorem dX4_about_58 : decode cX4_about 58 = .ok (.invokestatic 60, 3) := by decide +kernel
theorem dX4_about_61 : decode cX4_about 61 = .ok (.ifCond .ne 7, 3) := by decide +kernel
theorem dX4_about_64 : decode cX4_about 64 = .ok (.iconst 1, 1) := by decide +kernel
theorem dX4_about_65 : decode cX4_about 65 = .ok (.goto 4, 3) := by decide +kernel
theorem dX4_about_68 : decode cX4_about 68 = .ok (.iconst 0, 1) := by decide +kernel
theorem dX4_about_69 : decode cX4_about 69 = .ok (.iconst 0, 1) := by decide +kernel
theorem dX4_about_70 : decode cX4_about 70 = .ok (.invokevirtual 64, 3) := by decide +kernel
theorem dX4_about_73 : decode cX4_about 73 = .ok (.ifCond .eq 5, 3) := by decide +kernel
theorem dX4_about_76 : decode cX4_about 76 = .ok (.iconst 0, 1) := by decide +kernel
theorem dX4_about_77 : decode cX4_about 77 = .ok (.ireturn, 1) := by decide +kernel
theorem dX4_about_78 : decode cX4_about 78 = .ok (.iconst 0, 1) := by decide +kernel
theorem dX4_about_79 : decode cX4_about 79 = .ok (.istore 4, 2) := by decide +kernel
theorem dX4_about_81 : decode cX4_about 81 = .ok (.iconst 0, 1) := by decide +kernel
theorem dX4_about_82 : decode cX4_about 82 = .ok (.istore 5, 2) := by decide +kernel
theorem dX4_about_84 : decode cX4_about 84 = .ok (.iload 5, 2) := by decide +kernel
theorem dX4_about_86 : decode cX4_about 86 = .ok (.bipush 16, 2) := by decide +kernel
theorem dX4_about_88 : decode cX4_about 88 = .ok (.if_icmp .ge 30, 3) := by decide +kernel
theorem dX4_about_91 : decode cX4_about 91 = .ok (.aload_n 0, 1) := by decide +kernel
theorem dX4_about_92 : decode cX4_about 92 = .ok (.iload 5, 2) := by decide +kernel
theorem dX4_about_94 : decode cX4_about 94 = .ok (.iload_n 1, 1) := by decide +kernel
theorem dX4_about_95 : decode cX4_about 95 = .ok (.invokevirtual 110, 3) := by decide +kernel
theorem dX4_about_98 : decode cX4_about 98 = .ok (.ifCond .eq 10, 3) := by decide +kernel
theorem dX4_about_101 : decode cX4_about 101 = .ok (.iload 4, 2) := by decide +kernel
theorem dX4_about_103 : decode cX4_about 103 = .ok (.iconst 1, 1) := by decide +kernel
theorem dX4_about_104 : decode cX4_about 104 = .ok (.iadd, 1) := by decide +kernel
theorem dX4_about_105 : decode cX4_about 105 = .ok (.goto 5, 3) := by decide +kernel
theorem dX4_about_108 : decode cX4_about 108 = .ok (.iload 4, 2) := by decide +kernel
theorem dX4_about_110 : decode cX4_about 110 = .ok (.istore 4, 2) := by decide +kernel
theorem dX4_about_112 : decode cX4_about 112 = .ok (.iinc 5 1, 3) := by decide +kernel
theorem dX4_about_115 : decode cX4_about 115 = .ok (.goto (-31), 3) := by decide +kernel
theorem dX4_about_118 : decode cX4_about 118 = .ok (.iload_n 2, 1) := by decide +kernel
theorem dX4_about_119 : decode cX4_about 119 = .ok (.ifCond .ne 12, 3) := by decide +kernel
theorem dX4_about_122 : decode cX4_about 122 = .ok (.aload_n 0, 1) := by decide +kernel
theorem dX4_about_123 : decode cX4_about 123 = .ok (.getfield 51, 3) := by decide +kernel
theorem dX4_about_126 : decode cX4_about 126 = .ok (.iload_n 1, 1) := by decide +kernel
theorem dX4_about_127 : decode cX4_about 127 = .ok (.iaload, 1) := by decide +kernel
theorem dX4_about_128 : decode cX4_about 128 = .ok (.goto 19, 3) := by decide +kernel
theorem dX4_about_131 : decode cX4_about 131 = .ok (.iload_n 2, 1) := by decide +kernel
theorem dX4_about_132 : decode cX4_about 132 = .ok (.iconst 1, 1) := by decide +kernel
theorem dX4_about_133 : decode cX4_about 133 = .ok (.if_icmp .ne 12, 3) := by decide +kernel
theorem dX4_about_136 : decode cX4_about 136 = .ok (.aload_n 0, 1) := by decide +kernel
theorem dX4_about_137 : decode cX4_about 137 = .ok (.getfield 48, 3) := by decide +kernel
theorem dX4_about_140 : decode cX4_about 140 = .ok (.iload_n 1, 1) := by decide +kernel
theorem dX4_about_141 : decode cX4_about 141 = .ok (.iaload, 1) := by decide +kernel
theorem dX4_about_142 : decode cX4_about 142 = .ok (.goto 5, 3) := by decide +kernel
theorem dX4_about_145 : decode cX4_about 145 = .ok (.iload 4, 2) := by decide +kernel
theorem dX4_about_147 : decode cX4_about 147 = .ok (.ireturn, 1) := by decide +kernel
theorem dX4_common_0 : decode cX4_common 0 = .ok (.aload_n 0, 1) := by decide +kernel
theorem dX4_common_1 : decode cX4_common 1 = .ok (.iload_n 1, 1) := by decide +kernel
theorem dX4_common_2 : decode cX4_common 2 = .ok (.invokestatic 98, 3) := by decide +kernel
theorem dX4_common_5 : decode cX4_common 5 = .ok (.ifCond .eq 10, 3) := by decide +kernel
theorem dX4_common_8 : decode cX4_common 8 = .ok (.iload_n 2, 1) := by decide +kernel
theorem dX4_common_9 : decode cX4_common 9 = .ok (.invokestatic 98, 3) := by decide +kernel
theorem dX4_common_12 : decode cX4_common 12 = .ok (.ifCond .ne 7, 3) := by decide +kernel
theorem dX4_common_15 : decode cX4_common 15 = .ok (.iconst 1, 1) := by decide +kernel
theorem dX4_common_16 : decode cX4_common 16 = .ok (.goto 4, 3) := by decide +kernel
theorem dX4_common_19 : decode cX4_common 19 = .ok (.iconst 0, 1) := by decide +kernel
theorem dX4_common_20 : decode cX4_common 20 = .ok (.iconst 0, 1) := by decide +kernel
theorem dX4_common_21 : decode cX4_common 21 = .ok (.iconst 0, 1) := by decide +kernel
theorem dX4_common_22 : decode cX4_common 22 = .ok (.invokevirtual 64, 3) := by decide +kernel
theorem dX4_common_25 : decode cX4_common 25 = .ok (.ifCond .eq 5, 3) := by decide +kernel
theorem dX4_common_28 : decode cX4_common 28 = .ok (.iconst 0, 1) := by decide +kernel
theorem dX4_common_29 : decode cX4_common 29 = .ok (.ireturn, 1) := by decide +kernel
theorem dX4_common_30 : decode cX4_common 30 = .ok (.iconst 0, 1) := by decide +kernel
theorem dX4_common_31 : decode cX4_common 31 = .ok (.istore_n 3, 1) := by decide +kernel
theorem dX4_common_32 : decode cX4_common 32 = .ok (.iconst 0, 1) := by decide +kernel
theorem dX4_common_33 : decode cX4_common 33 = .ok (.istore 4, 2) := by decide +kernel
theorem dX4_common_35 : decode cX4_common 35 = .ok (.iload 4, 2) := by decide +kernel
theorem dX4_common_37 : decode cX4_common 37 = .ok (.aload_n 0, 1) := by decide +kernel
theorem dX4_common_38 : decode cX4_common 38 = .ok (.getfield 42, 3) := by decide +kernel
theorem dX4_common_41 : decode cX4_common 41 = .ok (.iload_n 1, 1) := by decide +kernel
theorem dX4_common_42 : decode cX4_common 42 = .ok (.iaload, 1) := by decide +kernel
theorem dX4_common_43 : decode cX4_common 43 = .ok (.if_icmp .ge 48, 3) := by decide +kernel
theorem dX4_common_46 : decode cX4_common 46 = .ok (.aload_n 0, 1) := by decide +kernel
theorem dX4_common_47 : decode cX4_common 47 = .ok (.getfield 45, 3) := by decide +kernel
theorem dX4_common_50 : decode cX4_common 50 = .ok (.sipush 1500, 3) := by decide +kernel
theorem dX4_common_53 : decode cX4_common 53 = .ok (.iload_n 1, 1) := by decide +kernel
theorem dX4_common_54 : decode cX4_common 54 = .ok (.imul, 1) := by decide +kernel
theorem dX4_common_55 : decode cX4_common 55 = .ok (.iload 4, 2) := by decide +kernel
theorem dX4_common_57 : decode cX4_common 57 = .ok (.iadd, 1) := by decide +kernel
theorem dX4_common_58 : decode cX4_common 58 = .ok (.iaload, 1) := by decide +kernel
theorem dX4_common_59 : decode cX4_common 59 = .ok (.istore 5, 2) := by decide +kernel
theorem dX4_common_61 : decode cX4_common 61 = .ok (.aload_n 0, 1) := by decide +kernel
theorem dX4_common_62 : decode cX4_common 62 = .ok (.iload_n 2, 1) := by decide +kernel
theorem dX4_common_63 : decode cX4_common 63 = .ok (.iload 5, 2) := by decide +kernel
theorem dX4_common_65 : decode cX4_common 65 = .ok (.invokevirtual 110, 3) := by decide +kernel
theorem dX4_common_68 : decode cX4_common 68 = .ok (.ifCond .eq 15, 3) := by decide +kernel
theorem dX4_common_71 : decode cX4_common 71 = .ok (.iload_n 3, 1) := by decide +kernel
theorem dX4_common_72 : decode cX4_common 72 = .ok (.aload_n 0, 1) := by decide +kernel
theorem dX4_common_73 : decode cX4_common 73 = .ok (.getfield 51, 3) := by decide +kernel
theorem dX4_common_76 : decode cX4_common 76 = .ok (.iload 5, 2) := by decide +kernel
theorem dX4_common_78 : decode cX4_common 78 = .ok (.iaload, 1) := by decide +kernel
theorem dX4_common_79 : decode cX4_common 79 = .ok (.iadd, 1) := by decide +kernel
theorem dX4_common_80 : decode cX4_common 80 = .ok (.goto 4, 3) := by decide +kernel
theorem dX4_common_83 : decode cX4_common 83 = .ok (.iload_n 3, 1) := by decide +kernel
theorem dX4_common_84 : decode cX4_common 84 = .ok (.istore_n 3, 1) := by decide +kernel
theorem dX4_common_85 : decode cX4_common 85 = .ok (.iinc 4 1, 3) := by decide +kernel
theorem dX4_common_88 : decode cX4_common 88 = .ok (.goto (-53), 3) := by decide +kernel
theorem dX4_common_91 : decode cX4_common 91 = .ok (.iload_n 3, 1) := by decide +kernel
theorem dX4_common_92 : decode cX4_common 92 = .ok (.ireturn, 1) := by decide +kernel
theorem dX4_all_0 : decode cX4_all 0 = .ok (.aload_n 0, 1) := by decide +kernel
theorem dX4_all_1 : decode cX4_all 1 = .ok (.iload_n 1, 1) := by decide +kernel
theorem dX4_all_2 : decode cX4_all 2 = .ok (.iconst 0, 1) := by decide +kernel
theorem dX4_all_3 : decode cX4_all 3 = .ok (.iconst 2, 1) := by decide +kernel
theorem dX4_all_4 : decode cX4_all 4 = .ok (.invokestatic 60, 3) := by decide +kernel
theorem dX4_all_7 : decode cX4_all 7 = .ok (.ifCond .ne 7, 3) := by decide +kernel
theorem dX4_all_10 : decode cX4_all 10 = .ok (.iconst 1, 1) := by decide +kernel
theorem dX4_all_11 : decode cX4_all 11 = .ok (.goto 4, 3) := by decide +kernel
theorem dX4_all_14 : decode cX4_all 14 = .ok (.iconst 0, 1) := by decide +kernel
theorem dX4_all_15 : decode cX4_all 15 = .ok (.iconst 0, 1) := by decide +kernel
theorem dX4_all_16 : decode cX4_all 16 = .ok (.iconst 0, 1) := by decide +kernel
theorem dX4_all_17 : decode cX4_all 17 = .ok (.invokevirtual 64, 3) := by decide +kernel
theorem dX4_all_20 : decode cX4_all 20 = .ok (.ifCond .eq 5, 3) := by decide +kernel
theorem dX4_all_23 : decode cX4_all 23 = .ok (.iconst 0, 1) := by decide +kernel
theorem dX4_all_24 : decode cX4_all 24 = .ok (.ireturn, 1) := by decide +kernel
theorem dX4_all_25 : decode cX4_all 25 = .ok (.iconst 0, 1) := by decide +kernel
theorem dX4_all_26 : decode cX4_all 26 = .ok (.istore_n 2, 1) := by decide +kernel
theorem dX4_all_27 : decode cX4_all 27 = .ok (.iconst 0, 1) := by decide +kernel
theorem dX4_all_28 : decode cX4_all 28 = .ok (.istore_n 3, 1) := by decide +kernel
theorem dX4_all_29 : decode cX4_all 29 = .ok (.iconst 0, 1) := by decide +kernel
theorem dX4_all_30 : decode cX4_all 30 = .ok (.istore 4, 2) := by decide +kernel
theorem dX4_all_32 : decode cX4_all 32 = .ok (.iload 4, 2) := by decide +kernel
theorem dX4_all_34 : decode cX4_all 34 = .ok (.sipush 400, 3) := by decide +kernel
theorem dX4_all_37 : decode cX4_all 37 = .ok (.if_icmp .ge 51, 3) := by decide +kernel
theorem dX4_all_40 : decode cX4_all 40 = .ok (.aload_n 0, 1) := by decide +kernel
theorem dX4_all_41 : decode cX4_all 41 = .ok (.getfield 48, 3) := by decide +kernel
theorem dX4_all_44 : decode cX4_all 44 = .ok (.iload 4, 2) := by decide +kernel
theorem dX4_all_46 : decode cX4_all 46 = .ok (.iaload, 1) := by decide +kernel
theorem dX4_all_47 : decode cX4_all 47 = .ok (.ifCond .le 9, 3) := by decide +kernel
theorem dX4_all_50 : decode cX4_all 50 = .ok (.iload_n 2, 1) := by decide +kernel
theorem dX4_all_51 : decode cX4_all 51 = .ok (.iconst 1, 1) := by decide +kernel
theorem dX4_all_52 : decode cX4_all 52 = .ok (.iadd, 1) := by decide +kernel
theorem dX4_all_53 : decode cX4_all 53 = .ok (.goto 4, 3) := by decide +kernel
theorem dX4_all_56 : decode cX4_all 56 = .ok (.iload_n 2, 1) := by decide +kernel
theorem dX4_all_57 : decode cX4_all 57 = .ok (.istore_n 2, 1) := by decide +kernel
theorem dX4_all_58 : decode cX4_all 58 = .ok (.aload_n 0, 1) := by decide +kernel
theorem dX4_all_59 : decode cX4_all 59 = .ok (.getfield 48, 3) := by decide +kernel
theorem dX4_all_62 : decode cX4_all 62 = .ok (.iload 4, 2) := by decide +kernel
theorem dX4_all_64 : decode cX4_all 64 = .ok (.iaload, 1) := by decide +kernel
theorem dX4_all_65 : decode cX4_all 65 = .ok (.ifCond .le 15, 3) := by decide +kernel
theorem dX4_all_68 : decode cX4_all 68 = .ok (.iload_n 3, 1) := by decide +kernel
theorem dX4_all_69 : decode cX4_all 69 = .ok (.aload_n 0, 1) := by decide +kernel
theorem dX4_all_70 : decode cX4_all 70 = .ok (.getfield 51, 3) := by decide +kernel
theorem dX4_all_73 : decode cX4_all 73 = .ok (.iload 4, 2) := by decide +kernel
theorem dX4_all_75 : decode cX4_all 75 = .ok (.iaload, 1) := by decide +kernel
theorem dX4_all_76 : decode cX4_all 76 = .ok (.iadd, 1) := by decide +kernel
theorem dX4_all_77 : decode cX4_all 77 = .ok (.goto 4, 3) := by decide +kernel
theorem dX4_all_80 : decode cX4_all 80 = .ok (.iload_n 3, 1) := by decide +kernel
theorem dX4_all_81 : decode cX4_all 81 = .ok (.istore_n 3, 1) := by decide +kernel
theorem dX4_all_82 : decode cX4_all 82 = .ok (.iinc 4 1, 3) := by decide +kernel
theorem dX4_all_85 : decode cX4_all 85 = .ok (.goto (-53), 3) := by decide +kernel
theorem dX4_all_88 : decode cX4_all 88 = .ok (.iload_n 1, 1) := by decide +kernel
theorem dX4_all_89 : decode cX4_all 89 = .ok (.ifCond .ne 7, 3) := by decide +kernel
theorem dX4_all_92 : decode cX4_all 92 = .ok (.iload_n 2, 1) := by decide +kernel
theorem dX4_all_93 : decode cX4_all 93 = .ok (.goto 16, 3) := by decide +kernel
theorem dX4_all_96 : decode cX4_all 96 = .ok (.iload_n 1, 1) := by decide +kernel
theorem dX4_all_97 : decode cX4_all 97 = .ok (.iconst 1, 1) := by decide +kernel
theorem dX4_all_98 : decode cX4_all 98 = .ok (.if_icmp .ne 7, 3) := by decide +kernel
theorem dX4_all_101 : decode cX4_all 101 = .ok (.iload_n 3, 1) := by decide +kernel
theorem dX4_all_102 : decode cX4_all 102 = .ok (.goto 7, 3) := by decide +kernel
theorem dX4_all_105 : decode cX4_all 105 = .ok (.aload_n 0, 1) := by decide +kernel
theorem dX4_all_106 : decode cX4_all 106 = .ok (.getfield 68, 3) := by decide +kernel
theorem dX4_all_109 : decode cX4_all 109 = .ok (.ireturn, 1) := by decide +kernel
theorem dJ9_max_7cf53_0 : decode cJ9_max_7cf53 0 = .ok (.iload_n 0, 1) := by decide +kernel
theorem dJ9_max_7cf53_1 : decode cJ9_max_7cf53 1 = .ok (.iload_n 1, 1) := by decide +kernel
theorem dJ9_max_7cf53_2 : decode cJ9_max_7cf53 2 = .ok (.if_icmp .lt 7, 3) := by decide +kernel
theorem dJ9_max_7cf53_5 : decode cJ9_max_7cf53 5 = .ok (.iload_n 0, 1) := by decide +kernel
theorem dJ9_max_7cf53_6 : decode cJ9_max_7cf53 6 = .ok (.goto 4, 3) := by decide +kernel
theorem dJ9_max_7cf53_9 : decode cJ9_max_7cf53 9 = .ok (.iload_n 1, 1) := by decide +kernel
theorem dJ9_max_7cf53_10 : decode cJ9_max_7cf53 10 = .ok (.ireturn, 1) := by decide +kernel
theorem dJ9_min_7cf53_0 : decode cJ9_min_7cf53 0 = .ok (.iload_n 0, 1) := by decide +kernel
theorem dJ9_min_7cf53_1 : decode cJ9_min_7cf53 1 = .ok (.iload_n 1, 1) := by decide +kernel
theorem dJ9_min_7cf53_2 : decode cJ9_min_7cf53 2 = .ok (.if_icmp .gt 7, 3) := by decide +kernel
theorem dJ9_min_7cf53_5 : decode cJ9_min_7cf53 5 = .ok (.iload_n 0, 1) := by decide +kernel
theorem dJ9_min_7cf53_6 : decode cJ9_min_7cf53 6 = .ok (.goto 4, 3) := by decide +kernel
theorem dJ9_min_7cf53_9 : decode cJ9_min_7cf53 9 = .ok (.iload_n 1, 1) := by decide +kernel
theorem dJ9_min_7cf53_10 : decode cJ9_min_7cf53 10 = .ok (.ireturn, 1) := by decide +kernel
theorem dJ7_fill_53178_0 : decode cJ7_fill_53178 0 = .ok (.iconst 0, 1) := by decide +kernel
theorem dJ7_fill_53178_1 : decode cJ7_fill_53178 1 = .ok (.istore_n 2, 1) := by decide +kernel
theorem dJ7_fill_53178_2 : decode cJ7_fill_53178 2 = .ok (.aload_n 0, 1) := by decide +kernel
theorem dJ7_fill_53178_3 : decode cJ7_fill_53178 3 = .ok (.arraylength, 1) := by decide +kernel
theorem dJ7_fill_53178_4 : decode cJ7_fill_53178 4 = .ok (.istore_n 3, 1) := by decide +kernel
theorem dJ7_fill_53178_5 : decode cJ7_fill_53178 5 = .ok (.iload_n 2, 1) := by decide +kernel
theorem dJ7_fill_53178_6 : decode cJ7_fill_53178 6 = .ok (.iload_n 3, 1) := by decide +kernel
theorem dJ7_fill_53178_7 : decode cJ7_fill_53178 7 = .ok (.if_icmp .ge 13, 3) := by decide +kernel
theorem dJ7_fill_53178_10 : decode cJ7_fill_53178 10 = .ok (.aload_n 0, 1) := by decide +kernel
theorem dJ7_fill_53178_11 : decode cJ7_fill_53178 11 = .ok (.iload_n 2, 1) := by decide +kernel
theorem dJ7_fill_53178_12 : decode cJ7_fill_53178 12 = .ok (.iload_n 1, 1) := by decide +kernel
theorem dJ7_fill_53178_13 : decode cJ7_fill_53178 13 = .ok (.iastore, 1) := by decide +kernel
theorem dJ7_fill_53178_14 : decode cJ7_fill_53178 14 = .ok (.iinc 2 1, 3) := by decide +kernel
theorem dJ7_fill_53178_17 : decode cJ7_fill_53178 17 = .ok (.goto (-12), 3) := by decide +kernel
theorem dJ7_fill_53178_20 : decode cJ7_fill_53178 20 = .ok (.return_, 1) := by decide +kernel
theorem dJ7_copyOf_9075b_0 : decode cJ7_copyOf_9075b 0 = .ok (.iload_n 1, 1) := by decide +kernel
theorem dJ7_copyOf_9075b_1 : decode cJ7_copyOf_9075b 1 = .ok (.aload_n 0, 1) := by decide +kernel
theorem dJ7_copyOf_9075b_2 : decode cJ7_copyOf_9075b 2 = .ok (.arraylength, 1) := by decide +kernel
theorem dJ7_copyOf_9075b_3 : decode cJ7_copyOf_9075b 3 = .ok (.if_icmp .ne 11, 3) := by decide +kernel
theorem dJ7_copyOf_9075b_6 : decode cJ7_copyOf_9075b 6 = .ok (.aload_n 0, 1) := by decide +kernel
theorem dJ7_copyOf_9075b_7 : decode cJ7_copyOf_9075b 7 = .ok (.invokevirtual 310, 3) := by decide +kernel
theorem dJ7_copyOf_9075b_10 : decode cJ7_copyOf_9075b 10 = .ok (.checkcast 311, 3) := by decide +kernel
theorem dJ7_copyOf_9075b_13 : decode cJ7_copyOf_9075b 13 = .ok (.areturn, 1) := by decide +kernel
theorem dJ7_copyOf_9075b_14 : decode cJ7_copyOf_9075b 14 = .ok (.iload_n 1, 1) := by decide +kernel
theorem dJ7_copyOf_9075b_15 : decode cJ7_copyOf_9075b 15 = .ok (.newarray .byte, 2) := by decide +kernel
theorem dJ7_copyOf_9075b_17 : decode cJ7_copyOf_9075b 17 = .ok (.astore_n 2, 1) := by decide +kernel
theorem dJ7_copyOf_9075b_18 : decode cJ7_copyOf_9075b 18 = .ok (.aload_n 0, 1) := by decide +kernel
theorem dJ7_copyOf_9075b_19 : decode cJ7_copyOf_9075b 19 = .ok (.iconst 0, 1) := by decide +kernel
theorem dJ7_copyOf_9075b_20 : decode cJ7_copyOf_9075b 20 = .ok (.aload_n 2, 1) := by decide +kernel
theorem dJ7_copyOf_9075b_21 : decode cJ7_copyOf_9075b 21 = .ok (.iconst 0, 1) := by decide +kernel
theorem dJ7_copyOf_9075b_22 : decode cJ7_copyOf_9075b 22 = .ok (.aload_n 0, 1) := by decide +kernel
theorem dJ7_copyOf_9075b_23 : decode cJ7_copyOf_9075b 23 = .ok (.arraylength, 1) := by decide +kernel
theorem dJ7_copyOf_9075b_24 : decode cJ7_copyOf_9075b 24 = .ok (.iload_n 1, 1) := by decide +kernel
theorem dJ7_copyOf_9075b_25 : decode cJ7_copyOf_9075b 25 = .ok (.invokestatic 304, 3) := by decide +kernel
theorem dJ7_copyOf_9075b_28 : decode cJ7_copyOf_9075b 28 = .ok (.invokestatic 150, 3) := by decide +kernel
theorem dJ7_copyOf_9075b_31 : decode cJ7_copyOf_9075b 31 = .ok (.aload_n 2, 1) := by decide +kernel
theorem dJ7_copyOf_9075b_32 : decode cJ7_copyOf_9075b 32 = .ok (.areturn, 1) := by decide +kernel
end
section

/-! ===== BEGIN exceptions that leave a method, and their catching by the caller (launches without stack traces) ===== -/
section VXA
/-! The laws vx_back, vx_callV, vx_callS, vx_callSW, vx_throw0, vx_throwS follow proofs of the library, with one case more: JvmDerived/Free/Laws.lean (Back.of_free), Shelf42/LK1.lean (callV, callS), Shelf/KitTraced.lean (throwNew0V, throwNewS). -/
/-- where a method has thrown q: the class by its name, the cell, what was written, the world -/
def vx_T (XC : String → State → State → Prop) (st : State) (q : Addr) (t : State) (mc ms : Nat) (free : Addr → Prop) : Prop :=
  ∃ (E : String) (ce : Cell) (L : List Loc), XC E st t ∧ t.heap[q]? = some ce ∧ ce.vm = .none ∧ st.vm.findClass E = some ce.cls ∧ st.WarmedH t.vm ∧ st.sameButNew ({ t with vm := st.vm } : State) L mc ms ∧ ∀ z ∈ L, free z.base
def vx_Q (Qc : Array Value → State → Outcome → State → Prop) (XC : String → State → State → Prop) (mc ms : Nat) (free : Addr → Prop) : Array Value → State → Outcome → State → Prop := fun a st o t =>
  (Qc a st o t ∧ ∃ L, FrameEnd st o t L mc ms ∧ ∀ q ∈ L, free q.base) ∨ ∃ q, o = .threw q ∧ vx_T XC st q t mc ms free
/-- a callee that returns or throws -/
def vx_Met (l : Launch) (y : MethodName) (ws : List Cond) (rm : Room) (Pc : Array Value → State → Prop) (Qc : Array Value → State → Outcome → State → Prop) (XC : String → State → State → Prop) (mc ms : Nat) (free : Addr → Prop) : Prop :=
  MetFree l y (headSpec ws rm) Pc (fun _ _ _ _ _ => True) (vx_Q Qc XC mc ms free)
def vx_Post (XC : String → State → State → Prop) (mc ms : Nat) (free : Addr → Prop) : Pt → Array Value → Addr → Pt → Prop := fun A a q B =>
  ∃ (g : JFrame) (mk : MethodId) (t : State) (L : List Loc) (E : String) (ce : Cell), B.U.heap = t.heap ∧ B.U.vm = t.vm ∧ XC E (A.U.calling g mk a) t ∧ t.heap[q]? = some ce ∧ ce.vm = .none ∧ A.U.vm.findClass E = some ce.cls ∧ B.locs = A.locs ++ L ∧ (∀ z ∈ L, free z.base) ∧ B.cells = A.cells + mc ∧ B.slots = A.slots + ms
def vx_Back (l : Launch) (R : Room) (p : Program) (e : Env) (below : List Frame) (s : State) (sargs : Array Value) (y : MethodName) (len W9 : Nat)
    (Pre : Pt → Array Value → Prop) (Post : Pt → Array Value → Option Value → Pt → Prop) (PostX : Pt → Array Value → Addr → Pt → Prop) : Prop :=
  ∀ (m : MethodId) (meth : Method) (c : Code) (A : Pt) (g : JFrame) (ig : Instr) (mk : MethodId) (a : Array Value),
    Stand p l e R s m sargs below meth c A.U A.locs A.cells A.slots → g.method = m → g.locals.size = c.maxLocals → decode c.code g.pc = .ok (ig, len) →
    2 * g.monitorRoom + (g.stack.map fun v => v.category).sum ≤ W9 → A.U.methodNamed? y = some mk → Pre A a →
    (∃ (v : Option Value) (B : Pt), Stand p l e R s m sargs below meth c B.U B.locs B.cells B.slots ∧ Post A a v B ∧
      Steps p.tables e below (doInvoke e (A.U.setTop g) [] mk a).1 (B.U.setTop { g with pc := g.pc + len, stack := v.toList ++ g.stack })) ∨
    (∃ (q : Addr) (B : Pt), Stand p l e R s m sargs below meth c B.U B.locs B.cells B.slots ∧ PostX A a q B ∧
      Steps p.tables e below (doInvoke e (A.U.setTop g) [] mk a).1 ((B.U.setTop g).pushFrame (.throwing q)))
section Payer
variable {l : Launch} {R : Room} {p : Program} {e : Env} {below : List Frame} {s : State} {sargs : Array Value} {y : MethodName} {len W9 : Nat}
theorem vx_back {ws : List Cond} {rm : Room} {Pc : Array Value → State → Prop} {Qc : Array Value → State → Outcome → State → Prop} {XC : String → State → State → Prop} {mc ms : Nat} {free : Addr → Prop} {bytes : ByteArray} {maxL : Nat} {ret : Option FieldType}
    (hM : vx_Met l y ws rm Pc Qc XC mc ms free) (hblind : FrameBlind Pc) (hrc : rm.cells = mc) (hrs : rm.slots = ms)
    (hframes : rm.frames + 1 ≤ R.frames) (hlocals : W9 + (maxL + 11) + rm.locals ≤ R.locals)
    (hws : ∀ w ∈ ws, ∀ a' U, s.WarmedH U.vm → w.before a' U = true) (hcode : Cond.code y bytes maxL ret ∈ ws) (hinit : ∀ a' U, s.WarmedH U.vm → (Cond.initialized y.cls).before a' U = true) :
    vx_Back l R p e below s sargs y len W9 (PreOf R mc ms Pc) (PostOf Qc mc ms free) (vx_Post XC mc ms free) := by
  intro m meth c A g ig mk a X hg hsize hdg hW hn hp
  have h1 : (headSpec ws rm).pre.before a A.U = true := atoms_intro fun w hw => hws w hw _ _ X.warmed
  have h2 : (Cond.code y bytes maxL ret).before a A.U = true := hws _ hcode _ _ X.warmed
  have h3 : (Cond.initialized y.cls).before a A.U = true := hinit _ _ X.warmed
  have h4 : A.cells + (headSpec ws rm).room.cells ≤ R.cells := by rw [show (headSpec ws rm).room.cells = mc from hrc]; exact hp.1
  have h5 : A.slots + (headSpec ws rm).room.slots ≤ R.slots := by rw [show (headSpec ws rm).room.slots = ms from hrs]; exact hp.2.1
  have hPc : Pc a (A.U.calling g mk a) := hblind _ _ _ _ hp.2.2
  obtain ⟨U, Ls, c0, s0⟩ := A
  dsimp only [Pt.U, Pt.locs, Pt.cells, Pt.slots] at h1 h2 h3 h4 h5 X hn hPc ⊢
  obtain ⟨methY, cY, hmY, hcY, -, hlY, -, -, -, -⟩ := Cond.code_spec hn h2
  obtain ⟨kY, hkY, -⟩ := className_of_methodNamed hn
  have hinitY : kY.init = .initialized := Cond.initialized_spec (findClass_of_methodNamed hn) hkY h3
  have h : At U g.method c below := by rw [hg]; exact X.here
  have hlocals9 : W9 + (maxL + 11) + (headSpec ws rm).room.locals ≤ R.locals := hlocals
  have happ : (headSpec ws rm).appliesLoose y e.platform (U.calling g mk a) = true :=
    Spec.appliesLoose_calling (g := g) h hdg hn hkY hinitY
      (X.room_calling (g := g) (R' := (headSpec ws rm).room) hsize hmY hcY hframes (by rw [hlY]; omega) h4 h5) h1
  obtain ⟨mid, hmid⟩ := h.above
  have hfr : (U.setTop g).frames = (.java g :: mid) ++ below := by rw [State.frames_setTop' g h.top, hmid]; rfl
  obtain ⟨o, s₂, hsteps, -, hend, hq⟩ := Steps.callFree hM p X.admits X.cas X.clock (acts := []) hfr happ hPc trivial
  have hq' : vx_Q Qc XC mc ms free a (U.calling g mk a) o s₂ := hq
  rw [State.frames_setTop' g h.top] at hend
  obtain ⟨g₀, hg0⟩ := Option.isSome_iff_exists.mp h.top
  obtain ⟨r, hr⟩ := State.topJava?_eq_some.mp hg0
  have hr' : (({ U with heap := s₂.heap, slotsUsed := s₂.slotsUsed } : State).setVm s₂.vm).frames = .java g₀ :: r := hr
  rcases hq' with ⟨hqc, L, hfe, hL⟩ | ⟨q, rfl, E, ce, L, hx, hce, hcv, hcl, hW₂, hsm, hL⟩
  · obtain ⟨⟨v, rfl⟩, hW₂, e2, q2, q3, q4, q5, q6⟩ := id hfe
    have e3 : s₂ = ({ (U.calling g mk a).setFrames s₂.frames with heap := s₂.heap, slotsUsed := s₂.slotsUsed } : State).setVm s₂.vm := by
      have : s₂ = ({ s₂ with vm := (U.calling g mk a).vm } : State).setVm s₂.vm := rfl
      rw [e2] at this
      exact this
    obtain ⟨c₂, i₂, len₂, hc₂, hd₂, hf₂⟩ := hend
    have hW' : U.WarmedH s₂.vm := hW₂
    have hcc : c₂ = c := by
      have h1 : s₂.code? g.method = U.code? g.method := by
        rw [State.code?_eq, State.code?_eq, hW'.alike.method?]
      exact Option.some.inj (hc₂.symm.trans (h1.trans h.code))
    subst hcc
    have hlen : len₂ = len := by rw [hdg] at hd₂; cases hd₂; rfl
    subst hlen
    have hs₂ : s₂ = (({ U with heap := s₂.heap, slotsUsed := s₂.slotsUsed } : State).setVm s₂.vm).setTop { g with pc := g.pc + len₂, stack := v.toList ++ g.stack } := by
      refine e3.trans ?_
      rw [hf₂, State.calling_eq h.top, State.setFrames_setFrames, State.setTop_of_frames _ hr', hr]
      rfl
    have hsame : U.sameButNew ({ U with heap := s₂.heap, slotsUsed := s₂.slotsUsed } : State) L mc ms := by
      refine ⟨?_, q2, q3, q4, q5, q6⟩
      obtain ⟨t, ht, -⟩ := State.frames_cons hr
      show ({ U with heap := s₂.heap, slotsUsed := s₂.slotsUsed } : State) = { U.setFrames U.frames with heap := s₂.heap, slotsUsed := s₂.slotsUsed }
      rw [State.setFrames_self ht]
    subst hg
    refine Or.inl ⟨v, ⟨(({ U with heap := s₂.heap, slotsUsed := s₂.slotsUsed } : State).setVm s₂.vm), Ls ++ L, c0 + mc, s0 + ms⟩,
      ⟨X.admits, X.cas, X.clock, X.frames, X.room, X.hears, X.method, X.code, (X.here.setHeapUsed s₂.heap s₂.slotsUsed).setVm hW'.alike, X.tail, State.WarmedH.trans X.warmed hW', X.limits, X.bytes, X.same.trans (hsame.setVm s.vm)⟩,
      ⟨g, mk, s₂, L, rfl, rfl, hqc, rfl, hL, rfl, rfl⟩, ?_⟩
    show Steps p.tables e below _ ((({ U with heap := s₂.heap, slotsUsed := s₂.slotsUsed } : State).setVm s₂.vm).setTop { g with pc := g.pc + len₂, stack := v.toList ++ g.stack })
    rw [← hs₂]
    exact hsteps
  · obtain ⟨e2, q2, q3, q4, q5, q6⟩ := id hsm
    have e3 : s₂ = ({ (U.calling g mk a).setFrames s₂.frames with heap := s₂.heap, slotsUsed := s₂.slotsUsed } : State).setVm s₂.vm := by
      have : s₂ = ({ s₂ with vm := (U.calling g mk a).vm } : State).setVm s₂.vm := rfl
      rw [e2] at this
      exact this
    have hf₂ : s₂.frames = .throwing q :: .java g :: U.frames.tail := hend
    have hW' : U.WarmedH s₂.vm := hW₂
    have hs₂ : s₂ = ((({ U with heap := s₂.heap, slotsUsed := s₂.slotsUsed } : State).setVm s₂.vm).setTop g).pushFrame (.throwing q) := by
      refine e3.trans ?_
      rw [hf₂, State.calling_eq h.top, State.setFrames_setFrames, State.pushFrame, State.frames_setTop _ hr', State.setTop_of_frames _ hr', State.setFrames_setFrames, hr]
      rfl
    have hsame : U.sameButNew ({ U with heap := s₂.heap, slotsUsed := s₂.slotsUsed } : State) L mc ms := by
      refine ⟨?_, q2, q3, q4, q5, q6⟩
      obtain ⟨t, ht, -⟩ := State.frames_cons hr
      show ({ U with heap := s₂.heap, slotsUsed := s₂.slotsUsed } : State) = { U.setFrames U.frames with heap := s₂.heap, slotsUsed := s₂.slotsUsed }
      rw [State.setFrames_self ht]
    subst hg
    refine Or.inr ⟨q, ⟨(({ U with heap := s₂.heap, slotsUsed := s₂.slotsUsed } : State).setVm s₂.vm), Ls ++ L, c0 + mc, s0 + ms⟩,
      ⟨X.admits, X.cas, X.clock, X.frames, X.room, X.hears, X.method, X.code, (X.here.setHeapUsed s₂.heap s₂.slotsUsed).setVm hW'.alike, X.tail, State.WarmedH.trans X.warmed hW', X.limits, X.bytes, X.same.trans (hsame.setVm s.vm)⟩,
      ⟨g, mk, s₂, L, E, ce, rfl, rfl, hx, hce, hcv, hcl, rfl, hL, rfl, rfl⟩, ?_⟩
    show Steps p.tables e below _ (((({ U with heap := s₂.heap, slotsUsed := s₂.slotsUsed } : State).setVm s₂.vm).setTop g).pushFrame (.throwing q))
    rw [← hs₂]
    exact hsteps
end Payer
section Calls
variable {p : Program} {l : Launch} {e : Env} {R : Room} {s : State} {m : MethodId} {args : Array Value} {below : List Frame} {meth : Method} {c : Code} {T : State} {locs : List Loc} {cells slots : Nat}
theorem vx_callV (X : Stand p l e R s m args below meth c T locs cells slots) (hexec : p.tables.exec = Jvm.exec) {own C : String} {index : Nat} {y : MethodName} {bytes : ByteArray} {maxL : Nat} {ret : Option FieldType}
    (hown : s.vm.findClass own = some m.cls) (hlink : (Cond.methodLink own index y).before args s = true) (hinst : (Cond.instanceMethod y).before args s = true) (hsel : (Cond.selects C y y).before args s = true)
    (hcode : (Cond.code y bytes maxL ret).before args s = true) (hy : y.cls ≠ "java/lang/invoke/MethodHandle" ∧ y.cls ≠ "java/lang/invoke/VarHandle")
    {W9 : Nat} {Pre : Pt → Array Value → Prop} {Post : Pt → Array Value → Option Value → Pt → Prop} {PostX : Pt → Array Value → Addr → Pt → Prop} (hK : vx_Back l R p e below s args y 3 W9 Pre Post PostX)
    {b : Addr} {cellB : Cell} (hcell : T.heap[b]? = some cellB) (hobj : cellB.vm.isStatics = false) (hcls : s.vm.findClass C = some cellB.cls)
    {g : JFrame} (hg : g.method = m) (hsize : g.locals.size = c.maxLocals) {argsL rest : List Value} (hlen : ∀ sig, parseMethodDescriptor y.desc = some sig → argsL.length = sig.parameters.length)
    (hstack : g.stack = argsL.reverse ++ .ref b :: rest) (hW : 2 * g.monitorRoom + (rest.map fun v => v.category).sum ≤ W9) (hdg : decode c.code g.pc = .ok (.invokevirtual index, 3))
    (hpre : ∀ vm₁, s.WarmedH vm₁ → Pre ⟨T.setVm vm₁, locs, cells, slots⟩ (Value.ref b :: argsL).toArray) :
    (∃ (v : Option Value) (vm₁ : Vm) (B : Pt), s.WarmedH vm₁ ∧ Stand p l e R s m args below meth c B.U B.locs B.cells B.slots ∧ Post ⟨T.setVm vm₁, locs, cells, slots⟩ (Value.ref b :: argsL).toArray v B ∧
      ∀ target, Steps p.tables e below (B.U.setTop { g with pc := g.pc + 3, stack := v.toList ++ rest }) target → Steps p.tables e below (T.setTop g) target) ∨
    (∃ (q : Addr) (vm₁ : Vm) (B : Pt), s.WarmedH vm₁ ∧ Stand p l e R s m args below meth c B.U B.locs B.cells B.slots ∧ PostX ⟨T.setVm vm₁, locs, cells, slots⟩ (Value.ref b :: argsL).toArray q B ∧
      Steps p.tables e below (T.setTop g) ((B.U.setTop { g with stack := rest }).pushFrame (.throwing q))) := by
  obtain ⟨mk, methM, hnamed, hmethM, hstM, habM⟩ := Cond.instanceMethod_spec hinst
  obtain ⟨methM', cM, hmethM', -, -, -, -, -, -, hsigM⟩ := Cond.code_spec hnamed hcode
  cases hmethM.symm.trans hmethM'
  obtain ⟨c2, r2, m2, q1, q2, q3, q4, kP, hkP, hkPi⟩ := Cond.selects_spec hsel
  cases hcls.symm.trans q1
  cases (State.methodFound?_of_named hnamed hy).symm.trans q2
  cases hnamed.symm.trans q3
  have hselP : selectMethod e.platform s.vm cellB.cls mk = .method mk := by rw [Launch.admits_selectMethod X.admits]; exact q4
  obtain ⟨vm₁, X₁, hstep₁⟩ := X.invokevirtual hexec hown hlink hnamed hmethM hstM hkP hkPi hy (a := b) (cell := cellB) hcell
    (fun z h => by rw [h] at hobj; cases hobj) hselP hmethM habM hkP hkPi (g := g) hg (argsL := argsL) (rest := rest) (hlen _ hsigM) hstack hdg
  rcases hK m meth c ⟨T.setVm vm₁, locs, cells, slots⟩ { g with stack := rest } (.invokevirtual index) mk (Value.ref b :: argsL).toArray X₁ hg hsize hdg hW (X₁.named hnamed) (hpre vm₁ X₁.warmed) with ⟨v, B, X', hpost, hsteps⟩ | ⟨q, B, X', hpost, hsteps⟩
  · exact Or.inl ⟨v, vm₁, B, X₁.warmed, X', hpost, fun target h => hstep₁ _ fun acts => by rw [doInvoke_state]; exact hsteps.trans h⟩
  · exact Or.inr ⟨q, vm₁, B, X₁.warmed, X', hpost, hstep₁ _ fun acts => by rw [doInvoke_state]; exact hsteps⟩
theorem vx_callS (X : Stand p l e R s m args below meth c T locs cells slots) (hexec : p.tables.exec = Jvm.exec) {own : String} {index : Nat} {y : MethodName} {bytes : ByteArray} {maxL : Nat} {ret : Option FieldType}
    (hown : s.vm.findClass own = some m.cls) (hlink : (Cond.methodLink own index y).before args s = true) (hstat : (Cond.static y).before args s = true) (hinit : (Cond.initialized y.cls).before args s = true)
    (hcode : (Cond.code y bytes maxL ret).before args s = true) (hy : y.cls ≠ "java/lang/invoke/MethodHandle" ∧ y.cls ≠ "java/lang/invoke/VarHandle")
    {W9 : Nat} {Pre : Pt → Array Value → Prop} {Post : Pt → Array Value → Option Value → Pt → Prop} {PostX : Pt → Array Value → Addr → Pt → Prop} (hK : vx_Back l R p e below s args y 3 W9 Pre Post PostX)
    {g : JFrame} (hg : g.method = m) (hsize : g.locals.size = c.maxLocals) {argsL rest : List Value} (hlen : ∀ sig, parseMethodDescriptor y.desc = some sig → argsL.length = sig.parameters.length)
    (hstack : g.stack = argsL.reverse ++ rest) (hW : 2 * g.monitorRoom + (rest.map fun v => v.category).sum ≤ W9) (hdg : decode c.code g.pc = .ok (.invokestatic index, 3))
    (hpre : ∀ vm₁, s.WarmedH vm₁ → Pre ⟨T.setVm vm₁, locs, cells, slots⟩ argsL.toArray) :
    (∃ (v : Option Value) (vm₁ : Vm) (B : Pt), s.WarmedH vm₁ ∧ Stand p l e R s m args below meth c B.U B.locs B.cells B.slots ∧ Post ⟨T.setVm vm₁, locs, cells, slots⟩ argsL.toArray v B ∧
      ∀ target, Steps p.tables e below (B.U.setTop { g with pc := g.pc + 3, stack := v.toList ++ rest }) target → Steps p.tables e below (T.setTop g) target) ∨
    (∃ (q : Addr) (vm₁ : Vm) (B : Pt), s.WarmedH vm₁ ∧ Stand p l e R s m args below meth c B.U B.locs B.cells B.slots ∧ PostX ⟨T.setVm vm₁, locs, cells, slots⟩ argsL.toArray q B ∧
      Steps p.tables e below (T.setTop g) ((B.U.setTop { g with stack := rest }).pushFrame (.throwing q))) := by
  obtain ⟨mk, hnamed⟩ := Cond.code_named hcode
  obtain ⟨methM, cM, hmethM, -, -, -, -, -, -, hsigM⟩ := Cond.code_spec hnamed hcode
  have hstatic : methM.isStatic = true := Cond.static_spec hnamed hmethM hstat
  obtain ⟨kP, hkP, -⟩ := className_of_methodNamed hnamed
  have hinitP : kP.init = .initialized := Cond.initialized_spec (findClass_of_methodNamed hnamed) hkP hinit
  obtain ⟨vm₁, X₁, hstep₁⟩ := X.invokestatic hexec hown hlink hnamed hmethM hstatic hkP hinitP hy (g := g) hg (argsL := argsL) (rest := rest) (hlen _ hsigM) hstack hdg
  rcases hK m meth c ⟨T.setVm vm₁, locs, cells, slots⟩ { g with stack := rest } (.invokestatic index) mk argsL.toArray X₁ hg hsize hdg hW (X₁.named hnamed) (hpre vm₁ X₁.warmed) with ⟨v, B, X', hpost, hsteps⟩ | ⟨q, B, X', hpost, hsteps⟩
  · exact Or.inl ⟨v, vm₁, B, X₁.warmed, X', hpost, fun target h => hstep₁ _ fun acts => by rw [doInvoke_state]; exact hsteps.trans h⟩
  · exact Or.inr ⟨q, vm₁, B, X₁.warmed, X', hpost, hstep₁ _ fun acts => by rw [doInvoke_state]; exact hsteps⟩
end Calls
theorem vx_cls {s : State} {T : State} {vm₁ : Vm} {E : String} {k : ClassId} (hW : s.WarmedH vm₁) (h : (T.setVm vm₁).vm.findClass E = some k) : s.vm.findClass E = some k := by
  have h1 : vm₁.findClass E = some k := h
  rw [hW.alike.findClass] at h1
  exact h1
/-- the method's frame g, with q thrown over it -/
def vx_W (p : Program) (l : Launch) (e : Env) (R : Room) (s : State) (m : MethodId) (args : Array Value) (below : List Frame) (meth : Method) (c : Code) (H : Heap) (locs : List Loc) (cells slots : Nat) (Q : State → Prop) (g : JFrame) (q : Addr) : Prop :=
  ∀ T : State, T.heap = H → Stand p l e R s m args below meth c T locs cells slots → ∃ t, Steps p.tables e below ((T.setTop g).pushFrame (.throwing q)) t ∧ Q t
def vx_Run (p : Program) (l : Launch) (e : Env) (R : Room) (s : State) (m : MethodId) (args : Array Value) (below : List Frame) (meth : Method) (c : Code) (H : Heap) (locs : List Loc) (cells slots mc ms : Nat) (g : JFrame) (rest : List Value) (Qa : State → Outcome → State → Prop) (XC : String → State → State → Prop) (free : Addr → Prop) : Prop :=
  ∀ T : State, T.heap = H → Stand p l e R s m args below meth c T locs cells slots →
    (∃ (v : Option Value) (st₀ t T' : State) (L : List Loc), st₀.heap = H ∧ Stand p l e R s m args below meth c T' (locs ++ L) (cells + mc) (slots + ms) ∧ (∀ q ∈ L, free q.base) ∧ T'.heap = t.heap ∧ T'.vm = t.vm ∧ Qa st₀ (.returned v) t ∧
      Goes p e below T g T' { g with pc := g.pc + 3, stack := v.toList ++ rest }) ∨
    (∃ (q : Addr) (st₀ t T' : State) (L : List Loc) (E : String) (ce : Cell), st₀.heap = H ∧ Stand p l e R s m args below meth c T' (locs ++ L) (cells + mc) (slots + ms) ∧ (∀ z ∈ L, free z.base) ∧ T'.heap = t.heap ∧ T'.vm = t.vm ∧ XC E st₀ t ∧ t.heap[q]? = some ce ∧ ce.vm = .none ∧ s.vm.findClass E = some ce.cls ∧
      Steps p.tables e below (T.setTop g) ((T'.setTop { g with stack := rest }).pushFrame (.throwing q)))
def vx_X {S : Type} (px : S → Prop) (B : String → S → State → Prop) (A : Nat → Prop) : String → State → State → Prop := fun E st t => ∃ u : S, px u ∧ B E u t ∧ va_F A st t
section Runs
variable {p : Program} {l : Launch} {e : Env} {R : Room} {s : State} {m : MethodId} {args : Array Value} {below : List Frame} {meth : Method} {c : Code} {H : Heap} {locs : List Loc} {cells slots : Nat}
variable {y : MethodName} {bytes cc : ByteArray} {maxL nL mc ms n index : Nat} {ret : Option FieldType} {ws : List Cond} {rm : Room} {Pc : Array Value → State → Prop} {Qc : Array Value → State → Outcome → State → Prop} {XC : String → State → State → Prop} {free : Addr → Prop} {Ts : List Cond} {own C : String} {b : Addr} {As rest : List Value} {g : JFrame}
theorem vx_callBack (cb : CallB R s args own index y bytes maxL ret ws rm mc ms n) (hM : vx_Met l y ws rm Pc Qc XC mc ms free) (hbl : FrameBlind Pc) : vx_Back l R p e below s args y 3 8 (PreOf R mc ms Pc) (PostOf Qc mc ms free) (vx_Post XC mc ms free) := by
  obtain ⟨hrc, hrs, hfr, hlo, hws, hcw, -, hini, -⟩ := cb
  exact vx_back (bytes := bytes) (maxL := maxL) (ret := ret) hM hbl hrc hrs hfr hlo hws hcw (fun a' U hW => word_at hW (Or.inl (by first | rfl | simp [Cond.onTables, Cond.keeps, Cond.steady])) hini)
theorem vx_runV (S : CallFix p m c cc nL s args Ts own) (hM : vx_Met l y ws rm Pc Qc XC mc ms free) (cw : CallW R s args own C index y bytes maxL ret ws rm mc ms n) (hp : PreV s H C b Pc As)
    (hg : g.method = m) (hn : As.length = n) (hsize : g.locals.size = nL) (hstack : g.stack = As.reverse ++ .ref b :: rest) (hW : 2 * g.monitorRoom + (rest.map fun v => v.category).sum ≤ 8) (hdg : decode cc g.pc = .ok (.invokevirtual index, 3)) (hf : cells + mc ≤ R.cells ∧ slots + ms ≤ R.slots) :
    vx_Run p l e R s m args below meth c H locs cells slots mc ms g rest (Qc (Value.ref b :: As).toArray) XC free := by
  have hK : vx_Back l R p e below s args y 3 8 (PreOf R mc ms Pc) (PostOf Qc mc ms free) (vx_Post XC mc ms free) := vx_callBack cw.1 hM hp.1
  obtain ⟨⟨-, -, -, -, -, -, hcode, -, hy, hlen, hl⟩, hin, hse⟩ := cw
  obtain ⟨hx, hb, hml, ho, -⟩ := S
  obtain ⟨-, ⟨cellB, hcB, hoB, hclB⟩, hPc⟩ := hp
  intro T hT X
  rcases vx_callV X hx (C := C) (bytes := bytes) (maxL := maxL) (ret := ret) ho hl hin hse hcode hy hK (by rw [hT]; exact hcB) hoB hclB hg (hsize.trans hml.symm) (argsL := As) (rest := rest) (fun sig h => hn.trans (hlen sig h)) hstack hW (by rw [hb]; exact hdg)
    (fun vm₁ hW₁ => ⟨hf.1, hf.2, hPc (T.setVm vm₁) hT hW₁⟩) with ⟨v, vm₁, ⟨U', l2, c2, s2⟩, hW₁, X', ⟨g', mk, t, L, e1, e2, hq, h1, hL, h2, h3⟩, st⟩ | ⟨q, vm₁, ⟨U', l2, c2, s2⟩, hW₁, X', ⟨g', mk, t, L, E, ce, e1, e2, hq, hce, hcv, hcl, h1, hL, h2, h3⟩, st⟩
  · dsimp only [Pt.U, Pt.locs, Pt.cells, Pt.slots] at X' e1 e2 h1 h2 h3 st
    subst h1; subst h2; subst h3
    exact Or.inl ⟨v, (T.setVm vm₁).calling g' mk (Value.ref b :: As).toArray, t, U', L, hT, X', hL, e1, e2, hq, st⟩
  · dsimp only [Pt.U, Pt.locs, Pt.cells, Pt.slots] at X' e1 e2 h1 h2 h3 st hcl
    subst h1; subst h2; subst h3
    exact Or.inr ⟨q, (T.setVm vm₁).calling g' mk (Value.ref b :: As).toArray, t, U', L, E, ce, hT, X', hL, e1, e2, hq, hce, hcv, vx_cls hW₁ hcl, st⟩
theorem vx_runS (S : CallFix p m c cc nL s args Ts own) (hM : vx_Met l y ws rm Pc Qc XC mc ms free) (cw : CallB R s args own index y bytes maxL ret ws rm mc ms n ∧ (Cond.static y).before args s = true) (hp : PreS s H Pc As)
    (hg : g.method = m) (hn : As.length = n) (hsize : g.locals.size = nL) (hstack : g.stack = As.reverse ++ rest) (hW : 2 * g.monitorRoom + (rest.map fun v => v.category).sum ≤ 8) (hdg : decode cc g.pc = .ok (.invokestatic index, 3)) (hf : cells + mc ≤ R.cells ∧ slots + ms ≤ R.slots) :
    vx_Run p l e R s m args below meth c H locs cells slots mc ms g rest (Qc As.toArray) XC free := by
  have hK : vx_Back l R p e below s args y 3 8 (PreOf R mc ms Pc) (PostOf Qc mc ms free) (vx_Post XC mc ms free) := vx_callBack cw.1 hM hp.1
  obtain ⟨⟨-, -, -, -, -, -, hcode, hini, hy, hlen, hl⟩, hstt⟩ := cw
  obtain ⟨hx, hb, hml, ho, -⟩ := S
  intro T hT X
  rcases vx_callS X hx (bytes := bytes) (maxL := maxL) (ret := ret) ho hl hstt hini hcode hy hK hg (hsize.trans hml.symm) (argsL := As) (rest := rest) (fun sig h => hn.trans (hlen sig h)) hstack hW (by rw [hb]; exact hdg)
    (fun vm₁ hW₁ => ⟨hf.1, hf.2, hp.2 (T.setVm vm₁) hT hW₁⟩) with ⟨v, vm₁, ⟨U', l2, c2, s2⟩, hW₁, X', ⟨g', mk, t, L, e1, e2, hq, h1, hL, h2, h3⟩, st⟩ | ⟨q, vm₁, ⟨U', l2, c2, s2⟩, hW₁, X', ⟨g', mk, t, L, E, ce, e1, e2, hq, hce, hcv, hcl, h1, hL, h2, h3⟩, st⟩
  · dsimp only [Pt.U, Pt.locs, Pt.cells, Pt.slots] at X' e1 e2 h1 h2 h3 st
    subst h1; subst h2; subst h3
    exact Or.inl ⟨v, (T.setVm vm₁).calling g' mk As.toArray, t, U', L, hT, X', hL, e1, e2, hq, st⟩
  · dsimp only [Pt.U, Pt.locs, Pt.cells, Pt.slots] at X' e1 e2 h1 h2 h3 st hcl
    subst h1; subst h2; subst h3
    exact Or.inr ⟨q, (T.setVm vm₁).calling g' mk As.toArray, t, U', L, E, ce, hT, X', hL, e1, e2, hq, hce, hcv, vx_cls hW₁ hcl, st⟩
end Runs
section Rows
variable {p : Program} {l : Launch} {e : Env} {R : Room} {s : State} {m : MethodId} {args : Array Value} {below : List Frame} {meth : Method} {c : Code} {H : Heap} {locs : List Loc} {cells slots : Nat} {Q : State → Prop}
variable {mc ms : Nat} {free : Addr → Prop} {A0 A1 : Nat → Prop} {H0 : Heap} {a : Array Value} {pc : Nat} {ls : Array Slot} {st0 rest : List Value}
theorem vx_keep {st₀ t T' : State} {L : List Loc} (h0 : st₀.heap = H) (e1 : T'.heap = t.heap) (hS : va_S A0 H0 H locs) (hA : ∀ q, q < H.size → A1 q → A0 q) (hf : ∀ q, free q → A0 q) (hL : ∀ q ∈ L, free q.base) (hF : va_F A1 st₀ t) :
    H.size ≤ T'.heap.size ∧ (∀ q : Nat, q < H.size → ¬ A1 q → T'.heap[q]? = H[q]?) ∧ va_S A0 H0 T'.heap (locs ++ L) := by
  obtain ⟨hz, hk⟩ := hF
  rw [h0] at hz hk
  exact ⟨by rw [e1]; exact hz, fun q h1 h2 => by rw [e1]; exact hk q h1 h2,
    ⟨Nat.le_trans hS.1 (by rw [e1]; exact hz), fun q h1 h2 => by rw [e1, hk q (Nat.lt_of_lt_of_le h1 hS.1) (fun z => h2 (hA q (Nat.lt_of_lt_of_le h1 hS.1) z))]; exact hS.2.1 q h1 h2, fun q hq => by
      rcases List.mem_append.mp hq with h | h
      · exact hS.2.2 q h
      · exact hf _ (hL q h)⟩⟩
theorem vx_calli {S SX : Type} {post : Int32 → S → Prop} {px : SX → Prop} {B : S → State → Prop} {BX : String → SX → State → Prop} {AX : Nat → Prop} (hr : vx_Run p l e R s m args below meth c H locs cells slots mc ms (F0 m pc ls st0) rest (va_Qi post B A1 a) (vx_X px BX AX) free) (hS : va_S A0 H0 H locs) (hA : ∀ q, q < H.size → A1 q → A0 q) (hf : ∀ q, free q → A0 q) (hAX : ∀ q, q < H.size → AX q → A0 q)
    (kx : ∀ (E : String) (ce : Cell) (q9 : Addr) (u : SX) (t : State) (H1 : Heap) (locs1 : List Loc), t.heap = H1 → s.vm.Alike t.vm → px u → BX E u t → H.size ≤ H1.size → (∀ q : Nat, q < H.size → ¬ AX q → H1[q]? = H[q]?) → va_S A0 H0 H1 locs1 → H1[q9]? = some ce → ce.vm = .none → s.vm.findClass E = some ce.cls → vx_W p l e R s m args below meth c H1 locs1 (cells + mc) (slots + ms) Q (F0 m pc ls rest) q9)
    (kk : ∀ (r : Int32) (u : S) (t : State) (H1 : Heap) (locs1 : List Loc), t.heap = H1 → s.vm.Alike t.vm → post r u → B u t → H.size ≤ H1.size → (∀ q : Nat, q < H.size → ¬ A1 q → H1[q]? = H[q]?) → va_S A0 H0 H1 locs1 → W p l e R s m args below meth c H1 locs1 (cells + mc) (slots + ms) Q (F0 m (pc + 3) ls (.int r :: rest))) : W p l e R s m args below meth c H locs cells slots Q (F0 m pc ls st0) := by
  intro T hT X
  rcases hr T hT X with ⟨v, st₀, t, T', L, h0, X', hL, e1, e2, ⟨⟨r, u, hv, hp, hb⟩, hF⟩, st⟩ | ⟨q, st₀, t, T', L, E, ce, h0, X', hL, e1, e2, ⟨u, hp, hb, hF⟩, hce, hcv, hcl, st⟩
  · cases hv
    obtain ⟨k1, k2, k3⟩ := vx_keep h0 e1 hS hA hf hL hF
    obtain ⟨t2, a1, b1⟩ := kk r u t T'.heap (locs ++ L) e1.symm (by rw [← e2]; exact X'.warmed.alike) hp hb k1 k2 k3 T' rfl X'
    exact ⟨t2, st t2 a1, b1⟩
  · obtain ⟨k1, k2, k3⟩ := vx_keep h0 e1 hS hAX hf hL hF
    obtain ⟨t2, a1, b1⟩ := kx E ce q u t T'.heap (locs ++ L) e1.symm (by rw [← e2]; exact X'.warmed.alike) hp hb k1 k2 k3 (by rw [e1]; exact hce) hcv hcl T' rfl X'
    exact ⟨t2, st.trans a1, b1⟩
theorem vx_calll {S SX : Type} {post : Int64 → S → Prop} {px : SX → Prop} {B : S → State → Prop} {BX : String → SX → State → Prop} {AX : Nat → Prop} (hr : vx_Run p l e R s m args below meth c H locs cells slots mc ms (F0 m pc ls st0) rest (va_Ql post B A1 a) (vx_X px BX AX) free) (hS : va_S A0 H0 H locs) (hA : ∀ q, q < H.size → A1 q → A0 q) (hf : ∀ q, free q → A0 q) (hAX : ∀ q, q < H.size → AX q → A0 q)
    (kx : ∀ (E : String) (ce : Cell) (q9 : Addr) (u : SX) (t : State) (H1 : Heap) (locs1 : List Loc), t.heap = H1 → s.vm.Alike t.vm → px u → BX E u t → H.size ≤ H1.size → (∀ q : Nat, q < H.size → ¬ AX q → H1[q]? = H[q]?) → va_S A0 H0 H1 locs1 → H1[q9]? = some ce → ce.vm = .none → s.vm.findClass E = some ce.cls → vx_W p l e R s m args below meth c H1 locs1 (cells + mc) (slots + ms) Q (F0 m pc ls rest) q9)
    (kk : ∀ (r : Int64) (u : S) (t : State) (H1 : Heap) (locs1 : List Loc), t.heap = H1 → s.vm.Alike t.vm → post r u → B u t → H.size ≤ H1.size → (∀ q : Nat, q < H.size → ¬ A1 q → H1[q]? = H[q]?) → va_S A0 H0 H1 locs1 → W p l e R s m args below meth c H1 locs1 (cells + mc) (slots + ms) Q (F0 m (pc + 3) ls (.long r :: rest))) : W p l e R s m args below meth c H locs cells slots Q (F0 m pc ls st0) := by
  intro T hT X
  rcases hr T hT X with ⟨v, st₀, t, T', L, h0, X', hL, e1, e2, ⟨⟨r, u, hv, hp, hb⟩, hF⟩, st⟩ | ⟨q, st₀, t, T', L, E, ce, h0, X', hL, e1, e2, ⟨u, hp, hb, hF⟩, hce, hcv, hcl, st⟩
  · cases hv
    obtain ⟨k1, k2, k3⟩ := vx_keep h0 e1 hS hA hf hL hF
    obtain ⟨t2, a1, b1⟩ := kk r u t T'.heap (locs ++ L) e1.symm (by rw [← e2]; exact X'.warmed.alike) hp hb k1 k2 k3 T' rfl X'
    exact ⟨t2, st t2 a1, b1⟩
  · obtain ⟨k1, k2, k3⟩ := vx_keep h0 e1 hS hAX hf hL hF
    obtain ⟨t2, a1, b1⟩ := kx E ce q u t T'.heap (locs ++ L) e1.symm (by rw [← e2]; exact X'.warmed.alike) hp hb k1 k2 k3 (by rw [e1]; exact hce) hcv hcl T' rfl X'
    exact ⟨t2, st.trans a1, b1⟩
theorem vx_callf {S SX : Type} {post : UInt32 → S → Prop} {px : SX → Prop} {B : S → State → Prop} {BX : String → SX → State → Prop} {AX : Nat → Prop} (hr : vx_Run p l e R s m args below meth c H locs cells slots mc ms (F0 m pc ls st0) rest (va_Qf post B A1 a) (vx_X px BX AX) free) (hS : va_S A0 H0 H locs) (hA : ∀ q, q < H.size → A1 q → A0 q) (hf : ∀ q, free q → A0 q) (hAX : ∀ q, q < H.size → AX q → A0 q)
    (kx : ∀ (E : String) (ce : Cell) (q9 : Addr) (u : SX) (t : State) (H1 : Heap) (locs1 : List Loc), t.heap = H1 → s.vm.Alike t.vm → px u → BX E u t → H.size ≤ H1.size → (∀ q : Nat, q < H.size → ¬ AX q → H1[q]? = H[q]?) → va_S A0 H0 H1 locs1 → H1[q9]? = some ce → ce.vm = .none → s.vm.findClass E = some ce.cls → vx_W p l e R s m args below meth c H1 locs1 (cells + mc) (slots + ms) Q (F0 m pc ls rest) q9)
    (kk : ∀ (r : UInt32) (u : S) (t : State) (H1 : Heap) (locs1 : List Loc), t.heap = H1 → s.vm.Alike t.vm → post r u → B u t → H.size ≤ H1.size → (∀ q : Nat, q < H.size → ¬ A1 q → H1[q]? = H[q]?) → va_S A0 H0 H1 locs1 → W p l e R s m args below meth c H1 locs1 (cells + mc) (slots + ms) Q (F0 m (pc + 3) ls (.float r :: rest))) : W p l e R s m args below meth c H locs cells slots Q (F0 m pc ls st0) := by
  intro T hT X
  rcases hr T hT X with ⟨v, st₀, t, T', L, h0, X', hL, e1, e2, ⟨⟨r, u, hv, hp, hb⟩, hF⟩, st⟩ | ⟨q, st₀, t, T', L, E, ce, h0, X', hL, e1, e2, ⟨u, hp, hb, hF⟩, hce, hcv, hcl, st⟩
  · cases hv
    obtain ⟨k1, k2, k3⟩ := vx_keep h0 e1 hS hA hf hL hF
    obtain ⟨t2, a1, b1⟩ := kk r u t T'.heap (locs ++ L) e1.symm (by rw [← e2]; exact X'.warmed.alike) hp hb k1 k2 k3 T' rfl X'
    exact ⟨t2, st t2 a1, b1⟩
  · obtain ⟨k1, k2, k3⟩ := vx_keep h0 e1 hS hAX hf hL hF
    obtain ⟨t2, a1, b1⟩ := kx E ce q u t T'.heap (locs ++ L) e1.symm (by rw [← e2]; exact X'.warmed.alike) hp hb k1 k2 k3 (by rw [e1]; exact hce) hcv hcl T' rfl X'
    exact ⟨t2, st.trans a1, b1⟩
theorem vx_calld {S SX : Type} {post : UInt64 → S → Prop} {px : SX → Prop} {B : S → State → Prop} {BX : String → SX → State → Prop} {AX : Nat → Prop} (hr : vx_Run p l e R s m args below meth c H locs cells slots mc ms (F0 m pc ls st0) rest (va_Qd post B A1 a) (vx_X px BX AX) free) (hS : va_S A0 H0 H locs) (hA : ∀ q, q < H.size → A1 q → A0 q) (hf : ∀ q, free q → A0 q) (hAX : ∀ q, q < H.size → AX q → A0 q)
    (kx : ∀ (E : String) (ce : Cell) (q9 : Addr) (u : SX) (t : State) (H1 : Heap) (locs1 : List Loc), t.heap = H1 → s.vm.Alike t.vm → px u → BX E u t → H.size ≤ H1.size → (∀ q : Nat, q < H.size → ¬ AX q → H1[q]? = H[q]?) → va_S A0 H0 H1 locs1 → H1[q9]? = some ce → ce.vm = .none → s.vm.findClass E = some ce.cls → vx_W p l e R s m args below meth c H1 locs1 (cells + mc) (slots + ms) Q (F0 m pc ls rest) q9)
    (kk : ∀ (r : UInt64) (u : S) (t : State) (H1 : Heap) (locs1 : List Loc), t.heap = H1 → s.vm.Alike t.vm → post r u → B u t → H.size ≤ H1.size → (∀ q : Nat, q < H.size → ¬ A1 q → H1[q]? = H[q]?) → va_S A0 H0 H1 locs1 → W p l e R s m args below meth c H1 locs1 (cells + mc) (slots + ms) Q (F0 m (pc + 3) ls (.double r :: rest))) : W p l e R s m args below meth c H locs cells slots Q (F0 m pc ls st0) := by
  intro T hT X
  rcases hr T hT X with ⟨v, st₀, t, T', L, h0, X', hL, e1, e2, ⟨⟨r, u, hv, hp, hb⟩, hF⟩, st⟩ | ⟨q, st₀, t, T', L, E, ce, h0, X', hL, e1, e2, ⟨u, hp, hb, hF⟩, hce, hcv, hcl, st⟩
  · cases hv
    obtain ⟨k1, k2, k3⟩ := vx_keep h0 e1 hS hA hf hL hF
    obtain ⟨t2, a1, b1⟩ := kk r u t T'.heap (locs ++ L) e1.symm (by rw [← e2]; exact X'.warmed.alike) hp hb k1 k2 k3 T' rfl X'
    exact ⟨t2, st t2 a1, b1⟩
  · obtain ⟨k1, k2, k3⟩ := vx_keep h0 e1 hS hAX hf hL hF
    obtain ⟨t2, a1, b1⟩ := kx E ce q u t T'.heap (locs ++ L) e1.symm (by rw [← e2]; exact X'.warmed.alike) hp hb k1 k2 k3 (by rw [e1]; exact hce) hcv hcl T' rfl X'
    exact ⟨t2, st.trans a1, b1⟩
theorem vx_callv {S SX : Type} {post : S → Prop} {px : SX → Prop} {B : S → State → Prop} {BX : String → SX → State → Prop} {AX : Nat → Prop} (hr : vx_Run p l e R s m args below meth c H locs cells slots mc ms (F0 m pc ls st0) rest (va_Qv post B A1 a) (vx_X px BX AX) free) (hS : va_S A0 H0 H locs) (hA : ∀ q, q < H.size → A1 q → A0 q) (hf : ∀ q, free q → A0 q) (hAX : ∀ q, q < H.size → AX q → A0 q)
    (kx : ∀ (E : String) (ce : Cell) (q9 : Addr) (u : SX) (t : State) (H1 : Heap) (locs1 : List Loc), t.heap = H1 → s.vm.Alike t.vm → px u → BX E u t → H.size ≤ H1.size → (∀ q : Nat, q < H.size → ¬ AX q → H1[q]? = H[q]?) → va_S A0 H0 H1 locs1 → H1[q9]? = some ce → ce.vm = .none → s.vm.findClass E = some ce.cls → vx_W p l e R s m args below meth c H1 locs1 (cells + mc) (slots + ms) Q (F0 m pc ls rest) q9)
    (kk : ∀ (u : S) (t : State) (H1 : Heap) (locs1 : List Loc), t.heap = H1 → s.vm.Alike t.vm → post u → B u t → H.size ≤ H1.size → (∀ q : Nat, q < H.size → ¬ A1 q → H1[q]? = H[q]?) → va_S A0 H0 H1 locs1 → W p l e R s m args below meth c H1 locs1 (cells + mc) (slots + ms) Q (F0 m (pc + 3) ls (rest))) : W p l e R s m args below meth c H locs cells slots Q (F0 m pc ls st0) := by
  intro T hT X
  rcases hr T hT X with ⟨v, st₀, t, T', L, h0, X', hL, e1, e2, ⟨⟨u, hv, hp, hb⟩, hF⟩, st⟩ | ⟨q, st₀, t, T', L, E, ce, h0, X', hL, e1, e2, ⟨u, hp, hb, hF⟩, hce, hcv, hcl, st⟩
  · cases hv
    obtain ⟨k1, k2, k3⟩ := vx_keep h0 e1 hS hA hf hL hF
    obtain ⟨t2, a1, b1⟩ := kk u t T'.heap (locs ++ L) e1.symm (by rw [← e2]; exact X'.warmed.alike) hp hb k1 k2 k3 T' rfl X'
    exact ⟨t2, st t2 a1, b1⟩
  · obtain ⟨k1, k2, k3⟩ := vx_keep h0 e1 hS hAX hf hL hF
    obtain ⟨t2, a1, b1⟩ := kx E ce q u t T'.heap (locs ++ L) e1.symm (by rw [← e2]; exact X'.warmed.alike) hp hb k1 k2 k3 (by rw [e1]; exact hce) hcv hcl T' rfl X'
    exact ⟨t2, st.trans a1, b1⟩
/-- caught by the row x of this method's table; the rows ahead don't take it -/
theorem vx_catch {own name : String} {E : String} {ce : Cell} {q : Addr} (hown : s.vm.findClass own = some m.cls) (pre : List ExceptionTableEntry) (x : ExceptionTableEntry) (suf : List ExceptionTableEntry) (hsplit : c.exceptionTable.toList = pre ++ x :: suf)
    (hpass : ∀ z ∈ pre, covers z pc = false ∨ (z.catchType ≠ 0 ∧ ∃ nm : String, (Cond.classLink own z.catchType nm).before args s = true ∧ va_Nc E nm s)) (hx : covers x pc = true) (h0 : x.catchType ≠ 0)
    (hlink : (Cond.classLink own x.catchType name).before args s = true) (hcast : (Cond.castable E name).before args s = true) (hcell : H[q]? = some ce) (hv : ce.vm = .none) (hcl : s.vm.findClass E = some ce.cls)
    (kk : W p l e R s m args below meth c H locs cells slots Q (F0 m x.handlerPc ls [.ref q])) : vx_W p l e R s m args below meth c H locs cells slots Q (F0 m pc ls rest) q := by
  intro T hT X
  have hpl : e.platform.magicAccessors = ({} : Platform).magicAccessors := by rw [X.admits.platform]
  obtain ⟨c3, c4, hc3, hc4, hasg⟩ := Cond.castable_spec hcast
  cases Option.some.inj (hc3.symm.trans hcl)
  obtain ⟨c5, hc5, hcl5⟩ := Cond.classLink_spec hown hlink e.platform hpl
  cases Option.some.inj (hc4.symm.trans hc5)
  obtain ⟨vm', X', st⟩ := X.thenCaughtThrough q (g := F0 m pc ls rest) rfl (Steps.refl _) (by rw [hT]; exact hcell) (by rw [hv]; rfl) (by obtain ⟨k9, h9, -⟩ := Vm.findClass_spec hcl; exact ⟨k9, h9⟩) pre x suf hsplit
    (fun z hz => by
      rcases hpass z hz with h | ⟨hz0, nm, hl1, hn1⟩
      · exact Or.inl h
      · obtain ⟨c6, hc6, hcl6⟩ := Cond.classLink_spec hown hl1 e.platform hpl
        obtain ⟨a8, b8, h1, h2, h3⟩ := hn1
        cases Option.some.inj (h1.symm.trans hcl)
        cases Option.some.inj (h2.symm.trans hc6)
        exact Or.inr ⟨hz0, _, hcl6, h3⟩) hx (Or.inr ⟨h0, c4, hcl5, hasg⟩)
  obtain ⟨t, a1, b1⟩ := kk (T.setVm vm') hT X'
  exact ⟨t, st.trans a1, b1⟩
end Rows
section Ends
variable {p : Program} {l : Launch} {e : Env} {R : Room} {s : State} {m : MethodId} {args : Array Value} {below : List Frame} {meth : Method} {c : Code} {H : Heap} {locs : List Loc} {cells slots : Nat} {Q : State → Prop}
variable {mc ms : Nat} {free : Addr → Prop} {A0 A1 : Nat → Prop} {H0 : Heap} {a : Array Value} {ls : Array Slot} {st0 rest : List Value}
variable {Qc : Array Value → State → Outcome → State → Prop} {XC : String → State → State → Prop}
/-- what a body that may throw owes at its end -/
def vx_MQ (below : List Frame) (Qc : Array Value → State → Outcome → State → Prop) (XC : String → State → State → Prop) (a : Array Value) (s : State) (mc ms : Nat) (free : Addr → Prop) : State → Prop := fun t =>
  ∃ o, t.status = .running ∧ Ended t below o ∧ vx_Q Qc XC mc ms free a s o t
theorem vx_ret {g : JFrame} {mc ms : Nat} (k : W p l e R s m args below meth c H locs cells slots (MQ below Qc args s mc ms free) g) : W p l e R s m args below meth c H locs cells slots (vx_MQ below Qc XC args s mc ms free) g := by
  intro T hT X
  obtain ⟨t, a1, o, b1, b2, b3, b4⟩ := k T hT X
  exact ⟨t, a1, o, b1, b2, Or.inl ⟨b3, b4⟩⟩
/-- not caught here: it goes on to the caller -/
theorem vx_widen {g : JFrame} {q : Addr} {k n : Nat} (h1 : cells ≤ k) (h2 : slots ≤ n) (kk : vx_W p l e R s m args below meth c H locs k n Q g q) : vx_W p l e R s m args below meth c H locs cells slots Q g q := fun T hT X => kk T hT (stand_widen X h1 h2)
theorem vx_out {pc : Nat} {E : String} {ce : Cell} {q : Addr} {mc ms : Nat} (hout : ∀ x ∈ c.exceptionTable.toList, covers x pc = false) (hlocks : meth.locks = false) (hcell : H[q]? = some ce) (hv : ce.vm = .none) (hcl : s.vm.findClass E = some ce.cls)
    (hx : ∀ t : State, t.heap = H → s.vm.Alike t.vm → XC E s t) (hf : ∀ z ∈ locs, free z.base) (hc : cells ≤ mc) (hs : slots ≤ ms) :
    vx_W p l e R s m args below meth c H locs cells slots (vx_MQ below Qc XC args s mc ms free) (F0 m pc ls rest) q := by
  intro T hT X
  obtain ⟨st1, hrun, hend, hW, hsm⟩ := X.leaveThrown q (g := F0 m pc ls rest) rfl rfl rfl hout hlocks
  have hcell9 : (T.setFrames (.throwing q :: below)).heap[q]? = some ce := by
    show T.heap[q]? = some ce
    rw [hT]; exact hcell
  exact ⟨_, st1, .threw q, hrun, hend, Or.inr ⟨q, rfl, E, ce, locs, hx _ hT hW.alike, hcell9, hv, hcl, hW, hsm.mono hc hs, hf⟩⟩
theorem vx_frame {U : State} {k n : Nat} (h : s.sameButNew ({ U with vm := s.vm } : State) locs k n) : s.heap.size ≤ U.heap.size ∧ ∀ q : Nat, q < s.heap.size → (∀ z ∈ locs, z.base ≠ q) → U.heap[q]? = s.heap[q]? := by
  obtain ⟨-, h2, -, -, -, h6⟩ := h
  refine ⟨h2, fun q hq hz => ?_⟩
  obtain ⟨c9, e1, e2, e3, e4⟩ := h6 q _ (Array.getElem?_eq_getElem hq)
  have hs : c9.slots = (s.heap[q]).slots := Array.ext_getElem? fun i => e4 i fun hm => hz _ hm rfl
  have h9 : c9 = s.heap[q] := by
    rw [hs] at e2
    exact e2
  have e5 : U.heap[q]? = some c9 := e1
  rw [e5, h9, Array.getElem?_eq_getElem hq]
/-- the words of a throw but the four that speak of the heap -/
def vx_no (w : Cond) : Bool := decide (w ≠ .isRef (.static Bundle.tN "UNASSIGNED_STACK" Bundle.steD)) && decide (w ≠ .isRef (.static Bundle.tN "SUPPRESSED_SENTINEL" Bundle.listD)) && decide (w ≠ .laysStatic Bundle.tN "UNASSIGNED_STACK" Bundle.steD) && decide (w ≠ .laysStatic Bundle.tN "SUPPRESSED_SENTINEL" Bundle.listD)
def vx_at0 (own : String) (ic : Nat) (X : String) (names : List String) : List Cond := (Bundle.ownAtoms0 own ic X names).filter vx_no
def vx_atS (own : String) (ic : Nat) (X : String) (names : List String) : List Cond := (Bundle.ownAtoms own ic X names).filter vx_no
/-- a word that the tables alone decide, or a good one -/
def vx_ot (w : Cond) : Bool := w.onTables || goodWord w
theorem vx_ot_at {args a' : Array Value} {s U : State} {w : Cond} (hW : s.WarmedH U.vm) (hvm : s.vm = U.vm) (hg : vx_ot w = true) (h : w.before args s = true) : w.before a' U = true := by
  simp only [vx_ot, Bool.or_eq_true] at hg
  rcases hg with hg | hg
  · exact va_tabs hg hvm h
  · exact word_at hW (good_of_word hg) h
/-- a list's words: the good ones out of the method's own list, the others by premises of their own -/
theorem vx_hat {args : Array Value} {s : State} {L B : List Cond} (h1 : ∀ w ∈ L.filter goodWord, w.before args s = true) (h2 : ∀ w ∈ L.filter (fun w => !goodWord w), w ∈ B) (h3 : ∀ w ∈ B, w.before args s = true) : ∀ w ∈ L, w.before args s = true := by
  intro w hw
  by_cases g : goodWord w = true
  · exact h1 w (List.mem_filter.mpr ⟨hw, g⟩)
  · refine h3 w (h2 w (List.mem_filter.mpr ⟨hw, ?_⟩))
    show (!goodWord w) = true
    cases hgw : goodWord w
    · rfl
    · exact absurd hgw g
theorem vx_c {args : Array Value} {s : State} {w : Cond} {B : List Cond} (h : w.before args s = true) (t : ∀ w ∈ B, w.before args s = true) : ∀ w' ∈ w :: B, w'.before args s = true := fun w' h' => (List.mem_cons.mp h').elim (fun e => by rw [e]; exact h) (t w')
theorem vx_n {args : Array Value} {s : State} : ∀ w ∈ ([] : List Cond), w.before args s = true := fun _ h => nomatch h
theorem vx_own {args : Array Value} {s : State} {L : List Cond} (h1 : ∀ w ∈ L.filter vx_no, w.before args s = true)
    (hU : (Cond.isRef (.static Bundle.tN "UNASSIGNED_STACK" Bundle.steD)).before args s = true) (hN : (Cond.isRef (.static Bundle.tN "SUPPRESSED_SENTINEL" Bundle.listD)).before args s = true)
    (lU : (Cond.laysStatic Bundle.tN "UNASSIGNED_STACK" Bundle.steD).before args s = true) (lN : (Cond.laysStatic Bundle.tN "SUPPRESSED_SENTINEL" Bundle.listD).before args s = true) : ∀ w ∈ L, w.before args s = true := by
  intro w hw
  by_cases e1 : w = .isRef (.static Bundle.tN "UNASSIGNED_STACK" Bundle.steD)
  · rw [e1]; exact hU
  · by_cases e2 : w = .isRef (.static Bundle.tN "SUPPRESSED_SENTINEL" Bundle.listD)
    · rw [e2]; exact hN
    · by_cases e3 : w = .laysStatic Bundle.tN "UNASSIGNED_STACK" Bundle.steD
      · rw [e3]; exact lU
      · by_cases e4 : w = .laysStatic Bundle.tN "SUPPRESSED_SENTINEL" Bundle.listD
        · rw [e4]; exact lN
        · exact h1 w (List.mem_filter.mpr ⟨hw, by unfold vx_no; rw [decide_eq_true e1, decide_eq_true e2, decide_eq_true e3, decide_eq_true e4]; rfl⟩)
/-- where a static field lies, its class's statics cell in H -/
def vx_L (C n d : String) (A : Nat → Prop) (U : State) (H : Heap) : Prop := ∃ (c : ClassId) (k : Class) (i : Nat) (f : Field) (a : Nat) (cell : Cell), U.vm.findClass C = some c ∧ U.fieldFound? C n d = some (c, k, i, f) ∧ f.isStatic = true ∧ k.statics = some a ∧ H[a]? = some cell ∧ cell.vm.isStatics = true ∧ cell.cls = c ∧ f.slot < cell.slots.size ∧ k.staticTypes[f.slot]? = some f.type ∧ ¬ A a
theorem vx_L.moved {C n d : String} {A : Nat → Prop} {u U : State} {H : Heap} (hvm : u.vm.Alike U.vm) (h : vx_L C n d A u H) : vx_L C n d A U H := by
  obtain ⟨c, k, i, f, a, cell, h1, h2, h3, h4, h5, h6, h7, h8, h9, h10⟩ := h
  obtain ⟨k', hi', he⟩ := State.fieldFound?_setVm hvm h2
  exact ⟨c, k', i, f, a, cell, by rw [hvm.findClass]; exact h1, hi', h3, by rw [he]; exact h4, h5, h6, h7, h8, by rw [he]; exact h9, h10⟩
theorem vx_L.kept {C n d : String} {A : Nat → Prop} {U : State} {H H1 : Heap} (h : vx_L C n d A U H) (hq : ∀ a : Nat, a < H.size → ¬ A a → H1[a]? = H[a]?) : vx_L C n d A U H1 := by
  obtain ⟨c, k, i, f, a, cell, h1, h2, h3, h4, h5, h6, h7, h8, h9, h10⟩ := h
  exact ⟨c, k, i, f, a, cell, h1, h2, h3, h4, by rw [hq a (Array.getElem?_eq_some_iff.mp h5).1 h10]; exact h5, h6, h7, h8, h9, h10⟩
theorem vx_L.narrow {C n d : String} {A B : Nat → Prop} {U : State} {H : Heap} (h : vx_L C n d A U H) (hAB : ∀ q, B q → A q) : vx_L C n d B U H := by
  obtain ⟨c, k, i, f, a, cell, h1, h2, h3, h4, h5, h6, h7, h8, h9, h10⟩ := h
  exact ⟨c, k, i, f, a, cell, h1, h2, h3, h4, h5, h6, h7, h8, h9, fun z => h10 (hAB _ z)⟩
theorem vx_L.word {C n d : String} {A : Nat → Prop} {s : State} {args : Array Value} (h : vx_L C n d A s s.heap) : (Cond.laysStatic C n d).before args s = true := by
  obtain ⟨c, k, i, f, a, cell, h1, h2, h3, h4, h5, h6, h7, h8, h9, -⟩ := h
  show (Cond.laysStatic C n d).holds args s none s [] = true
  exact Cond.laysStatic_of h1 h2 h3 h4 h5 h6 h7 h8 h9
/-- .. and what it holds: null or some reference -/
def vx_Zq (C n d : String) (A : Nat → Prop) (U : State) (H : Heap) : Prop := va_Zq C n d A U H ∧ vx_L C n d A U H
theorem vx_Zq.moved {C n d : String} {A : Nat → Prop} {u U : State} {H : Heap} (hvm : u.vm.Alike U.vm) (h : vx_Zq C n d A u H) : vx_Zq C n d A U H := ⟨va_Zq.moved hvm h.1, vx_L.moved hvm h.2⟩
theorem vx_Zq.kept {C n d : String} {A : Nat → Prop} {U : State} {H H1 : Heap} (h : vx_Zq C n d A U H) (hq : ∀ a : Nat, a < H.size → ¬ A a → H1[a]? = H[a]?) : vx_Zq C n d A U H1 := ⟨va_Zq.kept h.1 hq, vx_L.kept h.2 hq⟩
theorem vx_Zq.narrow {C n d : String} {A B : Nat → Prop} {U : State} {H : Heap} (h : vx_Zq C n d A U H) (hAB : ∀ q, B q → A q) : vx_Zq C n d B U H := ⟨va_Zq.narrow h.1 hAB, vx_L.narrow h.2 hAB⟩
theorem vx_Zqof {args : Array Value} {s : State} {C n d : String} {A : Nat → Prop} (hl : (Cond.laysStatic C n d).before args s = true) (hini : (Cond.initialized C).before args s = true) (h : (Cond.isRef (.static C n d)).before args s = true) (hA : ∀ a : Nat, a < s.heap.size → ¬ A a) : vx_Zq C n d A s s.heap := by
  refine ⟨va_Zqof hl hini h hA, ?_⟩
  obtain ⟨c, k, i, f, a, cell, h1, h2, h3, h4, h5, h6, h7, h8, h9⟩ := Cond.laysStatic_spec hl
  exact ⟨c, k, i, f, a, cell, h1, h2, h3, h4, h5, h6, h7, h8, h9, hA a (Array.getElem?_eq_some_iff.mp h5).1⟩
theorem vx_isRef {C n d : String} {v : Value} {A : Nat → Prop} {s : State} {args : Array Value} (h : va_Z C n d v A s s.heap) (hv : v.isRef = true) : (Cond.isRef (.static C n d)).before args s = true := by
  obtain ⟨cf, kf, fi, f, a, cell, h1, h2, h3, h4, h5, h6, h7, -⟩ := h
  have he : (Term.static C n d).eval args s none [] s = some v := by
    simp [Term.eval, State.fieldNamed?, h1, h2, h4, h5, h6, h7]
  simp only [Cond.before, Cond.holds, Cond.value, he]
  cases v <;> simp_all [Value.isRef]
theorem vx_isRefq {C n d : String} {A : Nat → Prop} {s : State} {args : Array Value} (h : va_Zq C n d A s s.heap) : (Cond.isRef (.static C n d)).before args s = true := by
  rcases h with h | ⟨t, h⟩
  · exact vx_isRef h rfl
  · exact vx_isRef h rfl
/-- the same frame, seen from here: as if the method were called anew in this heap -/
theorem vx_rebase {T : State} (X : Stand p l e R s m args below meth c T locs cells slots) {R' : Room} (hf : R'.frames ≤ R.frames) (hl : R'.locals ≤ R.locals) (hc : cells + R'.cells ≤ R.cells) (hs : slots + R'.slots ≤ R.slots) :
    Stand p l e R' ((T.setVm s.vm).setFrames (.invoking m args :: below)) m args below meth c T [] 0 0 := by
  have htop : (T.setVm s.vm).topJava?.isSome := X.here.top
  have hF : ((T.setVm s.vm).setFrames (.invoking m args :: below)).frames = .invoking m args :: below := State.frames_setFrames _ (State.cur_lt_of_top htop)
  obtain ⟨g₀, hg0⟩ := Option.isSome_iff_exists.mp htop
  obtain ⟨r, hr⟩ := State.topJava?_eq_some.mp hg0
  have hl9 : e.platform.stackLimits (T.setVm s.vm).me = e.platform.stackLimits s.me := X.limits
  have hb9 : (T.setVm s.vm).me.stackBytes = s.me.stackBytes := X.bytes
  refine ⟨X.admits, X.cas, X.clock, hF, ?_, X.hears, X.method, X.code, X.here, X.tail, X.warmed, ?_, ?_, ?_⟩
  · have h := X.room
    have hU : ((T.setVm s.vm).setFrames (.invoking m args :: below)).localsInUse = s.localsInUse := by
      rw [State.localsInUse_invoking hF (meth := meth) (c := c) X.method X.code, State.localsInUse_invoking X.frames X.method X.code]
    simp only [State.hasRoom, Bool.and_eq_true, decide_eq_true_eq] at h ⊢
    obtain ⟨⟨⟨⟨h1, h2, h3, h4, h5, h6⟩, h7⟩, h8⟩, h9⟩ := h
    rw [X.frames, List.length_cons] at h2 h3
    have q1 := X.heapSize
    have q2 := X.used
    simp only [hF, hU, List.length_cons, State.stackLimits_setFrames, State.stackBytes_setFrames, hl9, hb9]
    refine ⟨⟨⟨⟨by omega, by omega, by omega, by omega, by omega, h6⟩, ?_⟩, ?_⟩, X.book⟩
    · show T.heap.size + R'.cells ≤ e.platform.maxCells
      omega
    · show T.slotsUsed + R'.slots ≤ e.platform.maxSlots
      omega
  · rw [State.stackLimits_setFrames]; rfl
  · rw [State.stackBytes_setFrames]; rfl
  · refine ⟨?_, Nat.le_refl _, Nat.le_refl _, ?_, ?_, fun a c9 h9 => ⟨c9, h9, rfl, rfl, fun _ _ => rfl⟩⟩
    · obtain ⟨t, ht, -⟩ := State.frames_cons hr
      show T.setVm s.vm = { ((T.setVm s.vm).setFrames (.invoking m args :: below)).setFrames (T.setVm s.vm).frames with heap := T.heap, slotsUsed := T.slotsUsed }
      rw [State.setFrames_setFrames, State.setFrames_self ht]
      rfl
    · show T.slotsUsed = T.slotsUsed + ((T.heap.toList.drop T.heap.size).map (·.slots.size)).sum
      rw [List.drop_eq_nil_of_le (Nat.le_of_eq Array.length_toList)]
      rfl
    · show ((T.heap.toList.drop T.heap.size).map (·.slots.size)).sum ≤ 0
      rw [List.drop_eq_nil_of_le (Nat.le_of_eq Array.length_toList)]
      exact Nat.le_refl _
/-- 'throw new E()': new; dup; invokespecial; athrow -/
theorem vx_throw0 {cc : ByteArray} {pc : Nat} (hexec : p.tables.exec = Jvm.exec) (hb : c.code = cc) (hl : l.stackTraces = false) {own cls : String} {names : List String} {ik ic mc ms : Nat} {A : Nat → Prop}
    (hown : s.vm.findClass own = some m.cls) (hcls : Bundle.fit cls = true) (hnames : ∀ n ∈ names, Bundle.fit n = true)
    (hk : (Cond.classLink own ik cls).before args s = true) (hini : (Cond.initialized cls).before args s = true) (hat : ∀ w ∈ vx_at0 own ic cls names, w.before args s = true)
    (hgood : ∀ w ∈ Cond.classLink own ik cls :: Cond.initialized cls :: vx_at0 own ic cls names, vx_ot w = true)
    (hU : vx_Zq Bundle.tN "UNASSIGNED_STACK" Bundle.steD A s s.heap) (hN : vx_Zq Bundle.tN "SUPPRESSED_SENTINEL" Bundle.listD A s s.heap) (hS : va_S A s.heap H locs) (hsize : ls.size = c.maxLocals)
    (d0 : decode cc pc = .ok (.new ik, 3)) (d3 : decode cc (pc + 3) = .ok (.dup, 1)) (d4 : decode cc (pc + 4) = .ok (.invokespecial ic, 3)) (d7 : decode cc (pc + 7) = .ok (.athrow, 1))
    (hout : ∀ x ∈ c.exceptionTable.toList, covers x (pc + 7) = false)
    (hRframes : names.length + 3 < R.frames) (hRlocals : (rest.map fun v => v.category).sum + (13 * (names.length + 1) + 42) ≤ R.locals) (hRcells : cells + 1 ≤ R.cells) (hRslots : slots + 6 ≤ R.slots) (hlocks : meth.locks = false)
    (hx : ∀ t : State, s.vm.Alike t.vm → H.size ≤ t.heap.size → (∀ q : Nat, q < H.size → t.heap[q]? = H[q]?) → XC cls s t)
    (hf : ∀ z ∈ locs, free z.base) (hc : cells + 1 ≤ mc) (hs : slots + 6 ≤ ms) :
    W p l e R s m args below meth c H locs cells slots (vx_MQ below Qc XC args s mc ms free) (F0 m pc ls rest) := by
  intro T hT X
  have htr : e.platform.stackTraces = false := (show e.platform.stackTraces = l.stackTraces by rw [X.admits.platform]).trans hl
  have Y := vx_rebase X (R' := { frames := R.frames, locals := R.locals, cells := 1, slots := 6 }) (Nat.le_refl _) (Nat.le_refl _) hRcells hRslots
  obtain ⟨s', hA⟩ : ∃ z, z = (T.setVm s.vm).setFrames (.invoking m args :: below) := ⟨_, rfl⟩
  rw [← hA] at Y
  have hvm : s'.vm = s.vm := by rw [hA]; rfl
  have hhp : s'.heap = H := by rw [hA]; exact hT
  have hW0 : s.WarmedH s'.vm := by rw [hvm]; exact State.WarmedH.refl s
  have hat' : ∀ w ∈ vx_at0 own ic cls names, w.before args s' = true := fun w hw => vx_ot_at hW0 hvm.symm (hgood w (List.mem_cons_of_mem _ (List.mem_cons_of_mem _ hw))) (hat w hw)
  have hk' : (Cond.classLink own ik cls).before args s' = true := vx_ot_at hW0 hvm.symm (hgood _ List.mem_cons_self) hk
  have hini' : (Cond.initialized cls).before args s' = true := vx_ot_at hW0 hvm.symm (hgood _ (List.mem_cons_of_mem _ List.mem_cons_self)) hini
  have hU' : vx_Zq Bundle.tN "UNASSIGNED_STACK" Bundle.steD A s' s'.heap := by rw [hhp]; exact vx_Zq.moved hW0.alike (hU.kept hS.2.1)
  have hN' : vx_Zq Bundle.tN "SUPPRESSED_SENTINEL" Bundle.listD A s' s'.heap := by rw [hhp]; exact vx_Zq.moved hW0.alike (hN.kept hS.2.1)
  have h : ∀ w ∈ Bundle.ownAtoms0 own ic cls names, w.before args s' = true := vx_own hat' (vx_isRefq hU'.1) (vx_isRefq hN'.1) hU'.2.word hN'.2.word
  have hown' : s'.vm.findClass own = some m.cls := by rw [hvm]; exact hown
  have hins : (Cond.instantiable cls 6).before args s' = true := h _ (by simp [Bundle.ownAtoms0])
  obtain ⟨vm₁, cX, kX, hfX, hkX, -, -, X₁, st1⟩ := Y.newCold hexec (own := own) (C := cls) (index := ik) (n := 6) hown' hk' hins hini'
    (g := F0 m pc ls rest) rfl (by rw [hb]; exact d0) (Nat.le_refl _) (Nat.le_refl _)
  generalize hT1 : (T.setVm vm₁).pushCell { cls := cX, slots := kX.instanceTypes.map defaultValue, vm := .none } = T1 at X₁ st1
  have hcat : (Value.ref T.heap.size).category = 1 := rfl
  have hcellA : T1.heap[T.heap.size]? = some (freshCell cX kX) := by rw [← hT1]; exact State.heap_pushCell_size _ _
  have d3' : decode c.code (pc + 3) = .ok (.dup, 1) := by rw [hb]; exact d3
  obtain ⟨U, hsteps, hrun, hend, hW, hsame, ce, hce, hO⟩ := X₁.ctorThrow0 hexec htr (own := own) (cls := cls) (names := names) (ic := ic) hown' hcls hnames h (fun x hx => nomatch hx) hfX hkX hcellA (by rw [hhp, hT]; exact Nat.le_refl _)
    (g := { method := m, pc := pc + 4, locals := ls, stack := .ref T.heap.size :: .ref T.heap.size :: rest, locked := none }) rfl hsize rfl rfl (rest := rest) rfl
    (by rw [hb]; exact d4) (by rw [hb]; exact d7) hout hRframes (by simp only [List.map_cons, List.sum_cons, hcat]; omega) hlocks
  obtain ⟨f1, f2⟩ := vx_frame hsame
  rw [hhp] at f1 f2
  have hWs : s.WarmedH U.vm := State.WarmedH.trans hW0 hW
  have hcl : s.vm.findClass cls = some ce.cls := by
    have h9 := hO.cls
    rw [hvm] at h9
    exact h9
  have hall : s.sameButNew ({ U with vm := s.vm } : State) locs mc ms := by
    subst hA
    obtain ⟨e1, e2⟩ := hsame
    rw [State.setFrames_setFrames] at e1
    have h2 : (T.setVm s.vm).sameButNew ({ U with vm := s.vm } : State) [] (0 + 1) (0 + 6) := ⟨e1, e2⟩
    have h3 := X.same.trans h2
    rw [List.append_nil] at h3
    exact h3.mono hc hs
  refine ⟨U, ?_, .threw T.heap.size, hrun, hend, Or.inr ⟨T.heap.size, rfl, cls, ce, locs, hx U hWs.alike f1 (fun q hq => f2 q hq (fun z hz => nomatch hz)), hce, hO.vm, hcl, hWs, hall, hf⟩⟩
  refine st1 _ ?_
  show Steps p.tables e below (T1.setTop { method := m, pc := pc + 3, locals := ls, stack := .ref T.heap.size :: rest, locked := none }) _
  jvm_step X₁.here [X₁.here.top, hexec, d3', Value.category]
  exact hsteps
/-- 'throw new E("text")': new; dup; ldc; invokespecial; athrow -/
theorem vx_throwS {cc : ByteArray} {pc : Nat} (hexec : p.tables.exec = Jvm.exec) (hb : c.code = cc) (hl : l.stackTraces = false) {own cls text : String} {names : List String} {ik is ic mc ms sa : Nat} {A : Nat → Prop}
    (hown : s.vm.findClass own = some m.cls) (hcls : Bundle.fit cls = true) (hnames : ∀ n ∈ names, Bundle.fit n = true)
    (hk : (Cond.classLink own ik cls).before args s = true) (hini : (Cond.initialized cls).before args s = true) (hstr : vk_R own is text sa s) (hat : ∀ w ∈ vx_atS own ic cls names, w.before args s = true)
    (hgood : ∀ w ∈ Cond.classLink own ik cls :: Cond.initialized cls :: vx_atS own ic cls names, vx_ot w = true)
    (hU : vx_Zq Bundle.tN "UNASSIGNED_STACK" Bundle.steD A s s.heap) (hN : vx_Zq Bundle.tN "SUPPRESSED_SENTINEL" Bundle.listD A s s.heap) (hS : va_S A s.heap H locs) (hsize : ls.size = c.maxLocals)
    (d0 : decode cc pc = .ok (.new ik, 3)) (d3 : decode cc (pc + 3) = .ok (.dup, 1)) (d4 : decode cc (pc + 4) = .ok (.ldc is, 2)) (d6 : decode cc (pc + 6) = .ok (.invokespecial ic, 3)) (d9 : decode cc (pc + 9) = .ok (.athrow, 1))
    (hout : ∀ x ∈ c.exceptionTable.toList, covers x (pc + 9) = false)
    (hRframes : names.length + 3 < R.frames) (hRlocals : (rest.map fun v => v.category).sum + (13 * (names.length + 1) + 43) ≤ R.locals) (hRcells : cells + 1 ≤ R.cells) (hRslots : slots + 6 ≤ R.slots) (hlocks : meth.locks = false)
    (hx : ∀ t : State, s.vm.Alike t.vm → H.size ≤ t.heap.size → (∀ q : Nat, q < H.size → t.heap[q]? = H[q]?) → XC cls s t)
    (hf : ∀ z ∈ locs, free z.base) (hc : cells + 1 ≤ mc) (hs : slots + 6 ≤ ms) :
    W p l e R s m args below meth c H locs cells slots (vx_MQ below Qc XC args s mc ms free) (F0 m pc ls rest) := by
  intro T hT X
  have htr : e.platform.stackTraces = false := (show e.platform.stackTraces = l.stackTraces by rw [X.admits.platform]).trans hl
  have Y := vx_rebase X (R' := { frames := R.frames, locals := R.locals, cells := 1, slots := 6 }) (Nat.le_refl _) (Nat.le_refl _) hRcells hRslots
  obtain ⟨s', hA⟩ : ∃ z, z = (T.setVm s.vm).setFrames (.invoking m args :: below) := ⟨_, rfl⟩
  rw [← hA] at Y
  have hvm : s'.vm = s.vm := by rw [hA]; rfl
  have hhp : s'.heap = H := by rw [hA]; exact hT
  have hW0 : s.WarmedH s'.vm := by rw [hvm]; exact State.WarmedH.refl s
  have hat' : ∀ w ∈ vx_atS own ic cls names, w.before args s' = true := fun w hw => vx_ot_at hW0 hvm.symm (hgood w (List.mem_cons_of_mem _ (List.mem_cons_of_mem _ hw))) (hat w hw)
  have hk' : (Cond.classLink own ik cls).before args s' = true := vx_ot_at hW0 hvm.symm (hgood _ List.mem_cons_self) hk
  have hini' : (Cond.initialized cls).before args s' = true := vx_ot_at hW0 hvm.symm (hgood _ (List.mem_cons_of_mem _ List.mem_cons_self)) hini
  have hU' : vx_Zq Bundle.tN "UNASSIGNED_STACK" Bundle.steD A s' s'.heap := by rw [hhp]; exact vx_Zq.moved hW0.alike (hU.kept hS.2.1)
  have hN' : vx_Zq Bundle.tN "SUPPRESSED_SENTINEL" Bundle.listD A s' s'.heap := by rw [hhp]; exact vx_Zq.moved hW0.alike (hN.kept hS.2.1)
  have h : ∀ w ∈ Bundle.ownAtoms own ic cls names, w.before args s' = true := vx_own hat' (vx_isRefq hU'.1) (vx_isRefq hN'.1) hU'.2.word hN'.2.word
  have hown' : s'.vm.findClass own = some m.cls := by rw [hvm]; exact hown
  have hins : (Cond.instantiable cls 6).before args s' = true := h _ (by simp [Bundle.ownAtoms])
  obtain ⟨vm₁, cX, kX, hfX, hkX, -, -, X₁, st1⟩ := Y.newCold hexec (own := own) (C := cls) (index := ik) (n := 6) hown' hk' hins hini'
    (g := F0 m pc ls rest) rfl (by rw [hb]; exact d0) (Nat.le_refl _) (Nat.le_refl _)
  generalize hT1 : (T.setVm vm₁).pushCell { cls := cX, slots := kX.instanceTypes.map defaultValue, vm := .none } = T1 at X₁ st1
  have hcat : (Value.ref T.heap.size).category = 1 := rfl
  have hcellA : T1.heap[T.heap.size]? = some (freshCell cX kX) := by rw [← hT1]; exact State.heap_pushCell_size _ _
  have d3' : decode c.code (pc + 3) = .ok (.dup, 1) := by rw [hb]; exact d3
  have d4' : decode c.code (pc + 4) = .ok (.ldc is, 2) := by rw [hb]; exact d4
  have hstr' : vk_R own is text sa s' := vk_R.warm hW0 hstr
  obtain ⟨U, hsteps, hrun, hend, hW, hsame, ce, hce, hO⟩ := X₁.ctorThrowS hexec htr (own := own) (cls := cls) (names := names) (ic := ic) hown' hcls hnames h (fun x hx => nomatch hx) hfX hkX hcellA (by rw [hhp, hT]; exact Nat.le_refl _) (msg := .ref sa) rfl
    (g := { method := m, pc := pc + 6, locals := ls, stack := .ref sa :: .ref T.heap.size :: .ref T.heap.size :: rest, locked := none }) rfl hsize rfl rfl (rest := rest) rfl
    (by rw [hb]; exact d6) (by rw [hb]; exact d9) hout hRframes (by simp only [List.map_cons, List.sum_cons, hcat]; omega) hlocks
  obtain ⟨f1, f2⟩ := vx_frame hsame
  rw [hhp] at f1 f2
  have hWs : s.WarmedH U.vm := State.WarmedH.trans hW0 hW
  have hcl : s.vm.findClass cls = some ce.cls := by
    have h9 := hO.cls
    rw [hvm] at h9
    exact h9
  have hall : s.sameButNew ({ U with vm := s.vm } : State) locs mc ms := by
    subst hA
    obtain ⟨e1, e2⟩ := hsame
    rw [State.setFrames_setFrames] at e1
    have h2 : (T.setVm s.vm).sameButNew ({ U with vm := s.vm } : State) [] (0 + 1) (0 + 6) := ⟨e1, e2⟩
    have h3 := X.same.trans h2
    rw [List.append_nil] at h3
    exact h3.mono hc hs
  refine ⟨U, ?_, .threw T.heap.size, hrun, hend, Or.inr ⟨T.heap.size, rfl, cls, ce, locs, hx U hWs.alike f1 (fun q hq => f2 q hq (fun z hz => nomatch hz)), hce, hO.vm, hcl, hWs, hall, hf⟩⟩
  refine st1 _ ?_
  show Steps p.tables e below (T1.setTop { method := m, pc := pc + 3, locals := ls, stack := .ref T.heap.size :: rest, locked := none }) _
  jvm_step X₁.here [X₁.here.top, hexec, d3', Value.category]
  exact X₁.ldcString hexec (own := own) (text := text) (index := is) (a := sa) hown' hstr'.1 hstr'.2
    (g := { method := m, pc := pc + 4, locals := ls, stack := .ref T.heap.size :: .ref T.heap.size :: rest, locked := none }) rfl d4' _ hsteps
/-- 'throw new E("text")', the text by a wide index -/
theorem vx_throwSW {cc : ByteArray} {pc : Nat} (hexec : p.tables.exec = Jvm.exec) (hb : c.code = cc) (hl : l.stackTraces = false) {own cls text : String} {names : List String} {ik is ic mc ms sa : Nat} {A : Nat → Prop}
    (hown : s.vm.findClass own = some m.cls) (hcls : Bundle.fit cls = true) (hnames : ∀ n ∈ names, Bundle.fit n = true)
    (hk : (Cond.classLink own ik cls).before args s = true) (hini : (Cond.initialized cls).before args s = true) (hstr : vk_R own is text sa s) (hat : ∀ w ∈ vx_atS own ic cls names, w.before args s = true)
    (hgood : ∀ w ∈ Cond.classLink own ik cls :: Cond.initialized cls :: vx_atS own ic cls names, vx_ot w = true)
    (hU : vx_Zq Bundle.tN "UNASSIGNED_STACK" Bundle.steD A s s.heap) (hN : vx_Zq Bundle.tN "SUPPRESSED_SENTINEL" Bundle.listD A s s.heap) (hS : va_S A s.heap H locs) (hsize : ls.size = c.maxLocals)
    (d0 : decode cc pc = .ok (.new ik, 3)) (d3 : decode cc (pc + 3) = .ok (.dup, 1)) (d4 : decode cc (pc + 4) = .ok (.ldc_w is, 3)) (d7 : decode cc (pc + 7) = .ok (.invokespecial ic, 3)) (d10 : decode cc (pc + 10) = .ok (.athrow, 1))
    (hout : ∀ x ∈ c.exceptionTable.toList, covers x (pc + 10) = false)
    (hRframes : names.length + 3 < R.frames) (hRlocals : (rest.map fun v => v.category).sum + (13 * (names.length + 1) + 43) ≤ R.locals) (hRcells : cells + 1 ≤ R.cells) (hRslots : slots + 6 ≤ R.slots) (hlocks : meth.locks = false)
    (hx : ∀ t : State, s.vm.Alike t.vm → H.size ≤ t.heap.size → (∀ q : Nat, q < H.size → t.heap[q]? = H[q]?) → XC cls s t)
    (hf : ∀ z ∈ locs, free z.base) (hc : cells + 1 ≤ mc) (hs : slots + 6 ≤ ms) :
    W p l e R s m args below meth c H locs cells slots (vx_MQ below Qc XC args s mc ms free) (F0 m pc ls rest) := by
  intro T hT X
  have htr : e.platform.stackTraces = false := (show e.platform.stackTraces = l.stackTraces by rw [X.admits.platform]).trans hl
  have Y := vx_rebase X (R' := { frames := R.frames, locals := R.locals, cells := 1, slots := 6 }) (Nat.le_refl _) (Nat.le_refl _) hRcells hRslots
  obtain ⟨s', hA⟩ : ∃ z, z = (T.setVm s.vm).setFrames (.invoking m args :: below) := ⟨_, rfl⟩
  rw [← hA] at Y
  have hvm : s'.vm = s.vm := by rw [hA]; rfl
  have hhp : s'.heap = H := by rw [hA]; exact hT
  have hW0 : s.WarmedH s'.vm := by rw [hvm]; exact State.WarmedH.refl s
  have hat' : ∀ w ∈ vx_atS own ic cls names, w.before args s' = true := fun w hw => vx_ot_at hW0 hvm.symm (hgood w (List.mem_cons_of_mem _ (List.mem_cons_of_mem _ hw))) (hat w hw)
  have hk' : (Cond.classLink own ik cls).before args s' = true := vx_ot_at hW0 hvm.symm (hgood _ List.mem_cons_self) hk
  have hini' : (Cond.initialized cls).before args s' = true := vx_ot_at hW0 hvm.symm (hgood _ (List.mem_cons_of_mem _ List.mem_cons_self)) hini
  have hU' : vx_Zq Bundle.tN "UNASSIGNED_STACK" Bundle.steD A s' s'.heap := by rw [hhp]; exact vx_Zq.moved hW0.alike (hU.kept hS.2.1)
  have hN' : vx_Zq Bundle.tN "SUPPRESSED_SENTINEL" Bundle.listD A s' s'.heap := by rw [hhp]; exact vx_Zq.moved hW0.alike (hN.kept hS.2.1)
  have h : ∀ w ∈ Bundle.ownAtoms own ic cls names, w.before args s' = true := vx_own hat' (vx_isRefq hU'.1) (vx_isRefq hN'.1) hU'.2.word hN'.2.word
  have hown' : s'.vm.findClass own = some m.cls := by rw [hvm]; exact hown
  have hins : (Cond.instantiable cls 6).before args s' = true := h _ (by simp [Bundle.ownAtoms])
  obtain ⟨vm₁, cX, kX, hfX, hkX, -, -, X₁, st1⟩ := Y.newCold hexec (own := own) (C := cls) (index := ik) (n := 6) hown' hk' hins hini'
    (g := F0 m pc ls rest) rfl (by rw [hb]; exact d0) (Nat.le_refl _) (Nat.le_refl _)
  generalize hT1 : (T.setVm vm₁).pushCell { cls := cX, slots := kX.instanceTypes.map defaultValue, vm := .none } = T1 at X₁ st1
  have hcat : (Value.ref T.heap.size).category = 1 := rfl
  have hcellA : T1.heap[T.heap.size]? = some (freshCell cX kX) := by rw [← hT1]; exact State.heap_pushCell_size _ _
  have d3' : decode c.code (pc + 3) = .ok (.dup, 1) := by rw [hb]; exact d3
  have d4' : decode c.code (pc + 4) = .ok (.ldc_w is, 3) := by rw [hb]; exact d4
  have hstr' : vk_R own is text sa s' := vk_R.warm hW0 hstr
  obtain ⟨U, hsteps, hrun, hend, hW, hsame, ce, hce, hO⟩ := X₁.ctorThrowS hexec htr (own := own) (cls := cls) (names := names) (ic := ic) hown' hcls hnames h (fun x hx => nomatch hx) hfX hkX hcellA (by rw [hhp, hT]; exact Nat.le_refl _) (msg := .ref sa) rfl
    (g := { method := m, pc := pc + 7, locals := ls, stack := .ref sa :: .ref T.heap.size :: .ref T.heap.size :: rest, locked := none }) rfl hsize rfl rfl (rest := rest) rfl
    (by rw [hb]; exact d7) (by rw [hb]; exact d10) hout hRframes (by simp only [List.map_cons, List.sum_cons, hcat]; omega) hlocks
  obtain ⟨f1, f2⟩ := vx_frame hsame
  rw [hhp] at f1 f2
  have hWs : s.WarmedH U.vm := State.WarmedH.trans hW0 hW
  have hcl : s.vm.findClass cls = some ce.cls := by
    have h9 := hO.cls
    rw [hvm] at h9
    exact h9
  have hall : s.sameButNew ({ U with vm := s.vm } : State) locs mc ms := by
    subst hA
    obtain ⟨e1, e2⟩ := hsame
    rw [State.setFrames_setFrames] at e1
    have h2 : (T.setVm s.vm).sameButNew ({ U with vm := s.vm } : State) [] (0 + 1) (0 + 6) := ⟨e1, e2⟩
    have h3 := X.same.trans h2
    rw [List.append_nil] at h3
    exact h3.mono hc hs
  refine ⟨U, ?_, .threw T.heap.size, hrun, hend, Or.inr ⟨T.heap.size, rfl, cls, ce, locs, hx U hWs.alike f1 (fun q hq => f2 q hq (fun z hz => nomatch hz)), hce, hO.vm, hcl, hWs, hall, hf⟩⟩
  refine st1 _ ?_
  show Steps p.tables e below (T1.setTop { method := m, pc := pc + 3, locals := ls, stack := .ref T.heap.size :: rest, locked := none }) _
  jvm_step X₁.here [X₁.here.top, hexec, d3', Value.category]
  exact X₁.ldcStringW hexec (own := own) (text := text) (index := is) (a := sa) hown' hstr'.1 hstr'.2
    (g := { method := m, pc := pc + 4, locals := ls, stack := .ref T.heap.size :: .ref T.heap.size :: rest, locked := none }) rfl d4' _ hsteps
end Ends
section Bodies
variable {l : Launch}
theorem vx_ofW {y : MethodName} {ws ws' : List Cond} {rm : Room} {Pc : Array Value → State → Prop} {Qc : Array Value → State → Outcome → State → Prop} {XC : String → State → State → Prop} {mc ms : Nat} {free : Addr → Prop} {cc : ByteArray} {maxL : Nat} {ret : Option FieldType}
    (hy : plainName y.cls = true) (hw : ws = Cond.code y cc maxL ret :: ws')
    (body : ∀ p e s m args below meth c s₁, BodyLoose p l y (headSpec ws rm) cc maxL ret e s m args below meth c s₁ → c.maxLocals = maxL → (∀ x ∈ c.exceptionTable.toList, False) → Pc args s →
      W p l e (headSpec ws rm).room s m args below meth c s.heap [] 0 0 (vx_MQ below Qc XC args s mc ms free) (entryFrame m args maxL)) : vx_Met l y ws rm Pc Qc XC mc ms free := by
  refine MetFree.of_bodyS (code := cc) (maxLocals := maxL) (ret := ret) hy ?_ ?_
  · intro args s m h hn
    obtain ⟨meth, c, h1, h2, h3, h4, h5, h6, -, -⟩ := Cond.code_spec hn (atoms_spec (ws := ws) h _ (by rw [hw]; exact List.mem_cons_self))
    exact ⟨meth, c, h1, h2, h3, h4, h5, h6⟩
  · intro p e s m args below meth c s₁ B hml hP _
    have hh0 : s₁.heap = s.heap := by rw [B.state]; rfl
    have ht : ∀ x ∈ c.exceptionTable.toList, False := by
      obtain ⟨meth9, c9, h1, h2, -, -, -, -, h7, -⟩ := Cond.code_spec B.named (atoms_spec (ws := ws) B.pre _ (by rw [hw]; exact List.mem_cons_self))
      cases Option.some.inj (h1.symm.trans B.method)
      cases Option.some.inj (h2.symm.trans (Stand.of_body B).code)
      intro x hx
      rw [Array.isEmpty_iff.mp h7] at hx
      cases hx
    obtain ⟨t, a1, o, b1, b2, b3⟩ := body p e s m args below meth c s₁ B hml ht hP s₁ hh0 (Stand.of_body B)
    exact ⟨t, o, a1, b1, b2, b3⟩
/-- the table of a body with handlers -/
theorem vx_table {p : Program} {x y : MethodName} {S : Spec} {cc bytes : ByteArray} {maxL maxL' : Nat} {ret ret' : Option FieldType} {e : Env} {s s₁ : State} {m : MethodId} {args : Array Value} {below : List Frame} {meth : Method} {c : Code} {hh : List (Nat × Nat × Nat × Nat)}
    (B : BodyLoose p l y S cc maxL ret e s m args below meth c s₁) (h : (Cond.codeWith y bytes maxL' ret' hh).before args s = true) : c.exceptionTable.toList = tableOf hh := by
  obtain ⟨m9, meth9, c9, hn9, h1, h2, -, -, h6, -⟩ := Cond.codeWith_spec h
  cases Option.some.inj (hn9.symm.trans B.named)
  cases Option.some.inj (h1.symm.trans B.method)
  cases Option.some.inj (h2.symm.trans (Stand.of_body B).code)
  rw [← h6, table_eq]
end Bodies
end VXA
/-! ===== END ===== -/
/-! ===== BEGIN a static call of a method with an exception table ===== -/
section VXS
variable {p : Program} {l : Launch} {e : Env} {R : Room} {s : State} {m : MethodId} {args : Array Value} {below : List Frame} {meth : Method} {c : Code} {T : State} {H : Heap} {locs : List Loc} {cells slots : Nat}
abbrev vx_CSW (R : Room) (s : State) (args : Array Value) (own : String) (index : Nat) (y : MethodName) (bytes : ByteArray) (maxL : Nat) (ret : Option FieldType) (hh : List (Nat × Nat × Nat × Nat)) (ws : List Cond) (rm : Room) (mc ms n : Nat) : Prop :=
  (rm.cells = mc ∧ rm.slots = ms ∧ rm.frames + 1 ≤ R.frames ∧ 8 + (maxL + 11) + rm.locals ≤ R.locals ∧ (∀ w ∈ ws, ∀ (a' : Array Value) (U : State), s.WarmedH U.vm → w.before a' U = true) ∧ Cond.codeWith y bytes maxL ret hh ∈ ws) ∧
  (Cond.codeWith y bytes maxL ret hh).before args s = true ∧ (Cond.initialized y.cls).before args s = true ∧ (y.cls ≠ "java/lang/invoke/MethodHandle" ∧ y.cls ≠ "java/lang/invoke/VarHandle") ∧
  (∀ sig, parseMethodDescriptor y.desc = some sig → n = sig.parameters.length) ∧ (Cond.methodLink own index y).before args s = true ∧ (Cond.static y).before args s = true
theorem vx_cwSW {own : String} {index maxL mc ms : Nat} {y : MethodName} {bytes : ByteArray} {ret : Option FieldType} {hh : List (Nat × Nat × Nat × Nat)} {Ts ws ws' : List Cond} {rm : Room} (n : Nat) (ht : ∀ w ∈ Ts, w.before args s = true) (hT : GoodIn Ts (va_wsS own index y ws)) (hw : ws = Cond.codeWith y bytes maxL ret hh :: ws') (hrc : rm.cells = mc) (hrs : rm.slots = ms)
    (hd : y.cls ≠ "java/lang/invoke/MethodHandle" ∧ y.cls ≠ "java/lang/invoke/VarHandle" ∧ (parseMethodDescriptor y.desc).map (fun d => d.parameters.length) = some n) (hR : rm.frames + 1 ≤ R.frames ∧ 8 + (maxL + 11) + rm.locals ≤ R.locals) :
    vx_CSW R s args own index y bytes maxL ret hh ws rm mc ms n := by
  have ok : ∀ w ∈ va_wsS own index y ws, w.before args s = true := fun w h => ht w (hT w h).1
  have hG : GoodIn Ts ws := fun w h => hT w (by unfold va_wsS; exact List.mem_append_right _ h)
  have hc : Cond.codeWith y bytes maxL ret hh ∈ ws := by rw [hw]; exact List.mem_cons_self
  refine ⟨⟨hrc, hrs, hR.1, hR.2, pay_in ht hG, hc⟩, ht _ (hG _ hc).1, ok _ (by simp [va_wsS]), ⟨hd.1, hd.2.1⟩, fun sig h => ?_, ok _ (by simp [va_wsS]), ok _ (by simp [va_wsS])⟩
  have h2 := hd.2.2
  rw [h] at h2
  exact (Option.some.inj h2).symm
theorem vx_callSW (X : Stand p l e R s m args below meth c T locs cells slots) (hexec : p.tables.exec = Jvm.exec) {own : String} {index : Nat} {y : MethodName} {bytes : ByteArray} {maxL : Nat} {ret : Option FieldType} {hh : List (Nat × Nat × Nat × Nat)}
    (hown : s.vm.findClass own = some m.cls) (hlink : (Cond.methodLink own index y).before args s = true) (hstat : (Cond.static y).before args s = true) (hinit : (Cond.initialized y.cls).before args s = true)
    (hcode : (Cond.codeWith y bytes maxL ret hh).before args s = true) (hy : y.cls ≠ "java/lang/invoke/MethodHandle" ∧ y.cls ≠ "java/lang/invoke/VarHandle")
    {W9 : Nat} {Pre : Pt → Array Value → Prop} {Post : Pt → Array Value → Option Value → Pt → Prop} (hK : Back l R p e below s args y 3 W9 Pre Post)
    {g : JFrame} (hg : g.method = m) (hsize : g.locals.size = c.maxLocals) {argsL rest : List Value} (hlen : ∀ sig, parseMethodDescriptor y.desc = some sig → argsL.length = sig.parameters.length)
    (hstack : g.stack = argsL.reverse ++ rest) (hW : 2 * g.monitorRoom + (rest.map fun v => v.category).sum ≤ W9) (hdg : decode c.code g.pc = .ok (.invokestatic index, 3))
    (hpre : ∀ vm₁, s.WarmedH vm₁ → Pre ⟨T.setVm vm₁, locs, cells, slots⟩ argsL.toArray) :
    ∃ (v : Option Value) (vm₁ : Vm) (B : Pt), s.WarmedH vm₁ ∧ Stand p l e R s m args below meth c B.U B.locs B.cells B.slots ∧ Post ⟨T.setVm vm₁, locs, cells, slots⟩ argsL.toArray v B ∧
      ∀ target, Steps p.tables e below (B.U.setTop { g with pc := g.pc + 3, stack := v.toList ++ rest }) target → Steps p.tables e below (T.setTop g) target := by
  obtain ⟨mk, methM, cM, hnamed, hmethM, -, -, -, -, -, -, hsigM⟩ := Cond.codeWith_spec hcode
  have hstatic : methM.isStatic = true := Cond.static_spec hnamed hmethM hstat
  obtain ⟨kP, hkP, -⟩ := className_of_methodNamed hnamed
  have hinitP : kP.init = .initialized := Cond.initialized_spec (findClass_of_methodNamed hnamed) hkP hinit
  obtain ⟨vm₁, X₁, hstep₁⟩ := X.invokestatic hexec hown hlink hnamed hmethM hstatic hkP hinitP hy (g := g) hg (argsL := argsL) (rest := rest) (hlen _ hsigM) hstack hdg
  obtain ⟨v, B, X', hpost, hsteps⟩ := hK m meth c ⟨T.setVm vm₁, locs, cells, slots⟩ { g with stack := rest } (.invokestatic index) mk argsL.toArray X₁ hg hsize hdg hW (X₁.named hnamed) (hpre vm₁ X₁.warmed)
  exact ⟨v, vm₁, B, X₁.warmed, X', hpost, fun target h => hstep₁ _ fun acts => by rw [doInvoke_state]; exact hsteps.trans h⟩
theorem vx_runSW {y : MethodName} {bytes cc : ByteArray} {maxL nL mc ms n index : Nat} {ret : Option FieldType} {hh : List (Nat × Nat × Nat × Nat)} {ws : List Cond} {rm : Room} {Pc : Array Value → State → Prop} {Qc : Array Value → State → Outcome → State → Prop} {free : Addr → Prop} {Ts : List Cond} {own : String} {As rest : List Value} {g : JFrame}
    (S : CallFix p m c cc nL s args Ts own) (hM : Met l y ws rm Pc Qc mc ms free) (cw : vx_CSW R s args own index y bytes maxL ret hh ws rm mc ms n) (hp : PreS s H Pc As)
    (hg : g.method = m) (hn : As.length = n) (hsize : g.locals.size = nL) (hstack : g.stack = As.reverse ++ rest) (hW : 2 * g.monitorRoom + (rest.map fun v => v.category).sum ≤ 8) (hdg : decode cc g.pc = .ok (.invokestatic index, 3)) (hf : cells + mc ≤ R.cells ∧ slots + ms ≤ R.slots) :
    va_Run p l e R s m args below meth c H locs cells slots mc ms g rest (Qc As.toArray) (free) := by
  obtain ⟨⟨hrc, hrs, hfr, hlo, hws, hcw⟩, hcode, hini, hy, hlen, hl, hstt⟩ := cw
  have hK : Back l R p e below s args y 3 8 (PreOf R mc ms Pc) (PostOf Qc mc ms free) := va_backW (hh := hh) (bytes := bytes) (maxL := maxL) (ret := ret) hM hp.1 hrc hrs hfr hlo hws hcw (fun a' U hW => word_at hW (Or.inl (by first | rfl | simp [Cond.onTables, Cond.keeps, Cond.steady])) hini)
  obtain ⟨hx, hb, hml, ho, -⟩ := S
  intro T hT X
  obtain ⟨v, vm₁, ⟨U', l2, c2, s2⟩, hW₁, X', ⟨g', mk, t, L, e1, e2, hq, h1, hL, h2, h3⟩, st⟩ := vx_callSW X hx (hh := hh) (bytes := bytes) (maxL := maxL) (ret := ret) ho hl hstt hini hcode hy hK hg (hsize.trans hml.symm) (argsL := As) (rest := rest) (fun sig h => hn.trans (hlen sig h)) hstack hW (by rw [hb]; exact hdg)
    (fun vm₁ hW₁ => ⟨hf.1, hf.2, hp.2 (T.setVm vm₁) hT hW₁⟩)
  dsimp only [Pt.U, Pt.locs, Pt.cells, Pt.slots] at X' e1 e2 h1 h2 h3 st
  subst h1; subst h2; subst h3
  exact ⟨v, (T.setVm vm₁).calling g' mk As.toArray, t, U', L, hT, X', hL, e1, e2, hq, st⟩
/-- not caught here, past rows that name other classes: it goes on to the caller -/
theorem vx_outP {p : Program} {l : Launch} {e : Env} {R : Room} {s : State} {m : MethodId} {args : Array Value} {below : List Frame} {meth : Method} {c : Code} {H : Heap} {locs : List Loc} {cells slots : Nat} {free : Addr → Prop} {ls : Array Slot} {rest : List Value} {Qc : Array Value → State → Outcome → State → Prop} {XC : String → State → State → Prop}
    {pc : Nat} {own E : String} {ce : Cell} {q : Addr} {mc ms : Nat} (hown : s.vm.findClass own = some m.cls) (hlocks : meth.locks = false)
    (hpass : ∀ z ∈ c.exceptionTable.toList, covers z pc = false ∨ (z.catchType ≠ 0 ∧ ∃ nm : String, (Cond.classLink own z.catchType nm).before args s = true ∧ va_Nc E nm s)) (hcell : H[q]? = some ce) (hv : ce.vm = .none) (hcl : s.vm.findClass E = some ce.cls)
    (hx : ∀ t : State, t.heap = H → s.vm.Alike t.vm → XC E s t) (hf : ∀ z ∈ locs, free z.base) (hc : cells ≤ mc) (hs : slots ≤ ms) :
    vx_W p l e R s m args below meth c H locs cells slots (vx_MQ below Qc XC args s mc ms free) (F0 m pc ls rest) q := by
  intro T hT X
  have hpl : e.platform.magicAccessors = ({} : Platform).magicAccessors := by rw [X.admits.platform]
  obtain ⟨vm', hW', X', st⟩ := X.outThrough hlocks q (g := F0 m pc ls rest) rfl rfl rfl (cell := ce) (by rw [hT]; exact hcell) (by rw [hv]; rfl)
    (by obtain ⟨k9, h9, -⟩ := Vm.findClass_spec hcl; exact ⟨k9, h9⟩) (fun z hz => by
      rcases hpass z hz with h | ⟨hz0, nm, hl1, hn1⟩
      · exact Or.inl h
      · obtain ⟨c6, hc6, hcl6⟩ := Cond.classLink_spec hown hl1 e.platform hpl
        obtain ⟨a8, b8, h1, h2, h3⟩ := hn1
        cases Option.some.inj (h1.symm.trans hcl)
        cases Option.some.inj (h2.symm.trans hc6)
        exact Or.inr ⟨hz0, _, hcl6, h3⟩)
  obtain ⟨g₀, hfr⟩ := X'.frames_eq
  have hcell9 : ((T.setVm vm').setFrames (.throwing q :: below)).heap[q]? = some ce := by
    show T.heap[q]? = some ce
    rw [hT]; exact hcell
  have hend : Ended ((T.setVm vm').setFrames (.throwing q :: below)) below (.threw q) := State.frames_setFrames _ (State.cur_lt_of_frames hfr)
  refine ⟨(T.setVm vm').setFrames (.throwing q :: below), ?_, .threw q, X'.here.running, hend, Or.inr ⟨q, rfl, E, ce, locs, hx _ hT (X'.ends _).1.alike, hcell9, hv, hcl, (X'.ends _).1, (X'.ends _).2.mono hc hs, hf⟩⟩
  rw [X.pushThrowing_eq]
  exact st
/-- a thing of a world lies in the heap -/
theorem vx_lt {D : va_G} {cl : List vw_C} {ws : va_W} {H1 : Heap} (h : va_P D cl ws H1) {k : Nat} {q : Nat × va_E} (hk : ws[k]? = some q) : q.1 < H1.size := (h k q hk).lt
end VXS
/-! ===== END ===== -/
/-! ===== BEGIN methods with a table of their own: called by a name, returning or throwing ===== -/
section VXH
/-! vx_backW, vx_callVX, vx_callSX, vx_callVW, vx_runVW, vx_runVX, vx_runSX, vx_ofWH follow the same proofs as their sisters above (Free/Laws.lean, Shelf42/LK1.lean); vx_outP calls Shelf42/NT130.lean (outThrough). -/
section
variable {l : Launch} {R : Room} {p : Program} {e : Env} {below : List Frame} {s : State} {sargs : Array Value} {y : MethodName} {len W9 : Nat}
theorem vx_backW {ws : List Cond} {rm : Room} {Pc : Array Value → State → Prop} {Qc : Array Value → State → Outcome → State → Prop} {XC : String → State → State → Prop} {mc ms : Nat} {free : Addr → Prop} {bytes : ByteArray} {maxL : Nat} {ret : Option FieldType} {hh : List (Nat × Nat × Nat × Nat)}
    (hM : vx_Met l y ws rm Pc Qc XC mc ms free) (hblind : FrameBlind Pc) (hrc : rm.cells = mc) (hrs : rm.slots = ms)
    (hframes : rm.frames + 1 ≤ R.frames) (hlocals : W9 + (maxL + 11) + rm.locals ≤ R.locals)
    (hws : ∀ w ∈ ws, ∀ a' U, s.WarmedH U.vm → w.before a' U = true) (hcode : Cond.codeWith y bytes maxL ret hh ∈ ws) (hinit : ∀ a' U, s.WarmedH U.vm → (Cond.initialized y.cls).before a' U = true) :
    vx_Back l R p e below s sargs y len W9 (PreOf R mc ms Pc) (PostOf Qc mc ms free) (vx_Post XC mc ms free) := by
  intro m meth c A g ig mk a X hg hsize hdg hW hn hp
  have h1 : (headSpec ws rm).pre.before a A.U = true := atoms_intro fun w hw => hws w hw _ _ X.warmed
  have h2 : (Cond.codeWith y bytes maxL ret hh).before a A.U = true := hws _ hcode _ _ X.warmed
  have h3 : (Cond.initialized y.cls).before a A.U = true := hinit _ _ X.warmed
  have h4 : A.cells + (headSpec ws rm).room.cells ≤ R.cells := by rw [show (headSpec ws rm).room.cells = mc from hrc]; exact hp.1
  have h5 : A.slots + (headSpec ws rm).room.slots ≤ R.slots := by rw [show (headSpec ws rm).room.slots = ms from hrs]; exact hp.2.1
  have hPc : Pc a (A.U.calling g mk a) := hblind _ _ _ _ hp.2.2
  obtain ⟨U, Ls, c0, s0⟩ := A
  dsimp only [Pt.U, Pt.locs, Pt.cells, Pt.slots] at h1 h2 h3 h4 h5 X hn hPc ⊢
  obtain ⟨m9, methY, cY, hn9, hmY, hcY, -, hlY, -⟩ := Cond.codeWith_spec h2
  cases Option.some.inj (hn9.symm.trans hn)
  obtain ⟨kY, hkY, -⟩ := className_of_methodNamed hn
  have hinitY : kY.init = .initialized := Cond.initialized_spec (findClass_of_methodNamed hn) hkY h3
  have h : At U g.method c below := by rw [hg]; exact X.here
  have hlocals9 : W9 + (maxL + 11) + (headSpec ws rm).room.locals ≤ R.locals := hlocals
  have happ : (headSpec ws rm).appliesLoose y e.platform (U.calling g mk a) = true :=
    Spec.appliesLoose_calling (g := g) h hdg hn hkY hinitY
      (X.room_calling (g := g) (R' := (headSpec ws rm).room) hsize hmY hcY hframes (by rw [hlY]; omega) h4 h5) h1
  obtain ⟨mid, hmid⟩ := h.above
  have hfr : (U.setTop g).frames = (.java g :: mid) ++ below := by rw [State.frames_setTop' g h.top, hmid]; rfl
  obtain ⟨o, s₂, hsteps, -, hend, hq⟩ := Steps.callFree hM p X.admits X.cas X.clock (acts := []) hfr happ hPc trivial
  have hq' : vx_Q Qc XC mc ms free a (U.calling g mk a) o s₂ := hq
  rw [State.frames_setTop' g h.top] at hend
  obtain ⟨g₀, hg0⟩ := Option.isSome_iff_exists.mp h.top
  obtain ⟨r, hr⟩ := State.topJava?_eq_some.mp hg0
  have hr' : (({ U with heap := s₂.heap, slotsUsed := s₂.slotsUsed } : State).setVm s₂.vm).frames = .java g₀ :: r := hr
  rcases hq' with ⟨hqc, L, hfe, hL⟩ | ⟨q, rfl, E, ce, L, hx, hce, hcv, hcl, hW₂, hsm, hL⟩
  · obtain ⟨⟨v, rfl⟩, hW₂, e2, q2, q3, q4, q5, q6⟩ := id hfe
    have e3 : s₂ = ({ (U.calling g mk a).setFrames s₂.frames with heap := s₂.heap, slotsUsed := s₂.slotsUsed } : State).setVm s₂.vm := by
      have : s₂ = ({ s₂ with vm := (U.calling g mk a).vm } : State).setVm s₂.vm := rfl
      rw [e2] at this
      exact this
    obtain ⟨c₂, i₂, len₂, hc₂, hd₂, hf₂⟩ := hend
    have hW' : U.WarmedH s₂.vm := hW₂
    have hcc : c₂ = c := by
      have h1 : s₂.code? g.method = U.code? g.method := by
        rw [State.code?_eq, State.code?_eq, hW'.alike.method?]
      exact Option.some.inj (hc₂.symm.trans (h1.trans h.code))
    subst hcc
    have hlen : len₂ = len := by rw [hdg] at hd₂; cases hd₂; rfl
    subst hlen
    have hs₂ : s₂ = (({ U with heap := s₂.heap, slotsUsed := s₂.slotsUsed } : State).setVm s₂.vm).setTop { g with pc := g.pc + len₂, stack := v.toList ++ g.stack } := by
      refine e3.trans ?_
      rw [hf₂, State.calling_eq h.top, State.setFrames_setFrames, State.setTop_of_frames _ hr', hr]
      rfl
    have hsame : U.sameButNew ({ U with heap := s₂.heap, slotsUsed := s₂.slotsUsed } : State) L mc ms := by
      refine ⟨?_, q2, q3, q4, q5, q6⟩
      obtain ⟨t, ht, -⟩ := State.frames_cons hr
      show ({ U with heap := s₂.heap, slotsUsed := s₂.slotsUsed } : State) = { U.setFrames U.frames with heap := s₂.heap, slotsUsed := s₂.slotsUsed }
      rw [State.setFrames_self ht]
    subst hg
    refine Or.inl ⟨v, ⟨(({ U with heap := s₂.heap, slotsUsed := s₂.slotsUsed } : State).setVm s₂.vm), Ls ++ L, c0 + mc, s0 + ms⟩,
      ⟨X.admits, X.cas, X.clock, X.frames, X.room, X.hears, X.method, X.code, (X.here.setHeapUsed s₂.heap s₂.slotsUsed).setVm hW'.alike, X.tail, State.WarmedH.trans X.warmed hW', X.limits, X.bytes, X.same.trans (hsame.setVm s.vm)⟩,
      ⟨g, mk, s₂, L, rfl, rfl, hqc, rfl, hL, rfl, rfl⟩, ?_⟩
    show Steps p.tables e below _ ((({ U with heap := s₂.heap, slotsUsed := s₂.slotsUsed } : State).setVm s₂.vm).setTop { g with pc := g.pc + len₂, stack := v.toList ++ g.stack })
    rw [← hs₂]
    exact hsteps
  · obtain ⟨e2, q2, q3, q4, q5, q6⟩ := id hsm
    have e3 : s₂ = ({ (U.calling g mk a).setFrames s₂.frames with heap := s₂.heap, slotsUsed := s₂.slotsUsed } : State).setVm s₂.vm := by
      have : s₂ = ({ s₂ with vm := (U.calling g mk a).vm } : State).setVm s₂.vm := rfl
      rw [e2] at this
      exact this
    have hf₂ : s₂.frames = .throwing q :: .java g :: U.frames.tail := hend
    have hW' : U.WarmedH s₂.vm := hW₂
    have hs₂ : s₂ = ((({ U with heap := s₂.heap, slotsUsed := s₂.slotsUsed } : State).setVm s₂.vm).setTop g).pushFrame (.throwing q) := by
      refine e3.trans ?_
      rw [hf₂, State.calling_eq h.top, State.setFrames_setFrames, State.pushFrame, State.frames_setTop _ hr', State.setTop_of_frames _ hr', State.setFrames_setFrames, hr]
      rfl
    have hsame : U.sameButNew ({ U with heap := s₂.heap, slotsUsed := s₂.slotsUsed } : State) L mc ms := by
      refine ⟨?_, q2, q3, q4, q5, q6⟩
      obtain ⟨t, ht, -⟩ := State.frames_cons hr
      show ({ U with heap := s₂.heap, slotsUsed := s₂.slotsUsed } : State) = { U.setFrames U.frames with heap := s₂.heap, slotsUsed := s₂.slotsUsed }
      rw [State.setFrames_self ht]
    subst hg
    refine Or.inr ⟨q, ⟨(({ U with heap := s₂.heap, slotsUsed := s₂.slotsUsed } : State).setVm s₂.vm), Ls ++ L, c0 + mc, s0 + ms⟩,
      ⟨X.admits, X.cas, X.clock, X.frames, X.room, X.hears, X.method, X.code, (X.here.setHeapUsed s₂.heap s₂.slotsUsed).setVm hW'.alike, X.tail, State.WarmedH.trans X.warmed hW', X.limits, X.bytes, X.same.trans (hsame.setVm s.vm)⟩,
      ⟨g, mk, s₂, L, E, ce, rfl, rfl, hx, hce, hcv, hcl, rfl, hL, rfl, rfl⟩, ?_⟩
    show Steps p.tables e below _ (((({ U with heap := s₂.heap, slotsUsed := s₂.slotsUsed } : State).setVm s₂.vm).setTop g).pushFrame (.throwing q))
    rw [← hs₂]
    exact hsteps
end
variable {p : Program} {l : Launch} {e : Env} {R : Room} {s : State} {m : MethodId} {args : Array Value} {below : List Frame} {meth : Method} {c : Code} {T : State} {H : Heap} {locs : List Loc} {cells slots : Nat}
theorem vx_callVX (X : Stand p l e R s m args below meth c T locs cells slots) (hexec : p.tables.exec = Jvm.exec) {own C : String} {index : Nat} {y : MethodName} {bytes : ByteArray} {maxL : Nat} {ret : Option FieldType} {hh : List (Nat × Nat × Nat × Nat)}
    (hown : s.vm.findClass own = some m.cls) (hlink : (Cond.methodLink own index y).before args s = true) (hinst : (Cond.instanceMethod y).before args s = true) (hsel : (Cond.selects C y y).before args s = true)
    (hcode : (Cond.codeWith y bytes maxL ret hh).before args s = true) (hy : y.cls ≠ "java/lang/invoke/MethodHandle" ∧ y.cls ≠ "java/lang/invoke/VarHandle")
    {W9 : Nat} {Pre : Pt → Array Value → Prop} {Post : Pt → Array Value → Option Value → Pt → Prop} {PostX : Pt → Array Value → Addr → Pt → Prop} (hK : vx_Back l R p e below s args y 3 W9 Pre Post PostX)
    {b : Addr} {cellB : Cell} (hcell : T.heap[b]? = some cellB) (hobj : cellB.vm.isStatics = false) (hcls : s.vm.findClass C = some cellB.cls)
    {g : JFrame} (hg : g.method = m) (hsize : g.locals.size = c.maxLocals) {argsL rest : List Value} (hlen : ∀ sig, parseMethodDescriptor y.desc = some sig → argsL.length = sig.parameters.length)
    (hstack : g.stack = argsL.reverse ++ .ref b :: rest) (hW : 2 * g.monitorRoom + (rest.map fun v => v.category).sum ≤ W9) (hdg : decode c.code g.pc = .ok (.invokevirtual index, 3))
    (hpre : ∀ vm₁, s.WarmedH vm₁ → Pre ⟨T.setVm vm₁, locs, cells, slots⟩ (Value.ref b :: argsL).toArray) :
    (∃ (v : Option Value) (vm₁ : Vm) (B : Pt), s.WarmedH vm₁ ∧ Stand p l e R s m args below meth c B.U B.locs B.cells B.slots ∧ Post ⟨T.setVm vm₁, locs, cells, slots⟩ (Value.ref b :: argsL).toArray v B ∧
      ∀ target, Steps p.tables e below (B.U.setTop { g with pc := g.pc + 3, stack := v.toList ++ rest }) target → Steps p.tables e below (T.setTop g) target) ∨
    (∃ (q : Addr) (vm₁ : Vm) (B : Pt), s.WarmedH vm₁ ∧ Stand p l e R s m args below meth c B.U B.locs B.cells B.slots ∧ PostX ⟨T.setVm vm₁, locs, cells, slots⟩ (Value.ref b :: argsL).toArray q B ∧
      Steps p.tables e below (T.setTop g) ((B.U.setTop { g with stack := rest }).pushFrame (.throwing q))) := by
  obtain ⟨mk, methM, hnamed, hmethM, hstM, habM⟩ := Cond.instanceMethod_spec hinst
  obtain ⟨m8, methM', cM, hn8, hmethM', -, -, -, -, -, -, hsigM⟩ := Cond.codeWith_spec hcode
  cases Option.some.inj (hn8.symm.trans hnamed)
  cases hmethM.symm.trans hmethM'
  obtain ⟨c2, r2, m2, q1, q2, q3, q4, kP, hkP, hkPi⟩ := Cond.selects_spec hsel
  cases hcls.symm.trans q1
  cases (State.methodFound?_of_named hnamed hy).symm.trans q2
  cases hnamed.symm.trans q3
  have hselP : selectMethod e.platform s.vm cellB.cls mk = .method mk := by rw [Launch.admits_selectMethod X.admits]; exact q4
  obtain ⟨vm₁, X₁, hstep₁⟩ := X.invokevirtual hexec hown hlink hnamed hmethM hstM hkP hkPi hy (a := b) (cell := cellB) hcell
    (fun z h => by rw [h] at hobj; cases hobj) hselP hmethM habM hkP hkPi (g := g) hg (argsL := argsL) (rest := rest) (hlen _ hsigM) hstack hdg
  rcases hK m meth c ⟨T.setVm vm₁, locs, cells, slots⟩ { g with stack := rest } (.invokevirtual index) mk (Value.ref b :: argsL).toArray X₁ hg hsize hdg hW (X₁.named hnamed) (hpre vm₁ X₁.warmed) with ⟨v, B, X', hpost, hsteps⟩ | ⟨q, B, X', hpost, hsteps⟩
  · exact Or.inl ⟨v, vm₁, B, X₁.warmed, X', hpost, fun target h => hstep₁ _ fun acts => by rw [doInvoke_state]; exact hsteps.trans h⟩
  · exact Or.inr ⟨q, vm₁, B, X₁.warmed, X', hpost, hstep₁ _ fun acts => by rw [doInvoke_state]; exact hsteps⟩
theorem vx_callSX (X : Stand p l e R s m args below meth c T locs cells slots) (hexec : p.tables.exec = Jvm.exec) {own : String} {index : Nat} {y : MethodName} {bytes : ByteArray} {maxL : Nat} {ret : Option FieldType} {hh : List (Nat × Nat × Nat × Nat)}
    (hown : s.vm.findClass own = some m.cls) (hlink : (Cond.methodLink own index y).before args s = true) (hstat : (Cond.static y).before args s = true) (hinit : (Cond.initialized y.cls).before args s = true)
    (hcode : (Cond.codeWith y bytes maxL ret hh).before args s = true) (hy : y.cls ≠ "java/lang/invoke/MethodHandle" ∧ y.cls ≠ "java/lang/invoke/VarHandle")
    {W9 : Nat} {Pre : Pt → Array Value → Prop} {Post : Pt → Array Value → Option Value → Pt → Prop} {PostX : Pt → Array Value → Addr → Pt → Prop} (hK : vx_Back l R p e below s args y 3 W9 Pre Post PostX)
    {g : JFrame} (hg : g.method = m) (hsize : g.locals.size = c.maxLocals) {argsL rest : List Value} (hlen : ∀ sig, parseMethodDescriptor y.desc = some sig → argsL.length = sig.parameters.length)
    (hstack : g.stack = argsL.reverse ++ rest) (hW : 2 * g.monitorRoom + (rest.map fun v => v.category).sum ≤ W9) (hdg : decode c.code g.pc = .ok (.invokestatic index, 3))
    (hpre : ∀ vm₁, s.WarmedH vm₁ → Pre ⟨T.setVm vm₁, locs, cells, slots⟩ argsL.toArray) :
    (∃ (v : Option Value) (vm₁ : Vm) (B : Pt), s.WarmedH vm₁ ∧ Stand p l e R s m args below meth c B.U B.locs B.cells B.slots ∧ Post ⟨T.setVm vm₁, locs, cells, slots⟩ argsL.toArray v B ∧
      ∀ target, Steps p.tables e below (B.U.setTop { g with pc := g.pc + 3, stack := v.toList ++ rest }) target → Steps p.tables e below (T.setTop g) target) ∨
    (∃ (q : Addr) (vm₁ : Vm) (B : Pt), s.WarmedH vm₁ ∧ Stand p l e R s m args below meth c B.U B.locs B.cells B.slots ∧ PostX ⟨T.setVm vm₁, locs, cells, slots⟩ argsL.toArray q B ∧
      Steps p.tables e below (T.setTop g) ((B.U.setTop { g with stack := rest }).pushFrame (.throwing q))) := by
  obtain ⟨mk, methM, cM, hnamed, hmethM, -, -, -, -, -, -, hsigM⟩ := Cond.codeWith_spec hcode
  have hstatic : methM.isStatic = true := Cond.static_spec hnamed hmethM hstat
  obtain ⟨kP, hkP, -⟩ := className_of_methodNamed hnamed
  have hinitP : kP.init = .initialized := Cond.initialized_spec (findClass_of_methodNamed hnamed) hkP hinit
  obtain ⟨vm₁, X₁, hstep₁⟩ := X.invokestatic hexec hown hlink hnamed hmethM hstatic hkP hinitP hy (g := g) hg (argsL := argsL) (rest := rest) (hlen _ hsigM) hstack hdg
  rcases hK m meth c ⟨T.setVm vm₁, locs, cells, slots⟩ { g with stack := rest } (.invokestatic index) mk argsL.toArray X₁ hg hsize hdg hW (X₁.named hnamed) (hpre vm₁ X₁.warmed) with ⟨v, B, X', hpost, hsteps⟩ | ⟨q, B, X', hpost, hsteps⟩
  · exact Or.inl ⟨v, vm₁, B, X₁.warmed, X', hpost, fun target h => hstep₁ _ fun acts => by rw [doInvoke_state]; exact hsteps.trans h⟩
  · exact Or.inr ⟨q, vm₁, B, X₁.warmed, X', hpost, hstep₁ _ fun acts => by rw [doInvoke_state]; exact hsteps⟩
theorem vx_callVW (X : Stand p l e R s m args below meth c T locs cells slots) (hexec : p.tables.exec = Jvm.exec) {own C : String} {index : Nat} {y : MethodName} {bytes : ByteArray} {maxL : Nat} {ret : Option FieldType} {hh : List (Nat × Nat × Nat × Nat)}
    (hown : s.vm.findClass own = some m.cls) (hlink : (Cond.methodLink own index y).before args s = true) (hinst : (Cond.instanceMethod y).before args s = true) (hsel : (Cond.selects C y y).before args s = true)
    (hcode : (Cond.codeWith y bytes maxL ret hh).before args s = true) (hy : y.cls ≠ "java/lang/invoke/MethodHandle" ∧ y.cls ≠ "java/lang/invoke/VarHandle")
    {W9 : Nat} {Pre : Pt → Array Value → Prop} {Post : Pt → Array Value → Option Value → Pt → Prop} (hK : Back l R p e below s args y 3 W9 Pre Post)
    {b : Addr} {cellB : Cell} (hcell : T.heap[b]? = some cellB) (hobj : cellB.vm.isStatics = false) (hcls : s.vm.findClass C = some cellB.cls)
    {g : JFrame} (hg : g.method = m) (hsize : g.locals.size = c.maxLocals) {argsL rest : List Value} (hlen : ∀ sig, parseMethodDescriptor y.desc = some sig → argsL.length = sig.parameters.length)
    (hstack : g.stack = argsL.reverse ++ .ref b :: rest) (hW : 2 * g.monitorRoom + (rest.map fun v => v.category).sum ≤ W9) (hdg : decode c.code g.pc = .ok (.invokevirtual index, 3))
    (hpre : ∀ vm₁, s.WarmedH vm₁ → Pre ⟨T.setVm vm₁, locs, cells, slots⟩ (Value.ref b :: argsL).toArray) :
    ∃ (v : Option Value) (vm₁ : Vm) (B : Pt), s.WarmedH vm₁ ∧ Stand p l e R s m args below meth c B.U B.locs B.cells B.slots ∧ Post ⟨T.setVm vm₁, locs, cells, slots⟩ (Value.ref b :: argsL).toArray v B ∧
      ∀ target, Steps p.tables e below (B.U.setTop { g with pc := g.pc + 3, stack := v.toList ++ rest }) target → Steps p.tables e below (T.setTop g) target := by
  obtain ⟨mk, methM, hnamed, hmethM, hstM, habM⟩ := Cond.instanceMethod_spec hinst
  obtain ⟨m8, methM', cM, hn8, hmethM', -, -, -, -, -, -, hsigM⟩ := Cond.codeWith_spec hcode
  cases Option.some.inj (hn8.symm.trans hnamed)
  cases hmethM.symm.trans hmethM'
  obtain ⟨c2, r2, m2, q1, q2, q3, q4, kP, hkP, hkPi⟩ := Cond.selects_spec hsel
  cases hcls.symm.trans q1
  cases (State.methodFound?_of_named hnamed hy).symm.trans q2
  cases hnamed.symm.trans q3
  have hselP : selectMethod e.platform s.vm cellB.cls mk = .method mk := by rw [Launch.admits_selectMethod X.admits]; exact q4
  obtain ⟨vm₁, X₁, hstep₁⟩ := X.invokevirtual hexec hown hlink hnamed hmethM hstM hkP hkPi hy (a := b) (cell := cellB) hcell
    (fun z h => by rw [h] at hobj; cases hobj) hselP hmethM habM hkP hkPi (g := g) hg (argsL := argsL) (rest := rest) (hlen _ hsigM) hstack hdg
  obtain ⟨v, B, X', hpost, hsteps⟩ := hK m meth c ⟨T.setVm vm₁, locs, cells, slots⟩ { g with stack := rest } (.invokevirtual index) mk (Value.ref b :: argsL).toArray X₁ hg hsize hdg hW (X₁.named hnamed) (hpre vm₁ X₁.warmed)
  exact ⟨v, vm₁, B, X₁.warmed, X', hpost, fun target h => hstep₁ _ fun acts => by rw [doInvoke_state]; exact hsteps.trans h⟩
abbrev vx_CVW (R : Room) (s : State) (args : Array Value) (own C : String) (index : Nat) (y : MethodName) (bytes : ByteArray) (maxL : Nat) (ret : Option FieldType) (hh : List (Nat × Nat × Nat × Nat)) (ws : List Cond) (rm : Room) (mc ms n : Nat) : Prop :=
  (rm.cells = mc ∧ rm.slots = ms ∧ rm.frames + 1 ≤ R.frames ∧ 8 + (maxL + 11) + rm.locals ≤ R.locals ∧ (∀ w ∈ ws, ∀ (a' : Array Value) (U : State), s.WarmedH U.vm → w.before a' U = true) ∧ Cond.codeWith y bytes maxL ret hh ∈ ws) ∧
  (Cond.codeWith y bytes maxL ret hh).before args s = true ∧ (Cond.initialized y.cls).before args s = true ∧ (y.cls ≠ "java/lang/invoke/MethodHandle" ∧ y.cls ≠ "java/lang/invoke/VarHandle") ∧
  (∀ sig, parseMethodDescriptor y.desc = some sig → n = sig.parameters.length) ∧ (Cond.methodLink own index y).before args s = true ∧ (Cond.instanceMethod y).before args s = true ∧ (Cond.selects C y y).before args s = true
theorem vx_cwVW {own C : String} {index maxL mc ms : Nat} {y : MethodName} {bytes : ByteArray} {ret : Option FieldType} {hh : List (Nat × Nat × Nat × Nat)} {Ts ws ws' : List Cond} {rm : Room} (n : Nat) (ht : ∀ w ∈ Ts, w.before args s = true) (hT : GoodIn Ts (wsV own index C y ws)) (hw : ws = Cond.codeWith y bytes maxL ret hh :: ws') (hrc : rm.cells = mc) (hrs : rm.slots = ms)
    (hd : y.cls = C ∧ y.cls ≠ "java/lang/invoke/MethodHandle" ∧ y.cls ≠ "java/lang/invoke/VarHandle" ∧ (parseMethodDescriptor y.desc).map (fun d => d.parameters.length) = some n) (hR : rm.frames + 1 ≤ R.frames ∧ 8 + (maxL + 11) + rm.locals ≤ R.locals) :
    vx_CVW R s args own C index y bytes maxL ret hh ws rm mc ms n := by
  obtain ⟨hC, hd⟩ := hd
  subst hC
  have ok : ∀ w ∈ wsV own index y.cls y ws, w.before args s = true := fun w h => ht w (hT w h).1
  have hG : GoodIn Ts ws := fun w h => hT w (by unfold wsV; exact List.mem_append_right _ h)
  have hc : Cond.codeWith y bytes maxL ret hh ∈ ws := by rw [hw]; exact List.mem_cons_self
  refine ⟨⟨hrc, hrs, hR.1, hR.2, pay_in ht hG, hc⟩, ht _ (hG _ hc).1, ok _ (by simp [wsV]), ⟨hd.1, hd.2.1⟩, fun sig h => ?_, ok _ (by simp [wsV]), ok _ (by simp [wsV]), ok _ (by simp [wsV])⟩
  have h2 := hd.2.2
  rw [h] at h2
  exact (Option.some.inj h2).symm
theorem vx_runVW {y : MethodName} {bytes cc : ByteArray} {maxL nL mc ms n index : Nat} {ret : Option FieldType} {hh : List (Nat × Nat × Nat × Nat)} {ws : List Cond} {rm : Room} {Pc : Array Value → State → Prop} {Qc : Array Value → State → Outcome → State → Prop} {free : Addr → Prop} {Ts : List Cond} {own C : String} {b : Addr} {As rest : List Value} {g : JFrame}
    (S : CallFix p m c cc nL s args Ts own) (hM : Met l y ws rm Pc Qc mc ms free) (cw : vx_CVW R s args own C index y bytes maxL ret hh ws rm mc ms n) (hp : PreV s H C b Pc As)
    (hg : g.method = m) (hn : As.length = n) (hsize : g.locals.size = nL) (hstack : g.stack = As.reverse ++ .ref b :: rest) (hW : 2 * g.monitorRoom + (rest.map fun v => v.category).sum ≤ 8) (hdg : decode cc g.pc = .ok (.invokevirtual index, 3)) (hf : cells + mc ≤ R.cells ∧ slots + ms ≤ R.slots) :
    va_Run p l e R s m args below meth c H locs cells slots mc ms g rest (Qc (Value.ref b :: As).toArray) free := by
  obtain ⟨⟨hrc, hrs, hfr, hlo, hws, hcw⟩, hcode, hini, hy, hlen, hl, hin, hse⟩ := cw
  have hK : Back l R p e below s args y 3 8 (PreOf R mc ms Pc) (PostOf Qc mc ms free) := va_backW (hh := hh) (bytes := bytes) (maxL := maxL) (ret := ret) hM hp.1 hrc hrs hfr hlo hws hcw (fun a' U hW => word_at hW (Or.inl (by first | rfl | simp [Cond.onTables, Cond.keeps, Cond.steady])) hini)
  obtain ⟨hx, hb, hml, ho, -⟩ := S
  obtain ⟨-, ⟨cellB, hcB, hoB, hclB⟩, hPc⟩ := hp
  intro T hT X
  obtain ⟨v, vm₁, ⟨U', l2, c2, s2⟩, hW₁, X', ⟨g', mk, t, L, e1, e2, hq, h1, hL, h2, h3⟩, st⟩ := vx_callVW X hx (C := C) (hh := hh) (bytes := bytes) (maxL := maxL) (ret := ret) ho hl hin hse hcode hy hK (by rw [hT]; exact hcB) hoB hclB hg (hsize.trans hml.symm) (argsL := As) (rest := rest) (fun sig h => hn.trans (hlen sig h)) hstack hW (by rw [hb]; exact hdg)
    (fun vm₁ hW₁ => ⟨hf.1, hf.2, hPc (T.setVm vm₁) hT hW₁⟩)
  dsimp only [Pt.U, Pt.locs, Pt.cells, Pt.slots] at X' e1 e2 h1 h2 h3 st
  subst h1; subst h2; subst h3
  exact ⟨v, (T.setVm vm₁).calling g' mk (Value.ref b :: As).toArray, t, U', L, hT, X', hL, e1, e2, hq, st⟩
section
variable {y : MethodName} {bytes cc : ByteArray} {maxL nL mc ms n index : Nat} {ret : Option FieldType} {ws : List Cond} {rm : Room} {Pc : Array Value → State → Prop} {Qc : Array Value → State → Outcome → State → Prop} {XC : String → State → State → Prop} {free : Addr → Prop} {Ts : List Cond} {own C : String} {b : Addr} {As rest : List Value} {g : JFrame}
theorem vx_runVX {hh : List (Nat × Nat × Nat × Nat)} (S : CallFix p m c cc nL s args Ts own) (hM : vx_Met l y ws rm Pc Qc XC mc ms free) (cw : vx_CVW R s args own C index y bytes maxL ret hh ws rm mc ms n) (hp : PreV s H C b Pc As)
    (hg : g.method = m) (hn : As.length = n) (hsize : g.locals.size = nL) (hstack : g.stack = As.reverse ++ .ref b :: rest) (hW : 2 * g.monitorRoom + (rest.map fun v => v.category).sum ≤ 8) (hdg : decode cc g.pc = .ok (.invokevirtual index, 3)) (hf : cells + mc ≤ R.cells ∧ slots + ms ≤ R.slots) :
    vx_Run p l e R s m args below meth c H locs cells slots mc ms g rest (Qc (Value.ref b :: As).toArray) XC free := by
  obtain ⟨⟨hrc, hrs, hfr, hlo, hws, hcw⟩, hcode, hini, hy, hlen, hl, hin, hse⟩ := cw
  have hK : vx_Back l R p e below s args y 3 8 (PreOf R mc ms Pc) (PostOf Qc mc ms free) (vx_Post XC mc ms free) := vx_backW (hh := hh) (bytes := bytes) (maxL := maxL) (ret := ret) hM hp.1 hrc hrs hfr hlo hws hcw (fun a' U hW => word_at hW (Or.inl (by first | rfl | simp [Cond.onTables, Cond.keeps, Cond.steady])) hini)
  obtain ⟨hx, hb, hml, ho, -⟩ := S
  obtain ⟨-, ⟨cellB, hcB, hoB, hclB⟩, hPc⟩ := hp
  intro T hT X
  rcases vx_callVX X hx (C := C) (hh := hh) (bytes := bytes) (maxL := maxL) (ret := ret) ho hl hin hse hcode hy hK (by rw [hT]; exact hcB) hoB hclB hg (hsize.trans hml.symm) (argsL := As) (rest := rest) (fun sig h => hn.trans (hlen sig h)) hstack hW (by rw [hb]; exact hdg)
    (fun vm₁ hW₁ => ⟨hf.1, hf.2, hPc (T.setVm vm₁) hT hW₁⟩) with ⟨v, vm₁, ⟨U', l2, c2, s2⟩, hW₁, X', ⟨g', mk, t, L, e1, e2, hq, h1, hL, h2, h3⟩, st⟩ | ⟨q, vm₁, ⟨U', l2, c2, s2⟩, hW₁, X', ⟨g', mk, t, L, E, ce, e1, e2, hq, hce, hcv, hcl, h1, hL, h2, h3⟩, st⟩
  · dsimp only [Pt.U, Pt.locs, Pt.cells, Pt.slots] at X' e1 e2 h1 h2 h3 st
    subst h1; subst h2; subst h3
    exact Or.inl ⟨v, (T.setVm vm₁).calling g' mk (Value.ref b :: As).toArray, t, U', L, hT, X', hL, e1, e2, hq, st⟩
  · dsimp only [Pt.U, Pt.locs, Pt.cells, Pt.slots] at X' e1 e2 h1 h2 h3 st hcl
    subst h1; subst h2; subst h3
    exact Or.inr ⟨q, (T.setVm vm₁).calling g' mk (Value.ref b :: As).toArray, t, U', L, E, ce, hT, X', hL, e1, e2, hq, hce, hcv, vx_cls hW₁ hcl, st⟩
theorem vx_runSX {hh : List (Nat × Nat × Nat × Nat)} (S : CallFix p m c cc nL s args Ts own) (hM : vx_Met l y ws rm Pc Qc XC mc ms free) (cw : vx_CSW R s args own index y bytes maxL ret hh ws rm mc ms n) (hp : PreS s H Pc As)
    (hg : g.method = m) (hn : As.length = n) (hsize : g.locals.size = nL) (hstack : g.stack = As.reverse ++ rest) (hW : 2 * g.monitorRoom + (rest.map fun v => v.category).sum ≤ 8) (hdg : decode cc g.pc = .ok (.invokestatic index, 3)) (hf : cells + mc ≤ R.cells ∧ slots + ms ≤ R.slots) :
    vx_Run p l e R s m args below meth c H locs cells slots mc ms g rest (Qc As.toArray) XC free := by
  obtain ⟨⟨hrc, hrs, hfr, hlo, hws, hcw⟩, hcode, hini, hy, hlen, hl, hstt⟩ := cw
  have hK : vx_Back l R p e below s args y 3 8 (PreOf R mc ms Pc) (PostOf Qc mc ms free) (vx_Post XC mc ms free) := vx_backW (hh := hh) (bytes := bytes) (maxL := maxL) (ret := ret) hM hp.1 hrc hrs hfr hlo hws hcw (fun a' U hW => word_at hW (Or.inl (by first | rfl | simp [Cond.onTables, Cond.keeps, Cond.steady])) hini)
  obtain ⟨hx, hb, hml, ho, -⟩ := S
  intro T hT X
  rcases vx_callSX X hx (hh := hh) (bytes := bytes) (maxL := maxL) (ret := ret) ho hl hstt hini hcode hy hK hg (hsize.trans hml.symm) (argsL := As) (rest := rest) (fun sig h => hn.trans (hlen sig h)) hstack hW (by rw [hb]; exact hdg)
    (fun vm₁ hW₁ => ⟨hf.1, hf.2, hp.2 (T.setVm vm₁) hT hW₁⟩) with ⟨v, vm₁, ⟨U', l2, c2, s2⟩, hW₁, X', ⟨g', mk, t, L, e1, e2, hq, h1, hL, h2, h3⟩, st⟩ | ⟨q, vm₁, ⟨U', l2, c2, s2⟩, hW₁, X', ⟨g', mk, t, L, E, ce, e1, e2, hq, hce, hcv, hcl, h1, hL, h2, h3⟩, st⟩
  · dsimp only [Pt.U, Pt.locs, Pt.cells, Pt.slots] at X' e1 e2 h1 h2 h3 st
    subst h1; subst h2; subst h3
    exact Or.inl ⟨v, (T.setVm vm₁).calling g' mk As.toArray, t, U', L, hT, X', hL, e1, e2, hq, st⟩
  · dsimp only [Pt.U, Pt.locs, Pt.cells, Pt.slots] at X' e1 e2 h1 h2 h3 st hcl
    subst h1; subst h2; subst h3
    exact Or.inr ⟨q, (T.setVm vm₁).calling g' mk As.toArray, t, U', L, E, ce, hT, X', hL, e1, e2, hq, hce, hcv, vx_cls hW₁ hcl, st⟩
end
end VXH
theorem vx_ofWH {l : Launch} {y : MethodName} {ws ws' : List Cond} {rm : Room} {Pc : Array Value → State → Prop} {Qc : Array Value → State → Outcome → State → Prop} {XC : String → State → State → Prop} {mc ms : Nat} {free : Addr → Prop} {cc : ByteArray} {maxL : Nat} {ret : Option FieldType} {hh : List (Nat × Nat × Nat × Nat)}
    (hy : plainName y.cls = true) (hw : ws = Cond.codeWith y cc maxL ret hh :: ws')
    (body : ∀ p e s m args below meth c s₁, BodyLoose p l y (headSpec ws rm) cc maxL ret e s m args below meth c s₁ → c.maxLocals = maxL → Pc args s →
      W p l e (headSpec ws rm).room s m args below meth c s.heap [] 0 0 (vx_MQ below Qc XC args s mc ms free) (entryFrame m args maxL)) : vx_Met l y ws rm Pc Qc XC mc ms free := by
  refine MetFree.of_bodyS (code := cc) (maxLocals := maxL) (ret := ret) hy ?_ ?_
  · intro args s m h hn
    obtain ⟨m9, meth, c, hn9, h1, h2, h3, h4, -, h5, h6, -⟩ := Cond.codeWith_spec (atoms_spec (ws := ws) h _ (by rw [hw]; exact List.mem_cons_self))
    cases hn.symm.trans hn9
    exact ⟨meth, c, h1, h2, h3, h4, h5, h6⟩
  · intro p e s m args below meth c s₁ B hml hP _
    have hh0 : s₁.heap = s.heap := by rw [B.state]; rfl
    obtain ⟨t, a1, o, b1, b2, b3⟩ := body p e s m args below meth c s₁ B hml hP s₁ hh0 (Stand.of_body B)
    exact ⟨t, o, a1, b1, b2, b3⟩
/-! ===== END ===== -/

/-- the words of 'throw new NoSuchElementException(text)' in CutYard: her constructor names RuntimeException's by entry 13 of her file, not 7 as the chain's list has it -/
def vz_at : List Cond := (Bundle.throwableAtoms ++ Bundle.throwableSAtoms ++ (Bundle.passSAtoms "java/util/NoSuchElementException" "java/lang/RuntimeException" 13 ⟨#[0x2a, 0x2b, 0xb7, 0x00, 0x0d, 0xb1]⟩ ++ Bundle.chainSAtoms "java/lang/RuntimeException" ["java/lang/Exception"]) ++
  ([.methodLink "CutYard" 138 (Bundle.initS "java/util/NoSuchElementException"), .instantiable "java/util/NoSuchElementException" 6, .castable "java/util/NoSuchElementException" "java/util/NoSuchElementException", .selects "java/util/NoSuchElementException" Bundle.tFill0 Bundle.tFill0, .selects "java/util/NoSuchElementException" Bundle.tFill Bundle.tFill,
   .lays "java/util/NoSuchElementException" Bundle.tN "cause" "Ljava/lang/Throwable;", .lays "java/util/NoSuchElementException" Bundle.tN "stackTrace" Bundle.steD, .lays "java/util/NoSuchElementException" Bundle.tN "suppressedExceptions" Bundle.listD, .lays "java/util/NoSuchElementException" Bundle.tN "detailMessage" "Ljava/lang/String;",
   .isRef (.static Bundle.tN "UNASSIGNED_STACK" Bundle.steD), .isRef (.static Bundle.tN "SUPPRESSED_SENTINEL" Bundle.listD),
   .fieldLink Bundle.tN 198 Bundle.tN "backtrace" "Ljava/lang/Object;", .lays Bundle.tN Bundle.tN "backtrace" "Ljava/lang/Object;", .lays "java/util/NoSuchElementException" Bundle.tN "backtrace" "Ljava/lang/Object;"] : List Cond)).filter vx_no
end
section
def wsX3_begin : List Cond := .code yX3_begin cX3_begin 5 none :: ((wsX3_begin_r1 ++ wsX3_begin_r2) ++ wsX30 ++ wsX10 ++ wsX20 ++ wsX00 ++ (vx_atS RX3 52 "java/lang/IllegalArgumentException" ["java/lang/RuntimeException", "java/lang/Exception"]).filter goodWord)
def wsX3_put : List Cond := .code yX3_put cX3_put 4 (some .int) :: ([.classLink RX3 48 "java/lang/IllegalArgumentException", .initialized "java/lang/IllegalArgumentException", .classLink RX3 69 "java/lang/UnsupportedOperationException", .initialized "java/lang/UnsupportedOperationException", .fieldLink RX3 33 "CutYard" "inHand" "I", .fieldLink RX3 29 "CutYard" "hand" "[B"] ++ wsX30 ++ (vx_atS RX3 52 "java/lang/IllegalArgumentException" ["java/lang/RuntimeException", "java/lang/Exception"]).filter goodWord ++ (vx_atS RX3 73 "java/lang/UnsupportedOperationException" ["java/lang/RuntimeException", "java/lang/Exception"]).filter goodWord)
def wsX3_fileAt : List Cond := .code yX3_fileAt cX3_fileAt 2 (some (.object "CutYard$Content")) :: ([.classLink RX3 117 "java/lang/IndexOutOfBoundsException", .initialized "java/lang/IndexOutOfBoundsException", .fieldLink RX3 25 "CutYard" "files" "[LCutYard$Content;"] ++ wsX30 ++ (vx_atS RX3 121 "java/lang/IndexOutOfBoundsException" ["java/lang/RuntimeException", "java/lang/Exception"]).filter goodWord)
def wsX3_fillFile : List Cond := .code yX3_fillFile cX3_fillFile 7 (some .int) :: ((wsX3_fillFile_r1 ++ (wsX3_fillFile_r2 ++ (wsX3_fillFile_r3 ++ (wsX3_fillFile_r4 ++ wsX3_fillFile_r5)))) ++ wsX30 ++ wsX20 ++ wsX00 ++ wsX10 ++ (vx_atS RX3 73 "java/lang/UnsupportedOperationException" ["java/lang/RuntimeException", "java/lang/Exception"]).filter goodWord)
def wsX3_store : List Cond := .code yX3_store cX3_store 2 (some .int) :: ((wsX3_store_r1 ++ (wsX3_store_r2 ++ (wsX3_store_r3 ++ (wsX3_store_r4 ++ (wsX3_store_r5 ++ wsX3_store_r6))))) ++ wsX30 ++ wsX20 ++ wsX00 ++ wsX10 ++ (vx_atS RX3 121 "java/lang/IndexOutOfBoundsException" ["java/lang/RuntimeException", "java/lang/Exception"]).filter goodWord ++ (vx_atS RX3 73 "java/lang/UnsupportedOperationException" ["java/lang/RuntimeException", "java/lang/Exception"]).filter goodWord)
def wsX3_edit : List Cond := .code yX3_edit cX3_edit 6 (some .int) :: ((wsX3_edit_r1 ++ (wsX3_edit_r2 ++ (wsX3_edit_r3 ++ (wsX3_edit_r4 ++ (wsX3_edit_r5 ++ (wsX3_edit_r6 ++ wsX3_edit_r7)))))) ++ wsX00 ++ wsX30 ++ wsX20 ++ wsX10 ++ (vx_atS RX3 52 "java/lang/IllegalArgumentException" ["java/lang/RuntimeException", "java/lang/Exception"]).filter goodWord ++ (vx_atS RX3 73 "java/lang/UnsupportedOperationException" ["java/lang/RuntimeException", "java/lang/Exception"]).filter goodWord ++ (vx_atS RX3 121 "java/lang/IndexOutOfBoundsException" ["java/lang/RuntimeException", "java/lang/Exception"]).filter goodWord)
def wsX3_copy : List Cond := .code yX3_copy cX3_copy 6 none :: ((wsX3_copy_r1 ++ (wsX3_copy_r2 ++ wsX3_copy_r3)) ++ wsX00 ++ wsX30 ++ wsX20 ++ (vx_atS RX3 121 "java/lang/IndexOutOfBoundsException" ["java/lang/RuntimeException", "java/lang/Exception"]).filter goodWord)
def wsX3_size : List Cond := .code yX3_size cX3_size 2 (some .int) :: ([.methodLink RX3 74 yX3_fileAt, .instanceMethod yX3_fileAt, .selects RX3 yX3_fileAt yX3_fileAt, .initialized RX3, .code yX3_fileAt cX3_fileAt 2 (some (.object "CutYard$Content")), .classLink RX3 117 "java/lang/IndexOutOfBoundsException", .initialized "java/lang/IndexOutOfBoundsException", .fieldLink RX3 25 "CutYard" "files" "[LCutYard$Content;"] ++ wsX00 ++ wsX30 ++ (vx_atS RX3 121 "java/lang/IndexOutOfBoundsException" ["java/lang/RuntimeException", "java/lang/Exception"]).filter goodWord)
def wsX3_get : List Cond := .code yX3_get cX3_get 6 (some .int) :: ((wsX3_get_r1 ++ wsX3_get_r2) ++ wsX00 ++ wsX30 ++ wsX20 ++ (vx_atS RX3 121 "java/lang/IndexOutOfBoundsException" ["java/lang/RuntimeException", "java/lang/Exception"]).filter goodWord)
def wsX3_parts : List Cond := .code yX3_parts cX3_parts 2 (some .int) :: ([.methodLink RX3 74 yX3_fileAt, .instanceMethod yX3_fileAt, .selects RX3 yX3_fileAt yX3_fileAt, .initialized RX3, .code yX3_fileAt cX3_fileAt 2 (some (.object "CutYard$Content")), .classLink RX3 117 "java/lang/IndexOutOfBoundsException", .initialized "java/lang/IndexOutOfBoundsException", .fieldLink RX3 25 "CutYard" "files" "[LCutYard$Content;"] ++ wsX00 ++ wsX30 ++ (vx_atS RX3 121 "java/lang/IndexOutOfBoundsException" ["java/lang/RuntimeException", "java/lang/Exception"]).filter goodWord)
def wsX3_part : List Cond := .code yX3_part cX3_part 4 (some .int) :: ([.classLink RX3 117 "java/lang/IndexOutOfBoundsException", .initialized "java/lang/IndexOutOfBoundsException", .methodLink RX3 74 yX3_fileAt, .instanceMethod yX3_fileAt, .selects RX3 yX3_fileAt yX3_fileAt, .initialized RX3, .code yX3_fileAt cX3_fileAt 2 (some (.object "CutYard$Content")), .fieldLink RX3 25 "CutYard" "files" "[LCutYard$Content;"] ++ wsX00 ++ wsX30 ++ (vx_atS RX3 121 "java/lang/IndexOutOfBoundsException" ["java/lang/RuntimeException", "java/lang/Exception"]).filter goodWord)
def wsX3_about : List Cond := .code yX3_about cX3_about 3 (some .int) :: ((wsX3_about_r1 ++ wsX3_about_r2) ++ wsX30 ++ wsX20 ++ wsX00 ++ vz_at.filter goodWord ++ (vx_atS RX3 52 "java/lang/IllegalArgumentException" ["java/lang/RuntimeException", "java/lang/Exception"]).filter goodWord)
def wsX3_common : List Cond := .code yX3_common cX3_common 8 (some .int) :: ((wsX3_common_r1 ++ wsX3_common_r2) ++ wsX30 ++ wsX00 ++ wsX20 ++ (vx_atS RX3 121 "java/lang/IndexOutOfBoundsException" ["java/lang/RuntimeException", "java/lang/Exception"]).filter goodWord)
def wsX3_all : List Cond := .code yX3_all cX3_all 2 (some .int) :: ([.classLink RX3 48 "java/lang/IllegalArgumentException", .initialized "java/lang/IllegalArgumentException", .fieldLink RX3 19 "CutYard" "stock" "LCutYard$Stock;", .fieldLink RX3 33 "CutYard" "inHand" "I"] ++ wsX30 ++ wsX20 ++ (vx_atS RX3 52 "java/lang/IllegalArgumentException" ["java/lang/RuntimeException", "java/lang/Exception"]).filter goodWord)
set_option maxRecDepth 20000 in
theorem ggX3_begin_X1_setRule : GoodIn wsX3_begin wsX1_setRule := goodIn_r _ [10, 11, 12, 13, 43, 44, 45] (by decide +kernel) (by decide +kernel)
set_option maxRecDepth 20000 in
theorem gX3_begin_X1_setRule : GoodIn wsX3_begin (wsV RX3 59 RX1 yX1_setRule wsX1_setRule) := goodIn_app (goodIn_of _ (by decide +kernel)) ggX3_begin_X1_setRule
set_option maxRecDepth 20000 in
theorem ggX3_begin_X2_empty : GoodIn wsX3_begin wsX2_empty := goodIn_r _ [18, 19, 20, 21, 22, 23, 24, 25, 26, 27, 46, 47, 48, 49, 50, 51, 52, 53, 54] (by decide +kernel) (by decide +kernel)
set_option maxRecDepth 20000 in
theorem gX3_begin_X2_empty : GoodIn wsX3_begin (wsV RX3 63 RX2 yX2_empty wsX2_empty) := goodIn_app (goodIn_of _ (by decide +kernel)) ggX3_begin_X2_empty
set_option maxRecDepth 20000 in
theorem ggX3_begin_X0_empty : GoodIn wsX3_begin wsX0_empty := goodIn_r _ [32, 33, 34, 55, 56, 57] (by decide +kernel) (by decide +kernel)
set_option maxRecDepth 20000 in
theorem gX3_begin_X0_empty : GoodIn wsX3_begin (wsV RX3 66 RX0 yX0_empty wsX0_empty) := goodIn_app (goodIn_of _ (by decide +kernel)) ggX3_begin_X0_empty
set_option maxRecDepth 20000 in
theorem ggX3_store_X3_fileAt : GoodIn wsX3_store wsX3_fileAt := goodIn_ca (goodIn_r _ [7, 8, 9, 10, 133, 134, 135, 136, 137, 138, 139, 140] (by decide +kernel) (by decide +kernel)) (goodIn_sub (fun _ h => List.mem_cons_of_mem _ (List.mem_append_left _ (List.mem_append_right _ h))) (by decide +kernel))
set_option maxRecDepth 20000 in
theorem gX3_store_X3_fileAt : GoodIn wsX3_store (wsV RX3 74 RX3 yX3_fileAt wsX3_fileAt) := goodIn_app (goodIn_of _ (by decide +kernel)) ggX3_store_X3_fileAt
set_option maxRecDepth 20000 in
theorem ggX3_store_X3_fillFile : GoodIn wsX3_store wsX3_fillFile := goodIn_ca (goodIn_r _ [14, 15, 16, 17, 18, 2, 19, 20, 21, 6, 22, 23, 24, 25, 26, 27, 28, 29, 30, 31, 32, 33, 34, 35, 36, 37, 38, 39, 40, 41, 42, 43, 44, 45, 46, 47, 48, 49, 50, 51, 52, 53, 54, 55, 56, 57, 58, 59, 60, 61, 62, 63, 64, 65, 66, 67, 68, 69, 70, 71, 72, 73, 74, 75, 76, 77, 78, 79, 80, 81, 82, 83, 84, 85, 86, 87, 88, 89, 90, 91, 92, 93, 94, 95, 96, 97, 98, 99, 100, 101, 102, 103, 104, 105, 106, 107, 108, 109, 110, 111, 112, 113, 114, 115, 116, 117, 118, 119, 120, 121, 122, 123, 124, 125, 126, 127, 128, 129, 130, 131, 132, 133, 134, 135, 136, 137, 138, 139, 140, 141, 142, 143, 144, 145, 146, 147, 148, 149, 150, 151, 152, 153, 154, 155] (by decide +kernel) (by decide +kernel)) (goodIn_sub (fun _ h => List.mem_cons_of_mem _ (List.mem_append_right _ h)) (by decide +kernel))
set_option maxRecDepth 20000 in
theorem gX3_store_X3_fillFile : GoodIn wsX3_store (wsV RX3 78 RX3 yX3_fillFile wsX3_fillFile) := goodIn_app (goodIn_of _ (by decide +kernel)) ggX3_store_X3_fillFile
set_option maxRecDepth 20000 in
theorem ggX3_edit_X3_fileAt : GoodIn wsX3_edit wsX3_fileAt := goodIn_ca (goodIn_r _ [16, 17, 18, 19, 152, 153, 154, 155, 156, 157, 158, 159] (by decide +kernel) (by decide +kernel)) (goodIn_sub (fun _ h => List.mem_cons_of_mem _ (List.mem_append_right _ h)) (by decide +kernel))
set_option maxRecDepth 20000 in
theorem gX3_edit_X3_fileAt : GoodIn wsX3_edit (wsV RX3 74 RX3 yX3_fileAt wsX3_fileAt) := goodIn_app (goodIn_of _ (by decide +kernel)) ggX3_edit_X3_fileAt
set_option maxRecDepth 20000 in
theorem ggX3_edit_X3_layOut : GoodIn wsX3_edit wsX3_layOut := goodIn_r _ [23, 24, 6, 25, 26, 27, 28, 29, 30, 31, 8, 9, 10, 32, 33, 34, 35, 36, 37, 38, 39, 40, 41, 149, 150, 151, 152, 153, 154, 155, 156, 157, 158, 159, 160, 161, 162, 163, 164, 165, 166, 167, 168] (by decide +kernel) (by decide +kernel)
set_option maxRecDepth 20000 in
theorem gX3_edit_X3_layOut : GoodIn wsX3_edit (wsV RX3 89 RX3 yX3_layOut wsX3_layOut) := goodIn_app (goodIn_of _ (by decide +kernel)) ggX3_edit_X3_layOut
set_option maxRecDepth 20000 in
theorem ggX3_edit_X3_fillFile : GoodIn wsX3_edit wsX3_fillFile := goodIn_ca (goodIn_r _ [45, 3, 4, 24, 46, 5, 47, 48, 49, 15, 50, 51, 52, 53, 54, 55, 56, 57, 58, 59, 60, 61, 62, 63, 64, 65, 66, 67, 68, 69, 70, 71, 72, 73, 28, 74, 75, 76, 77, 78, 79, 80, 81, 82, 83, 36, 84, 37, 38, 39, 40, 41, 85, 86, 87, 88, 30, 89, 90, 91, 92, 31, 8, 9, 10, 93, 94, 95, 96, 97, 98, 99, 100, 101, 102, 103, 104, 105, 106, 107, 108, 109, 110, 111, 112, 113, 114, 115, 116, 117, 118, 119, 120, 121, 122, 123, 124, 125, 126, 127, 128, 129, 130, 131, 132, 133, 134, 135, 136, 137, 138, 139, 140, 141, 142, 143, 144, 145, 146, 147, 148, 152, 153, 154, 155, 156, 157, 158, 159, 160, 161, 162, 163, 164, 165, 166, 167, 168, 149, 150, 151, 169, 170, 171] (by decide +kernel) (by decide +kernel)) (goodIn_sub (fun _ h => List.mem_cons_of_mem _ (List.mem_append_left _ (List.mem_append_right _ h))) (by decide +kernel))
set_option maxRecDepth 20000 in
theorem gX3_edit_X3_fillFile : GoodIn wsX3_edit (wsV RX3 78 RX3 yX3_fillFile wsX3_fillFile) := goodIn_app (goodIn_of _ (by decide +kernel)) ggX3_edit_X3_fillFile
set_option maxRecDepth 20000 in
theorem ggX3_copy_X3_fileAt : GoodIn wsX3_copy wsX3_fileAt := goodIn_ca (goodIn_r _ [6, 7, 8, 9, 63, 64, 65, 66, 67, 68, 69, 70] (by decide +kernel) (by decide +kernel)) (goodIn_sub (fun _ h => List.mem_cons_of_mem _ (List.mem_append_right _ h)) (by decide +kernel))
set_option maxRecDepth 20000 in
theorem gX3_copy_X3_fileAt : GoodIn wsX3_copy (wsV RX3 74 RX3 yX3_fileAt wsX3_fileAt) := goodIn_app (goodIn_of _ (by decide +kernel)) ggX3_copy_X3_fileAt
set_option maxRecDepth 20000 in
theorem ggX3_copy_X2_useAgain : GoodIn wsX3_copy wsX2_useAgain := goodIn_r _ [14, 15, 16, 17, 18, 13, 19, 71, 72, 73, 74, 75, 76, 77, 78, 79] (by decide +kernel) (by decide +kernel)
set_option maxRecDepth 20000 in
theorem gX3_copy_X2_useAgain : GoodIn wsX3_copy (wsV RX3 105 RX2 yX2_useAgain wsX2_useAgain) := goodIn_app (goodIn_of _ (by decide +kernel)) ggX3_copy_X2_useAgain
set_option maxRecDepth 20000 in
theorem ggX3_copy_X3_giveBack : GoodIn wsX3_copy wsX3_giveBack := goodIn_r _ [23, 1, 24, 25, 26, 13, 27, 15, 28, 29, 30, 31, 32, 33, 34, 35, 16, 17, 18, 19, 36, 37, 38, 39, 40, 41, 42, 63, 64, 65, 66, 67, 68, 69, 70, 71, 72, 73, 74, 75, 76, 77, 78, 79] (by decide +kernel) (by decide +kernel)
set_option maxRecDepth 20000 in
theorem gX3_copy_X3_giveBack : GoodIn wsX3_copy (wsV RX3 109 RX3 yX3_giveBack wsX3_giveBack) := goodIn_app (goodIn_of _ (by decide +kernel)) ggX3_copy_X3_giveBack
set_option maxRecDepth 20000 in
theorem ggX3_copy_X0_become : GoodIn wsX3_copy wsX0_become := goodIn_r _ [47, 48, 49, 50, 31, 51, 52, 30, 32, 53, 54, 55, 56, 57, 58, 59, 60, 61, 62] (by decide +kernel) (by decide +kernel)
set_option maxRecDepth 20000 in
theorem gX3_copy_X0_become : GoodIn wsX3_copy (wsV RX3 113 RX0 yX0_become wsX0_become) := goodIn_app (goodIn_of _ (by decide +kernel)) ggX3_copy_X0_become
set_option maxRecDepth 20000 in
theorem ggX3_size_X3_fileAt : GoodIn wsX3_size wsX3_fileAt := goodIn_ca (goodIn_r _ [5, 6, 7, 8, 12, 13, 14, 15, 16, 17, 18, 19] (by decide +kernel) (by decide +kernel)) (goodIn_sub (fun _ h => List.mem_cons_of_mem _ (List.mem_append_right _ h)) (by decide +kernel))
set_option maxRecDepth 20000 in
theorem gX3_size_X3_fileAt : GoodIn wsX3_size (wsV RX3 74 RX3 yX3_fileAt wsX3_fileAt) := goodIn_app (goodIn_of _ (by decide +kernel)) ggX3_size_X3_fileAt
set_option maxRecDepth 20000 in
theorem ggX3_get_X3_fileAt : GoodIn wsX3_get wsX3_fileAt := goodIn_ca (goodIn_r _ [8, 1, 2, 9, 30, 31, 32, 33, 34, 35, 36, 37] (by decide +kernel) (by decide +kernel)) (goodIn_sub (fun _ h => List.mem_cons_of_mem _ (List.mem_append_right _ h)) (by decide +kernel))
set_option maxRecDepth 20000 in
theorem gX3_get_X3_fileAt : GoodIn wsX3_get (wsV RX3 74 RX3 yX3_fileAt wsX3_fileAt) := goodIn_app (goodIn_of _ (by decide +kernel)) ggX3_get_X3_fileAt
set_option maxRecDepth 20000 in
theorem ggX3_get_X2_lengthOf : GoodIn wsX3_get wsX2_lengthOf := goodIn_r _ [14, 15, 16, 17, 18, 13, 19, 20, 38, 39, 40, 41, 42, 43, 44, 45, 46] (by decide +kernel) (by decide +kernel)
set_option maxRecDepth 20000 in
theorem gX3_get_X2_lengthOf : GoodIn wsX3_get (wsV RX3 122 RX2 yX2_lengthOf wsX2_lengthOf) := goodIn_app (goodIn_of _ (by decide +kernel)) ggX3_get_X2_lengthOf
set_option maxRecDepth 20000 in
theorem ggX3_get_X2_byteOf : GoodIn wsX3_get wsX2_byteOf := goodIn_r _ [24, 25, 26, 11, 12, 13, 14, 15, 16, 17, 18, 19, 20, 38, 39, 40, 41, 42, 43, 44, 45, 46] (by decide +kernel) (by decide +kernel)
set_option maxRecDepth 20000 in
theorem gX3_get_X2_byteOf : GoodIn wsX3_get (wsV RX3 126 RX2 yX2_byteOf wsX2_byteOf) := goodIn_app (goodIn_of _ (by decide +kernel)) ggX3_get_X2_byteOf
set_option maxRecDepth 20000 in
theorem ggX3_parts_X3_fileAt : GoodIn wsX3_parts wsX3_fileAt := goodIn_ca (goodIn_r _ [5, 6, 7, 8, 12, 13, 14, 15, 16, 17, 18, 19] (by decide +kernel) (by decide +kernel)) (goodIn_sub (fun _ h => List.mem_cons_of_mem _ (List.mem_append_right _ h)) (by decide +kernel))
set_option maxRecDepth 20000 in
theorem gX3_parts_X3_fileAt : GoodIn wsX3_parts (wsV RX3 74 RX3 yX3_fileAt wsX3_fileAt) := goodIn_app (goodIn_of _ (by decide +kernel)) ggX3_parts_X3_fileAt
set_option maxRecDepth 20000 in
theorem ggX3_part_X3_fileAt : GoodIn wsX3_part wsX3_fileAt := goodIn_ca (goodIn_r _ [7, 1, 2, 8, 12, 13, 14, 15, 16, 17, 18, 19] (by decide +kernel) (by decide +kernel)) (goodIn_sub (fun _ h => List.mem_cons_of_mem _ (List.mem_append_right _ h)) (by decide +kernel))
set_option maxRecDepth 20000 in
theorem gX3_part_X3_fileAt : GoodIn wsX3_part (wsV RX3 74 RX3 yX3_fileAt wsX3_fileAt) := goodIn_app (goodIn_of _ (by decide +kernel)) ggX3_part_X3_fileAt
set_option maxRecDepth 20000 in
theorem ggX3_about_X2_has : GoodIn wsX3_about wsX2_has := goodIn_r _ [10, 11, 43, 44, 45, 46, 47, 48, 49, 50, 51] (by decide +kernel) (by decide +kernel)
set_option maxRecDepth 20000 in
theorem gX3_about_X2_has : GoodIn wsX3_about (wsV RX3 132 RX2 yX2_has wsX2_has) := goodIn_app (goodIn_of _ (by decide +kernel)) ggX3_about_X2_has
set_option maxRecDepth 20000 in
theorem ggX3_about_X2_lengthOf : GoodIn wsX3_about wsX2_lengthOf := goodIn_r _ [15, 16, 17, 7, 8, 9, 10, 11, 43, 44, 45, 46, 47, 48, 49, 50, 51] (by decide +kernel) (by decide +kernel)
set_option maxRecDepth 20000 in
theorem gX3_about_X2_lengthOf : GoodIn wsX3_about (wsV RX3 122 RX2 yX2_lengthOf wsX2_lengthOf) := goodIn_app (goodIn_of _ (by decide +kernel)) ggX3_about_X2_lengthOf
set_option maxRecDepth 20000 in
theorem ggX3_about_X2_usesOf : GoodIn wsX3_about wsX2_usesOf := goodIn_r _ [21, 11, 17, 7, 8, 9, 10, 43, 44, 45, 46, 47, 48, 49, 50, 51] (by decide +kernel) (by decide +kernel)
set_option maxRecDepth 20000 in
theorem gX3_about_X2_usesOf : GoodIn wsX3_about (wsV RX3 139 RX2 yX2_usesOf wsX2_usesOf) := goodIn_app (goodIn_of _ (by decide +kernel)) ggX3_about_X2_usesOf
set_option maxRecDepth 20000 in
theorem ggX3_about_X3_filesWith : GoodIn wsX3_about wsX3_filesWith := goodIn_r _ [26, 27, 28, 29, 30, 31, 32, 33, 34, 35, 36, 37, 38, 39, 40, 41, 42, 52, 53, 54] (by decide +kernel) (by decide +kernel)
set_option maxRecDepth 20000 in
theorem gX3_about_X3_filesWith : GoodIn wsX3_about (wsV RX3 142 RX3 yX3_filesWith wsX3_filesWith) := goodIn_app (goodIn_of _ (by decide +kernel)) ggX3_about_X3_filesWith
set_option maxRecDepth 20000 in
theorem ggX3_common_X3_fileAt : GoodIn wsX3_common wsX3_fileAt := goodIn_ca (goodIn_r _ [7, 8, 9, 10, 27, 28, 29, 30, 31, 32, 33, 34] (by decide +kernel) (by decide +kernel)) (goodIn_sub (fun _ h => List.mem_cons_of_mem _ (List.mem_append_right _ h)) (by decide +kernel))
set_option maxRecDepth 20000 in
theorem gX3_common_X3_fileAt : GoodIn wsX3_common (wsV RX3 74 RX3 yX3_fileAt wsX3_fileAt) := goodIn_app (goodIn_of _ (by decide +kernel)) ggX3_common_X3_fileAt
set_option maxRecDepth 20000 in
theorem ggX3_common_J7_fill_53178 : GoodIn wsX3_common wsJ7_fill_53178 := goodIn_r _ [14] (by decide +kernel) (by decide +kernel)
set_option maxRecDepth 20000 in
theorem gX3_common_J7_fill_53178 : GoodIn wsX3_common (va_wsS RX3 147 yJ7_fill_53178 wsJ7_fill_53178) := goodIn_app (goodIn_of _ (by decide +kernel)) ggX3_common_J7_fill_53178
set_option maxRecDepth 20000 in
theorem ggX3_common_X2_has : GoodIn wsX3_common wsX2_has := goodIn_r _ [19, 20, 38, 39, 40, 41, 42, 43, 44, 45, 46] (by decide +kernel) (by decide +kernel)
set_option maxRecDepth 20000 in
theorem gX3_common_X2_has : GoodIn wsX3_common (wsV RX3 132 RX2 yX2_has wsX2_has) := goodIn_app (goodIn_of _ (by decide +kernel)) ggX3_common_X2_has
set_option maxRecDepth 20000 in
theorem ggX3_common_X2_lengthOf : GoodIn wsX3_common wsX2_lengthOf := goodIn_r _ [24, 25, 26, 16, 17, 18, 19, 20, 38, 39, 40, 41, 42, 43, 44, 45, 46] (by decide +kernel) (by decide +kernel)
set_option maxRecDepth 20000 in
theorem gX3_common_X2_lengthOf : GoodIn wsX3_common (wsV RX3 122 RX2 yX2_lengthOf wsX2_lengthOf) := goodIn_app (goodIn_of _ (by decide +kernel)) ggX3_common_X2_lengthOf
set_option maxRecDepth 20000 in
theorem ggX3_fillFile_X3_takeParts : GoodIn wsX3_fillFile wsX3_takeParts := goodIn_r _ [10, 11, 3, 4, 12, 13, 14, 15, 16, 17, 18, 19, 20, 21, 22, 23, 24, 25, 26, 27, 28, 29, 30, 31, 32, 33, 34, 35, 36, 37, 38, 39, 40, 41, 42, 43, 44, 45, 46, 47, 48, 49, 50, 51, 52, 53, 54, 55, 56, 57, 58, 59, 60, 61, 62, 63, 64, 65, 66, 67, 68, 69, 70, 71, 72, 73, 74, 75, 76, 77, 78, 79, 80, 81, 82, 83, 84, 85, 86, 87, 88, 89, 90, 91, 92, 93, 94, 95, 96, 97, 98, 99, 9, 100, 101, 102, 103, 104, 105, 106, 107, 108, 121, 122, 123, 124, 125, 126, 127, 128, 141, 142, 143, 129, 130, 131, 132, 133, 134, 135, 136, 137] (by decide +kernel) (by decide +kernel)
set_option maxRecDepth 20000 in
theorem gX3_fillFile_X3_takeParts : GoodIn wsX3_fillFile (wsV RX3 156 RX3 yX3_takeParts wsX3_takeParts) := goodIn_app (goodIn_of _ (by decide +kernel)) ggX3_fillFile_X3_takeParts
set_option maxRecDepth 20000 in
theorem ggX3_fillFile_X3_giveBack : GoodIn wsX3_fillFile wsX3_giveBack := goodIn_r _ [100, 3, 101, 102, 103, 34, 104, 51, 71, 79, 19, 20, 21, 65, 66, 45, 47, 48, 49, 50, 105, 106, 107, 108, 44, 43, 46, 121, 122, 123, 124, 125, 126, 127, 128, 129, 130, 131, 132, 133, 134, 135, 136, 137] (by decide +kernel) (by decide +kernel)
set_option maxRecDepth 20000 in
theorem gX3_fillFile_X3_giveBack : GoodIn wsX3_fillFile (wsV RX3 109 RX3 yX3_giveBack wsX3_giveBack) := goodIn_app (goodIn_of _ (by decide +kernel)) ggX3_fillFile_X3_giveBack
set_option maxRecDepth 20000 in
theorem ggX3_fillFile_X0_become : GoodIn wsX3_fillFile wsX0_become := goodIn_r _ [113, 114, 115, 77, 20, 78, 116, 19, 21, 117, 118, 62, 63, 64, 119, 120, 138, 139, 140] (by decide +kernel) (by decide +kernel)
set_option maxRecDepth 20000 in
theorem gX3_fillFile_X0_become : GoodIn wsX3_fillFile (wsV RX3 113 RX0 yX0_become wsX0_become) := goodIn_app (goodIn_of _ (by decide +kernel)) ggX3_fillFile_X0_become
end
section
def RL : String := "CutYardLaw"
abbrev cL_begin : ByteArray := method_3_code
def yL_begin : MethodName := ⟨RL, "begin", "(LCutYard;III)I"⟩
abbrev cL_put : ByteArray := method_4_code
def yL_put : MethodName := ⟨RL, "put", "(LCutYard;II[J)I"⟩
abbrev cL_store : ByteArray := method_5_code
def yL_store : MethodName := ⟨RL, "store", "(LCutYard;I[J)I"⟩
abbrev cL_edit : ByteArray := method_6_code
def yL_edit : MethodName := ⟨RL, "edit", "(LCutYard;III[J)I"⟩
abbrev cL_copy : ByteArray := method_7_code
def yL_copy : MethodName := ⟨RL, "copy", "(LCutYard;II)I"⟩
abbrev cL_size : ByteArray := method_8_code
def yL_size : MethodName := ⟨RL, "size", "(LCutYard;I[J)I"⟩
abbrev cL_get : ByteArray := method_9_code
def yL_get : MethodName := ⟨RL, "get", "(LCutYard;II[J)I"⟩
abbrev cL_parts : ByteArray := method_10_code
def yL_parts : MethodName := ⟨RL, "parts", "(LCutYard;I[J)I"⟩
abbrev cL_part : ByteArray := method_11_code
def yL_part : MethodName := ⟨RL, "part", "(LCutYard;II[J)I"⟩
abbrev cL_about : ByteArray := method_12_code
def yL_about : MethodName := ⟨RL, "about", "(LCutYard;II[J)I"⟩
abbrev cL_common : ByteArray := method_13_code
def yL_common : MethodName := ⟨RL, "common", "(LCutYard;II[J)I"⟩
abbrev cL_all : ByteArray := method_14_code
def yL_all : MethodName := ⟨RL, "all", "(LCutYard;I[J)I"⟩
abbrev cL_law : ByteArray := code
def yL_law : MethodName := ⟨RL, "law", "([I)Z"⟩
def wsL_begin_r1 : List Cond := [Cond.classLink RL 13 "java/lang/IllegalArgumentException", Cond.methodLink RL 7 yX3_begin, Cond.instanceMethod yX3_begin, Cond.selects RX3 yX3_begin yX3_begin, Cond.initialized RX3, Cond.code yX3_begin cX3_begin 5 none, Cond.classLink RX3 48 "java/lang/IllegalArgumentException", Cond.initialized "java/lang/IllegalArgumentException", Cond.fieldLink RX3 10 "CutYard" "cutter" "LCutYard$Cutter;", Cond.fieldLink RX3 19 "CutYard" "stock" "LCutYard$Stock;", Cond.fieldLink RX3 25 "CutYard" "files" "[LCutYard$Content;", Cond.methodLink RX3 59 yX1_setRule, Cond.instanceMethod yX1_setRule, Cond.selects RX1 yX1_setRule yX1_setRule, Cond.initialized RX1, Cond.code yX1_setRule cX1_setRule 4 none, Cond.fieldLink RX1 7 "CutYard$Cutter" "mask" "I", Cond.fieldLink RX1 13 "CutYard$Cutter" "least" "I", Cond.fieldLink RX1 16 "CutYard$Cutter" "most" "I", Cond.methodLink RX3 63 yX2_empty, Cond.instanceMethod yX2_empty, Cond.selects RX2 yX2_empty yX2_empty, Cond.initialized RX2, Cond.code yX2_empty cX2_empty 1 none]
def wsL_begin_r2 : List Cond := [Cond.fieldLink RX2 9 "CutYard$Stock" "uses" "[I", Cond.fieldLink RX2 24 "CutYard$Stock" "heads" "[I", Cond.fieldLink RX2 31 "CutYard$Stock" "lowest" "I", Cond.fieldLink RX2 35 "CutYard$Stock" "count" "I", Cond.fieldLink RX2 38 "CutYard$Stock" "bytes" "I", Cond.methodLink RX2 41 yJ7_fill_53178, Cond.static yJ7_fill_53178, Cond.initialized RJ7, Cond.code yJ7_fill_53178 cJ7_fill_53178 4 none, Cond.methodLink RX3 66 yX0_empty, Cond.instanceMethod yX0_empty, Cond.selects RX0 yX0_empty yX0_empty, Cond.initialized RX0, Cond.code yX0_empty cX0_empty 1 none, Cond.fieldLink RX0 15 "CutYard$Content" "count" "I", Cond.fieldLink RX0 19 "CutYard$Content" "bytes" "I"]
def wsL_begin : List Cond := .codeWith yL_begin cL_begin 5 (some .int) [(0, 7, 10, 13)] :: ((wsL_begin_r1 ++ wsL_begin_r2) ++ wsX30 ++ wsX10 ++ wsX20 ++ wsX00 ++ (vx_atS RX3 52 "java/lang/IllegalArgumentException" ["java/lang/RuntimeException", "java/lang/Exception"]).filter goodWord)
def wsL_put : List Cond := .codeWith yL_put cL_put 5 (some .int) [(0, 10, 13, 13), (0, 10, 17, 19)] :: ([.classLink RL 13 "java/lang/IllegalArgumentException", .classLink RL 19 "java/lang/UnsupportedOperationException", .methodLink RL 15 yX3_put, .instanceMethod yX3_put, .selects RX3 yX3_put yX3_put, .initialized RX3, .code yX3_put cX3_put 4 (some .int), .classLink RX3 48 "java/lang/IllegalArgumentException", .initialized "java/lang/IllegalArgumentException", .classLink RX3 69 "java/lang/UnsupportedOperationException", .initialized "java/lang/UnsupportedOperationException", .fieldLink RX3 33 "CutYard" "inHand" "I", .fieldLink RX3 29 "CutYard" "hand" "[B"] ++ wsX30 ++ (vx_atS RX3 52 "java/lang/IllegalArgumentException" ["java/lang/RuntimeException", "java/lang/Exception"]).filter goodWord ++ (vx_atS RX3 73 "java/lang/UnsupportedOperationException" ["java/lang/RuntimeException", "java/lang/Exception"]).filter goodWord)
def wsL_store_r1 : List Cond := [Cond.classLink RL 25 "java/lang/IndexOutOfBoundsException", Cond.classLink RL 19 "java/lang/UnsupportedOperationException", Cond.methodLink RL 21 yX3_store, Cond.instanceMethod yX3_store, Cond.selects RX3 yX3_store yX3_store, Cond.initialized RX3, Cond.code yX3_store cX3_store 2 (some .int), Cond.fieldLink RX3 29 "CutYard" "hand" "[B", Cond.fieldLink RX3 33 "CutYard" "inHand" "I", Cond.methodLink RX3 74 yX3_fileAt, Cond.instanceMethod yX3_fileAt, Cond.selects RX3 yX3_fileAt yX3_fileAt, Cond.code yX3_fileAt cX3_fileAt 2 (some (.object "CutYard$Content")), Cond.classLink RX3 117 "java/lang/IndexOutOfBoundsException", Cond.initialized "java/lang/IndexOutOfBoundsException", Cond.fieldLink RX3 25 "CutYard" "files" "[LCutYard$Content;", Cond.methodLink RX3 78 yX3_fillFile, Cond.instanceMethod yX3_fillFile, Cond.selects RX3 yX3_fillFile yX3_fillFile, Cond.code yX3_fillFile cX3_fillFile 7 (some .int), Cond.classLink RX3 69 "java/lang/UnsupportedOperationException", Cond.initialized "java/lang/UnsupportedOperationException", Cond.fieldLink RX3 19 "CutYard" "stock" "LCutYard$Stock;", Cond.fieldLink RX3 40 "CutYard" "taken" "[I"]
def wsL_store_r2 : List Cond := [Cond.methodLink RX3 156 yX3_takeParts, Cond.instanceMethod yX3_takeParts, Cond.selects RX3 yX3_takeParts yX3_takeParts, Cond.code yX3_takeParts cX3_takeParts 7 (some .int), Cond.fieldLink RX3 10 "CutYard" "cutter" "LCutYard$Cutter;", Cond.methodLink RX3 162 yX1_endOfPart, Cond.instanceMethod yX1_endOfPart, Cond.selects RX1 yX1_endOfPart yX1_endOfPart, Cond.initialized RX1, Cond.code yX1_endOfPart cX1_endOfPart 7 (some .int), Cond.fieldLink RX1 16 "CutYard$Cutter" "most" "I", Cond.methodLink RX1 19 Lib.Math.min.name, Cond.static Lib.Math.min.name, Cond.initialized "java/lang/Math", Cond.code Lib.Math.min.name Lib.Math.min.code 2 (some .int), Cond.fieldLink RX1 13 "CutYard$Cutter" "least" "I", Cond.fieldLink RX1 7 "CutYard$Cutter" "mask" "I", Cond.methodLink RX1 25 yX1_turned, Cond.static yX1_turned, Cond.code yX1_turned cX1_turned 2 (some .int), Cond.methodLink RX1 28 yX1_mark, Cond.static yX1_mark, Cond.code yX1_mark cX1_mark 2 (some .int), Cond.constant RX1 32 (-1640531527)]
def wsL_store_r3 : List Cond := [Cond.methodLink RX3 166 yX2_take, Cond.instanceMethod yX2_take, Cond.selects RX2 yX2_take yX2_take, Cond.initialized RX2, Cond.code yX2_take cX2_take 6 (some .int), Cond.methodLink RX2 61 yX2_hashOf, Cond.static yX2_hashOf, Cond.code yX2_hashOf cX2_hashOf 5 (some .int), Cond.methodLink RX2 65 yX2_find, Cond.instanceMethod yX2_find, Cond.selects RX2 yX2_find yX2_find, Cond.code yX2_find cX2_find 7 (some .int), Cond.fieldLink RX2 24 "CutYard$Stock" "heads" "[I", Cond.fieldLink RX2 18 "CutYard$Stock" "hashes" "[I", Cond.fieldLink RX2 15 "CutYard$Stock" "lengths" "[I", Cond.fieldLink RX2 21 "CutYard$Stock" "next" "[I", Cond.methodLink RX2 47 yX2_has, Cond.instanceMethod yX2_has, Cond.selects RX2 yX2_has yX2_has, Cond.code yX2_has cX2_has 2 (some .boolean), Cond.fieldLink RX2 9 "CutYard$Stock" "uses" "[I", Cond.methodLink RX2 85 yX2_sameBytes, Cond.instanceMethod yX2_sameBytes, Cond.selects RX2 yX2_sameBytes yX2_sameBytes]
def wsL_store_r4 : List Cond := [Cond.code yX2_sameBytes cX2_sameBytes 6 (some .boolean), Cond.fieldLink RX2 27 "CutYard$Stock" "room" "[B", Cond.methodLink RX2 69 yX2_add, Cond.instanceMethod yX2_add, Cond.selects RX2 yX2_add yX2_add, Cond.code yX2_add cX2_add 6 (some .int), Cond.methodLink RX2 55 arraycopyName, Cond.native arraycopyName, Cond.static arraycopyName, Cond.initialized "java/lang/System", Cond.fieldLink RX2 35 "CutYard$Stock" "count" "I", Cond.fieldLink RX2 38 "CutYard$Stock" "bytes" "I", Cond.methodLink RX2 89 yX2_leastFree, Cond.instanceMethod yX2_leastFree, Cond.selects RX2 yX2_leastFree yX2_leastFree, Cond.code yX2_leastFree cX2_leastFree 1 (some .int), Cond.fieldLink RX2 31 "CutYard$Stock" "lowest" "I", Cond.methodLink RX2 93 yX2_makeRoomFor, Cond.instanceMethod yX2_makeRoomFor, Cond.selects RX2 yX2_makeRoomFor yX2_makeRoomFor, Cond.code yX2_makeRoomFor cX2_makeRoomFor 3 none, Cond.methodLink RX2 96 Lib.Math.max.name, Cond.static Lib.Math.max.name, Cond.code Lib.Math.max.name Lib.Math.max.code 2 (some .int)]
def wsL_store_r5 : List Cond := [Cond.methodLink RX2 79 Lib.Math.min.name, Cond.methodLink RX2 99 yJ7_copyOf_9075b, Cond.static yJ7_copyOf_9075b, Cond.initialized RJ7, Cond.code yJ7_copyOf_9075b cJ7_copyOf_9075b 3 (some (.array .byte)), Cond.methodLink RJ7 310 ⟨"[B", "clone", "()Ljava/lang/Object;"⟩, Cond.sameMethod "[B" "java/lang/Object" "clone" "()Ljava/lang/Object;", Cond.native ⟨"java/lang/Object", "clone", "()Ljava/lang/Object;"⟩, Cond.instanceMethod ⟨"java/lang/Object", "clone", "()Ljava/lang/Object;"⟩, Cond.selects "[B" ⟨"[B", "clone", "()Ljava/lang/Object;"⟩ ⟨"java/lang/Object", "clone", "()Ljava/lang/Object;"⟩, Cond.classLink RJ7 311 "[B", Cond.arrayClass .byte, Cond.methodLink RJ7 304 Lib.Math.min.name, Cond.methodLink RJ7 150 arraycopyName, Cond.methodLink RX2 72 yX2_useAgain, Cond.instanceMethod yX2_useAgain, Cond.selects RX2 yX2_useAgain yX2_useAgain, Cond.code yX2_useAgain cX2_useAgain 2 none, Cond.methodLink RX3 109 yX3_giveBack, Cond.instanceMethod yX3_giveBack, Cond.selects RX3 yX3_giveBack yX3_giveBack, Cond.code yX3_giveBack cX3_giveBack 4 none, Cond.methodLink RX3 169 yX2_giveBack, Cond.instanceMethod yX2_giveBack]
def wsL_store_r6 : List Cond := [Cond.selects RX2 yX2_giveBack yX2_giveBack, Cond.code yX2_giveBack cX2_giveBack 2 none, Cond.methodLink RX2 76 yX2_unchain, Cond.instanceMethod yX2_unchain, Cond.selects RX2 yX2_unchain yX2_unchain, Cond.code yX2_unchain cX2_unchain 5 none, Cond.methodLink RX3 113 yX0_become, Cond.instanceMethod yX0_become, Cond.selects RX0 yX0_become yX0_become, Cond.initialized RX0, Cond.code yX0_become cX0_become 4 none, Cond.fieldLink RX0 11 "CutYard$Content" "numbers" "[I", Cond.methodLink RX0 22 Lib.Math.max.name, Cond.methodLink RX0 28 Lib.Math.min.name, Cond.arrayClass .int, Cond.methodLink RX0 31 arraycopyName, Cond.fieldLink RX0 15 "CutYard$Content" "count" "I", Cond.fieldLink RX0 19 "CutYard$Content" "bytes" "I"]
def wsL_store : List Cond := .codeWith yL_store cL_store 4 (some .int) [(0, 9, 12, 25), (0, 9, 15, 19)] :: ((wsL_store_r1 ++ (wsL_store_r2 ++ (wsL_store_r3 ++ (wsL_store_r4 ++ (wsL_store_r5 ++ wsL_store_r6))))) ++ wsX30 ++ wsX20 ++ wsX00 ++ wsX10 ++ (vx_atS RX3 121 "java/lang/IndexOutOfBoundsException" ["java/lang/RuntimeException", "java/lang/Exception"]).filter goodWord ++ (vx_atS RX3 73 "java/lang/UnsupportedOperationException" ["java/lang/RuntimeException", "java/lang/Exception"]).filter goodWord)
def wsL_edit_r1 : List Cond := [Cond.classLink RL 25 "java/lang/IndexOutOfBoundsException", Cond.classLink RL 13 "java/lang/IllegalArgumentException", Cond.classLink RL 19 "java/lang/UnsupportedOperationException", Cond.methodLink RL 27 yX3_edit, Cond.instanceMethod yX3_edit, Cond.selects RX3 yX3_edit yX3_edit, Cond.initialized RX3, Cond.code yX3_edit cX3_edit 6 (some .int), Cond.classLink RX3 48 "java/lang/IllegalArgumentException", Cond.initialized "java/lang/IllegalArgumentException", Cond.classLink RX3 69 "java/lang/UnsupportedOperationException", Cond.initialized "java/lang/UnsupportedOperationException", Cond.fieldLink RX3 33 "CutYard" "inHand" "I", Cond.fieldLink RX3 37 "CutYard" "work" "[B", Cond.methodLink RX3 93 arraycopyName, Cond.native arraycopyName, Cond.static arraycopyName, Cond.initialized "java/lang/System", Cond.fieldLink RX3 29 "CutYard" "hand" "[B", Cond.methodLink RX3 74 yX3_fileAt, Cond.instanceMethod yX3_fileAt, Cond.selects RX3 yX3_fileAt yX3_fileAt, Cond.code yX3_fileAt cX3_fileAt 2 (some (.object "CutYard$Content")), Cond.classLink RX3 117 "java/lang/IndexOutOfBoundsException"]
def wsL_edit_r2 : List Cond := [Cond.initialized "java/lang/IndexOutOfBoundsException", Cond.fieldLink RX3 25 "CutYard" "files" "[LCutYard$Content;", Cond.methodLink RX3 89 yX3_layOut, Cond.instanceMethod yX3_layOut, Cond.selects RX3 yX3_layOut yX3_layOut, Cond.code yX3_layOut cX3_layOut 4 none, Cond.fieldLink RX3 19 "CutYard" "stock" "LCutYard$Stock;", Cond.methodLink RX3 171 yX2_writeOut, Cond.instanceMethod yX2_writeOut, Cond.selects RX2 yX2_writeOut yX2_writeOut, Cond.initialized RX2, Cond.code yX2_writeOut cX2_writeOut 5 (some .int), Cond.fieldLink RX2 27 "CutYard$Stock" "room" "[B", Cond.methodLink RX2 55 arraycopyName, Cond.methodLink RX2 51 yX2_lengthOf, Cond.instanceMethod yX2_lengthOf, Cond.selects RX2 yX2_lengthOf yX2_lengthOf, Cond.code yX2_lengthOf cX2_lengthOf 2 (some .int), Cond.fieldLink RX2 15 "CutYard$Stock" "lengths" "[I", Cond.methodLink RX2 47 yX2_has, Cond.instanceMethod yX2_has, Cond.selects RX2 yX2_has yX2_has, Cond.code yX2_has cX2_has 2 (some .boolean), Cond.fieldLink RX2 9 "CutYard$Stock" "uses" "[I"]
def wsL_edit_r3 : List Cond := [Cond.methodLink RX3 78 yX3_fillFile, Cond.instanceMethod yX3_fillFile, Cond.selects RX3 yX3_fillFile yX3_fillFile, Cond.code yX3_fillFile cX3_fillFile 7 (some .int), Cond.fieldLink RX3 40 "CutYard" "taken" "[I", Cond.methodLink RX3 156 yX3_takeParts, Cond.instanceMethod yX3_takeParts, Cond.selects RX3 yX3_takeParts yX3_takeParts, Cond.code yX3_takeParts cX3_takeParts 7 (some .int), Cond.fieldLink RX3 10 "CutYard" "cutter" "LCutYard$Cutter;", Cond.methodLink RX3 162 yX1_endOfPart, Cond.instanceMethod yX1_endOfPart, Cond.selects RX1 yX1_endOfPart yX1_endOfPart, Cond.initialized RX1, Cond.code yX1_endOfPart cX1_endOfPart 7 (some .int), Cond.fieldLink RX1 16 "CutYard$Cutter" "most" "I", Cond.methodLink RX1 19 Lib.Math.min.name, Cond.static Lib.Math.min.name, Cond.initialized "java/lang/Math", Cond.code Lib.Math.min.name Lib.Math.min.code 2 (some .int), Cond.fieldLink RX1 13 "CutYard$Cutter" "least" "I", Cond.fieldLink RX1 7 "CutYard$Cutter" "mask" "I", Cond.methodLink RX1 25 yX1_turned, Cond.static yX1_turned]
def wsL_edit_r4 : List Cond := [Cond.code yX1_turned cX1_turned 2 (some .int), Cond.methodLink RX1 28 yX1_mark, Cond.static yX1_mark, Cond.code yX1_mark cX1_mark 2 (some .int), Cond.constant RX1 32 (-1640531527), Cond.methodLink RX3 166 yX2_take, Cond.instanceMethod yX2_take, Cond.selects RX2 yX2_take yX2_take, Cond.code yX2_take cX2_take 6 (some .int), Cond.methodLink RX2 61 yX2_hashOf, Cond.static yX2_hashOf, Cond.code yX2_hashOf cX2_hashOf 5 (some .int), Cond.methodLink RX2 65 yX2_find, Cond.instanceMethod yX2_find, Cond.selects RX2 yX2_find yX2_find, Cond.code yX2_find cX2_find 7 (some .int), Cond.fieldLink RX2 24 "CutYard$Stock" "heads" "[I", Cond.fieldLink RX2 18 "CutYard$Stock" "hashes" "[I", Cond.fieldLink RX2 21 "CutYard$Stock" "next" "[I", Cond.methodLink RX2 85 yX2_sameBytes, Cond.instanceMethod yX2_sameBytes, Cond.selects RX2 yX2_sameBytes yX2_sameBytes, Cond.code yX2_sameBytes cX2_sameBytes 6 (some .boolean), Cond.methodLink RX2 69 yX2_add]
def wsL_edit_r5 : List Cond := [Cond.instanceMethod yX2_add, Cond.selects RX2 yX2_add yX2_add, Cond.code yX2_add cX2_add 6 (some .int), Cond.fieldLink RX2 35 "CutYard$Stock" "count" "I", Cond.fieldLink RX2 38 "CutYard$Stock" "bytes" "I", Cond.methodLink RX2 89 yX2_leastFree, Cond.instanceMethod yX2_leastFree, Cond.selects RX2 yX2_leastFree yX2_leastFree, Cond.code yX2_leastFree cX2_leastFree 1 (some .int), Cond.fieldLink RX2 31 "CutYard$Stock" "lowest" "I", Cond.methodLink RX2 93 yX2_makeRoomFor, Cond.instanceMethod yX2_makeRoomFor, Cond.selects RX2 yX2_makeRoomFor yX2_makeRoomFor, Cond.code yX2_makeRoomFor cX2_makeRoomFor 3 none, Cond.methodLink RX2 96 Lib.Math.max.name, Cond.static Lib.Math.max.name, Cond.code Lib.Math.max.name Lib.Math.max.code 2 (some .int), Cond.methodLink RX2 79 Lib.Math.min.name, Cond.methodLink RX2 99 yJ7_copyOf_9075b, Cond.static yJ7_copyOf_9075b, Cond.initialized RJ7, Cond.code yJ7_copyOf_9075b cJ7_copyOf_9075b 3 (some (.array .byte)), Cond.methodLink RJ7 310 ⟨"[B", "clone", "()Ljava/lang/Object;"⟩, Cond.sameMethod "[B" "java/lang/Object" "clone" "()Ljava/lang/Object;"]
def wsL_edit_r6 : List Cond := [Cond.native ⟨"java/lang/Object", "clone", "()Ljava/lang/Object;"⟩, Cond.instanceMethod ⟨"java/lang/Object", "clone", "()Ljava/lang/Object;"⟩, Cond.selects "[B" ⟨"[B", "clone", "()Ljava/lang/Object;"⟩ ⟨"java/lang/Object", "clone", "()Ljava/lang/Object;"⟩, Cond.classLink RJ7 311 "[B", Cond.arrayClass .byte, Cond.methodLink RJ7 304 Lib.Math.min.name, Cond.methodLink RJ7 150 arraycopyName, Cond.methodLink RX2 72 yX2_useAgain, Cond.instanceMethod yX2_useAgain, Cond.selects RX2 yX2_useAgain yX2_useAgain, Cond.code yX2_useAgain cX2_useAgain 2 none, Cond.methodLink RX3 109 yX3_giveBack, Cond.instanceMethod yX3_giveBack, Cond.selects RX3 yX3_giveBack yX3_giveBack, Cond.code yX3_giveBack cX3_giveBack 4 none, Cond.methodLink RX3 169 yX2_giveBack, Cond.instanceMethod yX2_giveBack, Cond.selects RX2 yX2_giveBack yX2_giveBack, Cond.code yX2_giveBack cX2_giveBack 2 none, Cond.methodLink RX2 76 yX2_unchain, Cond.instanceMethod yX2_unchain, Cond.selects RX2 yX2_unchain yX2_unchain, Cond.code yX2_unchain cX2_unchain 5 none, Cond.methodLink RX3 113 yX0_become]
def wsL_edit_r7 : List Cond := [Cond.instanceMethod yX0_become, Cond.selects RX0 yX0_become yX0_become, Cond.initialized RX0, Cond.code yX0_become cX0_become 4 none, Cond.fieldLink RX0 11 "CutYard$Content" "numbers" "[I", Cond.methodLink RX0 22 Lib.Math.max.name, Cond.methodLink RX0 28 Lib.Math.min.name, Cond.arrayClass .int, Cond.methodLink RX0 31 arraycopyName, Cond.fieldLink RX0 15 "CutYard$Content" "count" "I", Cond.fieldLink RX0 19 "CutYard$Content" "bytes" "I"]
def wsL_edit : List Cond := .codeWith yL_edit cL_edit 6 (some .int) [(0, 12, 15, 25), (0, 12, 19, 13), (0, 12, 23, 19)] :: ((wsL_edit_r1 ++ (wsL_edit_r2 ++ (wsL_edit_r3 ++ (wsL_edit_r4 ++ (wsL_edit_r5 ++ (wsL_edit_r6 ++ wsL_edit_r7)))))) ++ wsX00 ++ wsX30 ++ wsX20 ++ wsX10 ++ (vx_atS RX3 52 "java/lang/IllegalArgumentException" ["java/lang/RuntimeException", "java/lang/Exception"]).filter goodWord ++ (vx_atS RX3 73 "java/lang/UnsupportedOperationException" ["java/lang/RuntimeException", "java/lang/Exception"]).filter goodWord ++ (vx_atS RX3 121 "java/lang/IndexOutOfBoundsException" ["java/lang/RuntimeException", "java/lang/Exception"]).filter goodWord)
def wsL_copy_r1 : List Cond := [Cond.classLink RL 25 "java/lang/IndexOutOfBoundsException", Cond.methodLink RL 31 yX3_copy, Cond.instanceMethod yX3_copy, Cond.selects RX3 yX3_copy yX3_copy, Cond.initialized RX3, Cond.code yX3_copy cX3_copy 6 none, Cond.fieldLink RX3 19 "CutYard" "stock" "LCutYard$Stock;", Cond.methodLink RX3 74 yX3_fileAt, Cond.instanceMethod yX3_fileAt, Cond.selects RX3 yX3_fileAt yX3_fileAt, Cond.code yX3_fileAt cX3_fileAt 2 (some (.object "CutYard$Content")), Cond.classLink RX3 117 "java/lang/IndexOutOfBoundsException", Cond.initialized "java/lang/IndexOutOfBoundsException", Cond.fieldLink RX3 25 "CutYard" "files" "[LCutYard$Content;", Cond.methodLink RX3 105 yX2_useAgain, Cond.instanceMethod yX2_useAgain, Cond.selects RX2 yX2_useAgain yX2_useAgain, Cond.initialized RX2, Cond.code yX2_useAgain cX2_useAgain 2 none, Cond.fieldLink RX2 9 "CutYard$Stock" "uses" "[I", Cond.methodLink RX2 47 yX2_has, Cond.instanceMethod yX2_has, Cond.selects RX2 yX2_has yX2_has, Cond.code yX2_has cX2_has 2 (some .boolean)]
def wsL_copy_r2 : List Cond := [Cond.methodLink RX3 109 yX3_giveBack, Cond.instanceMethod yX3_giveBack, Cond.selects RX3 yX3_giveBack yX3_giveBack, Cond.code yX3_giveBack cX3_giveBack 4 none, Cond.methodLink RX3 169 yX2_giveBack, Cond.instanceMethod yX2_giveBack, Cond.selects RX2 yX2_giveBack yX2_giveBack, Cond.code yX2_giveBack cX2_giveBack 2 none, Cond.fieldLink RX2 31 "CutYard$Stock" "lowest" "I", Cond.methodLink RX2 79 Lib.Math.min.name, Cond.static Lib.Math.min.name, Cond.initialized "java/lang/Math", Cond.code Lib.Math.min.name Lib.Math.min.code 2 (some .int), Cond.fieldLink RX2 35 "CutYard$Stock" "count" "I", Cond.fieldLink RX2 38 "CutYard$Stock" "bytes" "I", Cond.fieldLink RX2 15 "CutYard$Stock" "lengths" "[I", Cond.methodLink RX2 76 yX2_unchain, Cond.instanceMethod yX2_unchain, Cond.selects RX2 yX2_unchain yX2_unchain, Cond.code yX2_unchain cX2_unchain 5 none, Cond.fieldLink RX2 18 "CutYard$Stock" "hashes" "[I", Cond.fieldLink RX2 24 "CutYard$Stock" "heads" "[I", Cond.fieldLink RX2 21 "CutYard$Stock" "next" "[I", Cond.methodLink RX3 113 yX0_become]
def wsL_copy_r3 : List Cond := [Cond.instanceMethod yX0_become, Cond.selects RX0 yX0_become yX0_become, Cond.initialized RX0, Cond.code yX0_become cX0_become 4 none, Cond.fieldLink RX0 11 "CutYard$Content" "numbers" "[I", Cond.methodLink RX0 22 Lib.Math.max.name, Cond.static Lib.Math.max.name, Cond.code Lib.Math.max.name Lib.Math.max.code 2 (some .int), Cond.methodLink RX0 28 Lib.Math.min.name, Cond.arrayClass .int, Cond.methodLink RX0 31 arraycopyName, Cond.native arraycopyName, Cond.static arraycopyName, Cond.initialized "java/lang/System", Cond.fieldLink RX0 15 "CutYard$Content" "count" "I", Cond.fieldLink RX0 19 "CutYard$Content" "bytes" "I"]
def wsL_copy : List Cond := .codeWith yL_copy cL_copy 4 (some .int) [(0, 6, 9, 25), (0, 6, 12, 19)] :: ((wsL_copy_r1 ++ (wsL_copy_r2 ++ wsL_copy_r3)) ++ wsX00 ++ wsX30 ++ wsX20 ++ (vx_atS RX3 121 "java/lang/IndexOutOfBoundsException" ["java/lang/RuntimeException", "java/lang/Exception"]).filter goodWord)
def wsL_size : List Cond := .codeWith yL_size cL_size 4 (some .int) [(0, 9, 12, 25)] :: ([.classLink RL 25 "java/lang/IndexOutOfBoundsException", .methodLink RL 35 yX3_size, .instanceMethod yX3_size, .selects RX3 yX3_size yX3_size, .initialized RX3, .code yX3_size cX3_size 2 (some .int), .methodLink RX3 74 yX3_fileAt, .instanceMethod yX3_fileAt, .selects RX3 yX3_fileAt yX3_fileAt, .code yX3_fileAt cX3_fileAt 2 (some (.object "CutYard$Content")), .classLink RX3 117 "java/lang/IndexOutOfBoundsException", .initialized "java/lang/IndexOutOfBoundsException", .fieldLink RX3 25 "CutYard" "files" "[LCutYard$Content;"] ++ wsX00 ++ wsX30 ++ (vx_atS RX3 121 "java/lang/IndexOutOfBoundsException" ["java/lang/RuntimeException", "java/lang/Exception"]).filter goodWord)
def wsL_get_r1 : List Cond := [Cond.classLink RL 25 "java/lang/IndexOutOfBoundsException", Cond.methodLink RL 38 yX3_get, Cond.instanceMethod yX3_get, Cond.selects RX3 yX3_get yX3_get, Cond.initialized RX3, Cond.code yX3_get cX3_get 6 (some .int), Cond.classLink RX3 117 "java/lang/IndexOutOfBoundsException", Cond.initialized "java/lang/IndexOutOfBoundsException", Cond.fieldLink RX3 19 "CutYard" "stock" "LCutYard$Stock;", Cond.methodLink RX3 74 yX3_fileAt, Cond.instanceMethod yX3_fileAt, Cond.selects RX3 yX3_fileAt yX3_fileAt, Cond.code yX3_fileAt cX3_fileAt 2 (some (.object "CutYard$Content")), Cond.fieldLink RX3 25 "CutYard" "files" "[LCutYard$Content;", Cond.methodLink RX3 122 yX2_lengthOf, Cond.instanceMethod yX2_lengthOf, Cond.selects RX2 yX2_lengthOf yX2_lengthOf, Cond.initialized RX2, Cond.code yX2_lengthOf cX2_lengthOf 2 (some .int), Cond.fieldLink RX2 15 "CutYard$Stock" "lengths" "[I", Cond.methodLink RX2 47 yX2_has, Cond.instanceMethod yX2_has, Cond.selects RX2 yX2_has yX2_has, Cond.code yX2_has cX2_has 2 (some .boolean)]
def wsL_get_r2 : List Cond := [Cond.fieldLink RX2 9 "CutYard$Stock" "uses" "[I", Cond.methodLink RX3 126 yX2_byteOf, Cond.instanceMethod yX2_byteOf, Cond.selects RX2 yX2_byteOf yX2_byteOf, Cond.code yX2_byteOf cX2_byteOf 3 (some .int), Cond.fieldLink RX2 27 "CutYard$Stock" "room" "[B", Cond.methodLink RX2 51 yX2_lengthOf]
def wsL_get : List Cond := .codeWith yL_get cL_get 5 (some .int) [(0, 10, 13, 25)] :: ((wsL_get_r1 ++ wsL_get_r2) ++ wsX00 ++ wsX30 ++ wsX20 ++ (vx_atS RX3 121 "java/lang/IndexOutOfBoundsException" ["java/lang/RuntimeException", "java/lang/Exception"]).filter goodWord)
def wsL_parts : List Cond := .codeWith yL_parts cL_parts 4 (some .int) [(0, 9, 12, 25)] :: ([.classLink RL 25 "java/lang/IndexOutOfBoundsException", .methodLink RL 41 yX3_parts, .instanceMethod yX3_parts, .selects RX3 yX3_parts yX3_parts, .initialized RX3, .code yX3_parts cX3_parts 2 (some .int), .methodLink RX3 74 yX3_fileAt, .instanceMethod yX3_fileAt, .selects RX3 yX3_fileAt yX3_fileAt, .code yX3_fileAt cX3_fileAt 2 (some (.object "CutYard$Content")), .classLink RX3 117 "java/lang/IndexOutOfBoundsException", .initialized "java/lang/IndexOutOfBoundsException", .fieldLink RX3 25 "CutYard" "files" "[LCutYard$Content;"] ++ wsX00 ++ wsX30 ++ (vx_atS RX3 121 "java/lang/IndexOutOfBoundsException" ["java/lang/RuntimeException", "java/lang/Exception"]).filter goodWord)
def wsL_part : List Cond := .codeWith yL_part cL_part 5 (some .int) [(0, 10, 13, 25)] :: ([.classLink RL 25 "java/lang/IndexOutOfBoundsException", .methodLink RL 44 yX3_part, .instanceMethod yX3_part, .selects RX3 yX3_part yX3_part, .initialized RX3, .code yX3_part cX3_part 4 (some .int), .classLink RX3 117 "java/lang/IndexOutOfBoundsException", .initialized "java/lang/IndexOutOfBoundsException", .methodLink RX3 74 yX3_fileAt, .instanceMethod yX3_fileAt, .selects RX3 yX3_fileAt yX3_fileAt, .code yX3_fileAt cX3_fileAt 2 (some (.object "CutYard$Content")), .fieldLink RX3 25 "CutYard" "files" "[LCutYard$Content;"] ++ wsX00 ++ wsX30 ++ (vx_atS RX3 121 "java/lang/IndexOutOfBoundsException" ["java/lang/RuntimeException", "java/lang/Exception"]).filter goodWord)
def wsL_about_r1 : List Cond := [Cond.classLink RL 50 "java/util/NoSuchElementException", Cond.classLink RL 13 "java/lang/IllegalArgumentException", Cond.methodLink RL 47 yX3_about, Cond.instanceMethod yX3_about, Cond.selects RX3 yX3_about yX3_about, Cond.initialized RX3, Cond.code yX3_about cX3_about 3 (some .int), Cond.classLink RX3 136 "java/util/NoSuchElementException", Cond.initialized "java/util/NoSuchElementException", Cond.classLink RX3 48 "java/lang/IllegalArgumentException", Cond.initialized "java/lang/IllegalArgumentException", Cond.fieldLink RX3 19 "CutYard" "stock" "LCutYard$Stock;", Cond.methodLink RX3 132 yX2_has, Cond.instanceMethod yX2_has, Cond.selects RX2 yX2_has yX2_has, Cond.initialized RX2, Cond.code yX2_has cX2_has 2 (some .boolean), Cond.fieldLink RX2 9 "CutYard$Stock" "uses" "[I", Cond.methodLink RX3 122 yX2_lengthOf, Cond.instanceMethod yX2_lengthOf, Cond.selects RX2 yX2_lengthOf yX2_lengthOf, Cond.code yX2_lengthOf cX2_lengthOf 2 (some .int), Cond.fieldLink RX2 15 "CutYard$Stock" "lengths" "[I", Cond.methodLink RX2 47 yX2_has]
def wsL_about_r2 : List Cond := [Cond.methodLink RX3 139 yX2_usesOf, Cond.instanceMethod yX2_usesOf, Cond.selects RX2 yX2_usesOf yX2_usesOf, Cond.code yX2_usesOf cX2_usesOf 2 (some .int), Cond.methodLink RX3 142 yX3_filesWith, Cond.instanceMethod yX3_filesWith, Cond.selects RX3 yX3_filesWith yX3_filesWith, Cond.code yX3_filesWith cX3_filesWith 4 (some .int), Cond.fieldLink RX3 25 "CutYard" "files" "[LCutYard$Content;", Cond.methodLink RX3 175 yX0_hasNumber, Cond.instanceMethod yX0_hasNumber, Cond.selects RX0 yX0_hasNumber yX0_hasNumber, Cond.initialized RX0, Cond.code yX0_hasNumber cX0_hasNumber 3 (some .boolean), Cond.fieldLink RX0 15 "CutYard$Content" "count" "I", Cond.fieldLink RX0 11 "CutYard$Content" "numbers" "[I"]
def wsL_about : List Cond := .codeWith yL_about cL_about 5 (some .int) [(0, 10, 13, 50), (0, 10, 17, 13)] :: ((wsL_about_r1 ++ wsL_about_r2) ++ wsX30 ++ wsX20 ++ wsX00 ++ vz_at.filter goodWord ++ (vx_atS RX3 52 "java/lang/IllegalArgumentException" ["java/lang/RuntimeException", "java/lang/Exception"]).filter goodWord)
def wsL_common_r1 : List Cond := [Cond.classLink RL 25 "java/lang/IndexOutOfBoundsException", Cond.methodLink RL 52 yX3_common, Cond.instanceMethod yX3_common, Cond.selects RX3 yX3_common yX3_common, Cond.initialized RX3, Cond.code yX3_common cX3_common 8 (some .int), Cond.fieldLink RX3 44 "CutYard" "seen" "[I", Cond.fieldLink RX3 19 "CutYard" "stock" "LCutYard$Stock;", Cond.methodLink RX3 74 yX3_fileAt, Cond.instanceMethod yX3_fileAt, Cond.selects RX3 yX3_fileAt yX3_fileAt, Cond.code yX3_fileAt cX3_fileAt 2 (some (.object "CutYard$Content")), Cond.classLink RX3 117 "java/lang/IndexOutOfBoundsException", Cond.initialized "java/lang/IndexOutOfBoundsException", Cond.fieldLink RX3 25 "CutYard" "files" "[LCutYard$Content;", Cond.methodLink RX3 147 yJ7_fill_53178, Cond.static yJ7_fill_53178, Cond.initialized RJ7, Cond.code yJ7_fill_53178 cJ7_fill_53178 4 none, Cond.methodLink RX3 132 yX2_has, Cond.instanceMethod yX2_has, Cond.selects RX2 yX2_has yX2_has, Cond.initialized RX2, Cond.code yX2_has cX2_has 2 (some .boolean)]
def wsL_common_r2 : List Cond := [Cond.fieldLink RX2 9 "CutYard$Stock" "uses" "[I", Cond.methodLink RX3 122 yX2_lengthOf, Cond.instanceMethod yX2_lengthOf, Cond.selects RX2 yX2_lengthOf yX2_lengthOf, Cond.code yX2_lengthOf cX2_lengthOf 2 (some .int), Cond.fieldLink RX2 15 "CutYard$Stock" "lengths" "[I", Cond.methodLink RX2 47 yX2_has]
def wsL_common : List Cond := .codeWith yL_common cL_common 5 (some .int) [(0, 10, 13, 25)] :: ((wsL_common_r1 ++ wsL_common_r2) ++ wsX30 ++ wsX00 ++ wsX20 ++ (vx_atS RX3 121 "java/lang/IndexOutOfBoundsException" ["java/lang/RuntimeException", "java/lang/Exception"]).filter goodWord)
def wsL_all : List Cond := .codeWith yL_all cL_all 4 (some .int) [(0, 9, 12, 13)] :: ([.classLink RL 13 "java/lang/IllegalArgumentException", .methodLink RL 55 yX3_all, .instanceMethod yX3_all, .selects RX3 yX3_all yX3_all, .initialized RX3, .code yX3_all cX3_all 2 (some .int), .classLink RX3 48 "java/lang/IllegalArgumentException", .initialized "java/lang/IllegalArgumentException", .fieldLink RX3 19 "CutYard" "stock" "LCutYard$Stock;", .fieldLink RX3 33 "CutYard" "inHand" "I"] ++ wsX30 ++ wsX20 ++ (vx_atS RX3 52 "java/lang/IllegalArgumentException" ["java/lang/RuntimeException", "java/lang/Exception"]).filter goodWord)
def wsL_law0_r1 : List Cond := [Cond.classLink RL 8 RX3, Cond.instantiable RX3 8, Cond.initialized RX3, Cond.classLink RL 59 RX4, Cond.instantiable RX4 19, Cond.initialized RX4, Cond.arrayClass .long, Cond.methodLink RL 58 yX3_init, Cond.instanceMethod yX3_init, Cond.code yX3_init cX3_init 2 none, Cond.methodLink RX3 1 objectInit, Cond.instanceMethod objectInit, Cond.code objectInit ⟨#[0xb1]⟩ 1 none, Cond.classLink RX3 7 RX1, Cond.instantiable RX1 3, Cond.initialized RX1, Cond.fieldLink RX3 10 "CutYard" "cutter" "LCutYard$Cutter;", Cond.classLink RX3 16 RX2, Cond.instantiable RX2 9, Cond.initialized RX2, Cond.fieldLink RX3 19 "CutYard" "stock" "LCutYard$Stock;", Cond.classLink RX3 23 RX0, Cond.fieldLink RX3 25 "CutYard" "files" "[LCutYard$Content;", Cond.arrayClass .byte]
def wsL_law0_r2 : List Cond := [Cond.fieldLink RX3 29 "CutYard" "hand" "[B", Cond.fieldLink RX3 33 "CutYard" "inHand" "I", Cond.fieldLink RX3 37 "CutYard" "work" "[B", Cond.arrayClass .int, Cond.fieldLink RX3 40 "CutYard" "taken" "[I", Cond.fieldLink RX3 44 "CutYard" "seen" "[I", Cond.instantiable RX0 3, Cond.initialized RX0, Cond.instanceMethod yX1_init, Cond.code yX1_init cX1_init 1 none, Cond.methodLink RX1 1 objectInit, Cond.fieldLink RX1 7 "CutYard$Cutter" "mask" "I", Cond.fieldLink RX1 13 "CutYard$Cutter" "least" "I", Cond.fieldLink RX1 16 "CutYard$Cutter" "most" "I", Cond.methodLink RX3 18 yX2_init, Cond.instanceMethod yX2_init, Cond.code yX2_init cX2_init 1 none, Cond.methodLink RX2 3 objectInit, Cond.fieldLink RX2 9 "CutYard$Stock" "uses" "[I", Cond.fieldLink RX2 15 "CutYard$Stock" "lengths" "[I", Cond.fieldLink RX2 18 "CutYard$Stock" "hashes" "[I", Cond.fieldLink RX2 21 "CutYard$Stock" "next" "[I", Cond.fieldLink RX2 24 "CutYard$Stock" "heads" "[I", Cond.fieldLink RX2 27 "CutYard$Stock" "room" "[B"]
def wsL_law0_r3 : List Cond := [Cond.fieldLink RX2 31 "CutYard$Stock" "lowest" "I", Cond.fieldLink RX2 35 "CutYard$Stock" "count" "I", Cond.fieldLink RX2 38 "CutYard$Stock" "bytes" "I", Cond.methodLink RX2 41 yJ7_fill_53178, Cond.static yJ7_fill_53178, Cond.initialized RJ7, Cond.code yJ7_fill_53178 cJ7_fill_53178 4 none, Cond.instanceMethod yX0_init, Cond.code yX0_init cX0_init 1 none, Cond.methodLink RX0 3 objectInit, Cond.fieldLink RX0 11 "CutYard$Content" "numbers" "[I", Cond.fieldLink RX0 15 "CutYard$Content" "count" "I", Cond.fieldLink RX0 19 "CutYard$Content" "bytes" "I", Cond.methodLink RL 61 yX4_init, Cond.instanceMethod yX4_init, Cond.code yX4_init cX4_init 1 none, Cond.methodLink RX4 1 objectInit, Cond.fieldLink RX4 7 "CutYardModel" "bits" "I", Cond.fieldLink RX4 13 "CutYardModel" "least" "I", Cond.fieldLink RX4 16 "CutYardModel" "most" "I", Cond.fieldLink RX4 19 "CutYardModel" "hand" "[I", Cond.fieldLink RX4 23 "CutYardModel" "row" "[I", Cond.fieldLink RX4 26 "CutYardModel" "ends" "[I", Cond.fieldLink RX4 29 "CutYardModel" "numbers" "[I"]
def wsL_law0_r4 : List Cond := [Cond.arrayClass .boolean, Cond.fieldLink RX4 32 "CutYardModel" "fresh" "[Z", Cond.fieldLink RX4 36 "CutYardModel" "sizes" "[I", Cond.fieldLink RX4 39 "CutYardModel" "bytes" "[I", Cond.fieldLink RX4 42 "CutYardModel" "counts" "[I", Cond.fieldLink RX4 45 "CutYardModel" "parts" "[I", Cond.fieldLink RX4 48 "CutYardModel" "uses" "[I", Cond.fieldLink RX4 51 "CutYardModel" "lengths" "[I", Cond.fieldLink RX4 54 "CutYardModel" "contents" "[I", Cond.methodLink RL 62 yL_begin, Cond.static yL_begin, Cond.initialized RL, Cond.codeWith yL_begin cL_begin 5 (some .int) [(0, 7, 10, 13)], Cond.classLink RL 13 "java/lang/IllegalArgumentException", Cond.methodLink RL 7 yX3_begin, Cond.instanceMethod yX3_begin, Cond.selects RX3 yX3_begin yX3_begin, Cond.code yX3_begin cX3_begin 5 none, Cond.classLink RX3 48 "java/lang/IllegalArgumentException", Cond.initialized "java/lang/IllegalArgumentException", Cond.methodLink RX3 59 yX1_setRule, Cond.instanceMethod yX1_setRule, Cond.selects RX1 yX1_setRule yX1_setRule, Cond.code yX1_setRule cX1_setRule 4 none]
def wsL_law0_r5 : List Cond := [Cond.methodLink RX3 63 yX2_empty, Cond.instanceMethod yX2_empty, Cond.selects RX2 yX2_empty yX2_empty, Cond.code yX2_empty cX2_empty 1 none, Cond.methodLink RX3 66 yX0_empty, Cond.instanceMethod yX0_empty, Cond.selects RX0 yX0_empty yX0_empty, Cond.code yX0_empty cX0_empty 1 none, Cond.methodLink RL 67 yX4_begin, Cond.instanceMethod yX4_begin, Cond.selects RX4 yX4_begin yX4_begin, Cond.code yX4_begin cX4_begin 6 none, Cond.methodLink RX4 60 yX4_in, Cond.static yX4_in, Cond.code yX4_in cX4_in 3 (some .boolean), Cond.methodLink RX4 64 yX4_refuse, Cond.instanceMethod yX4_refuse, Cond.selects RX4 yX4_refuse yX4_refuse, Cond.code yX4_refuse cX4_refuse 4 (some .boolean), Cond.fieldLink RX4 57 "CutYardModel" "thrown" "I", Cond.methodLink RL 68 yX4_thrown, Cond.instanceMethod yX4_thrown, Cond.selects RX4 yX4_thrown yX4_thrown, Cond.code yX4_thrown cX4_thrown 1 (some .int)]
def wsL_law0_r6 : List Cond := [Cond.methodLink RL 72 yL_put, Cond.static yL_put, Cond.codeWith yL_put cL_put 5 (some .int) [(0, 10, 13, 13), (0, 10, 17, 19)], Cond.classLink RL 19 "java/lang/UnsupportedOperationException", Cond.methodLink RL 15 yX3_put, Cond.instanceMethod yX3_put, Cond.selects RX3 yX3_put yX3_put, Cond.code yX3_put cX3_put 4 (some .int), Cond.classLink RX3 69 "java/lang/UnsupportedOperationException", Cond.initialized "java/lang/UnsupportedOperationException", Cond.methodLink RL 75 yX4_put, Cond.instanceMethod yX4_put, Cond.selects RX4 yX4_put yX4_put, Cond.code yX4_put cX4_put 5 (some .int), Cond.fieldLink RX4 68 "CutYardModel" "held" "I", Cond.methodLink RL 76 yL_store, Cond.static yL_store, Cond.codeWith yL_store cL_store 4 (some .int) [(0, 9, 12, 25), (0, 9, 15, 19)], Cond.classLink RL 25 "java/lang/IndexOutOfBoundsException", Cond.methodLink RL 21 yX3_store, Cond.instanceMethod yX3_store, Cond.selects RX3 yX3_store yX3_store, Cond.code yX3_store cX3_store 2 (some .int), Cond.methodLink RX3 74 yX3_fileAt]
def wsL_law0_r7 : List Cond := [Cond.instanceMethod yX3_fileAt, Cond.selects RX3 yX3_fileAt yX3_fileAt, Cond.code yX3_fileAt cX3_fileAt 2 (some (.object "CutYard$Content")), Cond.classLink RX3 117 "java/lang/IndexOutOfBoundsException", Cond.initialized "java/lang/IndexOutOfBoundsException", Cond.methodLink RX3 78 yX3_fillFile, Cond.instanceMethod yX3_fillFile, Cond.selects RX3 yX3_fillFile yX3_fillFile, Cond.code yX3_fillFile cX3_fillFile 7 (some .int), Cond.methodLink RX3 156 yX3_takeParts, Cond.instanceMethod yX3_takeParts, Cond.selects RX3 yX3_takeParts yX3_takeParts, Cond.code yX3_takeParts cX3_takeParts 7 (some .int), Cond.methodLink RX3 162 yX1_endOfPart, Cond.instanceMethod yX1_endOfPart, Cond.selects RX1 yX1_endOfPart yX1_endOfPart, Cond.code yX1_endOfPart cX1_endOfPart 7 (some .int), Cond.methodLink RX1 19 Lib.Math.min.name, Cond.static Lib.Math.min.name, Cond.initialized "java/lang/Math", Cond.code Lib.Math.min.name Lib.Math.min.code 2 (some .int), Cond.methodLink RX1 25 yX1_turned, Cond.static yX1_turned, Cond.code yX1_turned cX1_turned 2 (some .int)]
def wsL_law0_r8 : List Cond := [Cond.methodLink RX1 28 yX1_mark, Cond.static yX1_mark, Cond.code yX1_mark cX1_mark 2 (some .int), Cond.constant RX1 32 (-1640531527), Cond.methodLink RX3 166 yX2_take, Cond.instanceMethod yX2_take, Cond.selects RX2 yX2_take yX2_take, Cond.code yX2_take cX2_take 6 (some .int), Cond.methodLink RX2 61 yX2_hashOf, Cond.static yX2_hashOf, Cond.code yX2_hashOf cX2_hashOf 5 (some .int), Cond.methodLink RX2 65 yX2_find, Cond.instanceMethod yX2_find, Cond.selects RX2 yX2_find yX2_find, Cond.code yX2_find cX2_find 7 (some .int), Cond.methodLink RX2 47 yX2_has, Cond.instanceMethod yX2_has, Cond.selects RX2 yX2_has yX2_has, Cond.code yX2_has cX2_has 2 (some .boolean), Cond.methodLink RX2 85 yX2_sameBytes, Cond.instanceMethod yX2_sameBytes, Cond.selects RX2 yX2_sameBytes yX2_sameBytes, Cond.code yX2_sameBytes cX2_sameBytes 6 (some .boolean), Cond.methodLink RX2 69 yX2_add]
def wsL_law0_r9 : List Cond := [Cond.instanceMethod yX2_add, Cond.selects RX2 yX2_add yX2_add, Cond.code yX2_add cX2_add 6 (some .int), Cond.methodLink RX2 55 arraycopyName, Cond.native arraycopyName, Cond.static arraycopyName, Cond.initialized "java/lang/System", Cond.methodLink RX2 89 yX2_leastFree, Cond.instanceMethod yX2_leastFree, Cond.selects RX2 yX2_leastFree yX2_leastFree, Cond.code yX2_leastFree cX2_leastFree 1 (some .int), Cond.methodLink RX2 93 yX2_makeRoomFor, Cond.instanceMethod yX2_makeRoomFor, Cond.selects RX2 yX2_makeRoomFor yX2_makeRoomFor, Cond.code yX2_makeRoomFor cX2_makeRoomFor 3 none, Cond.methodLink RX2 96 Lib.Math.max.name, Cond.static Lib.Math.max.name, Cond.code Lib.Math.max.name Lib.Math.max.code 2 (some .int), Cond.methodLink RX2 79 Lib.Math.min.name, Cond.methodLink RX2 99 yJ7_copyOf_9075b, Cond.static yJ7_copyOf_9075b, Cond.code yJ7_copyOf_9075b cJ7_copyOf_9075b 3 (some (.array .byte)), Cond.methodLink RJ7 310 ⟨"[B", "clone", "()Ljava/lang/Object;"⟩, Cond.sameMethod "[B" "java/lang/Object" "clone" "()Ljava/lang/Object;"]
def wsL_law0_r10 : List Cond := [Cond.native ⟨"java/lang/Object", "clone", "()Ljava/lang/Object;"⟩, Cond.instanceMethod ⟨"java/lang/Object", "clone", "()Ljava/lang/Object;"⟩, Cond.selects "[B" ⟨"[B", "clone", "()Ljava/lang/Object;"⟩ ⟨"java/lang/Object", "clone", "()Ljava/lang/Object;"⟩, Cond.classLink RJ7 311 "[B", Cond.methodLink RJ7 304 Lib.Math.min.name, Cond.methodLink RJ7 150 arraycopyName, Cond.methodLink RX2 72 yX2_useAgain, Cond.instanceMethod yX2_useAgain, Cond.selects RX2 yX2_useAgain yX2_useAgain, Cond.code yX2_useAgain cX2_useAgain 2 none, Cond.methodLink RX3 109 yX3_giveBack, Cond.instanceMethod yX3_giveBack, Cond.selects RX3 yX3_giveBack yX3_giveBack, Cond.code yX3_giveBack cX3_giveBack 4 none, Cond.methodLink RX3 169 yX2_giveBack, Cond.instanceMethod yX2_giveBack, Cond.selects RX2 yX2_giveBack yX2_giveBack, Cond.code yX2_giveBack cX2_giveBack 2 none, Cond.methodLink RX2 76 yX2_unchain, Cond.instanceMethod yX2_unchain, Cond.selects RX2 yX2_unchain yX2_unchain, Cond.code yX2_unchain cX2_unchain 5 none, Cond.methodLink RX3 113 yX0_become, Cond.instanceMethod yX0_become]
def wsL_law0_r11 : List Cond := [Cond.selects RX0 yX0_become yX0_become, Cond.code yX0_become cX0_become 4 none, Cond.methodLink RX0 22 Lib.Math.max.name, Cond.methodLink RX0 28 Lib.Math.min.name, Cond.methodLink RX0 31 arraycopyName, Cond.methodLink RL 79 yX4_store, Cond.instanceMethod yX4_store, Cond.selects RX4 yX4_store yX4_store, Cond.code yX4_store cX4_store 3 (some .int), Cond.fieldLink RX4 79 "CutYardModel" "size" "I", Cond.methodLink RX4 98 yX4_isFile, Cond.static yX4_isFile, Cond.code yX4_isFile cX4_isFile 1 (some .boolean), Cond.methodLink RX4 102 yX4_give, Cond.instanceMethod yX4_give, Cond.selects RX4 yX4_give yX4_give, Cond.code yX4_give cX4_give 4 (some .int), Cond.fieldLink RX4 76 "CutYardModel" "cuts" "I", Cond.methodLink RX4 89 yX4_cut, Cond.instanceMethod yX4_cut, Cond.selects RX4 yX4_cut yX4_cut, Cond.code yX4_cut cX4_cut 5 none, Cond.methodLink RX4 82 yX4_sum, Cond.instanceMethod yX4_sum]
def wsL_law0_r12 : List Cond := [Cond.selects RX4 yX4_sum yX4_sum, Cond.code yX4_sum cX4_sum 6 (some .int), Cond.methodLink RX4 72 yX4_mark, Cond.static yX4_mark, Cond.code yX4_mark cX4_mark 2 (some .int), Cond.constant RX4 71 (-1640531527), Cond.methodLink RX4 92 yX4_beginOf, Cond.instanceMethod yX4_beginOf, Cond.selects RX4 yX4_beginOf yX4_beginOf, Cond.code yX4_beginOf cX4_beginOf 2 (some .int), Cond.methodLink RX4 95 yX4_numberOf, Cond.instanceMethod yX4_numberOf, Cond.selects RX4 yX4_numberOf yX4_numberOf, Cond.code yX4_numberOf cX4_numberOf 5 (some .int), Cond.methodLink RX4 86 yX4_isPart, Cond.instanceMethod yX4_isPart, Cond.selects RX4 yX4_isPart yX4_isPart, Cond.code yX4_isPart cX4_isPart 6 (some .boolean), Cond.methodLink RX4 106 yX4_take, Cond.instanceMethod yX4_take, Cond.selects RX4 yX4_take yX4_take, Cond.code yX4_take cX4_take 3 none, Cond.methodLink RL 80 yL_edit, Cond.static yL_edit]
def wsL_law0_r13 : List Cond := [Cond.codeWith yL_edit cL_edit 6 (some .int) [(0, 12, 15, 25), (0, 12, 19, 13), (0, 12, 23, 19)], Cond.methodLink RL 27 yX3_edit, Cond.instanceMethod yX3_edit, Cond.selects RX3 yX3_edit yX3_edit, Cond.code yX3_edit cX3_edit 6 (some .int), Cond.methodLink RX3 93 arraycopyName, Cond.methodLink RX3 89 yX3_layOut, Cond.instanceMethod yX3_layOut, Cond.selects RX3 yX3_layOut yX3_layOut, Cond.code yX3_layOut cX3_layOut 4 none, Cond.methodLink RX3 171 yX2_writeOut, Cond.instanceMethod yX2_writeOut, Cond.selects RX2 yX2_writeOut yX2_writeOut, Cond.code yX2_writeOut cX2_writeOut 5 (some .int), Cond.methodLink RX2 51 yX2_lengthOf, Cond.instanceMethod yX2_lengthOf, Cond.selects RX2 yX2_lengthOf yX2_lengthOf, Cond.code yX2_lengthOf cX2_lengthOf 2 (some .int), Cond.methodLink RL 83 yX4_edit, Cond.instanceMethod yX4_edit, Cond.selects RX4 yX4_edit yX4_edit, Cond.code yX4_edit cX4_edit 8 (some .int), Cond.methodLink RL 84 yL_copy, Cond.static yL_copy]
def wsL_law0_r14 : List Cond := [Cond.codeWith yL_copy cL_copy 4 (some .int) [(0, 6, 9, 25), (0, 6, 12, 19)], Cond.methodLink RL 31 yX3_copy, Cond.instanceMethod yX3_copy, Cond.selects RX3 yX3_copy yX3_copy, Cond.code yX3_copy cX3_copy 6 none, Cond.methodLink RX3 105 yX2_useAgain, Cond.methodLink RL 87 yX4_copy, Cond.instanceMethod yX4_copy, Cond.selects RX4 yX4_copy yX4_copy, Cond.code yX4_copy cX4_copy 4 none, Cond.methodLink RL 88 yL_size, Cond.static yL_size, Cond.codeWith yL_size cL_size 4 (some .int) [(0, 9, 12, 25)], Cond.methodLink RL 35 yX3_size, Cond.instanceMethod yX3_size, Cond.selects RX3 yX3_size yX3_size, Cond.code yX3_size cX3_size 2 (some .int), Cond.methodLink RL 90 yX4_size, Cond.instanceMethod yX4_size, Cond.selects RX4 yX4_size yX4_size, Cond.code yX4_size cX4_size 2 (some .int), Cond.methodLink RL 91 yL_get, Cond.static yL_get, Cond.codeWith yL_get cL_get 5 (some .int) [(0, 10, 13, 25)]]
def wsL_law0_r15 : List Cond := [Cond.methodLink RL 38 yX3_get, Cond.instanceMethod yX3_get, Cond.selects RX3 yX3_get yX3_get, Cond.code yX3_get cX3_get 6 (some .int), Cond.methodLink RX3 122 yX2_lengthOf, Cond.methodLink RX3 126 yX2_byteOf, Cond.instanceMethod yX2_byteOf, Cond.selects RX2 yX2_byteOf yX2_byteOf, Cond.code yX2_byteOf cX2_byteOf 3 (some .int), Cond.methodLink RL 93 yX4_get, Cond.instanceMethod yX4_get, Cond.selects RX4 yX4_get yX4_get, Cond.code yX4_get cX4_get 4 (some .int), Cond.methodLink RL 94 yL_parts, Cond.static yL_parts, Cond.codeWith yL_parts cL_parts 4 (some .int) [(0, 9, 12, 25)], Cond.methodLink RL 41 yX3_parts, Cond.instanceMethod yX3_parts, Cond.selects RX3 yX3_parts yX3_parts, Cond.code yX3_parts cX3_parts 2 (some .int), Cond.methodLink RL 96 yX4_parts, Cond.instanceMethod yX4_parts, Cond.selects RX4 yX4_parts yX4_parts, Cond.code yX4_parts cX4_parts 2 (some .int)]
def wsL_law0_r16 : List Cond := [Cond.methodLink RL 97 yL_part, Cond.static yL_part, Cond.codeWith yL_part cL_part 5 (some .int) [(0, 10, 13, 25)], Cond.methodLink RL 44 yX3_part, Cond.instanceMethod yX3_part, Cond.selects RX3 yX3_part yX3_part, Cond.code yX3_part cX3_part 4 (some .int), Cond.methodLink RL 99 yX4_part, Cond.instanceMethod yX4_part, Cond.selects RX4 yX4_part yX4_part, Cond.code yX4_part cX4_part 4 (some .int), Cond.methodLink RL 100 yL_about, Cond.static yL_about, Cond.codeWith yL_about cL_about 5 (some .int) [(0, 10, 13, 50), (0, 10, 17, 13)], Cond.classLink RL 50 "java/util/NoSuchElementException", Cond.methodLink RL 47 yX3_about, Cond.instanceMethod yX3_about, Cond.selects RX3 yX3_about yX3_about, Cond.code yX3_about cX3_about 3 (some .int), Cond.classLink RX3 136 "java/util/NoSuchElementException", Cond.initialized "java/util/NoSuchElementException", Cond.methodLink RX3 132 yX2_has, Cond.methodLink RX3 139 yX2_usesOf, Cond.instanceMethod yX2_usesOf]
def wsL_law0_r17 : List Cond := [Cond.selects RX2 yX2_usesOf yX2_usesOf, Cond.code yX2_usesOf cX2_usesOf 2 (some .int), Cond.methodLink RX3 142 yX3_filesWith, Cond.instanceMethod yX3_filesWith, Cond.selects RX3 yX3_filesWith yX3_filesWith, Cond.code yX3_filesWith cX3_filesWith 4 (some .int), Cond.methodLink RX3 175 yX0_hasNumber, Cond.instanceMethod yX0_hasNumber, Cond.selects RX0 yX0_hasNumber yX0_hasNumber, Cond.code yX0_hasNumber cX0_hasNumber 3 (some .boolean), Cond.methodLink RL 102 yX4_about, Cond.instanceMethod yX4_about, Cond.selects RX4 yX4_about yX4_about, Cond.code yX4_about cX4_about 6 (some .int), Cond.methodLink RX4 110 yX4_has, Cond.instanceMethod yX4_has, Cond.selects RX4 yX4_has yX4_has, Cond.code yX4_has cX4_has 5 (some .boolean), Cond.methodLink RL 103 yL_common, Cond.static yL_common, Cond.codeWith yL_common cL_common 5 (some .int) [(0, 10, 13, 25)], Cond.methodLink RL 52 yX3_common, Cond.instanceMethod yX3_common, Cond.selects RX3 yX3_common yX3_common]
def wsL_law0_r18 : List Cond := [Cond.code yX3_common cX3_common 8 (some .int), Cond.methodLink RX3 147 yJ7_fill_53178, Cond.methodLink RL 105 yX4_common, Cond.instanceMethod yX4_common, Cond.selects RX4 yX4_common yX4_common, Cond.code yX4_common cX4_common 6 (some .int), Cond.methodLink RL 106 yL_all, Cond.static yL_all, Cond.codeWith yL_all cL_all 4 (some .int) [(0, 9, 12, 13)], Cond.methodLink RL 55 yX3_all, Cond.instanceMethod yX3_all, Cond.selects RX3 yX3_all yX3_all, Cond.code yX3_all cX3_all 2 (some .int), Cond.methodLink RL 108 yX4_all, Cond.instanceMethod yX4_all, Cond.selects RX4 yX4_all yX4_all, Cond.code yX4_all cX4_all 5 (some .int)]
def wsL_law0 : List Cond := (wsL_law0_r1 ++ (wsL_law0_r2 ++ (wsL_law0_r3 ++ (wsL_law0_r4 ++ (wsL_law0_r5 ++ (wsL_law0_r6 ++ (wsL_law0_r7 ++ (wsL_law0_r8 ++ (wsL_law0_r9 ++ (wsL_law0_r10 ++ (wsL_law0_r11 ++ (wsL_law0_r12 ++ (wsL_law0_r13 ++ (wsL_law0_r14 ++ (wsL_law0_r15 ++ (wsL_law0_r16 ++ (wsL_law0_r17 ++ wsL_law0_r18))))))))))))))))) ++ wsX30 ++ wsX40 ++ wsX10 ++ wsX20 ++ wsX00 ++ ([] : List Cond)
def wsL_law : List Cond := wsL_law0 ++ (vx_atS RX3 52 "java/lang/IllegalArgumentException" ["java/lang/RuntimeException", "java/lang/Exception"]).filter goodWord ++ (vx_atS RX3 73 "java/lang/UnsupportedOperationException" ["java/lang/RuntimeException", "java/lang/Exception"]).filter goodWord ++ (vx_atS RX3 121 "java/lang/IndexOutOfBoundsException" ["java/lang/RuntimeException", "java/lang/Exception"]).filter goodWord ++ vz_at.filter goodWord
end
section
set_option maxRecDepth 20000 in
theorem wsL_ch1 : ∀ w ∈ wsL_law0_r1, w ∈ lw_tbl := fun w h => (goodIn_p wsL_law0_r1 [42, 45] rfl (by decide +kernel) w h).1
set_option maxRecDepth 20000 in
theorem wsL_ch2 : ∀ w ∈ wsL_law0_r2, w ∈ lw_tbl := fun w h => (goodIn_p wsL_law0_r2 [50, 66] rfl (by decide +kernel) w h).1
set_option maxRecDepth 20000 in
theorem wsL_ch3 : ∀ w ∈ wsL_law0_r3, w ∈ lw_tbl := fun w h => (goodIn_p wsL_law0_r3 [70, 108, 508] rfl (by decide +kernel) w h).1
end
section
set_option maxRecDepth 20000 in
theorem wsL_ch4 : ∀ w ∈ wsL_law0_r4, w ∈ lw_tbl := fun w h => (goodIn_p wsL_law0_r4 [155, 229] rfl (by decide +kernel) w h).1
set_option maxRecDepth 20000 in
theorem wsL_ch5 : ∀ w ∈ wsL_law0_r5, w ∈ lw_tbl := fun w h => (goodIn_p wsL_law0_r5 [233, 237, 576, 579, 583, 572] rfl (by decide +kernel) w h).1
set_option maxRecDepth 20000 in
theorem wsL_ch6 : ∀ w ∈ wsL_law0_r6, w ∈ lw_tbl := fun w h => (goodIn_p wsL_law0_r6 [245, 587, 270] rfl (by decide +kernel) w h).1
end
section
set_option maxRecDepth 20000 in
theorem wsL_ch7 : ∀ w ∈ wsL_law0_r7, w ∈ lw_tbl := fun w h => (goodIn_p wsL_law0_r7 [274, 294, 298, 302, 305, 308] rfl (by decide +kernel) w h).1
set_option maxRecDepth 20000 in
theorem wsL_ch8 : ∀ w ∈ wsL_law0_r8, w ∈ lw_tbl := fun w h => (goodIn_p wsL_law0_r8 [311, 316, 319, 323, 327, 331] rfl (by decide +kernel) w h).1
set_option maxRecDepth 20000 in
theorem wsL_ch9 : ∀ w ∈ wsL_law0_r9, w ∈ lw_tbl := fun w h => (goodIn_p wsL_law0_r9 [335, 339, 343, 346, 350] rfl (by decide +kernel) w h).1
end
section
set_option maxRecDepth 20000 in
theorem wsL_ch10 : ∀ w ∈ wsL_law0_r10, w ∈ lw_tbl := fun w h => (goodIn_p wsL_law0_r10 [366, 370, 374, 378] rfl (by decide +kernel) w h).1
set_option maxRecDepth 20000 in
theorem wsL_ch11 : ∀ w ∈ wsL_law0_r11, w ∈ lw_tbl := fun w h => (goodIn_p wsL_law0_r11 [383, 591, 594, 598, 602] rfl (by decide +kernel) w h).1
set_option maxRecDepth 20000 in
theorem wsL_ch12 : ∀ w ∈ wsL_law0_r12, w ∈ lw_tbl := fun w h => (goodIn_p wsL_law0_r12 [606, 609, 614, 618, 622, 626] rfl (by decide +kernel) w h).1
end
section
set_option maxRecDepth 20000 in
theorem wsL_ch13 : ∀ w ∈ wsL_law0_r13, w ∈ lw_tbl := fun w h => (goodIn_p wsL_law0_r13 [393, 399, 403, 407, 630] rfl (by decide +kernel) w h).1
set_option maxRecDepth 20000 in
theorem wsL_ch14 : ∀ w ∈ wsL_law0_r14, w ∈ lw_tbl := fun w h => (goodIn_p wsL_law0_r14 [415, 634, 423, 638] rfl (by decide +kernel) w h).1
set_option maxRecDepth 20000 in
theorem wsL_ch15 : ∀ w ∈ wsL_law0_r15, w ∈ lw_tbl := fun w h => (goodIn_p wsL_law0_r15 [430, 436, 642, 443, 646] rfl (by decide +kernel) w h).1
end
section
set_option maxRecDepth 20000 in
theorem wsL_ch16 : ∀ w ∈ wsL_law0_r16, w ∈ lw_tbl := fun w h => (goodIn_p wsL_law0_r16 [450, 650, 459] rfl (by decide +kernel) w h).1
set_option maxRecDepth 20000 in
theorem wsL_ch17 : ∀ w ∈ wsL_law0_r17, w ∈ lw_tbl := fun w h => (goodIn_p wsL_law0_r17 [479, 483, 487, 654, 658] rfl (by decide +kernel) w h).1
set_option maxRecDepth 20000 in
theorem wsL_ch18 : ∀ w ∈ wsL_law0_r18, w ∈ lw_tbl := fun w h => (goodIn_p wsL_law0_r18 [495, 662, 503, 666] rfl (by decide +kernel) w h).1
end
section
theorem wsL_fX3 : ∀ w ∈ wsX30, w ∈ lw_tbl := by decide +kernel
theorem wsL_fX4 : ∀ w ∈ wsX40, w ∈ lw_tbl := by decide +kernel
theorem wsL_fX1 : ∀ w ∈ wsX10, w ∈ lw_tbl := by decide +kernel
theorem wsL_fX2 : ∀ w ∈ wsX20, w ∈ lw_tbl := by decide +kernel
theorem wsL_fX0 : ∀ w ∈ wsX00, w ∈ lw_tbl := by decide +kernel
end
section
set_option maxRecDepth 20000 in
theorem wsL_law_x0 : ∀ w ∈ (vx_atS RX3 52 "java/lang/IllegalArgumentException" ["java/lang/RuntimeException", "java/lang/Exception"]).filter goodWord, w ∈ lw_tbl := by decide +kernel
end
section
set_option maxRecDepth 20000 in
theorem wsL_law_x1 : ∀ w ∈ (vx_atS RX3 73 "java/lang/UnsupportedOperationException" ["java/lang/RuntimeException", "java/lang/Exception"]).filter goodWord, w ∈ lw_tbl := by decide +kernel
end
section
set_option maxRecDepth 20000 in
theorem wsL_law_x2 : ∀ w ∈ (vx_atS RX3 121 "java/lang/IndexOutOfBoundsException" ["java/lang/RuntimeException", "java/lang/Exception"]).filter goodWord, w ∈ lw_tbl := by decide +kernel
end
section
set_option maxRecDepth 20000 in
theorem wsL_law_x3 : ∀ w ∈ vz_at.filter goodWord, w ∈ lw_tbl := by decide +kernel
end
section
theorem wsL_law_in0 : ∀ w ∈ wsL_law0, w ∈ lw_tbl := by
  intro w h
  unfold wsL_law0 at h
  simp only [List.mem_append, List.not_mem_nil, or_false] at h
  rcases h with (((((h | h | h | h | h | h | h | h | h | h | h | h | h | h | h | h | h | h) | h) | h) | h) | h) | h
  · exact wsL_ch1 w h
  · exact wsL_ch2 w h
  · exact wsL_ch3 w h
  · exact wsL_ch4 w h
  · exact wsL_ch5 w h
  · exact wsL_ch6 w h
  · exact wsL_ch7 w h
  · exact wsL_ch8 w h
  · exact wsL_ch9 w h
  · exact wsL_ch10 w h
  · exact wsL_ch11 w h
  · exact wsL_ch12 w h
  · exact wsL_ch13 w h
  · exact wsL_ch14 w h
  · exact wsL_ch15 w h
  · exact wsL_ch16 w h
  · exact wsL_ch17 w h
  · exact wsL_ch18 w h
  · exact wsL_fX3 w h
  · exact wsL_fX4 w h
  · exact wsL_fX1 w h
  · exact wsL_fX2 w h
  · exact wsL_fX0 w h
theorem wsL_law_in : ∀ w ∈ wsL_law, w ∈ lw_tbl := fun w h => (List.mem_append.mp h).elim (fun h => (List.mem_append.mp h).elim (fun h => (List.mem_append.mp h).elim (fun h => (List.mem_append.mp h).elim (fun h => wsL_law_in0 w h) (fun h => wsL_law_x0 w h)) (fun h => wsL_law_x1 w h)) (fun h => wsL_law_x2 w h)) (fun h => wsL_law_x3 w h)
theorem inlX0 : ∀ w ∈ wsX00, w ∈ wsL_law := fun _ h => List.mem_append_left _ (List.mem_append_left _ (List.mem_append_left _ (List.mem_append_left _ (List.mem_append_left _ (List.mem_append_right _ h)))))
theorem inX0 : ∀ w ∈ wsX00, w ∈ lw_tbl := fun w h => wsL_law_in w (inlX0 w h)
theorem inlX1 : ∀ w ∈ wsX10, w ∈ wsL_law := fun _ h => List.mem_append_left _ (List.mem_append_left _ (List.mem_append_left _ (List.mem_append_left _ (List.mem_append_left _ (List.mem_append_left _ (List.mem_append_left _ (List.mem_append_right _ h)))))))
theorem inX1 : ∀ w ∈ wsX10, w ∈ lw_tbl := fun w h => wsL_law_in w (inlX1 w h)
theorem inlX2 : ∀ w ∈ wsX20, w ∈ wsL_law := fun _ h => List.mem_append_left _ (List.mem_append_left _ (List.mem_append_left _ (List.mem_append_left _ (List.mem_append_left _ (List.mem_append_left _ (List.mem_append_right _ h))))))
theorem inX2 : ∀ w ∈ wsX20, w ∈ lw_tbl := fun w h => wsL_law_in w (inlX2 w h)
theorem inlX3 : ∀ w ∈ wsX30, w ∈ wsL_law := fun _ h => List.mem_append_left _ (List.mem_append_left _ (List.mem_append_left _ (List.mem_append_left _ (List.mem_append_left _ (List.mem_append_left _ (List.mem_append_left _ (List.mem_append_left _ (List.mem_append_left _ (List.mem_append_right _ h)))))))))
theorem inX3 : ∀ w ∈ wsX30, w ∈ lw_tbl := fun w h => wsL_law_in w (inlX3 w h)
theorem inlX4 : ∀ w ∈ wsX40, w ∈ wsL_law := fun _ h => List.mem_append_left _ (List.mem_append_left _ (List.mem_append_left _ (List.mem_append_left _ (List.mem_append_left _ (List.mem_append_left _ (List.mem_append_left _ (List.mem_append_left _ (List.mem_append_right _ h))))))))
theorem inX4 : ∀ w ∈ wsX40, w ∈ lw_tbl := fun w h => wsL_law_in w (inlX4 w h)
set_option maxRecDepth 20000 in
theorem ggL_begin_X3_begin : GoodIn wsL_begin wsX3_begin := goodIn_ca (goodIn_r _ [6, 7, 8, 9, 10, 11, 12, 13, 14, 15, 16, 17, 18, 19, 20, 21, 22, 23, 24, 25, 26, 27, 28, 29, 30, 31, 32, 33, 34, 35, 36, 37, 38, 39, 40, 41, 42, 43, 44, 45, 46, 47, 48, 49, 50, 51, 52, 53, 54, 55, 56, 57, 58, 59, 60, 61, 62, 63] (by decide +kernel) (by decide +kernel)) (goodIn_sub (fun _ h => List.mem_cons_of_mem _ (List.mem_append_right _ h)) (by decide +kernel))
set_option maxRecDepth 20000 in
theorem gL_begin_X3_begin : GoodIn wsL_begin (wsV RL 7 RX3 yX3_begin wsX3_begin) := goodIn_app (goodIn_of _ (by decide +kernel)) ggL_begin_X3_begin
set_option maxRecDepth 20000 in
theorem ggL_put_X3_put : GoodIn wsL_put wsX3_put := goodIn_ca (goodIn_ca (goodIn_r _ [7, 8, 9, 10, 11, 12, 13, 14, 15, 16, 17, 18, 19, 20, 21] (by decide +kernel) (by decide +kernel)) (goodIn_sub (fun _ h => List.mem_cons_of_mem _ (List.mem_append_left _ (List.mem_append_right _ h))) (by decide +kernel))) (goodIn_sub (fun _ h => List.mem_cons_of_mem _ (List.mem_append_right _ h)) (by decide +kernel))
set_option maxRecDepth 20000 in
theorem gL_put_X3_put : GoodIn wsL_put (wsV RL 15 RX3 yX3_put wsX3_put) := goodIn_app (goodIn_of _ (by decide +kernel)) ggL_put_X3_put
set_option maxRecDepth 20000 in
theorem ggL_store_X3_store : GoodIn wsL_store wsX3_store := goodIn_ca (goodIn_ca (goodIn_r _ [7, 8, 9, 10, 11, 12, 6, 13, 14, 15, 16, 17, 18, 19, 20, 21, 22, 23, 24, 25, 26, 27, 28, 29, 30, 31, 32, 33, 34, 35, 36, 37, 38, 39, 40, 41, 42, 43, 44, 45, 46, 47, 48, 49, 50, 51, 52, 53, 54, 55, 56, 57, 58, 59, 60, 61, 62, 63, 64, 65, 66, 67, 68, 69, 70, 71, 72, 73, 74, 75, 76, 77, 78, 79, 80, 81, 82, 83, 84, 85, 86, 87, 88, 89, 90, 91, 92, 93, 94, 95, 96, 97, 98, 99, 100, 101, 102, 103, 104, 105, 106, 107, 108, 109, 110, 111, 112, 113, 114, 115, 116, 117, 118, 119, 120, 121, 122, 123, 124, 125, 126, 127, 128, 129, 130, 131, 132, 133, 134, 135, 136, 137, 138, 139, 140, 141, 142, 143, 144, 145, 146, 147, 148, 149, 150, 151, 152, 153, 154, 155, 156, 157, 158, 159, 160, 161] (by decide +kernel) (by decide +kernel)) (goodIn_sub (fun _ h => List.mem_cons_of_mem _ (List.mem_append_left _ (List.mem_append_right _ h))) (by decide +kernel))) (goodIn_sub (fun _ h => List.mem_cons_of_mem _ (List.mem_append_right _ h)) (by decide +kernel))
set_option maxRecDepth 20000 in
theorem gL_store_X3_store : GoodIn wsL_store (wsV RL 21 RX3 yX3_store wsX3_store) := goodIn_app (goodIn_of _ (by decide +kernel)) ggL_store_X3_store
set_option maxRecDepth 20000 in
theorem ggL_edit_X3_edit : GoodIn wsL_edit wsX3_edit := goodIn_ca (goodIn_ca (goodIn_ca (goodIn_r _ [8, 9, 10, 11, 12, 13, 14, 15, 16, 17, 18, 19, 20, 21, 22, 7, 23, 24, 25, 26, 27, 28, 29, 30, 31, 32, 33, 34, 35, 36, 37, 38, 39, 40, 41, 42, 43, 44, 45, 46, 47, 48, 49, 50, 51, 52, 53, 54, 55, 56, 57, 58, 59, 60, 61, 62, 63, 64, 65, 66, 67, 68, 69, 70, 71, 72, 73, 74, 75, 76, 77, 78, 79, 80, 81, 82, 83, 84, 85, 86, 87, 88, 89, 90, 91, 92, 93, 94, 95, 96, 97, 98, 99, 100, 101, 102, 103, 104, 105, 106, 107, 108, 109, 110, 111, 112, 113, 114, 115, 116, 117, 118, 119, 120, 121, 122, 123, 124, 125, 126, 127, 128, 129, 130, 131, 132, 133, 134, 135, 136, 137, 138, 139, 140, 141, 142, 143, 144, 145, 146, 147, 148, 149, 150, 151, 152, 153, 154, 155, 156, 157, 158, 159, 160, 161, 162, 163, 164, 165, 166, 167, 168, 169, 170, 171, 172, 173, 174, 175, 176, 177, 178] (by decide +kernel) (by decide +kernel)) (goodIn_sub (fun _ h => List.mem_cons_of_mem _ (List.mem_append_left _ (List.mem_append_left _ (List.mem_append_right _ h)))) (by decide +kernel))) (goodIn_sub (fun _ h => List.mem_cons_of_mem _ (List.mem_append_left _ (List.mem_append_right _ h))) (by decide +kernel))) (goodIn_sub (fun _ h => List.mem_cons_of_mem _ (List.mem_append_right _ h)) (by decide +kernel))
set_option maxRecDepth 20000 in
theorem gL_edit_X3_edit : GoodIn wsL_edit (wsV RL 27 RX3 yX3_edit wsX3_edit) := goodIn_app (goodIn_of _ (by decide +kernel)) ggL_edit_X3_edit
set_option maxRecDepth 20000 in
theorem ggL_copy_X3_copy : GoodIn wsL_copy wsX3_copy := goodIn_ca (goodIn_r _ [6, 7, 8, 9, 10, 5, 11, 12, 13, 14, 15, 16, 17, 18, 19, 20, 21, 22, 23, 24, 25, 26, 27, 28, 29, 30, 31, 32, 33, 34, 35, 36, 37, 38, 39, 40, 41, 42, 43, 44, 45, 46, 47, 48, 49, 50, 51, 52, 53, 54, 55, 56, 57, 58, 59, 60, 61, 62, 63, 64, 65, 66, 67, 68, 69, 70, 71, 72, 73, 74, 75, 76, 77, 78, 79, 80, 81, 82, 83, 84] (by decide +kernel) (by decide +kernel)) (goodIn_sub (fun _ h => List.mem_cons_of_mem _ (List.mem_append_right _ h)) (by decide +kernel))
set_option maxRecDepth 20000 in
theorem gL_copy_X3_copy : GoodIn wsL_copy (wsV RL 31 RX3 yX3_copy wsX3_copy) := goodIn_app (goodIn_of _ (by decide +kernel)) ggL_copy_X3_copy
set_option maxRecDepth 20000 in
theorem ggL_size_X3_size : GoodIn wsL_size wsX3_size := goodIn_ca (goodIn_r _ [6, 7, 8, 9, 5, 10, 11, 12, 13, 14, 15, 16, 17, 18, 19, 20, 21, 22, 23, 24] (by decide +kernel) (by decide +kernel)) (goodIn_sub (fun _ h => List.mem_cons_of_mem _ (List.mem_append_right _ h)) (by decide +kernel))
set_option maxRecDepth 20000 in
theorem gL_size_X3_size : GoodIn wsL_size (wsV RL 35 RX3 yX3_size wsX3_size) := goodIn_app (goodIn_of _ (by decide +kernel)) ggL_size_X3_size
set_option maxRecDepth 20000 in
theorem ggL_get_X3_get : GoodIn wsL_get wsX3_get := goodIn_ca (goodIn_r _ [6, 7, 8, 9, 10, 11, 12, 5, 13, 14, 15, 16, 17, 18, 19, 20, 21, 22, 23, 24, 25, 26, 27, 28, 29, 30, 31, 32, 33, 34, 35, 36, 37, 38, 39, 40, 41, 42, 43, 44, 45, 46, 47, 48, 49, 50, 51] (by decide +kernel) (by decide +kernel)) (goodIn_sub (fun _ h => List.mem_cons_of_mem _ (List.mem_append_right _ h)) (by decide +kernel))
set_option maxRecDepth 20000 in
theorem gL_get_X3_get : GoodIn wsL_get (wsV RL 38 RX3 yX3_get wsX3_get) := goodIn_app (goodIn_of _ (by decide +kernel)) ggL_get_X3_get
set_option maxRecDepth 20000 in
theorem ggL_parts_X3_parts : GoodIn wsL_parts wsX3_parts := goodIn_ca (goodIn_r _ [6, 7, 8, 9, 5, 10, 11, 12, 13, 14, 15, 16, 17, 18, 19, 20, 21, 22, 23, 24] (by decide +kernel) (by decide +kernel)) (goodIn_sub (fun _ h => List.mem_cons_of_mem _ (List.mem_append_right _ h)) (by decide +kernel))
set_option maxRecDepth 20000 in
theorem gL_parts_X3_parts : GoodIn wsL_parts (wsV RL 41 RX3 yX3_parts wsX3_parts) := goodIn_app (goodIn_of _ (by decide +kernel)) ggL_parts_X3_parts
set_option maxRecDepth 20000 in
theorem ggL_part_X3_part : GoodIn wsL_part wsX3_part := goodIn_ca (goodIn_r _ [6, 7, 8, 9, 10, 11, 5, 12, 13, 14, 15, 16, 17, 18, 19, 20, 21, 22, 23, 24] (by decide +kernel) (by decide +kernel)) (goodIn_sub (fun _ h => List.mem_cons_of_mem _ (List.mem_append_right _ h)) (by decide +kernel))
set_option maxRecDepth 20000 in
theorem gL_part_X3_part : GoodIn wsL_part (wsV RL 44 RX3 yX3_part wsX3_part) := goodIn_app (goodIn_of _ (by decide +kernel)) ggL_part_X3_part
set_option maxRecDepth 20000 in
theorem ggL_about_X3_about : GoodIn wsL_about wsX3_about := goodIn_ca (goodIn_ca (goodIn_r _ [7, 8, 9, 10, 11, 12, 13, 14, 15, 16, 17, 18, 19, 20, 21, 22, 23, 24, 25, 26, 27, 28, 29, 30, 31, 6, 32, 33, 34, 35, 36, 37, 38, 39, 40, 41, 42, 43, 44, 45, 46, 47, 48, 49, 50, 51, 52, 53, 54, 55, 56, 57, 58, 59, 60] (by decide +kernel) (by decide +kernel)) (goodIn_sub (fun _ h => List.mem_cons_of_mem _ (List.mem_append_left _ (List.mem_append_right _ h))) (by decide +kernel))) (goodIn_sub (fun _ h => List.mem_cons_of_mem _ (List.mem_append_right _ h)) (by decide +kernel))
set_option maxRecDepth 20000 in
theorem gL_about_X3_about : GoodIn wsL_about (wsV RL 47 RX3 yX3_about wsX3_about) := goodIn_app (goodIn_of _ (by decide +kernel)) ggL_about_X3_about
set_option maxRecDepth 20000 in
theorem ggL_common_X3_common : GoodIn wsL_common wsX3_common := goodIn_ca (goodIn_r _ [6, 7, 8, 9, 10, 11, 5, 12, 13, 14, 15, 16, 17, 18, 19, 20, 21, 22, 23, 24, 25, 26, 27, 28, 29, 30, 31, 32, 33, 34, 35, 36, 37, 38, 39, 40, 41, 42, 43, 44, 45, 46, 47, 48, 49, 50, 51] (by decide +kernel) (by decide +kernel)) (goodIn_sub (fun _ h => List.mem_cons_of_mem _ (List.mem_append_right _ h)) (by decide +kernel))
set_option maxRecDepth 20000 in
theorem gL_common_X3_common : GoodIn wsL_common (wsV RL 52 RX3 yX3_common wsX3_common) := goodIn_app (goodIn_of _ (by decide +kernel)) ggL_common_X3_common
set_option maxRecDepth 20000 in
theorem ggL_all_X3_all : GoodIn wsL_all wsX3_all := goodIn_ca (goodIn_r _ [6, 7, 8, 9, 10, 11, 12, 13, 14, 15, 16, 17, 18, 19, 20, 21, 22, 23, 24, 25, 26, 27] (by decide +kernel) (by decide +kernel)) (goodIn_sub (fun _ h => List.mem_cons_of_mem _ (List.mem_append_right _ h)) (by decide +kernel))
set_option maxRecDepth 20000 in
theorem gL_all_X3_all : GoodIn wsL_all (wsV RL 55 RX3 yX3_all wsX3_all) := goodIn_app (goodIn_of _ (by decide +kernel)) ggL_all_X3_all
set_option maxRecDepth 20000 in
theorem ggL_law_X3_init : GoodIn wsL_law wsX3_init := goodIn_r _ [9, 10, 11, 12, 13, 14, 15, 16, 17, 18, 19, 20, 21, 22, 23, 24, 25, 26, 27, 28, 29, 30, 31, 32, 33, 34, 35, 36, 37, 38, 39, 40, 41, 42, 43, 44, 45, 46, 47, 48, 49, 50, 51, 52, 53, 54, 55, 56, 57, 58, 59, 60, 452, 453, 454, 425, 426, 427, 428, 429, 430, 431, 432, 455, 456, 457, 458, 459, 460, 461, 462, 463, 464, 465, 466] (by decide +kernel) (by decide +kernel)
set_option maxRecDepth 20000 in
theorem gL_law_X3_init : GoodIn wsL_law (wsX3_init) := ggL_law_X3_init
set_option maxRecDepth 20000 in
theorem ggL_law_X4_init : GoodIn wsL_law wsX4_init := goodIn_r _ [63, 64, 11, 12, 65, 66, 67, 27, 68, 69, 70, 71, 72, 73, 74, 75, 76, 77, 78, 79, 80, 433, 434, 435, 436, 437, 438, 439, 440, 441, 442, 443, 444, 445, 446, 447, 448, 449, 450, 451] (by decide +kernel) (by decide +kernel)
set_option maxRecDepth 20000 in
theorem gL_law_X4_init : GoodIn wsL_law (wsX4_init) := ggL_law_X4_init
set_option maxRecDepth 20000 in
theorem ggL_law_L_begin : GoodIn wsL_law wsL_begin := goodIn_ca (goodIn_r _ [84, 85, 86, 87, 88, 2, 89, 90, 91, 16, 20, 22, 92, 93, 94, 15, 95, 35, 36, 37, 96, 97, 98, 19, 99, 42, 46, 48, 49, 50, 51, 52, 53, 54, 100, 101, 102, 31, 103, 59, 60, 425, 426, 427, 428, 429, 430, 431, 432, 452, 453, 454, 455, 456, 457, 458, 459, 460, 461, 462, 463, 464, 465, 466] (by decide +kernel) (by decide +kernel)) (goodIn_sub (fun _ h => List.mem_append_left _ (List.mem_append_left _ (List.mem_append_left _ (List.mem_append_right _ h)))) (by decide +kernel))
set_option maxRecDepth 20000 in
theorem gL_law_L_begin : GoodIn wsL_law (va_wsS RL 62 yL_begin wsL_begin) := goodIn_app (goodIn_of _ (by decide +kernel)) ggL_law_L_begin
set_option maxRecDepth 20000 in
theorem ggL_law_X4_begin : GoodIn wsL_law wsX4_begin := goodIn_r _ [107, 65, 66, 67, 74, 76, 78, 108, 109, 5, 110, 111, 112, 113, 114, 115, 433, 434, 435, 436, 437, 438, 439, 440, 441, 442, 443, 444, 445, 446, 447, 448, 449, 450, 451] (by decide +kernel) (by decide +kernel)
set_option maxRecDepth 20000 in
theorem gL_law_X4_begin : GoodIn wsL_law (wsV RL 67 RX4 yX4_begin wsX4_begin) := goodIn_app (goodIn_of _ (by decide +kernel)) ggL_law_X4_begin
set_option maxRecDepth 20000 in
theorem ggL_law_X4_thrown : GoodIn wsL_law wsX4_thrown := goodIn_r _ [119, 115, 433, 434, 435, 436, 437, 438, 439, 440, 441, 442, 443, 444, 445, 446, 447, 448, 449, 450, 451] (by decide +kernel) (by decide +kernel)
set_option maxRecDepth 20000 in
theorem gL_law_X4_thrown : GoodIn wsL_law (wsV RL 68 RX4 yX4_thrown wsX4_thrown) := goodIn_app (goodIn_of _ (by decide +kernel)) ggL_law_X4_thrown
set_option maxRecDepth 20000 in
theorem ggL_law_L_put : GoodIn wsL_law wsL_put := goodIn_ca (goodIn_ca (goodIn_r _ [122, 85, 123, 124, 125, 126, 2, 127, 90, 91, 128, 129, 25, 24, 425, 426, 427, 428, 429, 430, 431, 432] (by decide +kernel) (by decide +kernel)) (goodIn_sub (fun _ h => List.mem_append_left _ (List.mem_append_left _ (List.mem_append_left _ (List.mem_append_right _ h)))) (by decide +kernel))) (goodIn_sub (fun _ h => List.mem_append_left _ (List.mem_append_left _ (List.mem_append_right _ h))) (by decide +kernel))
set_option maxRecDepth 20000 in
theorem gL_law_L_put : GoodIn wsL_law (va_wsS RL 72 yL_put wsL_put) := goodIn_app (goodIn_of _ (by decide +kernel)) ggL_law_L_put
set_option maxRecDepth 20000 in
theorem ggL_law_X4_put : GoodIn wsL_law wsX4_put := goodIn_r _ [133, 134, 68, 108, 109, 5, 110, 111, 112, 113, 114, 115, 433, 434, 435, 436, 437, 438, 439, 440, 441, 442, 443, 444, 445, 446, 447, 448, 449, 450, 451] (by decide +kernel) (by decide +kernel)
set_option maxRecDepth 20000 in
theorem gL_law_X4_put : GoodIn wsL_law (wsV RL 75 RX4 yX4_put wsX4_put) := goodIn_app (goodIn_of _ (by decide +kernel)) ggL_law_X4_put
set_option maxRecDepth 20000 in
theorem ggL_law_L_store : GoodIn wsL_law wsL_store := goodIn_ca (goodIn_ca (goodIn_r _ [137, 138, 123, 139, 140, 141, 2, 142, 24, 25, 143, 144, 145, 146, 147, 148, 22, 149, 150, 151, 152, 128, 129, 20, 28, 153, 154, 155, 156, 16, 157, 158, 159, 15, 160, 37, 161, 162, 163, 164, 36, 35, 165, 166, 167, 168, 169, 170, 171, 172, 173, 174, 19, 175, 176, 177, 178, 179, 180, 181, 182, 46, 44, 43, 45, 183, 184, 185, 186, 42, 187, 188, 189, 190, 47, 191, 192, 193, 194, 195, 196, 197, 198, 49, 50, 199, 200, 201, 202, 48, 203, 204, 205, 206, 207, 208, 209, 210, 211, 212, 53, 213, 214, 215, 216, 217, 218, 219, 23, 220, 221, 222, 223, 224, 225, 226, 227, 228, 229, 230, 231, 232, 233, 234, 235, 236, 237, 238, 239, 240, 31, 241, 58, 242, 243, 27, 244, 59, 60, 425, 426, 427, 428, 429, 430, 431, 432, 455, 456, 457, 458, 459, 460, 461, 462, 463, 464, 465, 466, 452, 453, 454] (by decide +kernel) (by decide +kernel)) (goodIn_sub (fun _ h => List.mem_append_left _ (List.mem_append_right _ h)) (by decide +kernel))) (goodIn_sub (fun _ h => List.mem_append_left _ (List.mem_append_left _ (List.mem_append_right _ h))) (by decide +kernel))
set_option maxRecDepth 20000 in
theorem gL_law_L_store : GoodIn wsL_law (va_wsS RL 76 yL_store wsL_store) := goodIn_app (goodIn_of _ (by decide +kernel)) ggL_law_L_store
set_option maxRecDepth 20000 in
theorem ggL_law_X4_store : GoodIn wsL_law wsX4_store := goodIn_r _ [248, 134, 249, 69, 68, 250, 251, 5, 252, 108, 109, 110, 111, 112, 113, 114, 115, 253, 254, 255, 256, 73, 257, 71, 70, 258, 259, 260, 261, 67, 66, 65, 262, 263, 264, 265, 266, 267, 268, 269, 270, 271, 272, 273, 274, 275, 276, 277, 78, 79, 80, 278, 279, 280, 281, 282, 283, 284, 285, 76, 77, 74, 75, 433, 434, 435, 436, 437, 438, 439, 440, 441, 442, 443, 444, 445, 446, 447, 448, 449, 450, 451] (by decide +kernel) (by decide +kernel)
set_option maxRecDepth 20000 in
theorem gL_law_X4_store : GoodIn wsL_law (wsV RL 79 RX4 yX4_store wsX4_store) := goodIn_app (goodIn_of _ (by decide +kernel)) ggL_law_X4_store
set_option maxRecDepth 20000 in
theorem ggL_law_L_edit : GoodIn wsL_law wsL_edit := goodIn_ca (goodIn_ca (goodIn_ca (goodIn_r _ [288, 138, 85, 123, 289, 290, 291, 2, 292, 90, 91, 128, 129, 25, 26, 293, 196, 197, 198, 24, 143, 144, 145, 146, 147, 148, 22, 294, 295, 296, 297, 20, 298, 299, 300, 19, 301, 47, 195, 302, 303, 304, 305, 43, 183, 184, 185, 186, 42, 149, 150, 151, 152, 28, 153, 154, 155, 156, 16, 157, 158, 159, 15, 160, 37, 161, 162, 163, 164, 36, 35, 165, 166, 167, 168, 169, 170, 171, 172, 173, 174, 175, 176, 177, 178, 179, 180, 181, 182, 46, 44, 45, 187, 188, 189, 190, 191, 192, 193, 194, 49, 50, 199, 200, 201, 202, 48, 203, 204, 205, 206, 207, 208, 209, 210, 211, 212, 53, 213, 214, 215, 216, 217, 218, 219, 23, 220, 221, 222, 223, 224, 225, 226, 227, 228, 229, 230, 231, 232, 233, 234, 235, 236, 237, 238, 239, 240, 31, 241, 58, 242, 243, 27, 244, 59, 60, 464, 465, 466, 425, 426, 427, 428, 429, 430, 431, 432, 455, 456, 457, 458, 459, 460, 461, 462, 463, 452, 453, 454] (by decide +kernel) (by decide +kernel)) (goodIn_sub (fun _ h => List.mem_append_left _ (List.mem_append_left _ (List.mem_append_left _ (List.mem_append_right _ h)))) (by decide +kernel))) (goodIn_sub (fun _ h => List.mem_append_left _ (List.mem_append_left _ (List.mem_append_right _ h))) (by decide +kernel))) (goodIn_sub (fun _ h => List.mem_append_left _ (List.mem_append_right _ h)) (by decide +kernel))
set_option maxRecDepth 20000 in
theorem gL_law_L_edit : GoodIn wsL_law (va_wsS RL 80 yL_edit wsL_edit) := goodIn_app (goodIn_of _ (by decide +kernel)) ggL_law_L_edit
set_option maxRecDepth 20000 in
theorem ggL_law_X4_edit : GoodIn wsL_law wsX4_edit := goodIn_r _ [309, 74, 134, 249, 69, 75, 68, 250, 251, 5, 252, 108, 109, 110, 111, 112, 113, 114, 115, 253, 254, 255, 256, 73, 257, 71, 70, 258, 259, 260, 261, 67, 66, 65, 262, 263, 264, 265, 266, 267, 268, 269, 270, 271, 272, 273, 274, 275, 276, 277, 78, 79, 80, 278, 279, 280, 281, 282, 283, 284, 285, 76, 77, 433, 434, 435, 436, 437, 438, 439, 440, 441, 442, 443, 444, 445, 446, 447, 448, 449, 450, 451] (by decide +kernel) (by decide +kernel)
set_option maxRecDepth 20000 in
theorem gL_law_X4_edit : GoodIn wsL_law (wsV RL 83 RX4 yX4_edit wsX4_edit) := goodIn_app (goodIn_of _ (by decide +kernel)) ggL_law_X4_edit
set_option maxRecDepth 20000 in
theorem ggL_law_L_copy : GoodIn wsL_law wsL_copy := goodIn_ca (goodIn_r _ [312, 138, 313, 314, 315, 2, 316, 20, 143, 144, 145, 146, 147, 148, 22, 317, 223, 224, 19, 225, 42, 183, 184, 185, 186, 226, 227, 228, 229, 230, 231, 232, 233, 48, 210, 162, 163, 164, 49, 50, 43, 234, 235, 236, 237, 44, 46, 45, 238, 239, 240, 31, 241, 58, 242, 208, 209, 243, 27, 244, 196, 197, 198, 59, 60, 464, 465, 466, 425, 426, 427, 428, 429, 430, 431, 432, 455, 456, 457, 458, 459, 460, 461, 462, 463] (by decide +kernel) (by decide +kernel)) (goodIn_sub (fun _ h => List.mem_append_left _ (List.mem_append_right _ h)) (by decide +kernel))
set_option maxRecDepth 20000 in
theorem gL_law_L_copy : GoodIn wsL_law (va_wsS RL 84 yL_copy wsL_copy) := goodIn_app (goodIn_of _ (by decide +kernel)) ggL_law_L_copy
set_option maxRecDepth 20000 in
theorem ggL_law_X4_copy : GoodIn wsL_law wsX4_copy := goodIn_r _ [321, 74, 249, 76, 257, 69, 75, 71, 77, 250, 251, 5, 252, 108, 109, 110, 111, 112, 113, 114, 115, 282, 283, 284, 285, 78, 433, 434, 435, 436, 437, 438, 439, 440, 441, 442, 443, 444, 445, 446, 447, 448, 449, 450, 451] (by decide +kernel) (by decide +kernel)
set_option maxRecDepth 20000 in
theorem gL_law_X4_copy : GoodIn wsL_law (wsV RL 87 RX4 yX4_copy wsX4_copy) := goodIn_app (goodIn_of _ (by decide +kernel)) ggL_law_X4_copy
set_option maxRecDepth 20000 in
theorem ggL_law_L_size : GoodIn wsL_law wsL_size := goodIn_ca (goodIn_r _ [324, 138, 325, 326, 327, 2, 328, 143, 144, 145, 146, 147, 148, 22, 464, 465, 466, 425, 426, 427, 428, 429, 430, 431, 432] (by decide +kernel) (by decide +kernel)) (goodIn_sub (fun _ h => List.mem_append_left _ (List.mem_append_right _ h)) (by decide +kernel))
set_option maxRecDepth 20000 in
theorem gL_law_L_size : GoodIn wsL_law (va_wsS RL 88 yL_size wsL_size) := goodIn_app (goodIn_of _ (by decide +kernel)) ggL_law_L_size
set_option maxRecDepth 20000 in
theorem ggL_law_X4_size : GoodIn wsL_law wsX4_size := goodIn_r _ [332, 74, 250, 251, 5, 252, 108, 109, 110, 111, 112, 113, 114, 115, 433, 434, 435, 436, 437, 438, 439, 440, 441, 442, 443, 444, 445, 446, 447, 448, 449, 450, 451] (by decide +kernel) (by decide +kernel)
set_option maxRecDepth 20000 in
theorem gL_law_X4_size : GoodIn wsL_law (wsV RL 90 RX4 yX4_size wsX4_size) := goodIn_app (goodIn_of _ (by decide +kernel)) ggL_law_X4_size
set_option maxRecDepth 20000 in
theorem ggL_law_L_get : GoodIn wsL_law wsL_get := goodIn_ca (goodIn_r _ [335, 138, 336, 337, 338, 2, 339, 147, 148, 20, 143, 144, 145, 146, 22, 340, 303, 304, 19, 305, 43, 183, 184, 185, 186, 42, 341, 342, 343, 344, 47, 302, 464, 465, 466, 425, 426, 427, 428, 429, 430, 431, 432, 455, 456, 457, 458, 459, 460, 461, 462, 463] (by decide +kernel) (by decide +kernel)) (goodIn_sub (fun _ h => List.mem_append_left _ (List.mem_append_right _ h)) (by decide +kernel))
set_option maxRecDepth 20000 in
theorem gL_law_L_get : GoodIn wsL_law (va_wsS RL 91 yL_get wsL_get) := goodIn_app (goodIn_of _ (by decide +kernel)) ggL_law_L_get
set_option maxRecDepth 20000 in
theorem ggL_law_X4_get : GoodIn wsL_law wsX4_get := goodIn_r _ [348, 74, 75, 250, 251, 5, 252, 108, 109, 110, 111, 112, 113, 114, 115, 433, 434, 435, 436, 437, 438, 439, 440, 441, 442, 443, 444, 445, 446, 447, 448, 449, 450, 451] (by decide +kernel) (by decide +kernel)
set_option maxRecDepth 20000 in
theorem gL_law_X4_get : GoodIn wsL_law (wsV RL 93 RX4 yX4_get wsX4_get) := goodIn_app (goodIn_of _ (by decide +kernel)) ggL_law_X4_get
set_option maxRecDepth 20000 in
theorem ggL_law_L_parts : GoodIn wsL_law wsL_parts := goodIn_ca (goodIn_r _ [351, 138, 352, 353, 354, 2, 355, 143, 144, 145, 146, 147, 148, 22, 464, 465, 466, 425, 426, 427, 428, 429, 430, 431, 432] (by decide +kernel) (by decide +kernel)) (goodIn_sub (fun _ h => List.mem_append_left _ (List.mem_append_right _ h)) (by decide +kernel))
set_option maxRecDepth 20000 in
theorem gL_law_L_parts : GoodIn wsL_law (va_wsS RL 94 yL_parts wsL_parts) := goodIn_app (goodIn_of _ (by decide +kernel)) ggL_law_L_parts
set_option maxRecDepth 20000 in
theorem ggL_law_X4_parts : GoodIn wsL_law wsX4_parts := goodIn_r _ [359, 76, 250, 251, 5, 252, 108, 109, 110, 111, 112, 113, 114, 115, 433, 434, 435, 436, 437, 438, 439, 440, 441, 442, 443, 444, 445, 446, 447, 448, 449, 450, 451] (by decide +kernel) (by decide +kernel)
set_option maxRecDepth 20000 in
theorem gL_law_X4_parts : GoodIn wsL_law (wsV RL 96 RX4 yX4_parts wsX4_parts) := goodIn_app (goodIn_of _ (by decide +kernel)) ggL_law_X4_parts
set_option maxRecDepth 20000 in
theorem ggL_law_L_part : GoodIn wsL_law wsL_part := goodIn_ca (goodIn_r _ [362, 138, 363, 364, 365, 2, 366, 147, 148, 143, 144, 145, 146, 22, 464, 465, 466, 425, 426, 427, 428, 429, 430, 431, 432] (by decide +kernel) (by decide +kernel)) (goodIn_sub (fun _ h => List.mem_append_left _ (List.mem_append_right _ h)) (by decide +kernel))
set_option maxRecDepth 20000 in
theorem gL_law_L_part : GoodIn wsL_law (va_wsS RL 97 yL_part wsL_part) := goodIn_app (goodIn_of _ (by decide +kernel)) ggL_law_L_part
set_option maxRecDepth 20000 in
theorem ggL_law_X4_part : GoodIn wsL_law wsX4_part := goodIn_r _ [370, 76, 77, 250, 251, 5, 252, 108, 109, 110, 111, 112, 113, 114, 115, 433, 434, 435, 436, 437, 438, 439, 440, 441, 442, 443, 444, 445, 446, 447, 448, 449, 450, 451] (by decide +kernel) (by decide +kernel)
set_option maxRecDepth 20000 in
theorem gL_law_X4_part : GoodIn wsL_law (wsV RL 99 RX4 yX4_part wsX4_part) := goodIn_app (goodIn_of _ (by decide +kernel)) ggL_law_X4_part
set_option maxRecDepth 20000 in
theorem ggL_law_L_about : GoodIn wsL_law wsL_about := goodIn_ca (goodIn_ca (goodIn_r _ [373, 374, 85, 375, 376, 377, 2, 378, 379, 380, 90, 91, 20, 381, 184, 185, 19, 186, 42, 340, 303, 304, 305, 43, 183, 382, 383, 384, 385, 386, 387, 388, 389, 22, 390, 391, 392, 31, 393, 59, 58, 425, 426, 427, 428, 429, 430, 431, 432, 455, 456, 457, 458, 459, 460, 461, 462, 463, 464, 465, 466] (by decide +kernel) (by decide +kernel)) (goodIn_sub (fun _ h => List.mem_append_right _ h) (by decide +kernel))) (goodIn_sub (fun _ h => List.mem_append_left _ (List.mem_append_left _ (List.mem_append_left _ (List.mem_append_right _ h)))) (by decide +kernel))
set_option maxRecDepth 20000 in
theorem gL_law_L_about : GoodIn wsL_law (va_wsS RL 100 yL_about wsL_about) := goodIn_app (goodIn_of _ (by decide +kernel)) ggL_law_L_about
set_option maxRecDepth 20000 in
theorem ggL_law_X4_about : GoodIn wsL_law wsX4_about := goodIn_r _ [397, 78, 79, 108, 109, 5, 110, 111, 112, 113, 114, 115, 398, 399, 400, 401, 76, 77, 433, 434, 435, 436, 437, 438, 439, 440, 441, 442, 443, 444, 445, 446, 447, 448, 449, 450, 451] (by decide +kernel) (by decide +kernel)
set_option maxRecDepth 20000 in
theorem gL_law_X4_about : GoodIn wsL_law (wsV RL 102 RX4 yX4_about wsX4_about) := goodIn_app (goodIn_of _ (by decide +kernel)) ggL_law_X4_about
set_option maxRecDepth 20000 in
theorem ggL_law_L_common : GoodIn wsL_law wsL_common := goodIn_ca (goodIn_r _ [404, 138, 405, 406, 407, 2, 408, 29, 20, 143, 144, 145, 146, 147, 148, 22, 409, 52, 53, 54, 381, 184, 185, 19, 186, 42, 340, 303, 304, 305, 43, 183, 425, 426, 427, 428, 429, 430, 431, 432, 464, 465, 466, 455, 456, 457, 458, 459, 460, 461, 462, 463] (by decide +kernel) (by decide +kernel)) (goodIn_sub (fun _ h => List.mem_append_left _ (List.mem_append_right _ h)) (by decide +kernel))
set_option maxRecDepth 20000 in
theorem gL_law_L_common : GoodIn wsL_law (va_wsS RL 103 yL_common wsL_common) := goodIn_app (goodIn_of _ (by decide +kernel)) ggL_law_L_common
set_option maxRecDepth 20000 in
theorem ggL_law_X4_common : GoodIn wsL_law wsX4_common := goodIn_r _ [413, 76, 77, 79, 250, 251, 5, 252, 108, 109, 110, 111, 112, 113, 114, 115, 398, 399, 400, 401, 433, 434, 435, 436, 437, 438, 439, 440, 441, 442, 443, 444, 445, 446, 447, 448, 449, 450, 451] (by decide +kernel) (by decide +kernel)
set_option maxRecDepth 20000 in
theorem gL_law_X4_common : GoodIn wsL_law (wsV RL 105 RX4 yX4_common wsX4_common) := goodIn_app (goodIn_of _ (by decide +kernel)) ggL_law_X4_common
set_option maxRecDepth 20000 in
theorem ggL_law_L_all : GoodIn wsL_law wsL_all := goodIn_ca (goodIn_r _ [416, 85, 417, 418, 419, 2, 420, 90, 91, 20, 25, 425, 426, 427, 428, 429, 430, 431, 432, 455, 456, 457, 458, 459, 460, 461, 462, 463] (by decide +kernel) (by decide +kernel)) (goodIn_sub (fun _ h => List.mem_append_left _ (List.mem_append_left _ (List.mem_append_left _ (List.mem_append_right _ h)))) (by decide +kernel))
set_option maxRecDepth 20000 in
theorem gL_law_L_all : GoodIn wsL_law (va_wsS RL 106 yL_all wsL_all) := goodIn_app (goodIn_of _ (by decide +kernel)) ggL_law_L_all
set_option maxRecDepth 20000 in
theorem ggL_law_X4_all : GoodIn wsL_law wsX4_all := goodIn_r _ [424, 78, 79, 134, 108, 109, 5, 110, 111, 112, 113, 114, 115, 433, 434, 435, 436, 437, 438, 439, 440, 441, 442, 443, 444, 445, 446, 447, 448, 449, 450, 451] (by decide +kernel) (by decide +kernel)
set_option maxRecDepth 20000 in
theorem gL_law_X4_all : GoodIn wsL_law (wsV RL 108 RX4 yX4_all wsX4_all) := goodIn_app (goodIn_of _ (by decide +kernel)) ggL_law_X4_all
end
section
theorem dL_begin_0 : decode cL_begin 0 = .ok (.aload_n 0, 1) := by decide +kernel
theorem dL_begin_1 : decode cL_begin 1 = .ok (.iload_n 1, 1) := by decide +kernel
theorem dL_begin_2 : decode cL_begin 2 = .ok (.iload_n 2, 1) := by decide +kernel
theorem dL_begin_3 : decode cL_begin 3 = .ok (.iload_n 3, 1) := by decide +kernel
theorem dL_begin_4 : decode cL_begin 4 = .ok (.invokevirtual 7, 3) := by decide +kernel
theorem dL_begin_7 : decode cL_begin 7 = .ok (.goto 7, 3) := by decide +kernel
theorem dL_begin_10 : decode cL_begin 10 = .ok (.astore 4, 2) := by decide +kernel
theorem dL_begin_12 : decode cL_begin 12 = .ok (.iconst 1, 1) := by decide +kernel
theorem dL_begin_13 : decode cL_begin 13 = .ok (.ireturn, 1) := by decide +kernel
theorem dL_begin_14 : decode cL_begin 14 = .ok (.iconst 0, 1) := by decide +kernel
theorem dL_begin_15 : decode cL_begin 15 = .ok (.ireturn, 1) := by decide +kernel
theorem dL_put_0 : decode cL_put 0 = .ok (.aload_n 3, 1) := by decide +kernel
theorem dL_put_1 : decode cL_put 1 = .ok (.iconst 0, 1) := by decide +kernel
theorem dL_put_2 : decode cL_put 2 = .ok (.aload_n 0, 1) := by decide +kernel
theorem dL_put_3 : decode cL_put 3 = .ok (.iload_n 1, 1) := by decide +kernel
theorem dL_put_4 : decode cL_put 4 = .ok (.iload_n 2, 1) := by decide +kernel
theorem dL_put_5 : decode cL_put 5 = .ok (.invokevirtual 15, 3) := by decide +kernel
theorem dL_put_8 : decode cL_put 8 = .ok (.i2l, 1) := by decide +kernel
theorem dL_put_9 : decode cL_put 9 = .ok (.lastore, 1) := by decide +kernel
theorem dL_put_10 : decode cL_put 10 = .ok (.goto 11, 3) := by decide +kernel
theorem dL_put_13 : decode cL_put 13 = .ok (.astore 4, 2) := by decide +kernel
theorem dL_put_15 : decode cL_put 15 = .ok (.iconst 1, 1) := by decide +kernel
theorem dL_put_16 : decode cL_put 16 = .ok (.ireturn, 1) := by decide +kernel
theorem dL_put_17 : decode cL_put 17 = .ok (.astore 4, 2) := by decide +kernel
theorem dL_put_19 : decode cL_put 19 = .ok (.iconst 2, 1) := by decide +kernel
theorem dL_put_20 : decode cL_put 20 = .ok (.ireturn, 1) := by decide +kernel
theorem dL_put_21 : decode cL_put 21 = .ok (.iconst 0, 1) := by decide +kernel
theorem dL_put_22 : decode cL_put 22 = .ok (.ireturn, 1) := by decide +kernel
theorem dL_store_0 : decode cL_store 0 = .ok (.aload_n 2, 1) := by decide +kernel
theorem dL_store_1 : decode cL_store 1 = .ok (.iconst 0, 1) := by decide +kernel
theorem dL_store_2 : decode cL_store 2 = .ok (.aload_n 0, 1) := by decide +kernel
theorem dL_store_3 : decode cL_store 3 = .ok (.iload_n 1, 1) := by decide +kernel
theorem dL_store_4 : decode cL_store 4 = .ok (.invokevirtual 21, 3) := by decide +kernel
theorem dL_store_7 : decode cL_store 7 = .ok (.i2l, 1) := by decide +kernel
theorem dL_store_8 : decode cL_store 8 = .ok (.lastore, 1) := by decide +kernel
theorem dL_store_9 : decode cL_store 9 = .ok (.goto 9, 3) := by decide +kernel
theorem dL_store_12 : decode cL_store 12 = .ok (.astore_n 3, 1) := by decide +kernel
theorem dL_store_13 : decode cL_store 13 = .ok (.iconst 1, 1) := by decide +kernel
theorem dL_store_14 : decode cL_store 14 = .ok (.ireturn, 1) := by decide +kernel
theorem dL_store_15 : decode cL_store 15 = .ok (.astore_n 3, 1) := by decide +kernel
theorem dL_store_16 : decode cL_store 16 = .ok (.iconst 2, 1) := by decide +kernel
theorem dL_store_17 : decode cL_store 17 = .ok (.ireturn, 1) := by decide +kernel
theorem dL_store_18 : decode cL_store 18 = .ok (.iconst 0, 1) := by decide +kernel
theorem dL_store_19 : decode cL_store 19 = .ok (.ireturn, 1) := by decide +kernel
theorem dL_edit_0 : decode cL_edit 0 = .ok (.aload 4, 2) := by decide +kernel
theorem dL_edit_2 : decode cL_edit 2 = .ok (.iconst 0, 1) := by decide +kernel
theorem dL_edit_3 : decode cL_edit 3 = .ok (.aload_n 0, 1) := by decide +kernel
theorem dL_edit_4 : decode cL_edit 4 = .ok (.iload_n 1, 1) := by decide +kernel
theorem dL_edit_5 : decode cL_edit 5 = .ok (.iload_n 2, 1) := by decide +kernel
theorem dL_edit_6 : decode cL_edit 6 = .ok (.iload_n 3, 1) := by decide +kernel
theorem dL_edit_7 : decode cL_edit 7 = .ok (.invokevirtual 27, 3) := by decide +kernel
theorem dL_edit_10 : decode cL_edit 10 = .ok (.i2l, 1) := by decide +kernel
theorem dL_edit_11 : decode cL_edit 11 = .ok (.lastore, 1) := by decide +kernel
theorem dL_edit_12 : decode cL_edit 12 = .ok (.goto 15, 3) := by decide +kernel
theorem dL_edit_15 : decode cL_edit 15 = .ok (.astore 5, 2) := by decide +kernel
theorem dL_edit_17 : decode cL_edit 17 = .ok (.iconst 1, 1) := by decide +kernel
theorem dL_edit_18 : decode cL_edit 18 = .ok (.ireturn, 1) := by decide +kernel
theorem dL_edit_19 : decode cL_edit 19 = .ok (.astore 5, 2) := by decide +kernel
theorem dL_edit_21 : decode cL_edit 21 = .ok (.iconst 2, 1) := by decide +kernel
theorem dL_edit_22 : decode cL_edit 22 = .ok (.ireturn, 1) := by decide +kernel
theorem dL_edit_23 : decode cL_edit 23 = .ok (.astore 5, 2) := by decide +kernel
theorem dL_edit_25 : decode cL_edit 25 = .ok (.iconst 3, 1) := by decide +kernel
theorem dL_edit_26 : decode cL_edit 26 = .ok (.ireturn, 1) := by decide +kernel
theorem dL_edit_27 : decode cL_edit 27 = .ok (.iconst 0, 1) := by decide +kernel
theorem dL_edit_28 : decode cL_edit 28 = .ok (.ireturn, 1) := by decide +kernel
theorem dL_copy_0 : decode cL_copy 0 = .ok (.aload_n 0, 1) := by decide +kernel
theorem dL_copy_1 : decode cL_copy 1 = .ok (.iload_n 1, 1) := by decide +kernel
theorem dL_copy_2 : decode cL_copy 2 = .ok (.iload_n 2, 1) := by decide +kernel
theorem dL_copy_3 : decode cL_copy 3 = .ok (.invokevirtual 31, 3) := by decide +kernel
theorem dL_copy_6 : decode cL_copy 6 = .ok (.goto 9, 3) := by decide +kernel
theorem dL_copy_9 : decode cL_copy 9 = .ok (.astore_n 3, 1) := by decide +kernel
theorem dL_copy_10 : decode cL_copy 10 = .ok (.iconst 1, 1) := by decide +kernel
theorem dL_copy_11 : decode cL_copy 11 = .ok (.ireturn, 1) := by decide +kernel
theorem dL_copy_12 : decode cL_copy 12 = .ok (.astore_n 3, 1) := by decide +kernel
theorem dL_copy_13 : decode cL_copy 13 = .ok (.iconst 2, 1) := by decide +kernel
theorem dL_copy_14 : decode cL_copy 14 = .ok (.ireturn, 1) := by decide +kernel
theorem dL_copy_15 : decode cL_copy 15 = .ok (.iconst 0, 1) := by decide +kernel
theorem dL_copy_16 : decode cL_copy 16 = .ok (.ireturn, 1) := by decide +kernel
theorem dL_size_0 : decode cL_size 0 = .ok (.aload_n 2, 1) := by decide +kernel
theorem dL_size_1 : decode cL_size 1 = .ok (.iconst 0, 1) := by decide +kernel
theorem dL_size_2 : decode cL_size 2 = .ok (.aload_n 0, 1) := by decide +kernel
theorem dL_size_3 : decode cL_size 3 = .ok (.iload_n 1, 1) := by decide +kernel
theorem dL_size_4 : decode cL_size 4 = .ok (.invokevirtual 35, 3) := by decide +kernel
theorem dL_size_7 : decode cL_size 7 = .ok (.i2l, 1) := by decide +kernel
theorem dL_size_8 : decode cL_size 8 = .ok (.lastore, 1) := by decide +kernel
theorem dL_size_9 : decode cL_size 9 = .ok (.goto 6, 3) := by decide +kernel
theorem dL_size_12 : decode cL_size 12 = .ok (.astore_n 3, 1) := by decide +kernel
theorem dL_size_13 : decode cL_size 13 = .ok (.iconst 1, 1) := by decide +kernel
theorem dL_size_14 : decode cL_size 14 = .ok (.ireturn, 1) := by decide +kernel
theorem dL_size_15 : decode cL_size 15 = .ok (.iconst 0, 1) := by decide +kernel
theorem dL_size_16 : decode cL_size 16 = .ok (.ireturn, 1) := by decide +kernel
theorem dL_get_0 : decode cL_get 0 = .ok (.aload_n 3, 1) := by decide +kernel
theorem dL_get_1 : decode cL_get 1 = .ok (.iconst 0, 1) := by decide +kernel
theorem dL_get_2 : decode cL_get 2 = .ok (.aload_n 0, 1) := by decide +kernel
theorem dL_get_3 : decode cL_get 3 = .ok (.iload_n 1, 1) := by decide +kernel
theorem dL_get_4 : decode cL_get 4 = .ok (.iload_n 2, 1) := by decide +kernel
theorem dL_get_5 : decode cL_get 5 = .ok (.invokevirtual 38, 3) := by decide +kernel
theorem dL_get_8 : decode cL_get 8 = .ok (.i2l, 1) := by decide +kernel
theorem dL_get_9 : decode cL_get 9 = .ok (.lastore, 1) := by decide +kernel
theorem dL_get_10 : decode cL_get 10 = .ok (.goto 7, 3) := by decide +kernel
theorem dL_get_13 : decode cL_get 13 = .ok (.astore 4, 2) := by decide +kernel
theorem dL_get_15 : decode cL_get 15 = .ok (.iconst 1, 1) := by decide +kernel
theorem dL_get_16 : decode cL_get 16 = .ok (.ireturn, 1) := by decide +kernel
theorem dL_get_17 : decode cL_get 17 = .ok (.iconst 0, 1) := by decide +kernel
theorem dL_get_18 : decode cL_get 18 = .ok (.ireturn, 1) := by decide +kernel
theorem dL_parts_0 : decode cL_parts 0 = .ok (.aload_n 2, 1) := by decide +kernel
theorem dL_parts_1 : decode cL_parts 1 = .ok (.iconst 0, 1) := by decide +kernel
theorem dL_parts_2 : decode cL_parts 2 = .ok (.aload_n 0, 1) := by decide +kernel
theorem dL_parts_3 : decode cL_parts 3 = .ok (.iload_n 1, 1) := by decide +kernel
theorem dL_parts_4 : decode cL_parts 4 = .ok (.invokevirtual 41, 3) := by decide +kernel
theorem dL_parts_7 : decode cL_parts 7 = .ok (.i2l, 1) := by decide +kernel
theorem dL_parts_8 : decode cL_parts 8 = .ok (.lastore, 1) := by decide +kernel
theorem dL_parts_9 : decode cL_parts 9 = .ok (.goto 6, 3) := by decide +kernel
theorem dL_parts_12 : decode cL_parts 12 = .ok (.astore_n 3, 1) := by decide +kernel
theorem dL_parts_13 : decode cL_parts 13 = .ok (.iconst 1, 1) := by decide +kernel
theorem dL_parts_14 : decode cL_parts 14 = .ok (.ireturn, 1) := by decide +kernel
theorem dL_parts_15 : decode cL_parts 15 = .ok (.iconst 0, 1) := by decide +kernel
theorem dL_parts_16 : decode cL_parts 16 = .ok (.ireturn, 1) := by decide +kernel
theorem dL_part_0 : decode cL_part 0 = .ok (.aload_n 3, 1) := by decide +kernel
theorem dL_part_1 : decode cL_part 1 = .ok (.iconst 0, 1) := by decide +kernel
theorem dL_part_2 : decode cL_part 2 = .ok (.aload_n 0, 1) := by decide +kernel
theorem dL_part_3 : decode cL_part 3 = .ok (.iload_n 1, 1) := by decide +kernel
theorem dL_part_4 : decode cL_part 4 = .ok (.iload_n 2, 1) := by decide +kernel
theorem dL_part_5 : decode cL_part 5 = .ok (.invokevirtual 44, 3) := by decide +kernel
theorem dL_part_8 : decode cL_part 8 = .ok (.i2l, 1) := by decide +kernel
theorem dL_part_9 : decode cL_part 9 = .ok (.lastore, 1) := by decide +kernel
theorem dL_part_10 : decode cL_part 10 = .ok (.goto 7, 3) := by decide +kernel
theorem dL_part_13 : decode cL_part 13 = .ok (.astore 4, 2) := by decide +kernel
theorem dL_part_15 : decode cL_part 15 = .ok (.iconst 1, 1) := by decide +kernel
theorem dL_part_16 : decode cL_part 16 = .ok (.ireturn, 1) := by decide +kernel
theorem dL_part_17 : decode cL_part 17 = .ok (.iconst 0, 1) := by decide +kernel
theorem dL_part_18 : decode cL_part 18 = .ok (.ireturn, 1) := by decide +kernel
theorem dL_about_0 : decode cL_about 0 = .ok (.aload_n 3, 1) := by decide +kernel
theorem dL_about_1 : decode cL_about 1 = .ok (.iconst 0, 1) := by decide +kernel
theorem dL_about_2 : decode cL_about 2 = .ok (.aload_n 0, 1) := by decide +kernel
theorem dL_about_3 : decode cL_about 3 = .ok (.iload_n 1, 1) := by decide +kernel
theorem dL_about_4 : decode cL_about 4 = .ok (.iload_n 2, 1) := by decide +kernel
theorem dL_about_5 : decode cL_about 5 = .ok (.invokevirtual 47, 3) := by decide +kernel
theorem dL_about_8 : decode cL_about 8 = .ok (.i2l, 1) := by decide +kernel
theorem dL_about_9 : decode cL_about 9 = .ok (.lastore, 1) := by decide +kernel
theorem dL_about_10 : decode cL_about 10 = .ok (.goto 11, 3) := by decide +kernel
theorem dL_about_13 : decode cL_about 13 = .ok (.astore 4, 2) := by decide +kernel
theorem dL_about_15 : decode cL_about 15 = .ok (.iconst 1, 1) := by decide +kernel
theorem dL_about_16 : decode cL_about 16 = .ok (.ireturn, 1) := by decide +kernel
theorem dL_about_17 : decode cL_about 17 = .ok (.astore 4, 2) := by decide +kernel
theorem dL_about_19 : decode cL_about 19 = .ok (.iconst 2, 1) := by decide +kernel
theorem dL_about_20 : decode cL_about 20 = .ok (.ireturn, 1) := by decide +kernel
theorem dL_about_21 : decode cL_about 21 = .ok (.iconst 0, 1) := by decide +kernel
theorem dL_about_22 : decode cL_about 22 = .ok (.ireturn, 1) := by decide +kernel
theorem dL_common_0 : decode cL_common 0 = .ok (.aload_n 3, 1) := by decide +kernel
theorem dL_common_1 : decode cL_common 1 = .ok (.iconst 0, 1) := by decide +kernel
theorem dL_common_2 : decode cL_common 2 = .ok (.aload_n 0, 1) := by decide +kernel
theorem dL_common_3 : decode cL_common 3 = .ok (.iload_n 1, 1) := by decide +kernel
theorem dL_common_4 : decode cL_common 4 = .ok (.iload_n 2, 1) := by decide +kernel
theorem dL_common_5 : decode cL_common 5 = .ok (.invokevirtual 52, 3) := by decide +kernel
theorem dL_common_8 : decode cL_common 8 = .ok (.i2l, 1) := by decide +kernel
theorem dL_common_9 : decode cL_common 9 = .ok (.lastore, 1) := by decide +kernel
theorem dL_common_10 : decode cL_common 10 = .ok (.goto 7, 3) := by decide +kernel
theorem dL_common_13 : decode cL_common 13 = .ok (.astore 4, 2) := by decide +kernel
theorem dL_common_15 : decode cL_common 15 = .ok (.iconst 1, 1) := by decide +kernel
theorem dL_common_16 : decode cL_common 16 = .ok (.ireturn, 1) := by decide +kernel
theorem dL_common_17 : decode cL_common 17 = .ok (.iconst 0, 1) := by decide +kernel
theorem dL_common_18 : decode cL_common 18 = .ok (.ireturn, 1) := by decide +kernel
theorem dL_all_0 : decode cL_all 0 = .ok (.aload_n 2, 1) := by decide +kernel
theorem dL_all_1 : decode cL_all 1 = .ok (.iconst 0, 1) := by decide +kernel
theorem dL_all_2 : decode cL_all 2 = .ok (.aload_n 0, 1) := by decide +kernel
theorem dL_all_3 : decode cL_all 3 = .ok (.iload_n 1, 1) := by decide +kernel
theorem dL_all_4 : decode cL_all 4 = .ok (.invokevirtual 55, 3) := by decide +kernel
theorem dL_all_7 : decode cL_all 7 = .ok (.i2l, 1) := by decide +kernel
theorem dL_all_8 : decode cL_all 8 = .ok (.lastore, 1) := by decide +kernel
theorem dL_all_9 : decode cL_all 9 = .ok (.goto 6, 3) := by decide +kernel
theorem dL_all_12 : decode cL_all 12 = .ok (.astore_n 3, 1) := by decide +kernel
theorem dL_all_13 : decode cL_all 13 = .ok (.iconst 1, 1) := by decide +kernel
theorem dL_all_14 : decode cL_all 14 = .ok (.ireturn, 1) := by decide +kernel
theorem dL_all_15 : decode cL_all 15 = .ok (.iconst 0, 1) := by decide +kernel
theorem dL_all_16 : decode cL_all 16 = .ok (.ireturn, 1) := by decide +kernel
theorem dL_law_0 : decode cL_law 0 = .ok (.new 8, 3) := by decide +kernel
theorem dL_law_3 : decode cL_law 3 = .ok (.dup, 1) := by decide +kernel
theorem dL_law_4 : decode cL_law 4 = .ok (.invokespecial 58, 3) := by decide +kernel
theorem dL_law_7 : decode cL_law 7 = .ok (.astore_n 1, 1) := by decide +kernel
theorem dL_law_8 : decode cL_law 8 = .ok (.new 59, 3) := by decide +kernel
theorem dL_law_11 : decode cL_law 11 = .ok (.dup, 1) := by decide +kernel
theorem dL_law_12 : decode cL_law 12 = .ok (.invokespecial 61, 3) := by decide +kernel
theorem dL_law_15 : decode cL_law 15 = .ok (.astore_n 2, 1) := by decide +kernel
theorem dL_law_16 : decode cL_law 16 = .ok (.iconst 1, 1) := by decide +kernel
theorem dL_law_17 : decode cL_law 17 = .ok (.newarray .long, 2) := by decide +kernel
theorem dL_law_19 : decode cL_law 19 = .ok (.astore_n 3, 1) := by decide +kernel
theorem dL_law_20 : decode cL_law 20 = .ok (.iconst 0, 1) := by decide +kernel
theorem dL_law_21 : decode cL_law 21 = .ok (.istore 4, 2) := by decide +kernel
theorem dL_law_23 : decode cL_law 23 = .ok (.iload 4, 2) := by decide +kernel
theorem dL_law_25 : decode cL_law 25 = .ok (.aload_n 0, 1) := by decide +kernel
theorem dL_law_26 : decode cL_law 26 = .ok (.arraylength, 1) := by decide +kernel
theorem dL_law_27 : decode cL_law 27 = .ok (.iconst 4, 1) := by decide +kernel
theorem dL_law_28 : decode cL_law 28 = .ok (.isub, 1) := by decide +kernel
theorem dL_law_29 : decode cL_law 29 = .ok (.if_icmp .gt 829, 3) := by decide +kernel
theorem dL_law_32 : decode cL_law 32 = .ok (.aload_n 0, 1) := by decide +kernel
theorem dL_law_33 : decode cL_law 33 = .ok (.iload 4, 2) := by decide +kernel
theorem dL_law_35 : decode cL_law 35 = .ok (.iaload, 1) := by decide +kernel
theorem dL_law_36 : decode cL_law 36 = .ok (.bipush 15, 2) := by decide +kernel
theorem dL_law_38 : decode cL_law 38 = .ok (.iand, 1) := by decide +kernel
theorem dL_law_39 : decode cL_law 39 = .ok (.tableswitch 813 0 11 #[61, 121, 189, 245, 325, 373, 429, 497, 553, 621, 689, 757], 61) := by decide +kernel
theorem dL_law_100 : decode cL_law 100 = .ok (.aload_n 1, 1) := by decide +kernel
theorem dL_law_101 : decode cL_law 101 = .ok (.aload_n 0, 1) := by decide +kernel
theorem dL_law_102 : decode cL_law 102 = .ok (.iload 4, 2) := by decide +kernel
theorem dL_law_104 : decode cL_law 104 = .ok (.iconst 1, 1) := by decide +kernel
theorem dL_law_105 : decode cL_law 105 = .ok (.iadd, 1) := by decide +kernel
theorem dL_law_106 : decode cL_law 106 = .ok (.iaload, 1) := by decide +kernel
theorem dL_law_107 : decode cL_law 107 = .ok (.aload_n 0, 1) := by decide +kernel
theorem dL_law_108 : decode cL_law 108 = .ok (.iload 4, 2) := by decide +kernel
theorem dL_law_110 : decode cL_law 110 = .ok (.iconst 2, 1) := by decide +kernel
theorem dL_law_111 : decode cL_law 111 = .ok (.iadd, 1) := by decide +kernel
theorem dL_law_112 : decode cL_law 112 = .ok (.iaload, 1) := by decide +kernel
theorem dL_law_113 : decode cL_law 113 = .ok (.aload_n 0, 1) := by decide +kernel
theorem dL_law_114 : decode cL_law 114 = .ok (.iload 4, 2) := by decide +kernel
theorem dL_law_116 : decode cL_law 116 = .ok (.iconst 3, 1) := by decide +kernel
theorem dL_law_117 : decode cL_law 117 = .ok (.iadd, 1) := by decide +kernel
theorem dL_law_118 : decode cL_law 118 = .ok (.iaload, 1) := by decide +kernel
theorem dL_law_119 : decode cL_law 119 = .ok (.invokestatic 62, 3) := by decide +kernel
theorem dL_law_122 : decode cL_law 122 = .ok (.istore 5, 2) := by decide +kernel
theorem dL_law_124 : decode cL_law 124 = .ok (.aload_n 2, 1) := by decide +kernel
theorem dL_law_125 : decode cL_law 125 = .ok (.aload_n 0, 1) := by decide +kernel
theorem dL_law_126 : decode cL_law 126 = .ok (.iload 4, 2) := by decide +kernel
theorem dL_law_128 : decode cL_law 128 = .ok (.iconst 1, 1) := by decide +kernel
theorem dL_law_129 : decode cL_law 129 = .ok (.iadd, 1) := by decide +kernel
theorem dL_law_130 : decode cL_law 130 = .ok (.iaload, 1) := by decide +kernel
theorem dL_law_131 : decode cL_law 131 = .ok (.aload_n 0, 1) := by decide +kernel
theorem dL_law_132 : decode cL_law 132 = .ok (.iload 4, 2) := by decide +kernel
theorem dL_law_134 : decode cL_law 134 = .ok (.iconst 2, 1) := by decide +kernel
theorem dL_law_135 : decode cL_law 135 = .ok (.iadd, 1) := by decide +kernel
theorem dL_law_136 : decode cL_law 136 = .ok (.iaload, 1) := by decide +kernel
theorem dL_law_137 : decode cL_law 137 = .ok (.aload_n 0, 1) := by decide +kernel
theorem dL_law_138 : decode cL_law 138 = .ok (.iload 4, 2) := by decide +kernel
theorem dL_law_140 : decode cL_law 140 = .ok (.iconst 3, 1) := by decide +kernel
theorem dL_law_141 : decode cL_law 141 = .ok (.iadd, 1) := by decide +kernel
theorem dL_law_142 : decode cL_law 142 = .ok (.iaload, 1) := by decide +kernel
theorem dL_law_143 : decode cL_law 143 = .ok (.invokevirtual 67, 3) := by decide +kernel
theorem dL_law_146 : decode cL_law 146 = .ok (.aload_n 2, 1) := by decide +kernel
theorem dL_law_147 : decode cL_law 147 = .ok (.invokevirtual 68, 3) := by decide +kernel
theorem dL_law_150 : decode cL_law 150 = .ok (.iload 5, 2) := by decide +kernel
theorem dL_law_152 : decode cL_law 152 = .ok (.if_icmp .eq 5, 3) := by decide +kernel
theorem dL_law_155 : decode cL_law 155 = .ok (.iconst 0, 1) := by decide +kernel
theorem dL_law_156 : decode cL_law 156 = .ok (.ireturn, 1) := by decide +kernel
theorem dL_law_157 : decode cL_law 157 = .ok (.goto 695, 3) := by decide +kernel
theorem dL_law_160 : decode cL_law 160 = .ok (.aload_n 1, 1) := by decide +kernel
theorem dL_law_161 : decode cL_law 161 = .ok (.aload_n 0, 1) := by decide +kernel
theorem dL_law_162 : decode cL_law 162 = .ok (.iload 4, 2) := by decide +kernel
theorem dL_law_164 : decode cL_law 164 = .ok (.iconst 1, 1) := by decide +kernel
theorem dL_law_165 : decode cL_law 165 = .ok (.iadd, 1) := by decide +kernel
theorem dL_law_166 : decode cL_law 166 = .ok (.iaload, 1) := by decide +kernel
theorem dL_law_167 : decode cL_law 167 = .ok (.aload_n 0, 1) := by decide +kernel
theorem dL_law_168 : decode cL_law 168 = .ok (.iload 4, 2) := by decide +kernel
theorem dL_law_170 : decode cL_law 170 = .ok (.iconst 2, 1) := by decide +kernel
theorem dL_law_171 : decode cL_law 171 = .ok (.iadd, 1) := by decide +kernel
theorem dL_law_172 : decode cL_law 172 = .ok (.iaload, 1) := by decide +kernel
theorem dL_law_173 : decode cL_law 173 = .ok (.aload_n 3, 1) := by decide +kernel
theorem dL_law_174 : decode cL_law 174 = .ok (.invokestatic 72, 3) := by decide +kernel
theorem dL_law_177 : decode cL_law 177 = .ok (.istore 5, 2) := by decide +kernel
theorem dL_law_179 : decode cL_law 179 = .ok (.aload_n 2, 1) := by decide +kernel
theorem dL_law_180 : decode cL_law 180 = .ok (.aload_n 0, 1) := by decide +kernel
theorem dL_law_181 : decode cL_law 181 = .ok (.iload 4, 2) := by decide +kernel
theorem dL_law_183 : decode cL_law 183 = .ok (.iconst 1, 1) := by decide +kernel
theorem dL_law_184 : decode cL_law 184 = .ok (.iadd, 1) := by decide +kernel
theorem dL_law_185 : decode cL_law 185 = .ok (.iaload, 1) := by decide +kernel
theorem dL_law_186 : decode cL_law 186 = .ok (.aload_n 0, 1) := by decide +kernel
theorem dL_law_187 : decode cL_law 187 = .ok (.iload 4, 2) := by decide +kernel
theorem dL_law_189 : decode cL_law 189 = .ok (.iconst 2, 1) := by decide +kernel
theorem dL_law_190 : decode cL_law 190 = .ok (.iadd, 1) := by decide +kernel
theorem dL_law_191 : decode cL_law 191 = .ok (.iaload, 1) := by decide +kernel
theorem dL_law_192 : decode cL_law 192 = .ok (.invokevirtual 75, 3) := by decide +kernel
theorem dL_law_195 : decode cL_law 195 = .ok (.istore 6, 2) := by decide +kernel
theorem dL_law_197 : decode cL_law 197 = .ok (.aload_n 2, 1) := by decide +kernel
theorem dL_law_198 : decode cL_law 198 = .ok (.invokevirtual 68, 3) := by decide +kernel
theorem dL_law_201 : decode cL_law 201 = .ok (.iload 5, 2) := by decide +kernel
theorem dL_law_203 : decode cL_law 203 = .ok (.if_icmp .eq 5, 3) := by decide +kernel
theorem dL_law_206 : decode cL_law 206 = .ok (.iconst 0, 1) := by decide +kernel
theorem dL_law_207 : decode cL_law 207 = .ok (.ireturn, 1) := by decide +kernel
theorem dL_law_208 : decode cL_law 208 = .ok (.iload 5, 2) := by decide +kernel
theorem dL_law_210 : decode cL_law 210 = .ok (.ifCond .ne 15, 3) := by decide +kernel
theorem dL_law_213 : decode cL_law 213 = .ok (.aload_n 3, 1) := by decide +kernel
theorem dL_law_214 : decode cL_law 214 = .ok (.iconst 0, 1) := by decide +kernel
theorem dL_law_215 : decode cL_law 215 = .ok (.laload, 1) := by decide +kernel
theorem dL_law_216 : decode cL_law 216 = .ok (.iload 6, 2) := by decide +kernel
theorem dL_law_218 : decode cL_law 218 = .ok (.i2l, 1) := by decide +kernel
theorem dL_law_219 : decode cL_law 219 = .ok (.lcmp, 1) := by decide +kernel
theorem dL_law_220 : decode cL_law 220 = .ok (.ifCond .eq 5, 3) := by decide +kernel
theorem dL_law_223 : decode cL_law 223 = .ok (.iconst 0, 1) := by decide +kernel
theorem dL_law_224 : decode cL_law 224 = .ok (.ireturn, 1) := by decide +kernel
theorem dL_law_225 : decode cL_law 225 = .ok (.goto 627, 3) := by decide +kernel
theorem dL_law_228 : decode cL_law 228 = .ok (.aload_n 1, 1) := by decide +kernel
theorem dL_law_229 : decode cL_law 229 = .ok (.aload_n 0, 1) := by decide +kernel
theorem dL_law_230 : decode cL_law 230 = .ok (.iload 4, 2) := by decide +kernel
theorem dL_law_232 : decode cL_law 232 = .ok (.iconst 1, 1) := by decide +kernel
theorem dL_law_233 : decode cL_law 233 = .ok (.iadd, 1) := by decide +kernel
theorem dL_law_234 : decode cL_law 234 = .ok (.iaload, 1) := by decide +kernel
theorem dL_law_235 : decode cL_law 235 = .ok (.aload_n 3, 1) := by decide +kernel
theorem dL_law_236 : decode cL_law 236 = .ok (.invokestatic 76, 3) := by decide +kernel
theorem dL_law_239 : decode cL_law 239 = .ok (.istore 5, 2) := by decide +kernel
theorem dL_law_241 : decode cL_law 241 = .ok (.aload_n 2, 1) := by decide +kernel
theorem dL_law_242 : decode cL_law 242 = .ok (.aload_n 0, 1) := by decide +kernel
theorem dL_law_243 : decode cL_law 243 = .ok (.iload 4, 2) := by decide +kernel
theorem dL_law_245 : decode cL_law 245 = .ok (.iconst 1, 1) := by decide +kernel
theorem dL_law_246 : decode cL_law 246 = .ok (.iadd, 1) := by decide +kernel
theorem dL_law_247 : decode cL_law 247 = .ok (.iaload, 1) := by decide +kernel
theorem dL_law_248 : decode cL_law 248 = .ok (.invokevirtual 79, 3) := by decide +kernel
theorem dL_law_251 : decode cL_law 251 = .ok (.istore 6, 2) := by decide +kernel
theorem dL_law_253 : decode cL_law 253 = .ok (.aload_n 2, 1) := by decide +kernel
theorem dL_law_254 : decode cL_law 254 = .ok (.invokevirtual 68, 3) := by decide +kernel
theorem dL_law_257 : decode cL_law 257 = .ok (.iload 5, 2) := by decide +kernel
theorem dL_law_259 : decode cL_law 259 = .ok (.if_icmp .eq 5, 3) := by decide +kernel
theorem dL_law_262 : decode cL_law 262 = .ok (.iconst 0, 1) := by decide +kernel
theorem dL_law_263 : decode cL_law 263 = .ok (.ireturn, 1) := by decide +kernel
theorem dL_law_264 : decode cL_law 264 = .ok (.iload 5, 2) := by decide +kernel
theorem dL_law_266 : decode cL_law 266 = .ok (.ifCond .ne 15, 3) := by decide +kernel
theorem dL_law_269 : decode cL_law 269 = .ok (.aload_n 3, 1) := by decide +kernel
theorem dL_law_270 : decode cL_law 270 = .ok (.iconst 0, 1) := by decide +kernel
theorem dL_law_271 : decode cL_law 271 = .ok (.laload, 1) := by decide +kernel
theorem dL_law_272 : decode cL_law 272 = .ok (.iload 6, 2) := by decide +kernel
theorem dL_law_274 : decode cL_law 274 = .ok (.i2l, 1) := by decide +kernel
theorem dL_law_275 : decode cL_law 275 = .ok (.lcmp, 1) := by decide +kernel
theorem dL_law_276 : decode cL_law 276 = .ok (.ifCond .eq 5, 3) := by decide +kernel
theorem dL_law_279 : decode cL_law 279 = .ok (.iconst 0, 1) := by decide +kernel
theorem dL_law_280 : decode cL_law 280 = .ok (.ireturn, 1) := by decide +kernel
theorem dL_law_281 : decode cL_law 281 = .ok (.goto 571, 3) := by decide +kernel
theorem dL_law_284 : decode cL_law 284 = .ok (.aload_n 1, 1) := by decide +kernel
theorem dL_law_285 : decode cL_law 285 = .ok (.aload_n 0, 1) := by decide +kernel
theorem dL_law_286 : decode cL_law 286 = .ok (.iload 4, 2) := by decide +kernel
theorem dL_law_288 : decode cL_law 288 = .ok (.iconst 1, 1) := by decide +kernel
theorem dL_law_289 : decode cL_law 289 = .ok (.iadd, 1) := by decide +kernel
theorem dL_law_290 : decode cL_law 290 = .ok (.iaload, 1) := by decide +kernel
theorem dL_law_291 : decode cL_law 291 = .ok (.aload_n 0, 1) := by decide +kernel
theorem dL_law_292 : decode cL_law 292 = .ok (.iload 4, 2) := by decide +kernel
theorem dL_law_294 : decode cL_law 294 = .ok (.iconst 2, 1) := by decide +kernel
theorem dL_law_295 : decode cL_law 295 = .ok (.iadd, 1) := by decide +kernel
theorem dL_law_296 : decode cL_law 296 = .ok (.iaload, 1) := by decide +kernel
theorem dL_law_297 : decode cL_law 297 = .ok (.aload_n 0, 1) := by decide +kernel
theorem dL_law_298 : decode cL_law 298 = .ok (.iload 4, 2) := by decide +kernel
theorem dL_law_300 : decode cL_law 300 = .ok (.iconst 3, 1) := by decide +kernel
theorem dL_law_301 : decode cL_law 301 = .ok (.iadd, 1) := by decide +kernel
theorem dL_law_302 : decode cL_law 302 = .ok (.iaload, 1) := by decide +kernel
theorem dL_law_303 : decode cL_law 303 = .ok (.aload_n 3, 1) := by decide +kernel
theorem dL_law_304 : decode cL_law 304 = .ok (.invokestatic 80, 3) := by decide +kernel
theorem dL_law_307 : decode cL_law 307 = .ok (.istore 5, 2) := by decide +kernel
theorem dL_law_309 : decode cL_law 309 = .ok (.aload_n 2, 1) := by decide +kernel
theorem dL_law_310 : decode cL_law 310 = .ok (.aload_n 0, 1) := by decide +kernel
theorem dL_law_311 : decode cL_law 311 = .ok (.iload 4, 2) := by decide +kernel
theorem dL_law_313 : decode cL_law 313 = .ok (.iconst 1, 1) := by decide +kernel
theorem dL_law_314 : decode cL_law 314 = .ok (.iadd, 1) := by decide +kernel
theorem dL_law_315 : decode cL_law 315 = .ok (.iaload, 1) := by decide +kernel
theorem dL_law_316 : decode cL_law 316 = .ok (.aload_n 0, 1) := by decide +kernel
theorem dL_law_317 : decode cL_law 317 = .ok (.iload 4, 2) := by decide +kernel
theorem dL_law_319 : decode cL_law 319 = .ok (.iconst 2, 1) := by decide +kernel
theorem dL_law_320 : decode cL_law 320 = .ok (.iadd, 1) := by decide +kernel
theorem dL_law_321 : decode cL_law 321 = .ok (.iaload, 1) := by decide +kernel
theorem dL_law_322 : decode cL_law 322 = .ok (.aload_n 0, 1) := by decide +kernel
theorem dL_law_323 : decode cL_law 323 = .ok (.iload 4, 2) := by decide +kernel
theorem dL_law_325 : decode cL_law 325 = .ok (.iconst 3, 1) := by decide +kernel
theorem dL_law_326 : decode cL_law 326 = .ok (.iadd, 1) := by decide +kernel
theorem dL_law_327 : decode cL_law 327 = .ok (.iaload, 1) := by decide +kernel
theorem dL_law_328 : decode cL_law 328 = .ok (.invokevirtual 83, 3) := by decide +kernel
theorem dL_law_331 : decode cL_law 331 = .ok (.istore 6, 2) := by decide +kernel
theorem dL_law_333 : decode cL_law 333 = .ok (.aload_n 2, 1) := by decide +kernel
theorem dL_law_334 : decode cL_law 334 = .ok (.invokevirtual 68, 3) := by decide +kernel
theorem dL_law_337 : decode cL_law 337 = .ok (.iload 5, 2) := by decide +kernel
theorem dL_law_339 : decode cL_law 339 = .ok (.if_icmp .eq 5, 3) := by decide +kernel
theorem dL_law_342 : decode cL_law 342 = .ok (.iconst 0, 1) := by decide +kernel
theorem dL_law_343 : decode cL_law 343 = .ok (.ireturn, 1) := by decide +kernel
theorem dL_law_344 : decode cL_law 344 = .ok (.iload 5, 2) := by decide +kernel
theorem dL_law_346 : decode cL_law 346 = .ok (.ifCond .ne 15, 3) := by decide +kernel
theorem dL_law_349 : decode cL_law 349 = .ok (.aload_n 3, 1) := by decide +kernel
theorem dL_law_350 : decode cL_law 350 = .ok (.iconst 0, 1) := by decide +kernel
theorem dL_law_351 : decode cL_law 351 = .ok (.laload, 1) := by decide +kernel
theorem dL_law_352 : decode cL_law 352 = .ok (.iload 6, 2) := by decide +kernel
theorem dL_law_354 : decode cL_law 354 = .ok (.i2l, 1) := by decide +kernel
theorem dL_law_355 : decode cL_law 355 = .ok (.lcmp, 1) := by decide +kernel
theorem dL_law_356 : decode cL_law 356 = .ok (.ifCond .eq 5, 3) := by decide +kernel
theorem dL_law_359 : decode cL_law 359 = .ok (.iconst 0, 1) := by decide +kernel
theorem dL_law_360 : decode cL_law 360 = .ok (.ireturn, 1) := by decide +kernel
theorem dL_law_361 : decode cL_law 361 = .ok (.goto 491, 3) := by decide +kernel
theorem dL_law_364 : decode cL_law 364 = .ok (.aload_n 1, 1) := by decide +kernel
theorem dL_law_365 : decode cL_law 365 = .ok (.aload_n 0, 1) := by decide +kernel
theorem dL_law_366 : decode cL_law 366 = .ok (.iload 4, 2) := by decide +kernel
theorem dL_law_368 : decode cL_law 368 = .ok (.iconst 1, 1) := by decide +kernel
theorem dL_law_369 : decode cL_law 369 = .ok (.iadd, 1) := by decide +kernel
theorem dL_law_370 : decode cL_law 370 = .ok (.iaload, 1) := by decide +kernel
theorem dL_law_371 : decode cL_law 371 = .ok (.aload_n 0, 1) := by decide +kernel
theorem dL_law_372 : decode cL_law 372 = .ok (.iload 4, 2) := by decide +kernel
theorem dL_law_374 : decode cL_law 374 = .ok (.iconst 2, 1) := by decide +kernel
theorem dL_law_375 : decode cL_law 375 = .ok (.iadd, 1) := by decide +kernel
theorem dL_law_376 : decode cL_law 376 = .ok (.iaload, 1) := by decide +kernel
theorem dL_law_377 : decode cL_law 377 = .ok (.invokestatic 84, 3) := by decide +kernel
theorem dL_law_380 : decode cL_law 380 = .ok (.istore 5, 2) := by decide +kernel
theorem dL_law_382 : decode cL_law 382 = .ok (.aload_n 2, 1) := by decide +kernel
theorem dL_law_383 : decode cL_law 383 = .ok (.aload_n 0, 1) := by decide +kernel
theorem dL_law_384 : decode cL_law 384 = .ok (.iload 4, 2) := by decide +kernel
theorem dL_law_386 : decode cL_law 386 = .ok (.iconst 1, 1) := by decide +kernel
theorem dL_law_387 : decode cL_law 387 = .ok (.iadd, 1) := by decide +kernel
theorem dL_law_388 : decode cL_law 388 = .ok (.iaload, 1) := by decide +kernel
theorem dL_law_389 : decode cL_law 389 = .ok (.aload_n 0, 1) := by decide +kernel
theorem dL_law_390 : decode cL_law 390 = .ok (.iload 4, 2) := by decide +kernel
theorem dL_law_392 : decode cL_law 392 = .ok (.iconst 2, 1) := by decide +kernel
theorem dL_law_393 : decode cL_law 393 = .ok (.iadd, 1) := by decide +kernel
theorem dL_law_394 : decode cL_law 394 = .ok (.iaload, 1) := by decide +kernel
theorem dL_law_395 : decode cL_law 395 = .ok (.invokevirtual 87, 3) := by decide +kernel
theorem dL_law_398 : decode cL_law 398 = .ok (.aload_n 2, 1) := by decide +kernel
theorem dL_law_399 : decode cL_law 399 = .ok (.invokevirtual 68, 3) := by decide +kernel
theorem dL_law_402 : decode cL_law 402 = .ok (.iload 5, 2) := by decide +kernel
theorem dL_law_404 : decode cL_law 404 = .ok (.if_icmp .eq 5, 3) := by decide +kernel
theorem dL_law_407 : decode cL_law 407 = .ok (.iconst 0, 1) := by decide +kernel
theorem dL_law_408 : decode cL_law 408 = .ok (.ireturn, 1) := by decide +kernel
theorem dL_law_409 : decode cL_law 409 = .ok (.goto 443, 3) := by decide +kernel
theorem dL_law_412 : decode cL_law 412 = .ok (.aload_n 1, 1) := by decide +kernel
theorem dL_law_413 : decode cL_law 413 = .ok (.aload_n 0, 1) := by decide +kernel
theorem dL_law_414 : decode cL_law 414 = .ok (.iload 4, 2) := by decide +kernel
theorem dL_law_416 : decode cL_law 416 = .ok (.iconst 1, 1) := by decide +kernel
theorem dL_law_417 : decode cL_law 417 = .ok (.iadd, 1) := by decide +kernel
theorem dL_law_418 : decode cL_law 418 = .ok (.iaload, 1) := by decide +kernel
theorem dL_law_419 : decode cL_law 419 = .ok (.aload_n 3, 1) := by decide +kernel
theorem dL_law_420 : decode cL_law 420 = .ok (.invokestatic 88, 3) := by decide +kernel
theorem dL_law_423 : decode cL_law 423 = .ok (.istore 5, 2) := by decide +kernel
theorem dL_law_425 : decode cL_law 425 = .ok (.aload_n 2, 1) := by decide +kernel
theorem dL_law_426 : decode cL_law 426 = .ok (.aload_n 0, 1) := by decide +kernel
theorem dL_law_427 : decode cL_law 427 = .ok (.iload 4, 2) := by decide +kernel
theorem dL_law_429 : decode cL_law 429 = .ok (.iconst 1, 1) := by decide +kernel
theorem dL_law_430 : decode cL_law 430 = .ok (.iadd, 1) := by decide +kernel
theorem dL_law_431 : decode cL_law 431 = .ok (.iaload, 1) := by decide +kernel
theorem dL_law_432 : decode cL_law 432 = .ok (.invokevirtual 90, 3) := by decide +kernel
theorem dL_law_435 : decode cL_law 435 = .ok (.istore 6, 2) := by decide +kernel
theorem dL_law_437 : decode cL_law 437 = .ok (.aload_n 2, 1) := by decide +kernel
theorem dL_law_438 : decode cL_law 438 = .ok (.invokevirtual 68, 3) := by decide +kernel
theorem dL_law_441 : decode cL_law 441 = .ok (.iload 5, 2) := by decide +kernel
theorem dL_law_443 : decode cL_law 443 = .ok (.if_icmp .eq 5, 3) := by decide +kernel
theorem dL_law_446 : decode cL_law 446 = .ok (.iconst 0, 1) := by decide +kernel
theorem dL_law_447 : decode cL_law 447 = .ok (.ireturn, 1) := by decide +kernel
theorem dL_law_448 : decode cL_law 448 = .ok (.iload 5, 2) := by decide +kernel
theorem dL_law_450 : decode cL_law 450 = .ok (.ifCond .ne 15, 3) := by decide +kernel
theorem dL_law_453 : decode cL_law 453 = .ok (.aload_n 3, 1) := by decide +kernel
theorem dL_law_454 : decode cL_law 454 = .ok (.iconst 0, 1) := by decide +kernel
theorem dL_law_455 : decode cL_law 455 = .ok (.laload, 1) := by decide +kernel
theorem dL_law_456 : decode cL_law 456 = .ok (.iload 6, 2) := by decide +kernel
theorem dL_law_458 : decode cL_law 458 = .ok (.i2l, 1) := by decide +kernel
theorem dL_law_459 : decode cL_law 459 = .ok (.lcmp, 1) := by decide +kernel
theorem dL_law_460 : decode cL_law 460 = .ok (.ifCond .eq 5, 3) := by decide +kernel
theorem dL_law_463 : decode cL_law 463 = .ok (.iconst 0, 1) := by decide +kernel
theorem dL_law_464 : decode cL_law 464 = .ok (.ireturn, 1) := by decide +kernel
theorem dL_law_465 : decode cL_law 465 = .ok (.goto 387, 3) := by decide +kernel
theorem dL_law_468 : decode cL_law 468 = .ok (.aload_n 1, 1) := by decide +kernel
theorem dL_law_469 : decode cL_law 469 = .ok (.aload_n 0, 1) := by decide +kernel
theorem dL_law_470 : decode cL_law 470 = .ok (.iload 4, 2) := by decide +kernel
theorem dL_law_472 : decode cL_law 472 = .ok (.iconst 1, 1) := by decide +kernel
theorem dL_law_473 : decode cL_law 473 = .ok (.iadd, 1) := by decide +kernel
theorem dL_law_474 : decode cL_law 474 = .ok (.iaload, 1) := by decide +kernel
theorem dL_law_475 : decode cL_law 475 = .ok (.aload_n 0, 1) := by decide +kernel
theorem dL_law_476 : decode cL_law 476 = .ok (.iload 4, 2) := by decide +kernel
theorem dL_law_478 : decode cL_law 478 = .ok (.iconst 2, 1) := by decide +kernel
theorem dL_law_479 : decode cL_law 479 = .ok (.iadd, 1) := by decide +kernel
theorem dL_law_480 : decode cL_law 480 = .ok (.iaload, 1) := by decide +kernel
theorem dL_law_481 : decode cL_law 481 = .ok (.aload_n 3, 1) := by decide +kernel
theorem dL_law_482 : decode cL_law 482 = .ok (.invokestatic 91, 3) := by decide +kernel
theorem dL_law_485 : decode cL_law 485 = .ok (.istore 5, 2) := by decide +kernel
theorem dL_law_487 : decode cL_law 487 = .ok (.aload_n 2, 1) := by decide +kernel
theorem dL_law_488 : decode cL_law 488 = .ok (.aload_n 0, 1) := by decide +kernel
theorem dL_law_489 : decode cL_law 489 = .ok (.iload 4, 2) := by decide +kernel
theorem dL_law_491 : decode cL_law 491 = .ok (.iconst 1, 1) := by decide +kernel
theorem dL_law_492 : decode cL_law 492 = .ok (.iadd, 1) := by decide +kernel
theorem dL_law_493 : decode cL_law 493 = .ok (.iaload, 1) := by decide +kernel
theorem dL_law_494 : decode cL_law 494 = .ok (.aload_n 0, 1) := by decide +kernel
theorem dL_law_495 : decode cL_law 495 = .ok (.iload 4, 2) := by decide +kernel
theorem dL_law_497 : decode cL_law 497 = .ok (.iconst 2, 1) := by decide +kernel
theorem dL_law_498 : decode cL_law 498 = .ok (.iadd, 1) := by decide +kernel
theorem dL_law_499 : decode cL_law 499 = .ok (.iaload, 1) := by decide +kernel
theorem dL_law_500 : decode cL_law 500 = .ok (.invokevirtual 93, 3) := by decide +kernel
theorem dL_law_503 : decode cL_law 503 = .ok (.istore 6, 2) := by decide +kernel
theorem dL_law_505 : decode cL_law 505 = .ok (.aload_n 2, 1) := by decide +kernel
theorem dL_law_506 : decode cL_law 506 = .ok (.invokevirtual 68, 3) := by decide +kernel
theorem dL_law_509 : decode cL_law 509 = .ok (.iload 5, 2) := by decide +kernel
theorem dL_law_511 : decode cL_law 511 = .ok (.if_icmp .eq 5, 3) := by decide +kernel
theorem dL_law_514 : decode cL_law 514 = .ok (.iconst 0, 1) := by decide +kernel
theorem dL_law_515 : decode cL_law 515 = .ok (.ireturn, 1) := by decide +kernel
theorem dL_law_516 : decode cL_law 516 = .ok (.iload 5, 2) := by decide +kernel
theorem dL_law_518 : decode cL_law 518 = .ok (.ifCond .ne 15, 3) := by decide +kernel
theorem dL_law_521 : decode cL_law 521 = .ok (.aload_n 3, 1) := by decide +kernel
theorem dL_law_522 : decode cL_law 522 = .ok (.iconst 0, 1) := by decide +kernel
theorem dL_law_523 : decode cL_law 523 = .ok (.laload, 1) := by decide +kernel
theorem dL_law_524 : decode cL_law 524 = .ok (.iload 6, 2) := by decide +kernel
theorem dL_law_526 : decode cL_law 526 = .ok (.i2l, 1) := by decide +kernel
theorem dL_law_527 : decode cL_law 527 = .ok (.lcmp, 1) := by decide +kernel
theorem dL_law_528 : decode cL_law 528 = .ok (.ifCond .eq 5, 3) := by decide +kernel
theorem dL_law_531 : decode cL_law 531 = .ok (.iconst 0, 1) := by decide +kernel
theorem dL_law_532 : decode cL_law 532 = .ok (.ireturn, 1) := by decide +kernel
theorem dL_law_533 : decode cL_law 533 = .ok (.goto 319, 3) := by decide +kernel
theorem dL_law_536 : decode cL_law 536 = .ok (.aload_n 1, 1) := by decide +kernel
theorem dL_law_537 : decode cL_law 537 = .ok (.aload_n 0, 1) := by decide +kernel
theorem dL_law_538 : decode cL_law 538 = .ok (.iload 4, 2) := by decide +kernel
theorem dL_law_540 : decode cL_law 540 = .ok (.iconst 1, 1) := by decide +kernel
theorem dL_law_541 : decode cL_law 541 = .ok (.iadd, 1) := by decide +kernel
theorem dL_law_542 : decode cL_law 542 = .ok (.iaload, 1) := by decide +kernel
theorem dL_law_543 : decode cL_law 543 = .ok (.aload_n 3, 1) := by decide +kernel
theorem dL_law_544 : decode cL_law 544 = .ok (.invokestatic 94, 3) := by decide +kernel
theorem dL_law_547 : decode cL_law 547 = .ok (.istore 5, 2) := by decide +kernel
theorem dL_law_549 : decode cL_law 549 = .ok (.aload_n 2, 1) := by decide +kernel
theorem dL_law_550 : decode cL_law 550 = .ok (.aload_n 0, 1) := by decide +kernel
theorem dL_law_551 : decode cL_law 551 = .ok (.iload 4, 2) := by decide +kernel
theorem dL_law_553 : decode cL_law 553 = .ok (.iconst 1, 1) := by decide +kernel
theorem dL_law_554 : decode cL_law 554 = .ok (.iadd, 1) := by decide +kernel
theorem dL_law_555 : decode cL_law 555 = .ok (.iaload, 1) := by decide +kernel
theorem dL_law_556 : decode cL_law 556 = .ok (.invokevirtual 96, 3) := by decide +kernel
theorem dL_law_559 : decode cL_law 559 = .ok (.istore 6, 2) := by decide +kernel
theorem dL_law_561 : decode cL_law 561 = .ok (.aload_n 2, 1) := by decide +kernel
theorem dL_law_562 : decode cL_law 562 = .ok (.invokevirtual 68, 3) := by decide +kernel
theorem dL_law_565 : decode cL_law 565 = .ok (.iload 5, 2) := by decide +kernel
theorem dL_law_567 : decode cL_law 567 = .ok (.if_icmp .eq 5, 3) := by decide +kernel
theorem dL_law_570 : decode cL_law 570 = .ok (.iconst 0, 1) := by decide +kernel
theorem dL_law_571 : decode cL_law 571 = .ok (.ireturn, 1) := by decide +kernel
theorem dL_law_572 : decode cL_law 572 = .ok (.iload 5, 2) := by decide +kernel
theorem dL_law_574 : decode cL_law 574 = .ok (.ifCond .ne 15, 3) := by decide +kernel
theorem dL_law_577 : decode cL_law 577 = .ok (.aload_n 3, 1) := by decide +kernel
theorem dL_law_578 : decode cL_law 578 = .ok (.iconst 0, 1) := by decide +kernel
theorem dL_law_579 : decode cL_law 579 = .ok (.laload, 1) := by decide +kernel
theorem dL_law_580 : decode cL_law 580 = .ok (.iload 6, 2) := by decide +kernel
theorem dL_law_582 : decode cL_law 582 = .ok (.i2l, 1) := by decide +kernel
theorem dL_law_583 : decode cL_law 583 = .ok (.lcmp, 1) := by decide +kernel
theorem dL_law_584 : decode cL_law 584 = .ok (.ifCond .eq 5, 3) := by decide +kernel
theorem dL_law_587 : decode cL_law 587 = .ok (.iconst 0, 1) := by decide +kernel
theorem dL_law_588 : decode cL_law 588 = .ok (.ireturn, 1) := by decide +kernel
theorem dL_law_589 : decode cL_law 589 = .ok (.goto 263, 3) := by decide +kernel
theorem dL_law_592 : decode cL_law 592 = .ok (.aload_n 1, 1) := by decide +kernel
theorem dL_law_593 : decode cL_law 593 = .ok (.aload_n 0, 1) := by decide +kernel
theorem dL_law_594 : decode cL_law 594 = .ok (.iload 4, 2) := by decide +kernel
theorem dL_law_596 : decode cL_law 596 = .ok (.iconst 1, 1) := by decide +kernel
theorem dL_law_597 : decode cL_law 597 = .ok (.iadd, 1) := by decide +kernel
theorem dL_law_598 : decode cL_law 598 = .ok (.iaload, 1) := by decide +kernel
theorem dL_law_599 : decode cL_law 599 = .ok (.aload_n 0, 1) := by decide +kernel
theorem dL_law_600 : decode cL_law 600 = .ok (.iload 4, 2) := by decide +kernel
theorem dL_law_602 : decode cL_law 602 = .ok (.iconst 2, 1) := by decide +kernel
theorem dL_law_603 : decode cL_law 603 = .ok (.iadd, 1) := by decide +kernel
theorem dL_law_604 : decode cL_law 604 = .ok (.iaload, 1) := by decide +kernel
theorem dL_law_605 : decode cL_law 605 = .ok (.aload_n 3, 1) := by decide +kernel
theorem dL_law_606 : decode cL_law 606 = .ok (.invokestatic 97, 3) := by decide +kernel
theorem dL_law_609 : decode cL_law 609 = .ok (.istore 5, 2) := by decide +kernel
theorem dL_law_611 : decode cL_law 611 = .ok (.aload_n 2, 1) := by decide +kernel
theorem dL_law_612 : decode cL_law 612 = .ok (.aload_n 0, 1) := by decide +kernel
theorem dL_law_613 : decode cL_law 613 = .ok (.iload 4, 2) := by decide +kernel
theorem dL_law_615 : decode cL_law 615 = .ok (.iconst 1, 1) := by decide +kernel
theorem dL_law_616 : decode cL_law 616 = .ok (.iadd, 1) := by decide +kernel
theorem dL_law_617 : decode cL_law 617 = .ok (.iaload, 1) := by decide +kernel
theorem dL_law_618 : decode cL_law 618 = .ok (.aload_n 0, 1) := by decide +kernel
theorem dL_law_619 : decode cL_law 619 = .ok (.iload 4, 2) := by decide +kernel
theorem dL_law_621 : decode cL_law 621 = .ok (.iconst 2, 1) := by decide +kernel
theorem dL_law_622 : decode cL_law 622 = .ok (.iadd, 1) := by decide +kernel
theorem dL_law_623 : decode cL_law 623 = .ok (.iaload, 1) := by decide +kernel
theorem dL_law_624 : decode cL_law 624 = .ok (.invokevirtual 99, 3) := by decide +kernel
theorem dL_law_627 : decode cL_law 627 = .ok (.istore 6, 2) := by decide +kernel
theorem dL_law_629 : decode cL_law 629 = .ok (.aload_n 2, 1) := by decide +kernel
theorem dL_law_630 : decode cL_law 630 = .ok (.invokevirtual 68, 3) := by decide +kernel
theorem dL_law_633 : decode cL_law 633 = .ok (.iload 5, 2) := by decide +kernel
theorem dL_law_635 : decode cL_law 635 = .ok (.if_icmp .eq 5, 3) := by decide +kernel
theorem dL_law_638 : decode cL_law 638 = .ok (.iconst 0, 1) := by decide +kernel
theorem dL_law_639 : decode cL_law 639 = .ok (.ireturn, 1) := by decide +kernel
theorem dL_law_640 : decode cL_law 640 = .ok (.iload 5, 2) := by decide +kernel
theorem dL_law_642 : decode cL_law 642 = .ok (.ifCond .ne 15, 3) := by decide +kernel
theorem dL_law_645 : decode cL_law 645 = .ok (.aload_n 3, 1) := by decide +kernel
theorem dL_law_646 : decode cL_law 646 = .ok (.iconst 0, 1) := by decide +kernel
theorem dL_law_647 : decode cL_law 647 = .ok (.laload, 1) := by decide +kernel
theorem dL_law_648 : decode cL_law 648 = .ok (.iload 6, 2) := by decide +kernel
theorem dL_law_650 : decode cL_law 650 = .ok (.i2l, 1) := by decide +kernel
theorem dL_law_651 : decode cL_law 651 = .ok (.lcmp, 1) := by decide +kernel
theorem dL_law_652 : decode cL_law 652 = .ok (.ifCond .eq 5, 3) := by decide +kernel
theorem dL_law_655 : decode cL_law 655 = .ok (.iconst 0, 1) := by decide +kernel
theorem dL_law_656 : decode cL_law 656 = .ok (.ireturn, 1) := by decide +kernel
theorem dL_law_657 : decode cL_law 657 = .ok (.goto 195, 3) := by decide +kernel
theorem dL_law_660 : decode cL_law 660 = .ok (.aload_n 1, 1) := by decide +kernel
theorem dL_law_661 : decode cL_law 661 = .ok (.aload_n 0, 1) := by decide +kernel
theorem dL_law_662 : decode cL_law 662 = .ok (.iload 4, 2) := by decide +kernel
theorem dL_law_664 : decode cL_law 664 = .ok (.iconst 1, 1) := by decide +kernel
theorem dL_law_665 : decode cL_law 665 = .ok (.iadd, 1) := by decide +kernel
theorem dL_law_666 : decode cL_law 666 = .ok (.iaload, 1) := by decide +kernel
theorem dL_law_667 : decode cL_law 667 = .ok (.aload_n 0, 1) := by decide +kernel
theorem dL_law_668 : decode cL_law 668 = .ok (.iload 4, 2) := by decide +kernel
theorem dL_law_670 : decode cL_law 670 = .ok (.iconst 2, 1) := by decide +kernel
theorem dL_law_671 : decode cL_law 671 = .ok (.iadd, 1) := by decide +kernel
theorem dL_law_672 : decode cL_law 672 = .ok (.iaload, 1) := by decide +kernel
theorem dL_law_673 : decode cL_law 673 = .ok (.aload_n 3, 1) := by decide +kernel
theorem dL_law_674 : decode cL_law 674 = .ok (.invokestatic 100, 3) := by decide +kernel
theorem dL_law_677 : decode cL_law 677 = .ok (.istore 5, 2) := by decide +kernel
theorem dL_law_679 : decode cL_law 679 = .ok (.aload_n 2, 1) := by decide +kernel
theorem dL_law_680 : decode cL_law 680 = .ok (.aload_n 0, 1) := by decide +kernel
theorem dL_law_681 : decode cL_law 681 = .ok (.iload 4, 2) := by decide +kernel
theorem dL_law_683 : decode cL_law 683 = .ok (.iconst 1, 1) := by decide +kernel
theorem dL_law_684 : decode cL_law 684 = .ok (.iadd, 1) := by decide +kernel
theorem dL_law_685 : decode cL_law 685 = .ok (.iaload, 1) := by decide +kernel
theorem dL_law_686 : decode cL_law 686 = .ok (.aload_n 0, 1) := by decide +kernel
theorem dL_law_687 : decode cL_law 687 = .ok (.iload 4, 2) := by decide +kernel
theorem dL_law_689 : decode cL_law 689 = .ok (.iconst 2, 1) := by decide +kernel
theorem dL_law_690 : decode cL_law 690 = .ok (.iadd, 1) := by decide +kernel
theorem dL_law_691 : decode cL_law 691 = .ok (.iaload, 1) := by decide +kernel
theorem dL_law_692 : decode cL_law 692 = .ok (.invokevirtual 102, 3) := by decide +kernel
theorem dL_law_695 : decode cL_law 695 = .ok (.istore 6, 2) := by decide +kernel
theorem dL_law_697 : decode cL_law 697 = .ok (.aload_n 2, 1) := by decide +kernel
theorem dL_law_698 : decode cL_law 698 = .ok (.invokevirtual 68, 3) := by decide +kernel
theorem dL_law_701 : decode cL_law 701 = .ok (.iload 5, 2) := by decide +kernel
theorem dL_law_703 : decode cL_law 703 = .ok (.if_icmp .eq 5, 3) := by decide +kernel
theorem dL_law_706 : decode cL_law 706 = .ok (.iconst 0, 1) := by decide +kernel
theorem dL_law_707 : decode cL_law 707 = .ok (.ireturn, 1) := by decide +kernel
theorem dL_law_708 : decode cL_law 708 = .ok (.iload 5, 2) := by decide +kernel
theorem dL_law_710 : decode cL_law 710 = .ok (.ifCond .ne 15, 3) := by decide +kernel
theorem dL_law_713 : decode cL_law 713 = .ok (.aload_n 3, 1) := by decide +kernel
theorem dL_law_714 : decode cL_law 714 = .ok (.iconst 0, 1) := by decide +kernel
theorem dL_law_715 : decode cL_law 715 = .ok (.laload, 1) := by decide +kernel
theorem dL_law_716 : decode cL_law 716 = .ok (.iload 6, 2) := by decide +kernel
theorem dL_law_718 : decode cL_law 718 = .ok (.i2l, 1) := by decide +kernel
theorem dL_law_719 : decode cL_law 719 = .ok (.lcmp, 1) := by decide +kernel
theorem dL_law_720 : decode cL_law 720 = .ok (.ifCond .eq 5, 3) := by decide +kernel
theorem dL_law_723 : decode cL_law 723 = .ok (.iconst 0, 1) := by decide +kernel
theorem dL_law_724 : decode cL_law 724 = .ok (.ireturn, 1) := by decide +kernel
theorem dL_law_725 : decode cL_law 725 = .ok (.goto 127, 3) := by decide +kernel
theorem dL_law_728 : decode cL_law 728 = .ok (.aload_n 1, 1) := by decide +kernel
theorem dL_law_729 : decode cL_law 729 = .ok (.aload_n 0, 1) := by decide +kernel
theorem dL_law_730 : decode cL_law 730 = .ok (.iload 4, 2) := by decide +kernel
theorem dL_law_732 : decode cL_law 732 = .ok (.iconst 1, 1) := by decide +kernel
theorem dL_law_733 : decode cL_law 733 = .ok (.iadd, 1) := by decide +kernel
theorem dL_law_734 : decode cL_law 734 = .ok (.iaload, 1) := by decide +kernel
theorem dL_law_735 : decode cL_law 735 = .ok (.aload_n 0, 1) := by decide +kernel
theorem dL_law_736 : decode cL_law 736 = .ok (.iload 4, 2) := by decide +kernel
theorem dL_law_738 : decode cL_law 738 = .ok (.iconst 2, 1) := by decide +kernel
theorem dL_law_739 : decode cL_law 739 = .ok (.iadd, 1) := by decide +kernel
theorem dL_law_740 : decode cL_law 740 = .ok (.iaload, 1) := by decide +kernel
theorem dL_law_741 : decode cL_law 741 = .ok (.aload_n 3, 1) := by decide +kernel
theorem dL_law_742 : decode cL_law 742 = .ok (.invokestatic 103, 3) := by decide +kernel
theorem dL_law_745 : decode cL_law 745 = .ok (.istore 5, 2) := by decide +kernel
theorem dL_law_747 : decode cL_law 747 = .ok (.aload_n 2, 1) := by decide +kernel
theorem dL_law_748 : decode cL_law 748 = .ok (.aload_n 0, 1) := by decide +kernel
theorem dL_law_749 : decode cL_law 749 = .ok (.iload 4, 2) := by decide +kernel
theorem dL_law_751 : decode cL_law 751 = .ok (.iconst 1, 1) := by decide +kernel
theorem dL_law_752 : decode cL_law 752 = .ok (.iadd, 1) := by decide +kernel
theorem dL_law_753 : decode cL_law 753 = .ok (.iaload, 1) := by decide +kernel
theorem dL_law_754 : decode cL_law 754 = .ok (.aload_n 0, 1) := by decide +kernel
theorem dL_law_755 : decode cL_law 755 = .ok (.iload 4, 2) := by decide +kernel
theorem dL_law_757 : decode cL_law 757 = .ok (.iconst 2, 1) := by decide +kernel
theorem dL_law_758 : decode cL_law 758 = .ok (.iadd, 1) := by decide +kernel
theorem dL_law_759 : decode cL_law 759 = .ok (.iaload, 1) := by decide +kernel
theorem dL_law_760 : decode cL_law 760 = .ok (.invokevirtual 105, 3) := by decide +kernel
theorem dL_law_763 : decode cL_law 763 = .ok (.istore 6, 2) := by decide +kernel
theorem dL_law_765 : decode cL_law 765 = .ok (.aload_n 2, 1) := by decide +kernel
theorem dL_law_766 : decode cL_law 766 = .ok (.invokevirtual 68, 3) := by decide +kernel
theorem dL_law_769 : decode cL_law 769 = .ok (.iload 5, 2) := by decide +kernel
theorem dL_law_771 : decode cL_law 771 = .ok (.if_icmp .eq 5, 3) := by decide +kernel
theorem dL_law_774 : decode cL_law 774 = .ok (.iconst 0, 1) := by decide +kernel
theorem dL_law_775 : decode cL_law 775 = .ok (.ireturn, 1) := by decide +kernel
theorem dL_law_776 : decode cL_law 776 = .ok (.iload 5, 2) := by decide +kernel
theorem dL_law_778 : decode cL_law 778 = .ok (.ifCond .ne 15, 3) := by decide +kernel
theorem dL_law_781 : decode cL_law 781 = .ok (.aload_n 3, 1) := by decide +kernel
theorem dL_law_782 : decode cL_law 782 = .ok (.iconst 0, 1) := by decide +kernel
theorem dL_law_783 : decode cL_law 783 = .ok (.laload, 1) := by decide +kernel
theorem dL_law_784 : decode cL_law 784 = .ok (.iload 6, 2) := by decide +kernel
theorem dL_law_786 : decode cL_law 786 = .ok (.i2l, 1) := by decide +kernel
theorem dL_law_787 : decode cL_law 787 = .ok (.lcmp, 1) := by decide +kernel
theorem dL_law_788 : decode cL_law 788 = .ok (.ifCond .eq 5, 3) := by decide +kernel
theorem dL_law_791 : decode cL_law 791 = .ok (.iconst 0, 1) := by decide +kernel
theorem dL_law_792 : decode cL_law 792 = .ok (.ireturn, 1) := by decide +kernel
theorem dL_law_793 : decode cL_law 793 = .ok (.goto 59, 3) := by decide +kernel
theorem dL_law_796 : decode cL_law 796 = .ok (.aload_n 1, 1) := by decide +kernel
theorem dL_law_797 : decode cL_law 797 = .ok (.aload_n 0, 1) := by decide +kernel
theorem dL_law_798 : decode cL_law 798 = .ok (.iload 4, 2) := by decide +kernel
theorem dL_law_800 : decode cL_law 800 = .ok (.iconst 1, 1) := by decide +kernel
theorem dL_law_801 : decode cL_law 801 = .ok (.iadd, 1) := by decide +kernel
theorem dL_law_802 : decode cL_law 802 = .ok (.iaload, 1) := by decide +kernel
theorem dL_law_803 : decode cL_law 803 = .ok (.aload_n 3, 1) := by decide +kernel
theorem dL_law_804 : decode cL_law 804 = .ok (.invokestatic 106, 3) := by decide +kernel
theorem dL_law_807 : decode cL_law 807 = .ok (.istore 5, 2) := by decide +kernel
theorem dL_law_809 : decode cL_law 809 = .ok (.aload_n 2, 1) := by decide +kernel
theorem dL_law_810 : decode cL_law 810 = .ok (.aload_n 0, 1) := by decide +kernel
theorem dL_law_811 : decode cL_law 811 = .ok (.iload 4, 2) := by decide +kernel
theorem dL_law_813 : decode cL_law 813 = .ok (.iconst 1, 1) := by decide +kernel
theorem dL_law_814 : decode cL_law 814 = .ok (.iadd, 1) := by decide +kernel
theorem dL_law_815 : decode cL_law 815 = .ok (.iaload, 1) := by decide +kernel
theorem dL_law_816 : decode cL_law 816 = .ok (.invokevirtual 108, 3) := by decide +kernel
theorem dL_law_819 : decode cL_law 819 = .ok (.istore 6, 2) := by decide +kernel
theorem dL_law_821 : decode cL_law 821 = .ok (.aload_n 2, 1) := by decide +kernel
theorem dL_law_822 : decode cL_law 822 = .ok (.invokevirtual 68, 3) := by decide +kernel
theorem dL_law_825 : decode cL_law 825 = .ok (.iload 5, 2) := by decide +kernel
theorem dL_law_827 : decode cL_law 827 = .ok (.if_icmp .eq 5, 3) := by decide +kernel
theorem dL_law_830 : decode cL_law 830 = .ok (.iconst 0, 1) := by decide +kernel
theorem dL_law_831 : decode cL_law 831 = .ok (.ireturn, 1) := by decide +kernel
theorem dL_law_832 : decode cL_law 832 = .ok (.iload 5, 2) := by decide +kernel
theorem dL_law_834 : decode cL_law 834 = .ok (.ifCond .ne 15, 3) := by decide +kernel
theorem dL_law_837 : decode cL_law 837 = .ok (.aload_n 3, 1) := by decide +kernel
theorem dL_law_838 : decode cL_law 838 = .ok (.iconst 0, 1) := by decide +kernel
theorem dL_law_839 : decode cL_law 839 = .ok (.laload, 1) := by decide +kernel
theorem dL_law_840 : decode cL_law 840 = .ok (.iload 6, 2) := by decide +kernel
theorem dL_law_842 : decode cL_law 842 = .ok (.i2l, 1) := by decide +kernel
theorem dL_law_843 : decode cL_law 843 = .ok (.lcmp, 1) := by decide +kernel
theorem dL_law_844 : decode cL_law 844 = .ok (.ifCond .eq 5, 3) := by decide +kernel
theorem dL_law_847 : decode cL_law 847 = .ok (.iconst 0, 1) := by decide +kernel
theorem dL_law_848 : decode cL_law 848 = .ok (.ireturn, 1) := by decide +kernel
theorem dL_law_849 : decode cL_law 849 = .ok (.goto 3, 3) := by decide +kernel
theorem dL_law_852 : decode cL_law 852 = .ok (.iinc 4 4, 3) := by decide +kernel
theorem dL_law_855 : decode cL_law 855 = .ok (.goto (-832), 3) := by decide +kernel
theorem dL_law_858 : decode cL_law 858 = .ok (.iconst 1, 1) := by decide +kernel
theorem dL_law_859 : decode cL_law 859 = .ok (.ireturn, 1) := by decide +kernel
end
section
/-! My own judgement: mW, a walk over a world w with the locals as a list; mC, what is fixed in a method; mM, a method's contract over worlds. -/
abbrev mTy (cy : Nat → ClassId) : List (ClassId × FieldType) := [(cy 0, .int), (cy 1, .byte), (cy 2, .boolean), (cy 3, .object "CutYard$Content"), (cy 4, .long)]
def nW : List Cond := [.fieldLinkNest "CutYard" 152 "CutYard$Stock" "count" "I" "CutYard", .fieldLinkNest "CutYard" 153 "CutYard$Stock" "bytes" "I" "CutYard", .fieldLinkNest "CutYard" 102 "CutYard$Content" "numbers" "[I" "CutYard", .fieldLinkNest "CutYard" 99 "CutYard$Content" "count" "I" "CutYard", .fieldLinkNest "CutYard" 82 "CutYard$Content" "bytes" "I" "CutYard", .methodLinkNest "CutYard" 9 yX1_init "CutYard", .methodLinkNest "CutYard" 47 yX0_init "CutYard"]
/-- the nest mates' fields, as CutYard's entries name them -/
def nK (U : State) : Prop := (∀ w ∈ nW, va_Nw w U) ∧ va_AO "CutYard$Content" U
theorem nK.warm {s U : State} (hW : s.WarmedH U.vm) (h : nK s) : nK U := by
  refine ⟨?_, h.2.moved hW.alike⟩
  intro w hw
  have h1 := h.1 w hw
  simp only [nW, List.mem_cons, List.not_mem_nil, or_false] at hw
  rcases hw with rfl | rfl | rfl | rfl | rfl | rfl | rfl <;> first | exact va_Nw.warmF hW h1 | exact va_Nw.warmM hW h1
def mC (p : Program) (s : State) (m : MethodId) (args : Array Value) (meth : Method) (c : Code) (D : va_G) (cy : Nat → ClassId) (A : Nat → Prop) (cc : ByteArray) (nL : Nat) (own : String) (Ts : List Cond) (ret0 : Option FieldType) : Prop :=
  p.tables.exec = Jvm.exec ∧ c.code = cc ∧ c.maxLocals = nL ∧ s.vm.findClass own = some m.cls ∧ (∀ w ∈ Ts, w.before args s = true) ∧ va_K D vwCl (mTy cy) s ∧ (∀ q, s.heap.size ≤ q → A q) ∧ meth.sig.returnType = ret0 ∧ meth.locks = false ∧ nK s
def mW (p : Program) (l : Launch) (e : Env) (R : Room) (s : State) (m : MethodId) (args : Array Value) (below : List Frame) (meth : Method) (c : Code) (D : va_G) (A : Nat → Prop) (nL kc ks : Nat) (Q : State → Prop) (w : va_W) (pc : Nat) (lv : List (Nat × Value)) (st : List Value) : Prop :=
  ∀ (H : Heap) (locs : List Loc) (ls : Array Slot), va_P D vwCl w H → va_D A w → va_S A s.heap H locs → lv_has ls nL lv → W p l e R s m args below meth c H locs kc ks Q (F0 m pc ls st)
section ML
variable {p : Program} {l : Launch} {e : Env} {R : Room} {s : State} {m : MethodId} {args : Array Value} {below : List Frame} {meth : Method} {c : Code} {D : va_G} {cy : Nat → ClassId} {A : Nat → Prop} {cc : ByteArray} {nL kc ks : Nat} {own : String} {Ts : List Cond} {ret0 : Option FieldType} {Q : State → Prop} {w w' : va_W} {pc : Nat} {lv lv' : List (Nat × Value)} {rest : List Value}
theorem mW.eq {pc' : Nat} {st st' : List Value} (hp : pc' = pc) (hl : lv' = lv) (hs : st' = st) (hw : w' = w) (k : mW p l e R s m args below meth c D A nL kc ks Q w' pc' lv' st') : mW p l e R s m args below meth c D A nL kc ks Q w pc lv st := by subst hp; subst hl; subst hs; subst hw; exact k
theorem mW.wd {k' n' : Nat} {st : List Value} (h1 : kc ≤ k') (h2 : ks ≤ n') (k : mW p l e R s m args below meth c D A nL k' n' Q w pc lv st) : mW p l e R s m args below meth c D A nL kc ks Q w pc lv st := fun H locs ls a1 a2 a3 a4 => W.widen h1 h2 (k H locs ls a1 a2 a3 a4)
theorem mW.sub (qs : List Nat) {st : List Value} (hl : lv_pick lv qs = lv') (k : mW p l e R s m args below meth c D A nL kc ks Q w pc lv' st) : mW p l e R s m args below meth c D A nL kc ks Q w pc lv st := fun H locs ls a1 a2 a3 a4 => k H locs ls a1 a2 a3 (lv_sub a4 qs hl)
theorem m_iconst (C : mC p s m args meth c D cy A cc nL own Ts ret0) {n : Int} {v : Int32} (hdg : decode cc pc = .ok (.iconst n, 1)) (hv : Int32.ofInt n = v) (k : mW p l e R s m args below meth c D A nL kc ks Q w (pc + 1) lv (.int v :: rest)) : mW p l e R s m args below meth c D A nL kc ks Q w pc lv (rest) := fun H locs ls a1 a2 a3 a4 => lv_iconst C.1 C.2.1 hdg hv (k H locs ls a1 a2 a3 a4)
theorem m_bipush (C : mC p s m args meth c D cy A cc nL own Ts ret0) {n : Int} {v : Int32} (hdg : decode cc pc = .ok (.bipush n, 2)) (hv : (Int8.ofInt n).toInt32 = v) (k : mW p l e R s m args below meth c D A nL kc ks Q w (pc + 2) lv (.int v :: rest)) : mW p l e R s m args below meth c D A nL kc ks Q w pc lv (rest) := fun H locs ls a1 a2 a3 a4 => lv_bipush C.1 C.2.1 hdg hv (k H locs ls a1 a2 a3 a4)
theorem m_sipush (C : mC p s m args meth c D cy A cc nL own Ts ret0) {n : Int} {v : Int32} (hdg : decode cc pc = .ok (.sipush n, 3)) (hv : (Int16.ofInt n).toInt32 = v) (k : mW p l e R s m args below meth c D A nL kc ks Q w (pc + 3) lv (.int v :: rest)) : mW p l e R s m args below meth c D A nL kc ks Q w pc lv (rest) := fun H locs ls a1 a2 a3 a4 => lv_sipush C.1 C.2.1 hdg hv (k H locs ls a1 a2 a3 a4)
theorem m_iload_n (C : mC p s m args meth c D cy A cc nL own Ts ret0) {k : Fin 4} {i : Nat} {x : Int32} (hdg : decode cc pc = .ok (.iload_n k, 1)) (hi : (k : Nat) = i) (q : Nat) (hl : lv[q]? = some (i, .int x)) (k : mW p l e R s m args below meth c D A nL kc ks Q w (pc + 1) lv (.int x :: rest)) : mW p l e R s m args below meth c D A nL kc ks Q w pc lv (rest) := fun H locs ls a1 a2 a3 a4 => lv_iload_n C.1 C.2.1 hdg hi (lv_at a4 q hl) (k H locs ls a1 a2 a3 a4)
theorem m_iload (C : mC p s m args meth c D cy A cc nL own Ts ret0) {i : Nat} {x : Int32} (hdg : decode cc pc = .ok (.iload i, 2)) (q : Nat) (hl : lv[q]? = some (i, .int x)) (k : mW p l e R s m args below meth c D A nL kc ks Q w (pc + 2) lv (.int x :: rest)) : mW p l e R s m args below meth c D A nL kc ks Q w pc lv (rest) := fun H locs ls a1 a2 a3 a4 => lv_iload C.1 C.2.1 hdg (lv_at a4 q hl) (k H locs ls a1 a2 a3 a4)
theorem m_aload_n (C : mC p s m args meth c D cy A cc nL own Ts ret0) {k : Fin 4} {i : Nat} {x : Nat} (hdg : decode cc pc = .ok (.aload_n k, 1)) (hi : (k : Nat) = i) (q : Nat) (hl : lv[q]? = some (i, .ref x)) (k : mW p l e R s m args below meth c D A nL kc ks Q w (pc + 1) lv (.ref x :: rest)) : mW p l e R s m args below meth c D A nL kc ks Q w pc lv (rest) := fun H locs ls a1 a2 a3 a4 => lv_aload_n C.1 C.2.1 hdg hi (lv_at a4 q hl) (k H locs ls a1 a2 a3 a4)
theorem m_aload (C : mC p s m args meth c D cy A cc nL own Ts ret0) {i : Nat} {x : Nat} (hdg : decode cc pc = .ok (.aload i, 2)) (q : Nat) (hl : lv[q]? = some (i, .ref x)) (k : mW p l e R s m args below meth c D A nL kc ks Q w (pc + 2) lv (.ref x :: rest)) : mW p l e R s m args below meth c D A nL kc ks Q w pc lv (rest) := fun H locs ls a1 a2 a3 a4 => lv_aload C.1 C.2.1 hdg (lv_at a4 q hl) (k H locs ls a1 a2 a3 a4)
theorem m_istore_n (C : mC p s m args meth c D cy A cc nL own Ts ret0) {k : Fin 4} {i : Nat} {x : Int32} (hdg : decode cc pc = .ok (.istore_n k, 1)) (hi : (k : Nat) = i) (hn : i < nL) (hl : (i, Value.int x) :: lv.filter (fun q => !(q.1 == i) && !(q.1 + 1 == i && q.2.category == 2)) = lv') (kk : mW p l e R s m args below meth c D A nL kc ks Q w (pc + 1) lv' rest) : mW p l e R s m args below meth c D A nL kc ks Q w pc lv (.int x :: rest) := fun H locs ls a1 a2 a3 a4 => lv_istore_n C.1 C.2.1 hdg hi a4 hn hl (fun ls a4 => kk H locs ls a1 a2 a3 a4)
theorem m_istore (C : mC p s m args meth c D cy A cc nL own Ts ret0) {i : Nat} {x : Int32} (hdg : decode cc pc = .ok (.istore i, 2)) (hn : i < nL) (hl : (i, Value.int x) :: lv.filter (fun q => !(q.1 == i) && !(q.1 + 1 == i && q.2.category == 2)) = lv') (kk : mW p l e R s m args below meth c D A nL kc ks Q w (pc + 2) lv' rest) : mW p l e R s m args below meth c D A nL kc ks Q w pc lv (.int x :: rest) := fun H locs ls a1 a2 a3 a4 => lv_istore C.1 C.2.1 hdg a4 hn hl (fun ls a4 => kk H locs ls a1 a2 a3 a4)
theorem m_astore_n (C : mC p s m args meth c D cy A cc nL own Ts ret0) {k : Fin 4} {i : Nat} {x : Nat} (hdg : decode cc pc = .ok (.astore_n k, 1)) (hi : (k : Nat) = i) (hn : i < nL) (hl : (i, Value.ref x) :: lv.filter (fun q => !(q.1 == i) && !(q.1 + 1 == i && q.2.category == 2)) = lv') (kk : mW p l e R s m args below meth c D A nL kc ks Q w (pc + 1) lv' rest) : mW p l e R s m args below meth c D A nL kc ks Q w pc lv (.ref x :: rest) := fun H locs ls a1 a2 a3 a4 => lv_astore_n C.1 C.2.1 hdg hi a4 hn hl (fun ls a4 => kk H locs ls a1 a2 a3 a4)
theorem m_astore (C : mC p s m args meth c D cy A cc nL own Ts ret0) {i : Nat} {x : Nat} (hdg : decode cc pc = .ok (.astore i, 2)) (hn : i < nL) (hl : (i, Value.ref x) :: lv.filter (fun q => !(q.1 == i) && !(q.1 + 1 == i && q.2.category == 2)) = lv') (kk : mW p l e R s m args below meth c D A nL kc ks Q w (pc + 2) lv' rest) : mW p l e R s m args below meth c D A nL kc ks Q w pc lv (.ref x :: rest) := fun H locs ls a1 a2 a3 a4 => lv_astore C.1 C.2.1 hdg a4 hn hl (fun ls a4 => kk H locs ls a1 a2 a3 a4)
theorem m_iinc (C : mC p s m args meth c D cy A cc nL own Ts ret0) {i k : Nat} {n : Int} {x v : Int32} (hdg : decode cc pc = .ok (.iinc i n, 3)) (hk : lv[k]? = some (i, .int x)) (hv : x + Int32.ofInt n = v) (hn : i < nL) (hl : (i, Value.int v) :: lv.filter (fun q => !(q.1 == i) && !(q.1 + 1 == i && q.2.category == 2)) = lv') (kk : mW p l e R s m args below meth c D A nL kc ks Q w (pc + 3) lv' rest) : mW p l e R s m args below meth c D A nL kc ks Q w pc lv rest := fun H locs ls a1 a2 a3 a4 => lv_iinc C.1 C.2.1 hdg a4 hk hv hn hl (fun ls a4 => kk H locs ls a1 a2 a3 a4)
theorem m_iadd (C : mC p s m args meth c D cy A cc nL own Ts ret0) {x y : Int32} (hdg : decode cc pc = .ok (.iadd, 1)) (k : mW p l e R s m args below meth c D A nL kc ks Q w (pc + 1) lv (.int (x + y) :: rest)) : mW p l e R s m args below meth c D A nL kc ks Q w pc lv (.int y :: .int x :: rest) := fun H locs ls a1 a2 a3 a4 => lv_iadd C.1 C.2.1 hdg (k H locs ls a1 a2 a3 a4)
theorem m_isub (C : mC p s m args meth c D cy A cc nL own Ts ret0) {x y : Int32} (hdg : decode cc pc = .ok (.isub, 1)) (k : mW p l e R s m args below meth c D A nL kc ks Q w (pc + 1) lv (.int (x - y) :: rest)) : mW p l e R s m args below meth c D A nL kc ks Q w pc lv (.int y :: .int x :: rest) := fun H locs ls a1 a2 a3 a4 => lv_isub C.1 C.2.1 hdg (k H locs ls a1 a2 a3 a4)
theorem m_imul (C : mC p s m args meth c D cy A cc nL own Ts ret0) {x y : Int32} (hdg : decode cc pc = .ok (.imul, 1)) (k : mW p l e R s m args below meth c D A nL kc ks Q w (pc + 1) lv (.int (x * y) :: rest)) : mW p l e R s m args below meth c D A nL kc ks Q w pc lv (.int y :: .int x :: rest) := fun H locs ls a1 a2 a3 a4 => lv_imul C.1 C.2.1 hdg (k H locs ls a1 a2 a3 a4)
theorem m_iand (C : mC p s m args meth c D cy A cc nL own Ts ret0) {x y : Int32} (hdg : decode cc pc = .ok (.iand, 1)) (k : mW p l e R s m args below meth c D A nL kc ks Q w (pc + 1) lv (.int (x &&& y) :: rest)) : mW p l e R s m args below meth c D A nL kc ks Q w pc lv (.int y :: .int x :: rest) := fun H locs ls a1 a2 a3 a4 => lv_iand C.1 C.2.1 hdg (k H locs ls a1 a2 a3 a4)
theorem m_ior (C : mC p s m args meth c D cy A cc nL own Ts ret0) {x y : Int32} (hdg : decode cc pc = .ok (.ior, 1)) (k : mW p l e R s m args below meth c D A nL kc ks Q w (pc + 1) lv (.int (x ||| y) :: rest)) : mW p l e R s m args below meth c D A nL kc ks Q w pc lv (.int y :: .int x :: rest) := fun H locs ls a1 a2 a3 a4 => lv_ior C.1 C.2.1 hdg (k H locs ls a1 a2 a3 a4)
theorem m_ixor (C : mC p s m args meth c D cy A cc nL own Ts ret0) {x y : Int32} (hdg : decode cc pc = .ok (.ixor, 1)) (k : mW p l e R s m args below meth c D A nL kc ks Q w (pc + 1) lv (.int (x ^^^ y) :: rest)) : mW p l e R s m args below meth c D A nL kc ks Q w pc lv (.int y :: .int x :: rest) := fun H locs ls a1 a2 a3 a4 => lv_ixor C.1 C.2.1 hdg (k H locs ls a1 a2 a3 a4)
theorem m_ishl (C : mC p s m args meth c D cy A cc nL own Ts ret0) {x y : Int32} (hdg : decode cc pc = .ok (.ishl, 1)) (k : mW p l e R s m args below meth c D A nL kc ks Q w (pc + 1) lv (.int (x <<< (y &&& 31)) :: rest)) : mW p l e R s m args below meth c D A nL kc ks Q w pc lv (.int y :: .int x :: rest) := fun H locs ls a1 a2 a3 a4 => lv_ishl C.1 C.2.1 hdg (k H locs ls a1 a2 a3 a4)
theorem m_ishr (C : mC p s m args meth c D cy A cc nL own Ts ret0) {x y : Int32} (hdg : decode cc pc = .ok (.ishr, 1)) (k : mW p l e R s m args below meth c D A nL kc ks Q w (pc + 1) lv (.int (x >>> (y &&& 31)) :: rest)) : mW p l e R s m args below meth c D A nL kc ks Q w pc lv (.int y :: .int x :: rest) := fun H locs ls a1 a2 a3 a4 => lv_ishr C.1 C.2.1 hdg (k H locs ls a1 a2 a3 a4)
theorem m_iushr (C : mC p s m args meth c D cy A cc nL own Ts ret0) {x y v : Int32} (hdg : decode cc pc = .ok (.iushr, 1)) (hv : (x.toUInt32 >>> (y.toUInt32 &&& Int32.toUInt32 31)).toInt32 = v) (k : mW p l e R s m args below meth c D A nL kc ks Q w (pc + 1) lv (.int v :: rest)) : mW p l e R s m args below meth c D A nL kc ks Q w pc lv (.int y :: .int x :: rest) := fun H locs ls a1 a2 a3 a4 => lv_iushr C.1 C.2.1 hdg hv (k H locs ls a1 a2 a3 a4)
theorem m_i2l (C : mC p s m args meth c D cy A cc nL own Ts ret0) {x : Int32} {v : Int64} (hdg : decode cc pc = .ok (.i2l, 1)) (hv : x.toInt64 = v) (k : mW p l e R s m args below meth c D A nL kc ks Q w (pc + 1) lv (.long v :: rest)) : mW p l e R s m args below meth c D A nL kc ks Q w pc lv (.int x :: rest) := fun H locs ls a1 a2 a3 a4 => lv_i2l C.1 C.2.1 hdg hv (k H locs ls a1 a2 a3 a4)
theorem m_i2b (C : mC p s m args meth c D cy A cc nL own Ts ret0) {x : Int32} {v : Int32} (hdg : decode cc pc = .ok (.i2b, 1)) (hv : x.toInt8.toInt32 = v) (k : mW p l e R s m args below meth c D A nL kc ks Q w (pc + 1) lv (.int v :: rest)) : mW p l e R s m args below meth c D A nL kc ks Q w pc lv (.int x :: rest) := fun H locs ls a1 a2 a3 a4 => lv_i2b C.1 C.2.1 hdg hv (k H locs ls a1 a2 a3 a4)
theorem m_dup (C : mC p s m args meth c D cy A cc nL own Ts ret0) {va : Value} (hdg : decode cc pc = .ok (.dup, 1)) (hva : va.category = 1) (k : mW p l e R s m args below meth c D A nL kc ks Q w (pc + 1) lv (va :: va :: rest)) : mW p l e R s m args below meth c D A nL kc ks Q w pc lv (va :: rest) := fun H locs ls a1 a2 a3 a4 => lv_dup C.1 C.2.1 hdg hva (k H locs ls a1 a2 a3 a4)
theorem m_pop (C : mC p s m args meth c D cy A cc nL own Ts ret0) {va : Value} (hdg : decode cc pc = .ok (.pop, 1)) (hva : va.category = 1) (k : mW p l e R s m args below meth c D A nL kc ks Q w (pc + 1) lv (rest)) : mW p l e R s m args below meth c D A nL kc ks Q w pc lv (va :: rest) := fun H locs ls a1 a2 a3 a4 => lv_pop C.1 C.2.1 hdg hva (k H locs ls a1 a2 a3 a4)
theorem m_dup2_11 (C : mC p s m args meth c D cy A cc nL own Ts ret0) {va vb : Value} (hdg : decode cc pc = .ok (.dup2, 1)) (hva : va.category = 1) (hvb : vb.category = 1) (k : mW p l e R s m args below meth c D A nL kc ks Q w (pc + 1) lv (va :: vb :: va :: vb :: rest)) : mW p l e R s m args below meth c D A nL kc ks Q w pc lv (va :: vb :: rest) := fun H locs ls a1 a2 a3 a4 => lv_dup2_11 C.1 C.2.1 hdg hva hvb (k H locs ls a1 a2 a3 a4)
theorem m_if_eq (C : mC p s m args meth c D cy A cc nL own Ts ret0) {x : Int32} {off : Int} {tgt : Nat} (hdg : decode cc pc = .ok (.ifCond .eq off, 3)) (ht : (pc : Int) + off = (tgt : Int)) (kt : x = 0 → mW p l e R s m args below meth c D A nL kc ks Q w tgt lv rest) (kf : ¬ x = 0 → mW p l e R s m args below meth c D A nL kc ks Q w (pc + 3) lv rest) : mW p l e R s m args below meth c D A nL kc ks Q w pc lv (.int x :: rest) := fun H locs ls a1 a2 a3 a4 => lv_if_eq C.1 C.2.1 hdg ht (fun hc => kt hc H locs ls a1 a2 a3 a4) (fun hc => kf hc H locs ls a1 a2 a3 a4)
theorem m_if_ne (C : mC p s m args meth c D cy A cc nL own Ts ret0) {x : Int32} {off : Int} {tgt : Nat} (hdg : decode cc pc = .ok (.ifCond .ne off, 3)) (ht : (pc : Int) + off = (tgt : Int)) (kt : ¬ x = 0 → mW p l e R s m args below meth c D A nL kc ks Q w tgt lv rest) (kf : x = 0 → mW p l e R s m args below meth c D A nL kc ks Q w (pc + 3) lv rest) : mW p l e R s m args below meth c D A nL kc ks Q w pc lv (.int x :: rest) := fun H locs ls a1 a2 a3 a4 => lv_if_ne C.1 C.2.1 hdg ht (fun hc => kt hc H locs ls a1 a2 a3 a4) (fun hc => kf hc H locs ls a1 a2 a3 a4)
theorem m_if_lt (C : mC p s m args meth c D cy A cc nL own Ts ret0) {x : Int32} {off : Int} {tgt : Nat} (hdg : decode cc pc = .ok (.ifCond .lt off, 3)) (ht : (pc : Int) + off = (tgt : Int)) (kt : x < 0 → mW p l e R s m args below meth c D A nL kc ks Q w tgt lv rest) (kf : ¬ x < 0 → mW p l e R s m args below meth c D A nL kc ks Q w (pc + 3) lv rest) : mW p l e R s m args below meth c D A nL kc ks Q w pc lv (.int x :: rest) := fun H locs ls a1 a2 a3 a4 => lv_if_lt C.1 C.2.1 hdg ht (fun hc => kt hc H locs ls a1 a2 a3 a4) (fun hc => kf hc H locs ls a1 a2 a3 a4)
theorem m_if_ge (C : mC p s m args meth c D cy A cc nL own Ts ret0) {x : Int32} {off : Int} {tgt : Nat} (hdg : decode cc pc = .ok (.ifCond .ge off, 3)) (ht : (pc : Int) + off = (tgt : Int)) (kt : 0 ≤ x → mW p l e R s m args below meth c D A nL kc ks Q w tgt lv rest) (kf : ¬ 0 ≤ x → mW p l e R s m args below meth c D A nL kc ks Q w (pc + 3) lv rest) : mW p l e R s m args below meth c D A nL kc ks Q w pc lv (.int x :: rest) := fun H locs ls a1 a2 a3 a4 => lv_if_ge C.1 C.2.1 hdg ht (fun hc => kt hc H locs ls a1 a2 a3 a4) (fun hc => kf hc H locs ls a1 a2 a3 a4)
theorem m_if_gt (C : mC p s m args meth c D cy A cc nL own Ts ret0) {x : Int32} {off : Int} {tgt : Nat} (hdg : decode cc pc = .ok (.ifCond .gt off, 3)) (ht : (pc : Int) + off = (tgt : Int)) (kt : 0 < x → mW p l e R s m args below meth c D A nL kc ks Q w tgt lv rest) (kf : ¬ 0 < x → mW p l e R s m args below meth c D A nL kc ks Q w (pc + 3) lv rest) : mW p l e R s m args below meth c D A nL kc ks Q w pc lv (.int x :: rest) := fun H locs ls a1 a2 a3 a4 => lv_if_gt C.1 C.2.1 hdg ht (fun hc => kt hc H locs ls a1 a2 a3 a4) (fun hc => kf hc H locs ls a1 a2 a3 a4)
theorem m_if_le (C : mC p s m args meth c D cy A cc nL own Ts ret0) {x : Int32} {off : Int} {tgt : Nat} (hdg : decode cc pc = .ok (.ifCond .le off, 3)) (ht : (pc : Int) + off = (tgt : Int)) (kt : x ≤ 0 → mW p l e R s m args below meth c D A nL kc ks Q w tgt lv rest) (kf : ¬ x ≤ 0 → mW p l e R s m args below meth c D A nL kc ks Q w (pc + 3) lv rest) : mW p l e R s m args below meth c D A nL kc ks Q w pc lv (.int x :: rest) := fun H locs ls a1 a2 a3 a4 => lv_if_le C.1 C.2.1 hdg ht (fun hc => kt hc H locs ls a1 a2 a3 a4) (fun hc => kf hc H locs ls a1 a2 a3 a4)
theorem m_icmp_eq (C : mC p s m args meth c D cy A cc nL own Ts ret0) {x y : Int32} {off : Int} {tgt : Nat} (hdg : decode cc pc = .ok (.if_icmp .eq off, 3)) (ht : (pc : Int) + off = (tgt : Int)) (kt : x = y → mW p l e R s m args below meth c D A nL kc ks Q w tgt lv rest) (kf : ¬ x = y → mW p l e R s m args below meth c D A nL kc ks Q w (pc + 3) lv rest) : mW p l e R s m args below meth c D A nL kc ks Q w pc lv (.int y :: .int x :: rest) := fun H locs ls a1 a2 a3 a4 => lv_icmp_eq C.1 C.2.1 hdg ht (fun hc => kt hc H locs ls a1 a2 a3 a4) (fun hc => kf hc H locs ls a1 a2 a3 a4)
theorem m_icmp_ne (C : mC p s m args meth c D cy A cc nL own Ts ret0) {x y : Int32} {off : Int} {tgt : Nat} (hdg : decode cc pc = .ok (.if_icmp .ne off, 3)) (ht : (pc : Int) + off = (tgt : Int)) (kt : ¬ x = y → mW p l e R s m args below meth c D A nL kc ks Q w tgt lv rest) (kf : x = y → mW p l e R s m args below meth c D A nL kc ks Q w (pc + 3) lv rest) : mW p l e R s m args below meth c D A nL kc ks Q w pc lv (.int y :: .int x :: rest) := fun H locs ls a1 a2 a3 a4 => lv_icmp_ne C.1 C.2.1 hdg ht (fun hc => kt hc H locs ls a1 a2 a3 a4) (fun hc => kf hc H locs ls a1 a2 a3 a4)
theorem m_icmp_lt (C : mC p s m args meth c D cy A cc nL own Ts ret0) {x y : Int32} {off : Int} {tgt : Nat} (hdg : decode cc pc = .ok (.if_icmp .lt off, 3)) (ht : (pc : Int) + off = (tgt : Int)) (kt : x < y → mW p l e R s m args below meth c D A nL kc ks Q w tgt lv rest) (kf : ¬ x < y → mW p l e R s m args below meth c D A nL kc ks Q w (pc + 3) lv rest) : mW p l e R s m args below meth c D A nL kc ks Q w pc lv (.int y :: .int x :: rest) := fun H locs ls a1 a2 a3 a4 => lv_icmp_lt C.1 C.2.1 hdg ht (fun hc => kt hc H locs ls a1 a2 a3 a4) (fun hc => kf hc H locs ls a1 a2 a3 a4)
theorem m_icmp_ge (C : mC p s m args meth c D cy A cc nL own Ts ret0) {x y : Int32} {off : Int} {tgt : Nat} (hdg : decode cc pc = .ok (.if_icmp .ge off, 3)) (ht : (pc : Int) + off = (tgt : Int)) (kt : y ≤ x → mW p l e R s m args below meth c D A nL kc ks Q w tgt lv rest) (kf : ¬ y ≤ x → mW p l e R s m args below meth c D A nL kc ks Q w (pc + 3) lv rest) : mW p l e R s m args below meth c D A nL kc ks Q w pc lv (.int y :: .int x :: rest) := fun H locs ls a1 a2 a3 a4 => lv_icmp_ge C.1 C.2.1 hdg ht (fun hc => kt hc H locs ls a1 a2 a3 a4) (fun hc => kf hc H locs ls a1 a2 a3 a4)
theorem m_icmp_gt (C : mC p s m args meth c D cy A cc nL own Ts ret0) {x y : Int32} {off : Int} {tgt : Nat} (hdg : decode cc pc = .ok (.if_icmp .gt off, 3)) (ht : (pc : Int) + off = (tgt : Int)) (kt : y < x → mW p l e R s m args below meth c D A nL kc ks Q w tgt lv rest) (kf : ¬ y < x → mW p l e R s m args below meth c D A nL kc ks Q w (pc + 3) lv rest) : mW p l e R s m args below meth c D A nL kc ks Q w pc lv (.int y :: .int x :: rest) := fun H locs ls a1 a2 a3 a4 => lv_icmp_gt C.1 C.2.1 hdg ht (fun hc => kt hc H locs ls a1 a2 a3 a4) (fun hc => kf hc H locs ls a1 a2 a3 a4)
theorem m_icmp_le (C : mC p s m args meth c D cy A cc nL own Ts ret0) {x y : Int32} {off : Int} {tgt : Nat} (hdg : decode cc pc = .ok (.if_icmp .le off, 3)) (ht : (pc : Int) + off = (tgt : Int)) (kt : x ≤ y → mW p l e R s m args below meth c D A nL kc ks Q w tgt lv rest) (kf : ¬ x ≤ y → mW p l e R s m args below meth c D A nL kc ks Q w (pc + 3) lv rest) : mW p l e R s m args below meth c D A nL kc ks Q w pc lv (.int y :: .int x :: rest) := fun H locs ls a1 a2 a3 a4 => lv_icmp_le C.1 C.2.1 hdg ht (fun hc => kt hc H locs ls a1 a2 a3 a4) (fun hc => kf hc H locs ls a1 a2 a3 a4)
theorem m_goto (C : mC p s m args meth c D cy A cc nL own Ts ret0) {off : Int} {tgt : Nat} (hdg : decode cc pc = .ok (.goto off, 3)) (ht : (pc : Int) + off = (tgt : Int)) (k : mW p l e R s m args below meth c D A nL kc ks Q w tgt lv rest) : mW p l e R s m args below meth c D A nL kc ks Q w pc lv rest := fun H locs ls a1 a2 a3 a4 => lv_goto C.1 C.2.1 hdg ht (k H locs ls a1 a2 a3 a4)
theorem m_ldc (C : mC p s m args meth c D cy A cc nL own Ts ret0) {index : Nat} {v : Int32} (hconst : (Jvm.Cond.constant own index v).before args s = true) (hdg : decode cc pc = .ok (.ldc index, 2)) (k : mW p l e R s m args below meth c D A nL kc ks Q w (pc + 2) lv (.int v :: rest)) : mW p l e R s m args below meth c D A nL kc ks Q w pc lv rest := fun H locs ls a1 a2 a3 a4 => lv_ldc C.1 C.2.1 C.2.2.2.1 hconst hdg (k H locs ls a1 a2 a3 a4)
theorem m_tableIn (C : mC p s m args meth c D cy A cc nL own Ts ret0) {dflt lo hi : Int} {offs : Array Int} {len : Nat} {x : Int32} {off : Int} {tgt : Nat} (hdg : decode cc pc = .ok (.tableswitch dflt lo hi offs, len)) (h1 : ¬ x.toInt < lo) (h2 : ¬ hi < x.toInt) (ho : offs[(x.toInt - lo).toNat]? = some off) (ht : (pc : Int) + off = (tgt : Int)) (k : mW p l e R s m args below meth c D A nL kc ks Q w tgt lv rest) : mW p l e R s m args below meth c D A nL kc ks Q w pc lv (.int x :: rest) := fun H locs ls a1 a2 a3 a4 => lv_tableIn C.1 C.2.1 hdg h1 h2 ho ht (k H locs ls a1 a2 a3 a4)
theorem m_tableOut (C : mC p s m args meth c D cy A cc nL own Ts ret0) {dflt lo hi : Int} {offs : Array Int} {len : Nat} {x : Int32} {tgt : Nat} (hdg : decode cc pc = .ok (.tableswitch dflt lo hi offs, len)) (h : x.toInt < lo ∨ hi < x.toInt) (ht : (pc : Int) + dflt = (tgt : Int)) (k : mW p l e R s m args below meth c D A nL kc ks Q w tgt lv rest) : mW p l e R s m args below meth c D A nL kc ks Q w pc lv (.int x :: rest) := fun H locs ls a1 a2 a3 a4 => lv_tableOut C.1 C.2.1 hdg h ht (k H locs ls a1 a2 a3 a4)
theorem m_topi {x : Int32} (k : ∀ y : Int32, y = x → mW p l e R s m args below meth c D A nL kc ks Q w pc lv (.int y :: rest)) : mW p l e R s m args below meth c D A nL kc ks Q w pc lv (.int x :: rest) := k x rfl
theorem m_iald (C : mC p s m args meth c D cy A cc nL own Ts ret0) (q0 : Nat) {a n : Nat} {f : Nat → Int32} (ha : w[q0]? = some (a, .inl (cy 0, n, .inl f))) {i : Int32} (hin : vp_in i n) (hdg : decode cc pc = .ok (.iaload, 1)) (kk : mW p l e R s m args below meth c D A nL kc ks Q w (pc + 1) lv (.int (f i.toNatClampNeg) :: rest)) : mW p l e R s m args below meth c D A nL kc ks Q w pc lv (.int i :: .ref a :: rest) := fun H locs ls a1 a2 a3 a4 => va_iald C.1 C.2.1 C.2.2.2.2.2.1 a1 q0 0 ha rfl hin hdg (kk H locs ls a1 a2 a3 a4)
theorem m_bald (C : mC p s m args meth c D cy A cc nL own Ts ret0) (q0 : Nat) {a n : Nat} {f : Nat → Int32} (ha : w[q0]? = some (a, .inl (cy 1, n, .inl f))) {i : Int32} (hin : vp_in i n) (hdg : decode cc pc = .ok (.baload, 1)) (kk : mW p l e R s m args below meth c D A nL kc ks Q w (pc + 1) lv (.int (f i.toNatClampNeg) :: rest)) : mW p l e R s m args below meth c D A nL kc ks Q w pc lv (.int i :: .ref a :: rest) := fun H locs ls a1 a2 a3 a4 => va_bald C.1 C.2.1 C.2.2.2.2.2.1 a1 q0 1 ha rfl hin hdg (kk H locs ls a1 a2 a3 a4)
theorem m_zald (C : mC p s m args meth c D cy A cc nL own Ts ret0) (q0 : Nat) {a n : Nat} {f : Nat → Int32} (ha : w[q0]? = some (a, .inl (cy 2, n, .inl f))) {i : Int32} (hin : vp_in i n) (hdg : decode cc pc = .ok (.baload, 1)) (kk : mW p l e R s m args below meth c D A nL kc ks Q w (pc + 1) lv (.int (f i.toNatClampNeg) :: rest)) : mW p l e R s m args below meth c D A nL kc ks Q w pc lv (.int i :: .ref a :: rest) := fun H locs ls a1 a2 a3 a4 => va_zald C.1 C.2.1 C.2.2.2.2.2.1 a1 q0 2 ha rfl hin hdg (kk H locs ls a1 a2 a3 a4)
theorem m_lald (C : mC p s m args meth c D cy A cc nL own Ts ret0) (q0 : Nat) {a n : Nat} {f : Nat → Int64} (ha : w[q0]? = some (a, .inl (cy 4, n, .inr (.inl f)))) {i : Int32} (hin : vp_in i n) (hdg : decode cc pc = .ok (.laload, 1)) (kk : mW p l e R s m args below meth c D A nL kc ks Q w (pc + 1) lv (.long (f i.toNatClampNeg) :: rest)) : mW p l e R s m args below meth c D A nL kc ks Q w pc lv (.int i :: .ref a :: rest) := fun H locs ls a1 a2 a3 a4 => va_lald C.1 C.2.1 C.2.2.2.2.2.1 a1 q0 4 ha rfl hin hdg (kk H locs ls a1 a2 a3 a4)
theorem m_aald (C : mC p s m args meth c D cy A cc nL own Ts ret0) (q0 : Nat) {a n : Nat} {f : Nat → Option Nat} (ha : w[q0]? = some (a, .inl (cy 3, n, .inr (.inr (.inr (.inr f)))))) {i : Int32} (hin : vp_in i n) (hdg : decode cc pc = .ok (.aaload, 1)) (kk : mW p l e R s m args below meth c D A nL kc ks Q w (pc + 1) lv (va_rf (f i.toNatClampNeg) :: rest)) : mW p l e R s m args below meth c D A nL kc ks Q w pc lv (.int i :: .ref a :: rest) := fun H locs ls a1 a2 a3 a4 => va_aldq C.1 C.2.1 C.2.2.2.2.2.1 a1 q0 3 ha rfl hin hdg (kk H locs ls a1 a2 a3 a4)
theorem m_iast (C : mC p s m args meth c D cy A cc nL own Ts ret0) (q0 : Nat) {a n : Nat} {f : Nat → Int32} (ha : w[q0]? = some (a, .inl (cy 0, n, .inl f))) {i : Int32} {x : Int32} (hin : vp_in i n) (hdg : decode cc pc = .ok (.iastore, 1)) (hw : w.set q0 (a, .inl (cy 0, n, .inl (upd f i.toNatClampNeg x))) = w') (kk : mW p l e R s m args below meth c D A nL kc ks Q w' (pc + 1) lv rest) : mW p l e R s m args below meth c D A nL kc ks Q w pc lv (.int x :: .int i :: .ref a :: rest) := fun H locs ls a1 a2 a3 a4 => va_iast C.1 C.2.1 C.2.2.2.2.2.1 a1 a2 a3 q0 0 ha rfl hin hdg (fun H1 locs1 b1 b2 b3 => kk H1 locs1 ls (hw ▸ b1) (hw ▸ b2) b3 a4)
theorem m_bast (C : mC p s m args meth c D cy A cc nL own Ts ret0) (q0 : Nat) {a n : Nat} {f : Nat → Int32} (ha : w[q0]? = some (a, .inl (cy 1, n, .inl f))) {i : Int32} {x : Int32} (hin : vp_in i n) (hdg : decode cc pc = .ok (.bastore, 1)) (hw : w.set q0 (a, .inl (cy 1, n, .inl (upd f i.toNatClampNeg (vp_nar .byte x)))) = w') (kk : mW p l e R s m args below meth c D A nL kc ks Q w' (pc + 1) lv rest) : mW p l e R s m args below meth c D A nL kc ks Q w pc lv (.int x :: .int i :: .ref a :: rest) := fun H locs ls a1 a2 a3 a4 => va_bast C.1 C.2.1 C.2.2.2.2.2.1 a1 a2 a3 q0 1 ha rfl hin hdg (fun H1 locs1 b1 b2 b3 => kk H1 locs1 ls (hw ▸ b1) (hw ▸ b2) b3 a4)
theorem m_zast (C : mC p s m args meth c D cy A cc nL own Ts ret0) (q0 : Nat) {a n : Nat} {f : Nat → Int32} (ha : w[q0]? = some (a, .inl (cy 2, n, .inl f))) {i : Int32} {x : Int32} (hin : vp_in i n) (hdg : decode cc pc = .ok (.bastore, 1)) (hw : w.set q0 (a, .inl (cy 2, n, .inl (upd f i.toNatClampNeg (vp_nar .boolean x)))) = w') (kk : mW p l e R s m args below meth c D A nL kc ks Q w' (pc + 1) lv rest) : mW p l e R s m args below meth c D A nL kc ks Q w pc lv (.int x :: .int i :: .ref a :: rest) := fun H locs ls a1 a2 a3 a4 => va_zast C.1 C.2.1 C.2.2.2.2.2.1 a1 a2 a3 q0 2 ha rfl hin hdg (fun H1 locs1 b1 b2 b3 => kk H1 locs1 ls (hw ▸ b1) (hw ▸ b2) b3 a4)
theorem m_last (C : mC p s m args meth c D cy A cc nL own Ts ret0) (q0 : Nat) {a n : Nat} {f : Nat → Int64} (ha : w[q0]? = some (a, .inl (cy 4, n, .inr (.inl f)))) {i : Int32} {x : Int64} (hin : vp_in i n) (hdg : decode cc pc = .ok (.lastore, 1)) (hw : w.set q0 (a, .inl (cy 4, n, .inr (.inl (vp_updL f i.toNatClampNeg x)))) = w') (kk : mW p l e R s m args below meth c D A nL kc ks Q w' (pc + 1) lv rest) : mW p l e R s m args below meth c D A nL kc ks Q w pc lv (.long x :: .int i :: .ref a :: rest) := fun H locs ls a1 a2 a3 a4 => va_last C.1 C.2.1 C.2.2.2.2.2.1 a1 a2 a3 q0 4 ha rfl hin hdg (fun H1 locs1 b1 b2 b3 => kk H1 locs1 ls (hw ▸ b1) (hw ▸ b2) b3 a4)
theorem m_alen (C : mC p s m args meth c D cy A cc nL own Ts ret0) (q0 t0 : Nat) {a : Nat} {cA : ClassId} {x : vp_A} (ha : w[q0]? = some (a, .inl (cA, x))) {ty : FieldType} (ht : (mTy cy)[t0]? = some (cA, ty)) {v : Int32} (hv : Int32.ofNat x.1 = v) (hdg : decode cc pc = .ok (.arraylength, 1)) (kk : mW p l e R s m args below meth c D A nL kc ks Q w (pc + 1) lv (.int v :: rest)) : mW p l e R s m args below meth c D A nL kc ks Q w pc lv (.ref a :: rest) := fun H locs ls a1 a2 a3 a4 => va_alen C.1 C.2.1 C.2.2.2.2.2.1 a1 q0 t0 ha ht hv hdg (kk H locs ls a1 a2 a3 a4)
theorem m_get (C : mC p s m args meth c D cy A cc nL own Ts ret0) {Cn : String} {T : u_T} {N ci index : Nat} (hin : ∀ w ∈ u_ws Cn T N, w ∈ Ts) (q0 : Nat) {a : Nat} {fs : List Value} (he : w[q0]? = some (a, .inr (ci, fs))) (hc : vwCl[ci]? = some (Cn, T, N)) (k : Nat) (hk : k < N) (hlink : Cond.fieldLink own index (T k).1 (T k).2.1 (T k).2.2.1 ∈ Ts) {v : Value} (hv : fs[k]? = some v) (hdg : decode cc pc = .ok (.getfield index, 3)) (kk : mW p l e R s m args below meth c D A nL kc ks Q w (pc + 3) lv (v :: rest)) : mW p l e R s m args below meth c D A nL kc ks Q w pc lv (.ref a :: rest) := fun H locs ls a1 a2 a3 a4 => va_get C.1 C.2.1 C.2.2.2.2.1 hin C.2.2.2.1 C.2.2.2.2.2.1 a1 q0 he hc k hk (C.2.2.2.2.1 _ hlink) (fun _ h => h) hv hdg (kk H locs ls a1 a2 a3 a4)
theorem m_getN (C : mC p s m args meth c D cy A cc nL own Ts ret0) {host : String} {Cn : String} {T : u_T} {N ci index : Nat} (hin : ∀ w ∈ u_ws Cn T N, w ∈ Ts) (q0 : Nat) {a : Nat} {fs : List Value} (he : w[q0]? = some (a, .inr (ci, fs))) (hc : vwCl[ci]? = some (Cn, T, N)) (k : Nat) (hk : k < N) (hlink : Cond.fieldLinkNest own index (T k).1 (T k).2.1 (T k).2.2.1 host ∈ nW) {v : Value} (hv : fs[k]? = some v) (hdg : decode cc pc = .ok (.getfield index, 3)) (kk : mW p l e R s m args below meth c D A nL kc ks Q w (pc + 3) lv (v :: rest)) : mW p l e R s m args below meth c D A nL kc ks Q w pc lv (.ref a :: rest) := fun H locs ls a1 a2 a3 a4 => va_getN C.1 C.2.1 C.2.2.2.2.1 hin C.2.2.2.1 C.2.2.2.2.2.1 a1 q0 he hc k hk (va_any rfl (C.2.2.2.2.2.2.2.2.2.1 _ hlink)) (fun _ h => h) hv hdg (kk H locs ls a1 a2 a3 a4)
theorem m_put (C : mC p s m args meth c D cy A cc nL own Ts ret0) {Cn : String} {T : u_T} {N ci index : Nat} (hin : ∀ w ∈ u_ws Cn T N, w ∈ Ts) (ty0 : Nat → FieldType) (hty : ∀ k, k < N → parseFieldDescriptor (T k).2.2.1 = some (ty0 k)) (hnm : ∀ a, a < N → ∀ b, b < N → a ≠ b → (T a).2.1 ≠ (T b).2.1) (q0 : Nat) {a : Nat} {fs : List Value} (he : w[q0]? = some (a, .inr (ci, fs))) (hc : vwCl[ci]? = some (Cn, T, N)) (k : Nat) (hk : k < N) (hlink : Cond.fieldLink own index (T k).1 (T k).2.1 (T k).2.2.1 ∈ Ts) (hfin : (T k).2.2.2 = false) {v : Value} (hn : narrow (ty0 k) v = v) (hfit : fits (ty0 k) v = true) (hl : k < fs.length) (hdg : decode cc pc = .ok (.putfield index, 3)) (hw : w.set q0 (a, .inr (ci, fs.set k v)) = w') (kk : mW p l e R s m args below meth c D A nL kc ks Q w' (pc + 3) lv rest) : mW p l e R s m args below meth c D A nL kc ks Q w pc lv (v :: .ref a :: rest) := fun H locs ls a1 a2 a3 a4 => va_put C.1 C.2.1 C.2.2.2.2.1 hin ty0 hty hnm C.2.2.2.1 C.2.2.2.2.2.1 a1 a2 a3 q0 he hc k hk (C.2.2.2.2.1 _ hlink) (fun _ h => h) hfin (hty k hk) hn hfit hl hdg (fun H1 locs1 b1 b2 b3 => kk H1 locs1 ls (hw ▸ b1) (hw ▸ b2) b3 a4)
theorem m_putN (C : mC p s m args meth c D cy A cc nL own Ts ret0) {host : String} {Cn : String} {T : u_T} {N ci index : Nat} (hin : ∀ w ∈ u_ws Cn T N, w ∈ Ts) (ty0 : Nat → FieldType) (hty : ∀ k, k < N → parseFieldDescriptor (T k).2.2.1 = some (ty0 k)) (hnm : ∀ a, a < N → ∀ b, b < N → a ≠ b → (T a).2.1 ≠ (T b).2.1) (q0 : Nat) {a : Nat} {fs : List Value} (he : w[q0]? = some (a, .inr (ci, fs))) (hc : vwCl[ci]? = some (Cn, T, N)) (k : Nat) (hk : k < N) (hlink : Cond.fieldLinkNest own index (T k).1 (T k).2.1 (T k).2.2.1 host ∈ nW) (hfin : (T k).2.2.2 = false) {v : Value} (hn : narrow (ty0 k) v = v) (hfit : fits (ty0 k) v = true) (hl : k < fs.length) (hdg : decode cc pc = .ok (.putfield index, 3)) (hw : w.set q0 (a, .inr (ci, fs.set k v)) = w') (kk : mW p l e R s m args below meth c D A nL kc ks Q w' (pc + 3) lv rest) : mW p l e R s m args below meth c D A nL kc ks Q w pc lv (v :: .ref a :: rest) := fun H locs ls a1 a2 a3 a4 => va_putN C.1 C.2.1 C.2.2.2.2.1 hin ty0 hty hnm C.2.2.2.1 C.2.2.2.2.2.1 a1 a2 a3 q0 he hc k hk (va_any rfl (C.2.2.2.2.2.2.2.2.2.1 _ hlink)) (fun _ h => h) hfin (hty k hk) hn hfit hl hdg (fun H1 locs1 b1 b2 b3 => kk H1 locs1 ls (hw ▸ b1) (hw ▸ b2) b3 a4)
theorem m_putF (C : mC p s m args meth c D cy A cc nL own Ts ret0) {Cn : String} {T : u_T} {N ci index : Nat} (hin : ∀ w ∈ u_ws Cn T N, w ∈ Ts) (ty0 : Nat → FieldType) (hty : ∀ k, k < N → parseFieldDescriptor (T k).2.2.1 = some (ty0 k)) (hnm : ∀ a, a < N → ∀ b, b < N → a ≠ b → (T a).2.1 ≠ (T b).2.1) (q0 : Nat) {a : Nat} {fs : List Value} (he : w[q0]? = some (a, .inr (ci, fs))) (hc : vwCl[ci]? = some (Cn, T, N)) (k : Nat) (hk : k < N) (hlink : Cond.fieldLink own index (T k).1 (T k).2.1 (T k).2.2.1 ∈ Ts) (hfin : (T k).2.2.2 = true) (hin2 : meth.name = "<init>") (hdecl : (T k).1 = own) {v : Value} (hn : narrow (ty0 k) v = v) (hfit : fits (ty0 k) v = true) (hl : k < fs.length) (hdg : decode cc pc = .ok (.putfield index, 3)) (hw : w.set q0 (a, .inr (ci, fs.set k v)) = w') (kk : mW p l e R s m args below meth c D A nL kc ks Q w' (pc + 3) lv rest) : mW p l e R s m args below meth c D A nL kc ks Q w pc lv (v :: .ref a :: rest) := fun H locs ls a1 a2 a3 a4 => va_putF C.1 C.2.1 C.2.2.2.2.1 hin ty0 hty hnm C.2.2.2.1 C.2.2.2.2.2.1 a1 a2 a3 q0 he hc k hk (C.2.2.2.2.1 _ hlink) (fun _ h => h) hfin hin2 hdecl (hty k hk) hn hfit hl hdg (fun H1 locs1 b1 b2 b3 => kk H1 locs1 ls (hw ▸ b1) (hw ▸ b2) b3 a4)
theorem m_newa (C : mC p s m args meth c D cy A cc nL own Ts ret0) {atype : ArrayType} (t0 : Nat) {ty : FieldType} (hty : newarray.typeOf atype = ty) (ht : (mTy cy)[t0]? = some (cy t0, ty)) (hpr : ∀ (U : State) (cA : ClassId), va_RA U cA ty → U.vm.findClass ("[" ++ ty.toString) = some cA) (harr : Cond.arrayClass (newarray.typeOf atype) ∈ Ts) {n : Int32} {N' : Nat} {a0 : vp_A} (ha : ∀ cA : ClassId, vp_cell cA a0 = arrV cA N' (fun _ => defaultValue ty)) (hn : ¬ n < 0) (hN : n.toNatClampNeg = N') (hbytes : N' * componentBytes ty ≤ 536870912) (hcells : kc + 1 ≤ R.cells) (hslots : ks + N' ≤ R.slots) (hdg : decode cc pc = .ok (.newarray atype, 2))
    (kk : ∀ q : Nat, mW p l e R s m args below meth c D A nL (kc + 1) (ks + N') Q (w ++ [(q, .inl (cy t0, a0))]) (pc + 2) lv (.ref q :: rest)) : mW p l e R s m args below meth c D A nL kc ks Q w pc lv (.int n :: rest) := by
  intro H locs ls a1 a2 a3 a4
  refine va_newa C.1 C.2.1 (C.2.2.2.2.1 _ harr) hty C.2.2.2.2.2.1 a1 a2 a3 C.2.2.2.2.2.2.1 ha hn hN hbytes hcells hslots hdg (fun q cA H1 hK b1 b2 b3 => ?_)
  have e1 : s.vm.findClass ("[" ++ ty.toString) = some cA := hpr s cA (hK.2 5 (cA, ty) rfl).2
  have e2 : s.vm.findClass ("[" ++ ty.toString) = some (cy t0) := hpr s (cy t0) (C.2.2.2.2.2.1.2 t0 (cy t0, ty) ht).2
  have e3 : cA = cy t0 := Option.some.inj (e1.symm.trans e2)
  subst e3
  exact kk q H1 locs ls b1 b2 b3 a4
theorem m_copy (C : mC p s m args meth c D cy A cc nL own Ts ret0) {index : Nat} (hlink : Cond.methodLink own index arraycopyName ∈ Ts) (hnat : Cond.native arraycopyName ∈ Ts) (hstat : Cond.static arraycopyName ∈ Ts) (hini : Cond.initialized "java/lang/System" ∈ Ts) (q0 q1 t0 t1 : Nat) {a a0 : Nat} {c0 c1 : ClassId} {n0 n1 : Nat} {f g : Nat → Int32} {ty : FieldType} (ha0 : w[q0]? = some (a0, .inl (c0, n0, .inl f))) (ha1 : w[q1]? = some (a, .inl (c1, n1, .inl g))) (ht0 : (mTy cy)[t0]? = some (c0, ty)) (ht1 : (mTy cy)[t1]? = some (c1, ty)) (hprim : refKind ty = false) {sp dp n : Int32} (h1 : ¬ sp < 0) (h2 : ¬ dp < 0) (h3 : ¬ n < 0) (h4 : sp.toNatClampNeg + n.toNatClampNeg ≤ n0) (h5 : dp.toNatClampNeg + n.toNatClampNeg ≤ n1) (hfit : ∀ i, i < n.toNatClampNeg → fits ty (.int (f (sp.toNatClampNeg + i))) = true) (hframes : 1 ≤ R.frames) (hlocals : (rest.map fun v => v.category).sum + (nativeFrameWords "java/lang/System" "arraycopy" 5 + 11) ≤ R.locals) (hdg : decode cc pc = .ok (.invokestatic index, 3)) (hw : w.set q1 (a, .inl (c1, n1, .inl (va_cpy f g sp.toNatClampNeg dp.toNatClampNeg n.toNatClampNeg))) = w') (kk : mW p l e R s m args below meth c D A nL kc ks Q w' (pc + 3) lv rest) : mW p l e R s m args below meth c D A nL kc ks Q w pc lv (.int n :: .int dp :: .ref a :: .int sp :: .ref a0 :: rest) := fun H locs ls a1 a2 a3 a4 => va_copyi C.1 C.2.1 (by rw [C.2.2.1, a4.1]) C.2.2.2.1 (C.2.2.2.2.1 _ hlink) (C.2.2.2.2.1 _ hnat) (C.2.2.2.2.1 _ hstat) (C.2.2.2.2.1 _ hini) C.2.2.2.2.2.1 a1 a2 a3 q0 q1 t0 t1 ha0 ha1 ht0 ht1 hprim h1 h2 h3 h4 h5 hfit hframes hlocals hdg (fun H1 locs1 b1 b2 b3 => kk H1 locs1 ls (hw ▸ b1) (hw ▸ b2) b3 a4)
theorem m_mmax (C : mC p s m args meth c D cy A cc nL own Ts ret0) {index : Nat} (hlink : Cond.methodLink own index Lib.Math.max.name ∈ Ts) (hstat : Cond.static Lib.Math.max.name ∈ Ts) (hini : Cond.initialized "java/lang/Math" ∈ Ts) (hcode : Cond.code Lib.Math.max.name Lib.Math.max.code 2 (some .int) ∈ Ts) (hframes : 1 ≤ R.frames) (hlocals : (rest.map fun v => v.category).sum + 13 ≤ R.locals) (hc : kc ≤ R.cells) (hs : ks ≤ R.slots) {x y : Int32} (hdg : decode cc pc = .ok (.invokestatic index, 3)) (kk : mW p l e R s m args below meth c D A nL kc ks Q w (pc + 3) lv (.int (if x < y then y else x) :: rest)) : mW p l e R s m args below meth c D A nL kc ks Q w pc lv (.int y :: .int x :: rest) := fun H locs ls a1 a2 a3 a4 => va_mmax C.1 C.2.1 (by rw [C.2.2.1, a4.1]) C.2.2.2.1 (C.2.2.2.2.1 _ hlink) (C.2.2.2.2.1 _ hstat) (C.2.2.2.2.1 _ hini) (C.2.2.2.2.1 _ hcode) hframes hlocals hc hs hdg (kk H locs ls a1 a2 a3 a4)
theorem m_mmin (C : mC p s m args meth c D cy A cc nL own Ts ret0) {index : Nat} (hlink : Cond.methodLink own index Lib.Math.min.name ∈ Ts) (hstat : Cond.static Lib.Math.min.name ∈ Ts) (hini : Cond.initialized "java/lang/Math" ∈ Ts) (hcode : Cond.code Lib.Math.min.name Lib.Math.min.code 2 (some .int) ∈ Ts) (hframes : 1 ≤ R.frames) (hlocals : (rest.map fun v => v.category).sum + 13 ≤ R.locals) (hc : kc ≤ R.cells) (hs : ks ≤ R.slots) {x y : Int32} (hdg : decode cc pc = .ok (.invokestatic index, 3)) (kk : mW p l e R s m args below meth c D A nL kc ks Q w (pc + 3) lv (.int (if y < x then y else x) :: rest)) : mW p l e R s m args below meth c D A nL kc ks Q w pc lv (.int y :: .int x :: rest) := fun H locs ls a1 a2 a3 a4 => va_mmin C.1 C.2.1 (by rw [C.2.2.1, a4.1]) C.2.2.2.1 (C.2.2.2.2.1 _ hlink) (C.2.2.2.2.1 _ hstat) (C.2.2.2.2.1 _ hini) (C.2.2.2.2.1 _ hcode) hframes hlocals hc hs hdg (kk H locs ls a1 a2 a3 a4)
/-- the end that a body owes -/
def mQ (D : va_G) (Φ : Option Value → va_W → Prop) (A : Nat → Prop) (below : List Frame) (args : Array Value) (s : State) (mc ms : Nat) : State → Prop :=
  MQ below (fun _ st oc t => (∃ (r : Option Value) (w' : va_W), oc = .returned r ∧ Φ r w' ∧ va_P D vwCl w' t.heap ∧ va_D A w') ∧ va_F A st t) args s mc ms A
/-- a contract: y called with av in the world w answers r and leaves w', Φ r w'; at most mc cells of ms slots are new -/
def mM (l : Launch) (D : va_G) (cy : Nat → ClassId) (y : MethodName) (ws : List Cond) (d mc ms : Nat) (av : List Value) (w : va_W) (Φ : Option Value → va_W → Prop) : Prop :=
  ∀ sz : Nat, Met l y ws { frames := d, cells := mc, slots := ms, locals := 40 * d } (va_Pc av (fun U => U.heap.size = sz ∧ va_P D vwCl w U.heap ∧ va_K D vwCl (mTy cy) U ∧ va_D (fun _ => True) w ∧ nK U)) (fun _ st oc t => (∃ (r : Option Value) (w' : va_W), oc = .returned r ∧ Φ r w' ∧ va_P D vwCl w' t.heap ∧ va_D (va_A w sz) w') ∧ va_F (va_A w sz) st t) mc ms (va_A w sz)
theorem mM.of {y : MethodName} {ws ws' : List Cond} {d mc ms : Nat} {av : List Value} {Φ : Option Value → va_W → Prop} (hy : plainName y.cls = true) (hw : ws = Cond.code y cc nL ret0 :: ws') (hlen : (lg_sl av).length ≤ nL)
    (body : ∀ (p : Program) (e : Env) (s : State) (m : MethodId) (args : Array Value) (below : List Frame) (meth : Method) (c : Code) (A : Nat → Prop), mC p s m args meth c D cy A cc nL y.cls ws ret0 → (y.name = "<init>" → meth.name = "<init>") → mW p l e { frames := d, cells := mc, slots := ms, locals := 40 * d } s m args below meth c D A nL 0 0 (mQ D Φ A below args s mc ms) w 0 (lv_args 0 av) []) : mM l D cy y ws d mc ms av w Φ := by
  intro sz
  refine Met.ofW (cc := cc) (maxL := nL) (ret := ret0) hy hw ?_
  intro p e s m args below meth c s₁ B hml hv
  obtain ⟨rfl, hsz, hP, hK, hD0, hNk⟩ := hv
  subst hsz
  have hl := lv_entry av (n := nL) hlen
  rw [lg_entry_eq]
  have hC : mC p s m av.toArray meth c D cy (va_A w s.heap.size) cc nL y.cls ws ret0 := ⟨B.exec, B.bytes, hml, findClass_of_methodNamed B.named, atoms_spec (ws := ws) B.pre, hK, fun q h => Or.inr h, B.returns, B.notSynchronized, hNk⟩
  exact body p e s m av.toArray below meth c (va_A w s.heap.size) hC (fun h => (name_of_methodNamed B.named B.method).1.trans h) s.heap [] _ hP hD0.self va_S.rf hl
theorem m_iret (C : mC p s m args meth c D cy A cc nL own Ts (some .int)) {Φ : Option Value → va_W → Prop} {mc ms : Nat} {v : Int32} (hdg : decode cc pc = .ok (.ireturn, 1)) (h1 : kc ≤ mc) (h2 : ks ≤ ms) (hq : Φ (some (.int v)) w) : mW p l e R s m args below meth c D A nL kc ks (mQ D Φ A below args s mc ms) w pc lv [.int v] := by
  intro H locs ls a1 a2 a3 a4
  refine W.widen h1 h2 ?_
  exact W.iret C.1 C.2.1 C.2.2.2.2.2.2.2.1 (fun t ht hW => ⟨⟨_, w, rfl, hq, by rw [ht]; exact a1, a2⟩, a3.F ht⟩) a3.2.2 hdg C.2.2.2.2.2.2.2.2.1
theorem m_zret (C : mC p s m args meth c D cy A cc nL own Ts (some .boolean)) {Φ : Option Value → va_W → Prop} {mc ms : Nat} {v : Int32} (hdg : decode cc pc = .ok (.ireturn, 1)) (h1 : kc ≤ mc) (h2 : ks ≤ ms) (hn : narrow .boolean (.int v) = .int v) (hq : Φ (some (.int v)) w) : mW p l e R s m args below meth c D A nL kc ks (mQ D Φ A below args s mc ms) w pc lv [.int v] := by
  intro H locs ls a1 a2 a3 a4
  refine W.widen h1 h2 ?_
  exact W.zret C.1 C.2.1 C.2.2.2.2.2.2.2.1 hn (fun t ht hW => ⟨⟨_, w, rfl, hq, by rw [ht]; exact a1, a2⟩, a3.F ht⟩) a3.2.2 hdg C.2.2.2.2.2.2.2.2.1
theorem m_vret (C : mC p s m args meth c D cy A cc nL own Ts none) {Φ : Option Value → va_W → Prop} {mc ms : Nat} (hdg : decode cc pc = .ok (.return_, 1)) (h1 : kc ≤ mc) (h2 : ks ≤ ms) (hq : Φ none w) : mW p l e R s m args below meth c D A nL kc ks (mQ D Φ A below args s mc ms) w pc lv [] := by
  intro H locs ls a1 a2 a3 a4
  refine W.widen h1 h2 ?_
  exact W.vret C.1 C.2.1 C.2.2.2.2.2.2.2.1 (fun t ht hW => ⟨⟨_, w, rfl, hq, by rw [ht]; exact a1, a2⟩, a3.F ht⟩) a3.2.2 hdg C.2.2.2.2.2.2.2.2.1
theorem m_aret {rt : FieldType} (C : mC p s m args meth c D cy A cc nL own Ts (some rt)) (hrt : (∃ n, rt = .object n) ∨ ∃ t, rt = .array t) {Φ : Option Value → va_W → Prop} {mc ms a : Nat} (hdg : decode cc pc = .ok (.areturn, 1)) (h1 : kc ≤ mc) (h2 : ks ≤ ms) (hq : Φ (some (.ref a)) w) : mW p l e R s m args below meth c D A nL kc ks (mQ D Φ A below args s mc ms) w pc lv [.ref a] := by
  intro H locs ls a1 a2 a3 a4
  refine W.widen h1 h2 ?_
  exact W.aret C.1 C.2.1 C.2.2.2.2.2.2.2.1 hrt (Or.inr ⟨_, rfl⟩) (fun t ht hW => ⟨⟨_, w, rfl, hq, by rw [ht]; exact a1, a2⟩, a3.F ht⟩) a3.2.2 hdg C.2.2.2.2.2.2.2.2.1
theorem m_blind {av : List Value} {sz : Nat} : FrameBlind (va_Pc av (fun U => U.heap.size = sz ∧ va_P D vwCl w U.heap ∧ va_K D vwCl (mTy cy) U ∧ va_D (fun _ => True) w ∧ nK U)) := by
  intro a U g mk q
  obtain ⟨q0, q1, qP, qK, qD, qN⟩ := q
  exact ⟨q0, q1, qP, va_K.moved (u := U) (U := U.calling g mk a) (Vm.Alike.refl U.vm) qK, qD, nK.warm (s := U) (U := U.calling g mk a) (State.WarmedH.refl U) qN⟩
/-- behind a call -/
theorem m_behind {H : Heap} {locs : List Loc} {ls : Array Slot} {mc ms : Nat} {st0 : List Value} {Φ : Option Value → va_W → Prop} (C : mC p s m args meth c D cy A cc nL own Ts ret0) (a1 : va_P D vwCl w H) (a2 : va_D A w) (a3 : va_S A s.heap H locs) (a4 : lv_has ls nL lv)
    (hr : va_Run p l e R s m args below meth c H locs kc ks mc ms (F0 m pc ls st0) rest (fun (st : State) (oc : Outcome) (t : State) => (∃ (r : Option Value) (w' : va_W), oc = .returned r ∧ Φ r w' ∧ va_P D vwCl w' t.heap ∧ va_D (va_A w H.size) w') ∧ va_F (va_A w H.size) st t) (va_A w H.size))
    (kk : ∀ (r : Option Value) (w' : va_W), Φ r w' → mW p l e R s m args below meth c D A nL (kc + mc) (ks + ms) Q w' (pc + 3) lv (r.toList ++ rest)) : W p l e R s m args below meth c H locs kc ks Q (F0 m pc ls st0) := by
  intro T hT X
  have hfr : ∀ q, va_A w H.size q → A q := fun q hq => by
    rcases hq with ⟨k, e9, hk⟩ | hq
    · exact a2.2 k _ hk
    · exact C.2.2.2.2.2.2.1 q (Nat.le_trans a3.1 hq)
  obtain ⟨v, st₀, t, T', L, h0, X', hL, e1, e2, ⟨⟨r, w', hv, hp, hb, hd⟩, hz, hk⟩, st⟩ := hr T hT X
  cases hv
  rw [h0] at hz hk
  obtain ⟨t2, b1, b2⟩ := kk v w' hp T'.heap (locs ++ L) ls (by rw [e1]; exact hb) ⟨hd.1, fun k q h9 => hfr _ (hd.2 k q h9)⟩
    ⟨Nat.le_trans a3.1 (by rw [e1]; exact hz), fun q h1 h2 => by rw [e1, hk q (Nat.lt_of_lt_of_le h1 a3.1) (fun z => h2 (hfr q z))]; exact a3.2.1 q h1 h2, fun q hq => by
      rcases List.mem_append.mp hq with h | h
      · exact a3.2.2 q h
      · exact hfr _ (hL q h)⟩ a4 T' rfl X'
  exact ⟨t2, st t2 b1, b2⟩
theorem m_callV (C : mC p s m args meth c D cy A cc nL own Ts ret0) {y : MethodName} {ws' : List Cond} {d' mc' ms' n index maxL : Nat} {bytes : ByteArray} {ret : Option FieldType} {b : Nat} {As : List Value} {Φ : Option Value → va_W → Prop} (hM : mM l D cy y ws' d' mc' ms' (.ref b :: As) w Φ) {Cn : String} {T : u_T} {N ci : Nat} {fs : List Value} (cw : CallW R s args own Cn index y bytes maxL ret ws' { frames := d', cells := mc', slots := ms', locals := 40 * d' } mc' ms' n) (q0 : Nat) (he : w[q0]? = some (b, .inr (ci, fs))) (hc : vwCl[ci]? = some (Cn, T, N)) (hn : As.length = n) {st0 : List Value} (hst : st0 = As.reverse ++ .ref b :: rest) (hrm : (rest.map fun v => v.category).sum ≤ 8) (hdg : decode cc pc = .ok (.invokevirtual index, 3)) (hf : kc + mc' ≤ R.cells ∧ ks + ms' ≤ R.slots)
    (kk : ∀ (r : Option Value) (w' : va_W), Φ r w' → mW p l e R s m args below meth c D A nL (kc + mc') (ks + ms') Q w' (pc + 3) lv (r.toList ++ rest)) : mW p l e R s m args below meth c D A nL kc ks Q w pc lv st0 := by
  intro H locs ls a1 a2 a3 a4
  have hK := C.2.2.2.2.2.1
  exact m_behind C a1 a2 a3 a4 (va_runV (g := F0 m pc ls st0) ⟨C.1, C.2.1, C.2.2.1, C.2.2.2.1, C.2.2.2.2.1⟩ (hM H.size) cw ⟨m_blind, va_recv hK a1 hc he, fun U hU hW => ⟨rfl, by rw [hU], by rw [hU]; exact a1, va_K.moved hW.alike hK, a2.weaken (fun _ _ _ _ => trivial), nK.warm hW C.2.2.2.2.2.2.2.2.2⟩⟩ rfl hn a4.1 hst (lv_room (m := m) (pc := pc) (ls := ls) (rest := st0) hrm) hdg hf) kk
theorem m_callS (C : mC p s m args meth c D cy A cc nL own Ts ret0) {y : MethodName} {ws' : List Cond} {d' mc' ms' n index maxL : Nat} {bytes : ByteArray} {ret : Option FieldType} {As : List Value} {Φ : Option Value → va_W → Prop} (hM : mM l D cy y ws' d' mc' ms' As w Φ) (cw : CallB R s args own index y bytes maxL ret ws' { frames := d', cells := mc', slots := ms', locals := 40 * d' } mc' ms' n ∧ (Cond.static y).before args s = true) (hn : As.length = n) {st0 : List Value} (hst : st0 = As.reverse ++ rest) (hrm : (rest.map fun v => v.category).sum ≤ 8) (hdg : decode cc pc = .ok (.invokestatic index, 3)) (hf : kc + mc' ≤ R.cells ∧ ks + ms' ≤ R.slots)
    (kk : ∀ (r : Option Value) (w' : va_W), Φ r w' → mW p l e R s m args below meth c D A nL (kc + mc') (ks + ms') Q w' (pc + 3) lv (r.toList ++ rest)) : mW p l e R s m args below meth c D A nL kc ks Q w pc lv st0 := by
  intro H locs ls a1 a2 a3 a4
  have hK := C.2.2.2.2.2.1
  exact m_behind C a1 a2 a3 a4 (va_runS (g := F0 m pc ls st0) ⟨C.1, C.2.1, C.2.2.1, C.2.2.2.1, C.2.2.2.2.1⟩ (hM H.size) cw ⟨m_blind, fun U hU hW => ⟨rfl, by rw [hU], by rw [hU]; exact a1, va_K.moved hW.alike hK, a2.weaken (fun _ _ _ _ => trivial), nK.warm hW C.2.2.2.2.2.2.2.2.2⟩⟩ rfl hn a4.1 hst (lv_room (m := m) (pc := pc) (ls := ls) (rest := st0) hrm) hdg hf) kk
theorem m_join {P : Nat} {wM : va_W} {lvM : List (Nat × Value)} {stM st : List Value} (hJ : mW p l e R s m args below meth c D A nL kc ks Q wM P lvM stM) (k : mW p l e R s m args below meth c D A nL kc ks Q wM P lvM stM → mW p l e R s m args below meth c D A nL kc ks Q w pc lv st) : mW p l e R s m args below meth c D A nL kc ks Q w pc lv st := k hJ
theorem m_ind {σ : Type} (I : Nat → σ → Prop) (wf : σ → va_W) (P : Nat) (lf : σ → List (Nat × Value)) (hs : ∀ (n : Nat) (z : σ), I n z → (∀ (n' : Nat) (z' : σ), n' < n → I n' z' → mW p l e R s m args below meth c D A nL kc ks Q (wf z') P (lf z') []) → mW p l e R s m args below meth c D A nL kc ks Q (wf z) P (lf z) []) (n : Nat) (z : σ) (h : I n z) : mW p l e R s m args below meth c D A nL kc ks Q (wf z) P (lf z) [] := by
  induction n using Nat.strongRecOn generalizing z with
  | ind n ih => exact hs n z h (fun n' z' hn h' => ih n' hn z' h')
theorem m_indK {σ : Type} (I : Nat → σ → Prop) (wf : σ → va_W) (P : Nat) (lf : σ → List (Nat × Value)) (kf nf : σ → Nat) (hs : ∀ (n : Nat) (z : σ), I n z → (∀ (n' : Nat) (z' : σ), n' < n → I n' z' → mW p l e R s m args below meth c D A nL (kf z') (nf z') Q (wf z') P (lf z') []) → mW p l e R s m args below meth c D A nL (kf z) (nf z) Q (wf z) P (lf z) []) (n : Nat) (z : σ) (h : I n z) : mW p l e R s m args below meth c D A nL (kf z) (nf z) Q (wf z) P (lf z) [] := by
  induction n using Nat.strongRecOn generalizing z with
  | ind n ih => exact hs n z h (fun n' z' hn h' => ih n' hn z' h')
end ML
end
section
/-! THE WORLD of class, reference and law by places: 0 CutYard, 1 Cutter, 2 Stock, 3 files, 4 hand, 5 work, 6 taken, 7 seen, 8 uses, 9 lengths, 10 hashes, 11 next, 12 heads, 13 room, 14+i Content i, 30+i its numbers, 46 CutYardModel, 47 hand, 48 row, 49 ends, 50 numbers, 51 fresh, 52 sizes, 53 bytes, 54 counts, 55 parts, 56 uses, 57 lengths, 58 contents, 59 out.
v k j: what place k holds at j (an object's int field by its slot, an array's element); ln k: an array's length; ad k: the address. -/
abbrev gV : Type := Nat → Nat → Int32
def gIs (k : Nat) : Bool := (6 ≤ k && k ≤ 12) || (30 ≤ k && k ≤ 45) || (47 ≤ k && k ≤ 50) || (52 ≤ k && k ≤ 58)
def gBs (k : Nat) : Bool := k == 4 || k == 5 || k == 13
def gE (cy : Nat → ClassId) (ad ln : Nat → Nat) (v : gV) (ou : Nat → Int64) (k : Nat) : va_E :=
  if gIs k = true then .inl (cy 0, ln k, .inl (v k))
  else if gBs k = true then .inl (cy 1, ln k, .inl (v k))
  else if 14 ≤ k ∧ k < 30 then .inr (0, [.ref (ad (k + 16)), .int (v k 1), .int (v k 2)])
  else if k = 0 then .inr (3, [.ref (ad 1), .ref (ad 2), .ref (ad 3), .ref (ad 4), .int (v 0 4), .ref (ad 5), .ref (ad 6), .ref (ad 7)])
  else if k = 1 then .inr (1, [.int (v 1 0), .int (v 1 1), .int (v 1 2)])
  else if k = 2 then .inr (2, [.ref (ad 8), .ref (ad 9), .ref (ad 10), .ref (ad 11), .ref (ad 12), .ref (ad 13), .int (v 2 6), .int (v 2 7), .int (v 2 8)])
  else if k = 3 then .inl (cy 3, 16, .inr (.inr (.inr (.inr (fun i => some (ad (14 + i % 16)))))))
  else if k = 46 then .inr (4, [.int (v 46 0), .int (v 46 1), .int (v 46 2), .int (v 46 3), .int (v 46 4), .ref (ad 47), .int (v 46 6), .ref (ad 48), .int (v 46 8), .ref (ad 49), .ref (ad 50), .ref (ad 51), .ref (ad 52), .ref (ad 53), .ref (ad 54), .ref (ad 55), .ref (ad 56), .ref (ad 57), .ref (ad 58)])
  else if k = 51 then .inl (cy 2, ln 51, .inl (v 51))
  else .inl (cy 4, 1, .inr (.inl ou))
def gW (cy : Nat → ClassId) (ad ln : Nat → Nat) (v : gV) (ou : Nat → Int64) : va_W := (List.range 60).map (fun k => (ad k, gE cy ad ln v ou k))
section GW
variable {cy : Nat → ClassId} {ad ln : Nat → Nat} {v : gV} {ou : Nat → Int64}
theorem gW_at (k : Nat) (hk : k < 60) : (gW cy ad ln v ou)[k]? = some (ad k, gE cy ad ln v ou k) := by
  unfold gW
  rw [List.getElem?_map, List.getElem?_range hk]
  rfl
theorem gE_v {v' : gV} {k : Nat} (h : v' k = v k) : gE cy ad ln v' ou k = gE cy ad ln v ou k := by
  unfold gE
  by_cases h0 : k = 0
  · subst h0; simp [h]
  by_cases h1 : k = 1
  · subst h1; simp [h]
  by_cases h2 : k = 2
  · subst h2; simp [h]
  by_cases h46 : k = 46
  · subst h46; simp [h]
  by_cases h51 : k = 51
  · subst h51; simp [h]
  simp [h, h0, h1, h2, h46, h51]
theorem gW_set {k : Nat} (hk : k < 60) {f : Nat → Int32} {e : va_E} (he : gE cy ad ln (va_up v k f) ou k = e) : (gW cy ad ln v ou).set k (ad k, e) = gW cy ad ln (va_up v k f) ou := by
  apply List.ext_getElem?
  intro j
  by_cases hj : j = k
  · subst hj
    rw [List.getElem?_set_self (by simp [gW]; exact hk), gW_at _ hk, he]
  · rw [List.getElem?_set_ne (fun q => hj q.symm)]
    by_cases hj60 : j < 60
    · rw [gW_at _ hj60, gW_at _ hj60, gE_v (va_up_ne v f hj)]
    · rw [List.getElem?_eq_none (by simp [gW]; omega), List.getElem?_eq_none (by simp [gW]; omega)]
theorem gE_I {k : Nat} (hk : gIs k = true) : gE cy ad ln v ou k = .inl (cy 0, ln k, .inl (v k)) := by unfold gE; rw [if_pos hk]
theorem gE_B {k : Nat} (hk : gBs k = true) : gE cy ad ln v ou k = .inl (cy 1, ln k, .inl (v k)) := by
  unfold gE
  have : gIs k = false := by
    simp [gBs] at hk
    rcases hk with (rfl | rfl) | rfl <;> rfl
  rw [this, if_neg (by decide), if_pos hk]
theorem gIs_lt {k : Nat} (hk : gIs k = true) : k < 60 := by simp [gIs] at hk; omega
theorem gBs_lt {k : Nat} (hk : gBs k = true) : k < 60 := by simp [gBs] at hk; omega
theorem gp_I {k : Nat} (hk : gIs k = true) : (gW cy ad ln v ou)[k]? = some (ad k, .inl (cy 0, ln k, .inl (v k))) := by rw [gW_at k (gIs_lt hk), gE_I hk]
theorem gp_B {k : Nat} (hk : gBs k = true) : (gW cy ad ln v ou)[k]? = some (ad k, .inl (cy 1, ln k, .inl (v k))) := by rw [gW_at k (gBs_lt hk), gE_B hk]
theorem gs_I {k : Nat} (hk : gIs k = true) {f : Nat → Int32} : (gW cy ad ln v ou).set k (ad k, .inl (cy 0, ln k, .inl f)) = gW cy ad ln (va_up v k f) ou := gW_set (gIs_lt hk) (by rw [gE_I hk, va_up_self])
theorem gs_B {k : Nat} (hk : gBs k = true) {f : Nat → Int32} : (gW cy ad ln v ou).set k (ad k, .inl (cy 1, ln k, .inl f)) = gW cy ad ln (va_up v k f) ou := gW_set (gBs_lt hk) (by rw [gE_B hk, va_up_self])
theorem gp_Z : (gW cy ad ln v ou)[51]? = some (ad 51, .inl (cy 2, ln 51, .inl (v 51))) := rfl
theorem gs_Z {f : Nat → Int32} : (gW cy ad ln v ou).set 51 (ad 51, .inl (cy 2, ln 51, .inl f)) = gW cy ad ln (va_up v 51 f) ou := gW_set (by decide) rfl
theorem gp_0 : (gW cy ad ln v ou)[0]? = some (ad 0, .inr (3, [.ref (ad 1), .ref (ad 2), .ref (ad 3), .ref (ad 4), .int (v 0 4), .ref (ad 5), .ref (ad 6), .ref (ad 7)])) := rfl
theorem gp_1 : (gW cy ad ln v ou)[1]? = some (ad 1, .inr (1, [.int (v 1 0), .int (v 1 1), .int (v 1 2)])) := rfl
theorem gp_2 : (gW cy ad ln v ou)[2]? = some (ad 2, .inr (2, [.ref (ad 8), .ref (ad 9), .ref (ad 10), .ref (ad 11), .ref (ad 12), .ref (ad 13), .int (v 2 6), .int (v 2 7), .int (v 2 8)])) := rfl
theorem gp_3 : (gW cy ad ln v ou)[3]? = some (ad 3, .inl (cy 3, 16, .inr (.inr (.inr (.inr (fun i => some (ad (14 + i % 16)))))))) := rfl
theorem gp_46 : (gW cy ad ln v ou)[46]? = some (ad 46, .inr (4, [.int (v 46 0), .int (v 46 1), .int (v 46 2), .int (v 46 3), .int (v 46 4), .ref (ad 47), .int (v 46 6), .ref (ad 48), .int (v 46 8), .ref (ad 49), .ref (ad 50), .ref (ad 51), .ref (ad 52), .ref (ad 53), .ref (ad 54), .ref (ad 55), .ref (ad 56), .ref (ad 57), .ref (ad 58)])) := rfl
theorem gp_C {k : Nat} (h1 : 14 ≤ k) (h2 : k < 30) : (gW cy ad ln v ou)[k]? = some (ad k, .inr (0, [.ref (ad (k + 16)), .int (v k 1), .int (v k 2)])) := by
  rw [gW_at k (by omega)]
  unfold gE
  have e1 : gIs k = false := by simp [gIs]; omega
  have e2 : gBs k = false := by simp [gBs]; omega
  rw [e1, e2]
  simp [h1, h2]
theorem gs_C1 {k : Nat} (h1 : 14 ≤ k) (h2 : k < 30) {x : Int32} : (gW cy ad ln v ou).set k (ad k, .inr (0, [.ref (ad (k + 16)), .int x, .int (v k 2)])) = gW cy ad ln (va_up v k (upd (v k) 1 x)) ou := gW_set (by omega) (by
  have h := gp_C (cy := cy) (ad := ad) (ln := ln) (ou := ou) (v := va_up v k (upd (v k) 1 x)) h1 h2
  rw [gW_at k (by omega)] at h
  have h := (Prod.mk.inj (Option.some.inj h)).2
  rw [h, va_up_self]
  rfl)
theorem gs_C2 {k : Nat} (h1 : 14 ≤ k) (h2 : k < 30) {x : Int32} : (gW cy ad ln v ou).set k (ad k, .inr (0, [.ref (ad (k + 16)), .int (v k 1), .int x])) = gW cy ad ln (va_up v k (upd (v k) 2 x)) ou := gW_set (by omega) (by
  have h := gp_C (cy := cy) (ad := ad) (ln := ln) (ou := ou) (v := va_up v k (upd (v k) 2 x)) h1 h2
  rw [gW_at k (by omega)] at h
  have h := (Prod.mk.inj (Option.some.inj h)).2
  rw [h, va_up_self]
  rfl)
theorem gs_o {k : Nat} (hk : k < 60) {f : Nat → Int32} {e : va_E} (he : gE cy ad ln (va_up v k f) ou k = e) {w : va_W} (hw : gW cy ad ln (va_up v k f) ou = w) : (gW cy ad ln v ou).set k (ad k, e) = w := (gW_set hk he).trans hw
end GW
def ius (a b : Int32) : Int32 := (a.toUInt32 >>> (b.toUInt32 &&& Int32.toUInt32 31)).toInt32
end
section
theorem mM.mono {l : Launch} {D : va_G} {cy : Nat → ClassId} {y : MethodName} {ws : List Cond} {d mc ms : Nat} {av : List Value} {w : va_W} {Φ Φ' : Option Value → va_W → Prop} (h : mM l D cy y ws d mc ms av w Φ) (hq : ∀ (r : Option Value) (w' : va_W), Φ r w' → Φ' r w') : mM l D cy y ws d mc ms av w Φ' := by
  intro sz p e ha hc hk s m args below hf happ hP hK
  obtain ⟨n, o, h1, h2, h3, ⟨⟨⟨r, w', e1, e2, e3, e4⟩, hF⟩, h5⟩⟩ := h sz p e ha hc hk s m args below hf happ hP hK
  exact ⟨n, o, h1, h2, h3, ⟨⟨⟨r, w', e1, hq _ _ e2, e3, e4⟩, hF⟩, h5⟩⟩
section PU
variable {l : Launch} {D : va_G} {cy : Nat → ClassId} {y : MethodName} {ws : List Cond} {d mc ms : Nat} {av : List Value} {w : va_W} {ad ln : Nat → Nat} {ou : Nat → Int64}
theorem pu_i {x0 : Int32} {v0 : gV} (h : mM l D cy y ws d mc ms av w (fun r w1 => ∃ (x1 : Int32) (v1 : gV), r = some (.int x1) ∧ (x1 = x0 ∧ v1 = v0) ∧ w1 = gW cy ad ln v1 ou)) : mM l D cy y ws d mc ms av w (fun r w1 => r = some (.int x0) ∧ w1 = gW cy ad ln v0 ou) :=
  h.mono (fun r w1 q => by obtain ⟨x1, v1, e1, ⟨e2, e3⟩, e4⟩ := q; subst e2; subst e3; exact ⟨e1, e4⟩)
theorem pu_v {v0 : gV} (h : mM l D cy y ws d mc ms av w (fun r w1 => ∃ v1 : gV, r = none ∧ v1 = v0 ∧ w1 = gW cy ad ln v1 ou)) : mM l D cy y ws d mc ms av w (fun r w1 => r = none ∧ w1 = gW cy ad ln v0 ou) :=
  h.mono (fun r w1 q => by obtain ⟨v1, e1, e3, e4⟩ := q; subst e3; exact ⟨e1, e4⟩)
end PU
theorem nz0 : narrow .boolean (.int 0) = .int 0 := rfl
theorem nz1 : narrow .boolean (.int 1) = .int 1 := rfl
theorem nz_if {c : Prop} [Decidable c] {a b : Int32} (ha : narrow .boolean (.int a) = .int a) (hb : narrow .boolean (.int b) = .int b) : narrow .boolean (.int (if c then a else b)) = .int (if c then a else b) := by
  split
  · exact ha
  · exact hb
theorem gC_lo (i : Nat) : 14 ≤ 14 + i % 16 := Nat.le_add_right _ _
theorem gC_hi (i : Nat) : 14 + i % 16 < 30 := by
  have := Nat.mod_lt i (show 0 < 16 by decide)
  omega
theorem gIs_N {k : Nat} (h1 : 14 ≤ k) (h2 : k < 30) : gIs (k + 16) = true := by simp [gIs]; omega
/-! closed forms of the leaves -/
def pmk (b : Int32) : Int32 := ((b + 1) * (-1640531527)) ^^^ ius ((b + 1) * (-1640531527)) 15
def ptn (x k : Int32) : Int32 := (x <<< (k &&& 31)) ||| ius x (32 - k)
def pin (a b c : Int32) : Int32 := if a < b then 0 else if c < a then 0 else 1
def phs (v : gV) (n : Int32) : Int32 := if n < 0 then 0 else if 400 ≤ n then 0 else if v 8 n.toNatClampNeg ≤ 0 then 0 else 1
def ptr (a b c : Int32) : Int32 := if a = 0 then (if b = 0 then (if c = 0 then 0 else 3) else 2) else 1
def prf (a b c : Int32) : Int32 := if ptr a b c ≤ 0 then 0 else 1
def vrf (v : gV) (a b c : Int32) : gV := va_up v 46 (upd (v 46) 0 (ptr a b c))
theorem pin_nz (a b c : Int32) : narrow .boolean (.int (pin a b c)) = .int (pin a b c) := nz_if nz0 (nz_if nz0 nz1)
theorem phs_nz (v : gV) (n : Int32) : narrow .boolean (.int (phs v n)) = .int (phs v n) := nz_if nz0 (nz_if nz0 (nz_if nz0 nz1))
theorem ph_in {n : Int32} (h1 : ¬ n < 0) (h2 : ¬ 400 ≤ n) : vp_in n 400 := by
  rw [vp_in_iff]
  rw [Int32.lt_iff_toInt_lt, Int32.toInt_zero] at h1
  rw [Int32.le_iff_toInt_le] at h2
  have : (400 : Int32).toInt = 400 := rfl
  omega
def pus (v : gV) (n : Int32) : Int32 := if phs v n = 0 then 0 else v 8 n.toNatClampNeg
def plo (v : gV) (n : Int32) : Int32 := if phs v n = 0 then 0 else v 9 n.toNatClampNeg
theorem phs_in {v : gV} {n : Int32} (h : ¬ phs v n = 0) : vp_in n 400 := by
  unfold phs at h
  split at h
  · exact absurd rfl h
  · rename_i h1
    split at h
    · exact absurd rfl h
    · rename_i h2
      exact ph_in h1 h2
end
section
/-! methods that may throw: contract mX, walks that end in mXQ -/
def xN : List String := ["java/lang/RuntimeException", "java/lang/Exception"]
def xB : List Cond := [.castable "java/lang/IllegalArgumentException" "java/lang/IllegalArgumentException", .castable "java/lang/IndexOutOfBoundsException" "java/lang/IndexOutOfBoundsException", .castable "java/lang/UnsupportedOperationException" "java/lang/UnsupportedOperationException", .castable "java/util/NoSuchElementException" "java/util/NoSuchElementException", .declares (Bundle.initS "java/lang/RuntimeException"), .declares (Bundle.initS "java/lang/Exception"), .declares (Bundle.initS Bundle.tN)]
theorem xB_1 : ∀ w ∈ (vx_atS RX3 52 "java/lang/IllegalArgumentException" xN).filter (fun w => !goodWord w), w ∈ xB := by decide +kernel
theorem xB_2 : ∀ w ∈ (vx_atS RX3 121 "java/lang/IndexOutOfBoundsException" xN).filter (fun w => !goodWord w), w ∈ xB := by decide +kernel
theorem xB_3 : ∀ w ∈ (vx_atS RX3 73 "java/lang/UnsupportedOperationException" xN).filter (fun w => !goodWord w), w ∈ xB := by decide +kernel
theorem xB_4 : ∀ w ∈ (vx_atS RX3 138 "java/util/NoSuchElementException" xN).filter (fun w => !goodWord w), w ∈ xB := by decide +kernel
def xStr : List (Nat × String) := [(50, "bits must be 1 .. 8"), (55, "least must be 1 .. 32"), (57, "most must be least .. 64"), (67, "many must be 1 .. 4"), (71, "more than 1500 bytes at hand"), (85, "the file has no such bytes"), (87, "more than 1500 bytes in a file"), (119, "no such byte"), (130, "no such part"), (145, "what must be 0 .. 2"), (154, "no such file"), (160, "more than 400 parts")]
/-- what a throw needs beside the words: Throwable's two statics, the texts, each class's cast to itself -/
def xK (A : Nat → Prop) (sA : Nat → Nat) (U : State) (H : Heap) : Prop := vx_Zq Bundle.tN "UNASSIGNED_STACK" Bundle.steD A U H ∧ vx_Zq Bundle.tN "SUPPRESSED_SENTINEL" Bundle.listD A U H ∧ (∀ q ∈ xStr, vk_R "CutYard" q.1 q.2 (sA q.1) U) ∧ ∀ w ∈ xB, va_Nw w U
theorem xK.to {A B : Nat → Prop} {sA : Nat → Nat} {s U : State} {locs : List Loc} {H1 : Heap} (h : xK A sA s s.heap) (hW : s.WarmedH U.vm) (hS : va_S A s.heap H1 locs) (hU : U.heap = H1) (hAB : ∀ q, B q → A q) : xK B sA U U.heap := by
  rw [hU]
  refine ⟨((h.1.kept hS.2.1).moved hW.alike).narrow hAB, ((h.2.1.kept hS.2.1).moved hW.alike).narrow hAB, fun q hq => (h.2.2.1 q hq).warm hW, fun w hw => ?_⟩
  have h1 := h.2.2.2 w hw
  simp only [xB, List.mem_cons, List.not_mem_nil, or_false] at hw
  rcases hw with rfl | rfl | rfl | rfl | rfl | rfl | rfl <;> first | exact va_Nw.warmC hW h1 | exact va_Nw.warmD hW h1
theorem xK.call {A : Nat → Prop} {sA : Nat → Nat} {U : State} {g : JFrame} {mk : MethodId} {a : Array Value} (h : xK A sA U U.heap) : xK A sA (U.calling g mk a) (U.calling g mk a).heap :=
  h.to (U := U.calling g mk a) (State.WarmedH.refl U) (va_S.rf (H0 := U.heap)) rfl (fun _ q => q)
def mXQ (D : va_G) (Φ : Option Value → va_W → Prop) (Ψ : String → va_W → Prop) (A : Nat → Prop) (below : List Frame) (args : Array Value) (s : State) (mc ms : Nat) : State → Prop :=
  vx_MQ below (fun _ st oc t => (∃ (r : Option Value) (w' : va_W), oc = .returned r ∧ Φ r w' ∧ va_P D vwCl w' t.heap ∧ va_D A w') ∧ va_F A st t) (fun E st t => (∃ w' : va_W, Ψ E w' ∧ va_P D vwCl w' t.heap ∧ va_D A w') ∧ va_F A st t) args s mc ms A
def mX (l : Launch) (D : va_G) (cy : Nat → ClassId) (sA : Nat → Nat) (y : MethodName) (ws : List Cond) (d mc ms : Nat) (av : List Value) (w : va_W) (Φ : Option Value → va_W → Prop) (Ψ : String → va_W → Prop) : Prop :=
  ∀ sz : Nat, vx_Met l y ws { frames := d, cells := mc, slots := ms, locals := 40 * d } (va_Pc av (fun U => U.heap.size = sz ∧ va_P D vwCl w U.heap ∧ va_K D vwCl (mTy cy) U ∧ va_D (fun _ => True) w ∧ nK U ∧ xK (va_A w sz) sA U U.heap)) (fun _ st oc t => (∃ (r : Option Value) (w' : va_W), oc = .returned r ∧ Φ r w' ∧ va_P D vwCl w' t.heap ∧ va_D (va_A w sz) w') ∧ va_F (va_A w sz) st t) (fun E st t => (∃ w' : va_W, Ψ E w' ∧ va_P D vwCl w' t.heap ∧ va_D (va_A w sz) w') ∧ va_F (va_A w sz) st t) mc ms (va_A w sz)
section MX
variable {p : Program} {l : Launch} {e : Env} {R : Room} {s : State} {m : MethodId} {args : Array Value} {below : List Frame} {meth : Method} {c : Code} {D : va_G} {cy : Nat → ClassId} {sA : Nat → Nat} {A : Nat → Prop} {cc : ByteArray} {nL kc ks : Nat} {own : String} {Ts : List Cond} {ret0 : Option FieldType} {w w' : va_W} {pc : Nat} {lv lv' : List (Nat × Value)} {rest : List Value} {Φ : Option Value → va_W → Prop} {Ψ : String → va_W → Prop} {mc ms : Nat}
theorem mX.of {y : MethodName} {ws ws' : List Cond} {d mc ms : Nat} {av : List Value} (hy : plainName y.cls = true) (hw : ws = Cond.code y cc nL ret0 :: ws') (hlen : (lg_sl av).length ≤ nL)
    (body : ∀ (p : Program) (e : Env) (s : State) (m : MethodId) (args : Array Value) (below : List Frame) (meth : Method) (c : Code) (A : Nat → Prop), mC p s m args meth c D cy A cc nL y.cls ws ret0 → (∀ x ∈ c.exceptionTable.toList, False) → xK A sA s s.heap → mW p l e { frames := d, cells := mc, slots := ms, locals := 40 * d } s m args below meth c D A nL 0 0 (mXQ D Φ Ψ A below args s mc ms) w 0 (lv_args 0 av) []) : mX l D cy sA y ws d mc ms av w Φ Ψ := by
  intro sz
  refine vx_ofW (cc := cc) (maxL := nL) (ret := ret0) hy hw ?_
  intro p e s m args below meth c s₁ B hml hT hv
  obtain ⟨rfl, hsz, hP, hK, hD0, hNk, hXk⟩ := hv
  subst hsz
  have hl := lv_entry av (n := nL) hlen
  rw [lg_entry_eq]
  have hC : mC p s m av.toArray meth c D cy (va_A w s.heap.size) cc nL y.cls ws ret0 := ⟨B.exec, B.bytes, hml, findClass_of_methodNamed B.named, atoms_spec (ws := ws) B.pre, hK, fun q h => Or.inr h, B.returns, B.notSynchronized, hNk⟩
  exact body p e s m av.toArray below meth c (va_A w s.heap.size) hC hT hXk s.heap [] _ hP hD0.self va_S.rf hl
theorem m_xr {st : List Value} (k : mW p l e R s m args below meth c D A nL kc ks (mQ D Φ A below args s mc ms) w pc lv st) : mW p l e R s m args below meth c D A nL kc ks (mXQ D Φ Ψ A below args s mc ms) w pc lv st := fun H locs ls a1 a2 a3 a4 => vx_ret (k H locs ls a1 a2 a3 a4)
theorem m_throw (C : mC p s m args meth c D cy A cc nL "CutYard" Ts ret0) (hl : l.stackTraces = false) (hT : ∀ x ∈ c.exceptionTable.toList, False) (hX : xK A sA s s.heap) {cls text : String} {ik is ic : Nat} (hcls : Bundle.fit cls = true) (hk : Cond.classLink "CutYard" ik cls ∈ Ts) (hini : Cond.initialized cls ∈ Ts) (hstr : (is, text) ∈ xStr) (hat : ∀ w ∈ (vx_atS "CutYard" ic cls xN).filter goodWord, w ∈ Ts) (hat2 : ∀ w ∈ (vx_atS "CutYard" ic cls xN).filter (fun w => !goodWord w), w ∈ xB)
    (hgood : ∀ w ∈ Cond.classLink "CutYard" ik cls :: Cond.initialized cls :: vx_atS "CutYard" ic cls xN, vx_ot w = true)
    (d0 : decode cc pc = .ok (.new ik, 3)) (d3 : decode cc (pc + 3) = .ok (.dup, 1)) (d4 : decode cc (pc + 4) = .ok (.ldc is, 2)) (d6 : decode cc (pc + 6) = .ok (.invokespecial ic, 3)) (d9 : decode cc (pc + 9) = .ok (.athrow, 1))
    (hRf : 6 ≤ R.frames) (hRl : (rest.map fun v => v.category).sum + 82 ≤ R.locals) (hRc : kc + 1 ≤ R.cells) (hRs : ks + 6 ≤ R.slots) (hc : kc + 1 ≤ mc) (hs : ks + 6 ≤ ms) (hΨ : Ψ cls w) : mW p l e R s m args below meth c D A nL kc ks (mXQ D Φ Ψ A below args s mc ms) w pc lv rest := by
  intro H locs ls a1 a2 a3 a4
  refine vx_throwS (names := xN) C.1 C.2.1 hl C.2.2.2.1 hcls (by decide) (C.2.2.2.2.1 _ hk) (C.2.2.2.2.1 _ hini) (hX.2.2.1 _ hstr) ?_ hgood hX.1 hX.2.1 a3 (by rw [a4.1]; exact C.2.2.1.symm) d0 d3 d4 d6 d9 (fun x hx => (hT x hx).elim) (by show 2 + 3 < _; omega) (by show _ + (13 * 3 + 43) ≤ _; omega) hRc hRs C.2.2.2.2.2.2.2.2.1 ?_ a3.2.2 hc hs
  · exact vx_hat (fun w hw => C.2.2.2.2.1 w (hat w hw)) hat2 (fun w hw => by
      have h1 := hX.2.2.2 w hw
      simp only [xB, List.mem_cons, List.not_mem_nil, or_false] at hw
      rcases hw with rfl | rfl | rfl | rfl | rfl | rfl | rfl <;> exact va_any rfl h1)
  · intro t hvm hz hk2
    refine ⟨⟨w, hΨ, a1.kept (fun k q h => hk2 q.1 (va_at.lt (a1 k q h))), a2⟩, Nat.le_trans a3.1 hz, fun q h1 h2 => ?_⟩
    rw [hk2 q (Nat.lt_of_lt_of_le h1 a3.1)]
    exact a3.2.1 q h1 h2
theorem m_blindX {av : List Value} {sz : Nat} : FrameBlind (va_Pc av (fun U => U.heap.size = sz ∧ va_P D vwCl w U.heap ∧ va_K D vwCl (mTy cy) U ∧ va_D (fun _ => True) w ∧ nK U ∧ xK (va_A w sz) sA U U.heap)) := by
  intro a U g mk q
  obtain ⟨q0, q1, qP, qK, qD, qN, qX⟩ := q
  exact ⟨q0, q1, qP, va_K.moved (u := U) (U := U.calling g mk a) (Vm.Alike.refl U.vm) qK, qD, nK.warm (s := U) (U := U.calling g mk a) (State.WarmedH.refl U) qN, qX.call⟩
theorem m_frA {H : Heap} {locs : List Loc} (C : mC p s m args meth c D cy A cc nL own Ts ret0) (a2 : va_D A w) (a3 : va_S A s.heap H locs) : ∀ q, va_A w H.size q → A q := fun q hq => by
  rcases hq with ⟨k, e9, hk⟩ | hq
  · exact a2.2 k _ hk
  · exact C.2.2.2.2.2.2.1 q (Nat.le_trans a3.1 hq)
/-- a call of a method that may throw, in a method that doesn't catch -/
theorem m_callVX (C : mC p s m args meth c D cy A cc nL own Ts ret0) (hT : ∀ x ∈ c.exceptionTable.toList, False) (hX : xK A sA s s.heap) {y : MethodName} {ws' : List Cond} {d' mc' ms' n index maxL : Nat} {bytes : ByteArray} {ret : Option FieldType} {b : Nat} {As : List Value} {Φ' : Option Value → va_W → Prop} {Ψ' : String → va_W → Prop} (hM : mX l D cy sA y ws' d' mc' ms' (.ref b :: As) w Φ' Ψ') {Cn : String} {T : u_T} {N ci : Nat} {fs : List Value} (cw : CallW R s args own Cn index y bytes maxL ret ws' { frames := d', cells := mc', slots := ms', locals := 40 * d' } mc' ms' n) (q0 : Nat) (he : w[q0]? = some (b, .inr (ci, fs))) (hc : vwCl[ci]? = some (Cn, T, N)) (hn : As.length = n) {st0 : List Value} (hst : st0 = As.reverse ++ .ref b :: rest) (hrm : (rest.map fun v => v.category).sum ≤ 8) (hdg : decode cc pc = .ok (.invokevirtual index, 3)) (hf : kc + mc' ≤ R.cells ∧ ks + ms' ≤ R.slots) (hmc : kc + mc' ≤ mc ∧ ks + ms' ≤ ms)
    (hΨ : ∀ (E : String) (w' : va_W), Ψ' E w' → Ψ E w')
    (kk : ∀ (r : Option Value) (w' : va_W), Φ' r w' → mW p l e R s m args below meth c D A nL (kc + mc') (ks + ms') (mXQ D Φ Ψ A below args s mc ms) w' (pc + 3) lv (r.toList ++ rest)) : mW p l e R s m args below meth c D A nL kc ks (mXQ D Φ Ψ A below args s mc ms) w pc lv st0 := by
  intro H locs ls a1 a2 a3 a4
  have hK := C.2.2.2.2.2.1
  have hfr := m_frA C a2 a3
  have hr := vx_runV (e := e) (below := below) (meth := meth) (locs := locs) (cells := kc) (slots := ks) (rest := rest) (g := F0 m pc ls st0) ⟨C.1, C.2.1, C.2.2.1, C.2.2.2.1, C.2.2.2.2.1⟩ (hM H.size) cw ⟨m_blindX, va_recv hK a1 hc he, fun U hU hW => ⟨rfl, by rw [hU], by rw [hU]; exact a1, va_K.moved hW.alike hK, a2.weaken (fun _ _ _ _ => trivial), nK.warm hW C.2.2.2.2.2.2.2.2.2, hX.to hW a3 hU hfr⟩⟩ rfl hn a4.1 hst (lv_room (m := m) (pc := pc) (ls := ls) (rest := st0) hrm) hdg hf
  intro T hT0 X
  rcases hr T hT0 X with ⟨v, st₀, t, T', L, h0, X', hL, e1, e2, ⟨⟨r, w', hv, hp, hb, hd⟩, hz, hk⟩, st⟩ | ⟨q, st₀, t, T', L, E, ce, h0, X', hL, e1, e2, ⟨⟨w', hp, hb, hd⟩, hz, hk⟩, hce, hcv, hcl, st⟩
  · cases hv
    rw [h0] at hz hk
    obtain ⟨t2, b1, b2⟩ := kk v w' hp T'.heap (locs ++ L) ls (by rw [e1]; exact hb) ⟨hd.1, fun k q h9 => hfr _ (hd.2 k q h9)⟩
      ⟨Nat.le_trans a3.1 (by rw [e1]; exact hz), fun q h1 h2 => by rw [e1, hk q (Nat.lt_of_lt_of_le h1 a3.1) (fun z => h2 (hfr q z))]; exact a3.2.1 q h1 h2, fun q hq => by
        rcases List.mem_append.mp hq with h | h
        · exact a3.2.2 q h
        · exact hfr _ (hL q h)⟩ a4 T' rfl X'
    exact ⟨t2, st t2 b1, b2⟩
  · rw [h0] at hz hk
    have hS' : va_S A s.heap T'.heap (locs ++ L) := ⟨Nat.le_trans a3.1 (by rw [e1]; exact hz), fun q h1 h2 => by rw [e1, hk q (Nat.lt_of_lt_of_le h1 a3.1) (fun z => h2 (hfr q z))]; exact a3.2.1 q h1 h2, fun q hq => by
        rcases List.mem_append.mp hq with h | h
        · exact a3.2.2 q h
        · exact hfr _ (hL q h)⟩
    have hout := vx_out (p := p) (l := l) (e := e) (R := R) (s := s) (m := m) (args := args) (below := below) (meth := meth) (c := c) (H := T'.heap) (locs := locs ++ L) (cells := kc + mc') (slots := ks + ms') (free := A) (ls := ls) (rest := rest) (Qc := fun _ st oc t => (∃ (r : Option Value) (w' : va_W), oc = .returned r ∧ Φ r w' ∧ va_P D vwCl w' t.heap ∧ va_D A w') ∧ va_F A st t) (XC := fun E st t => (∃ w' : va_W, Ψ E w' ∧ va_P D vwCl w' t.heap ∧ va_D A w') ∧ va_F A st t) (pc := pc) (E := E) (ce := ce) (q := q) (mc := mc) (ms := ms) (fun x hx => (hT x hx).elim) C.2.2.2.2.2.2.2.2.1 (by rw [e1]; exact hce) hcv hcl (fun t9 ht9 _ => ⟨⟨w', hΨ E w' hp, by rw [ht9, e1]; exact hb, ⟨hd.1, fun k q h9 => hfr _ (hd.2 k q h9)⟩⟩, hS'.F ht9⟩) hS'.2.2 hmc.1 hmc.2
    obtain ⟨t2, b1, b2⟩ := hout T' rfl X'
    exact ⟨t2, st.trans b1, b2⟩
end MX
end
section
/-! 'throw new NoSuchElementException(text)': the chain begins with an entry of its own (13). The walk follows the library's Stand.ctorThrowS, with that first link put by hand. -/
def xNS : String := "java/util/NoSuchElementException"
def vz_six : ByteArray := ⟨#[0x2a, 0x2b, 0xb7, 0x00, 0x0d, 0xb1]⟩
def vz_own : List Cond := (Bundle.throwableAtoms ++ Bundle.throwableSAtoms ++ (Bundle.passSAtoms xNS "java/lang/RuntimeException" 13 vz_six ++ Bundle.chainSAtoms "java/lang/RuntimeException" ["java/lang/Exception"]) ++
  ([.methodLink "CutYard" 138 (Bundle.initS xNS), .instantiable xNS 6, .castable xNS xNS, .selects xNS Bundle.tFill0 Bundle.tFill0, .selects xNS Bundle.tFill Bundle.tFill,
   .lays xNS Bundle.tN "cause" "Ljava/lang/Throwable;", .lays xNS Bundle.tN "stackTrace" Bundle.steD, .lays xNS Bundle.tN "suppressedExceptions" Bundle.listD, .lays xNS Bundle.tN "detailMessage" "Ljava/lang/String;",
   .isRef (.static Bundle.tN "UNASSIGNED_STACK" Bundle.steD), .isRef (.static Bundle.tN "SUPPRESSED_SENTINEL" Bundle.listD),
   .fieldLink Bundle.tN 198 Bundle.tN "backtrace" "Ljava/lang/Object;", .lays Bundle.tN Bundle.tN "backtrace" "Ljava/lang/Object;", .lays xNS Bundle.tN "backtrace" "Ljava/lang/Object;"] : List Cond))
theorem vz_at_eq : vz_at = vz_own.filter vx_no := rfl
section VZ
variable {p : Program} {l : Launch} {e : Env} {R : Room} {s : State} {m₀ : MethodId} {args : Array Value} {below : List Frame} {meth : Method} {c : Code} {W : State} {locs : List Loc} {cells slots : Nat}
set_option maxHeartbeats 4000000 in
theorem vz_ctor (X : Stand p l e R s m₀ args below meth c W locs cells slots) (hexec : p.tables.exec = Jvm.exec) (htr : e.platform.stackTraces = false)
    (hown : s.vm.findClass "CutYard" = some m₀.cls) (h : ∀ a ∈ vz_own, a.before args s = true)
    (hlocs : ∀ x ∈ locs, ∀ cell, s.heap[x.base]? = some cell → cell.vm.isStatics = false)
    {a : Addr} {cX : ClassId} {kX : Class} (hfoundX : s.vm.findClass xNS = some cX) (hkX : s.vm.classes[cX]? = some kX) (hcell : W.heap[a]? = some (freshCell cX kX)) (hnew : s.heap.size ≤ a)
    {msg : Value} (hmsg : msg.isRef = true)
    {g : JFrame} (hg : g.method = m₀) (hsize : g.locals.size = c.maxLocals) (hlocked : g.locked = none) (hentered : g.entered = []) {rest : List Value} (hstack : g.stack = msg :: .ref a :: .ref a :: rest)
    (hd6 : decode c.code g.pc = .ok (.invokespecial 138, 3)) (hd9 : decode c.code (g.pc + 3) = .ok (.athrow, 1)) (hout : ∀ x ∈ c.exceptionTable.toList, covers x (g.pc + 3) = false)
    (hRframes : 2 + 3 < R.frames) (hRlocals : 2 * g.monitorRoom + ((Value.ref a :: rest).map fun v => v.category).sum + (13 * 3 + 42) ≤ R.locals) (hlocks : meth.locks = false) :
    ∃ U : State, Steps p.tables e below (W.setTop g) U ∧ U.status = .running ∧ Ended U below (.threw a) ∧ s.WarmedH U.vm ∧ s.sameButNew ({ U with vm := s.vm } : State) locs cells slots ∧
      ∃ ce : Cell, U.heap[a]? = some ce ∧ ce.vm = .none ∧ s.vm.findClass xNS = some ce.cls := by
  have howns : e.platform.frameOwnsMonitors = true := by rw [X.admits.platform]
  have hfin : e.platform.finalization = false := by rw [X.admits.platform]
  have hpl : e.platform.magicAccessors = ({} : Platform).magicAccessors := by rw [X.admits.platform]
  have a' : ∀ x, x ∈ vz_own → x.holds args s none s [] = true := fun x hx => h x hx
  obtain ⟨T, Z0, L, -, Y⟩ := ThrowableC.of_atoms (args := args) howns hfin hpl (fun x hx => h x (by simp [vz_own, hx]))
  obtain ⟨Z, M, LZ, LM, hnZ⟩ := Init0T.ofS_atoms (args := args) hpl L Y (fun x hx => h x (by simp [vz_own, hx]))
  obtain ⟨P1, L1, hP1m, hP1s⟩ := PassC.ofS_atoms (args := args) (s := s) hpl (X := xNS) (Y := "java/lang/RuntimeException") (index := 13) (bytes := vz_six) (by decide) (by decide) (by decide +kernel) (by decide +kernel) (by decide +kernel) (by decide +kernel) (fun x hx => h x (by simp [vz_own, hx]))
  obtain ⟨P2, Ps, hlen, L2, hL, hP2m, hlink2, hlink⟩ := Bundle.chainS (args := args) hpl hnZ ["java/lang/Exception"] "java/lang/RuntimeException" (by decide) (by decide) (fun x hx => h x (by simp [vz_own, hx]))
  have hfound : s.vm.findClass xNS = some P1.m.cls := findClass_of_methodNamed hP1m
  cases Option.some.inj (hfoundX.symm.trans hfound)
  obtain ⟨c1, kX', hc1, hk, hord, -, -, hn6⟩ := Cond.instantiable_spec (a' (.instantiable xNS 6) (by simp [vz_own]))
  cases Option.some.inj (hc1.symm.trans hfound)
  cases Option.some.inj (hkX.symm.trans hk)
  have hsel0 : selectMethod e.platform s.vm P1.m.cls T.fill0 = .method T.fill0 := by
    obtain ⟨c2, r2, m2, q1, q2, q3, q4, -⟩ := Cond.selects_spec (a' (.selects xNS Bundle.tFill0 Bundle.tFill0) (by simp [vz_own]))
    cases Option.some.inj (q1.symm.trans hfound)
    cases Option.some.inj (q2.symm.trans (State.methodFound?_of_named Y.fill0 (by decide)))
    cases Option.some.inj (q3.symm.trans Y.fill0)
    rw [Launch.admits_selectMethod X.admits]; exact q4
  have hselF : selectMethod e.platform s.vm P1.m.cls T.fill = .method T.fill := by
    obtain ⟨c2, r2, m2, q1, q2, q3, q4, -⟩ := Cond.selects_spec (a' (.selects xNS Bundle.tFill Bundle.tFill) (by simp [vz_own]))
    cases Option.some.inj (q1.symm.trans hfound)
    cases Option.some.inj (q2.symm.trans (State.methodFound?_of_named Y.fill (by decide)))
    cases Option.some.inj (q3.symm.trans Y.fill)
    rw [Launch.admits_selectMethod X.admits]; exact q4
  obtain ⟨cellS0, hcS0, hiss⟩ := Y.statics
  obtain ⟨u0, hu0⟩ := Cond.staticRefV Y.unassigned L.unassignedStatic L.statics hcS0 hiss (a' (.isRef (.static Bundle.tN "UNASSIGNED_STACK" Bundle.steD)) (by simp [vz_own]))
  obtain ⟨sen, hsen⟩ := Cond.staticRefV Y.sentinel L.sentinelStatic L.statics hcS0 hiss (a' (.isRef (.static Bundle.tN "SUPPRESSED_SENTINEL" Bundle.listD)) (by simp [vz_own]))
  obtain ⟨ci198, i198, fB, hk198, hg198, ha198, hsB, -, hnB, htB, hffB⟩ := Cond.ownField (t := .object "java/lang/Object") Y.found L.cls (by decide +kernel) (a' (.fieldLink Bundle.tN 198 Bundle.tN "backtrace" "Ljava/lang/Object;") (by simp [vz_own])) (a' (.lays Bundle.tN Bundle.tN "backtrace" "Ljava/lang/Object;") (by simp [vz_own])) e.platform hpl
  obtain ⟨cellS, hcS', heS, -, hkeep⟩ := X.same.2.2.2.2.2 T.aS cellS0 hcS0
  have hcellS : W.heap[T.aS]? = some cellS := hcS'
  have hout' : ∀ i, (⟨T.aS, i⟩ : Loc) ∉ locs := fun i hmem => by
    have := hlocs _ hmem cellS0 hcS0
    rw [hiss] at this; cases this
  have hknownS : cellS.vm ≠ .unknown := by
    rw [heS]; intro hu
    rw [show cellS0.vm = .unknown from hu] at hiss
    cases hiss
  have hneS : T.aS ≠ a := Nat.ne_of_lt (Nat.lt_of_lt_of_le (Array.getElem?_eq_some_iff.mp hcS0).1 hnew)
  obtain ⟨iM, hffM⟩ := Y.msg
  obtain ⟨tyC, dC, hdC, hdnC⟩ := Cond.laysAt hfound hk Y.cause (a' (.lays xNS Bundle.tN "cause" "Ljava/lang/Throwable;") (by simp [vz_own]))
  obtain ⟨tyS, dS, hdS, hdnS⟩ := Cond.laysAt hfound hk Y.stack (a' (.lays xNS Bundle.tN "stackTrace" Bundle.steD) (by simp [vz_own]))
  obtain ⟨tyP, dP, hdP, hdnP⟩ := Cond.laysAt hfound hk Y.supp (a' (.lays xNS Bundle.tN "suppressedExceptions" Bundle.listD) (by simp [vz_own]))
  obtain ⟨tyM, dM, hdM, hdnM⟩ := Cond.laysAt hfound hk hffM (a' (.lays xNS Bundle.tN "detailMessage" "Ljava/lang/String;") (by simp [vz_own]))
  obtain ⟨tyB, dB, hdB, hdnB⟩ := Cond.laysAt hfound hk hffB (a' (.lays xNS Bundle.tN "backtrace" "Ljava/lang/Object;") (by simp [vz_own]))
  have bC := Cond.laysApart hdB hdC hdnB hdnC (by rw [hnB, Y.causeName]; decide)
  have bS := Cond.laysApart hdB hdS hdnB hdnS (by rw [hnB, Y.stackName]; decide)
  have bP := Cond.laysApart hdB hdP hdnB hdnP (by rw [hnB, Y.suppName]; decide)
  have hskip : SkipFacts T e.platform s (fun u => u) u0 ((preparedCellV T.toThrowableT (freshCell P1.m.cls kX) a u0 sen).withEntry W.cur) :=
    ⟨{ ci198 := ci198, i198 := i198, fBack := fB }, ⟨hk198, hg198, ha198, hsB⟩, by
      have := fresh_default (c := P1.m.cls) tyB
      rw [htB] at this
      simpa [preparedCellV, Cell.setSlot, Cell.withEntry, Array.getElem?_setIfInBounds, bC, bS, bP, bC.symm, bS.symm, bP.symm, defaultValue] using this, fun _ _ => rfl⟩
  obtain ⟨tm, methC, cdC, kC, vm₁, hnC, -, -, -, -, -, -, -, hW₁, st1⟩ := Steps.initColdS (tb := p.tables) (e := e) (below := below) (s := s) (U := W) X.here hexec X.warmed hpl hown (t := Bundle.initS xNS) rfl rfl (by decide)
    (a' (.methodLink "CutYard" 138 (Bundle.initS xNS)) (by simp [vz_own])) (h (.instanceMethod (Bundle.initS xNS)) (by simp [vz_own, Bundle.passSAtoms])) (bytes := vz_six) (maxL := 2) (h (.code (Bundle.initS xNS) vz_six 2 none) (by simp [vz_own, Bundle.passSAtoms]))
    (f := g) hg (a := a) (msg := msg) (rest := .ref a :: rest) hstack hd6
  cases Option.some.inj (hnC.symm.trans hP1m)
  have X₁ := X.noted hW₁
  have hlen' : Ps.length = 1 := hlen
  have hlink1 : P1.sup = firstOf (Z.m T.toThrowableT) ((P2 :: Ps).map (·.toPassT)) := Option.some.inj (hP1s.symm.trans hP2m)
  obtain ⟨vm₂, X₂, st2⟩ := X₁.ctorMessageOffV hexec (g := { g with stack := .ref a :: rest }) hg hsize T L Z LZ M LM (P1 :: P2 :: Ps)
    (fun P hP => by
      rcases List.mem_cons.mp hP with rfl | hP
      · exact L1
      · rcases List.mem_cons.mp hP with rfl | hP
        · exact L2
        · exact hL P hP) ⟨hlink1, hlink2, hlink⟩ (u0 := u0) (sen := sen) (self := a) hmsg (cell := freshCell P1.m.cls kX) (cellS := cellS)
    hcell (fun _ => by simp) (by simp) rfl rfl hsel0 hselF hcellS hneS hknownS (by rw [hkeep _ (hout' _)]; exact hu0) (by rw [hkeep _ (hout' _)]; exact hsen)
    (Takes.of_laid hk hord tyC (by rw [Y.causeType]; rfl)) (Takes.of_laid hk hord tyS (by rw [Y.stackType]; exact fits_refV_array _ u0)) (Takes.of_laid hk hord tyP (by rw [Y.suppType]; exact fits_refV_object _ sen))
    (Takes.of_laid hk hord tyM (by rw [Y.msgType]; exact fits_refV_object _ ⟨msg, hmsg⟩)) Y.objLocals hskip htr [] hd6
    (by simp only [List.length_cons, hlen']; omega) (by simp only [List.length_cons, hlen']; exact hRlocals)
  obtain ⟨hwalk, hrun, hended, hWU, hsame⟩ := X₂.athrowLeaves hexec (g := { g with stack := .ref a :: rest, pc := g.pc + 3 }) hg hlocked hentered hout (a := a) (rest := rest) rfl hd9
  have hlt : a < ((W.setVm vm₁).setVm vm₂).heap.size := (Array.getElem?_eq_some_iff.mp hcell).1
  have hU := heapAt_setCell_self (s := (W.setVm vm₁).setVm vm₂) (plainBareV T.toThrowableT (freshCell P1.m.cls kX) a u0 sen msg) hlt
  refine ⟨_, st1 _ (fun acts => ?_), hrun, hended, hWU, hsame.weaken (fun y hy hlt' => ?_) (Nat.le_refl _) (Nat.le_refl _), _, hU, rfl, hfound⟩
  · rw [doInvoke_state]
    exact st2 _ hwalk
  · rcases List.mem_append.mp hy with h1 | h1
    · exact h1
    · exfalso
      have hb : y.base = a := by
        simp only [List.mem_cons, List.not_mem_nil, or_false] at h1
        rcases h1 with rfl | rfl | rfl | rfl | rfl <;> rfl
      rw [hb] at hlt'
      exact Nat.not_lt.mpr hnew hlt'
end VZ
theorem xB_N : ∀ w ∈ vz_at.filter (fun w => !goodWord w), w ∈ xB := by decide +kernel
theorem hg_N : ∀ w ∈ Cond.classLink "CutYard" 136 xNS :: Cond.initialized xNS :: vz_at, vx_ot w = true := by decide +kernel
section VZM
variable {p : Program} {l : Launch} {e : Env} {R : Room} {s : State} {m : MethodId} {args : Array Value} {below : List Frame} {meth : Method} {c : Code} {D : va_G} {cy : Nat → ClassId} {sA : Nat → Nat} {A : Nat → Prop} {cc : ByteArray} {nL kc ks : Nat} {Ts : List Cond} {ret0 : Option FieldType} {w : va_W} {pc : Nat} {lv : List (Nat × Value)} {rest : List Value} {Φ : Option Value → va_W → Prop} {Ψ : String → va_W → Prop} {mc ms : Nat}
set_option maxHeartbeats 4000000 in
theorem m_throwN (C : mC p s m args meth c D cy A cc nL "CutYard" Ts ret0) (hl : l.stackTraces = false) (hT : ∀ x ∈ c.exceptionTable.toList, False) (hX : xK A sA s s.heap) {text : String} {is : Nat} (hk : Cond.classLink "CutYard" 136 xNS ∈ Ts) (hini : Cond.initialized xNS ∈ Ts) (hstr : (is, text) ∈ xStr) (hat : ∀ w ∈ vz_at.filter goodWord, w ∈ Ts)
    (d0 : decode cc pc = .ok (.new 136, 3)) (d3 : decode cc (pc + 3) = .ok (.dup, 1)) (d4 : decode cc (pc + 4) = .ok (.ldc is, 2)) (d6 : decode cc (pc + 6) = .ok (.invokespecial 138, 3)) (d9 : decode cc (pc + 9) = .ok (.athrow, 1))
    (hRf : 6 ≤ R.frames) (hRl : (rest.map fun v => v.category).sum + 82 ≤ R.locals) (hRc : kc + 1 ≤ R.cells) (hRs : ks + 6 ≤ R.slots) (hc : kc + 1 ≤ mc) (hs : ks + 6 ≤ ms) (hΨ : Ψ xNS w) : mW p l e R s m args below meth c D A nL kc ks (mXQ D Φ Ψ A below args s mc ms) w pc lv rest := by
  intro H locs ls a1 a2 a3 a4 T hT0 X
  have htr : e.platform.stackTraces = false := (show e.platform.stackTraces = l.stackTraces by rw [X.admits.platform]).trans hl
  have Y := vx_rebase X (R' := { frames := R.frames, locals := R.locals, cells := 1, slots := 6 }) (Nat.le_refl _) (Nat.le_refl _) hRc hRs
  obtain ⟨s', hA⟩ : ∃ z, z = (T.setVm s.vm).setFrames (.invoking m args :: below) := ⟨_, rfl⟩
  rw [← hA] at Y
  have hvm : s'.vm = s.vm := by rw [hA]; rfl
  have hhp : s'.heap = H := by rw [hA]; exact hT0
  have hW0 : s.WarmedH s'.vm := by rw [hvm]; exact State.WarmedH.refl s
  have hats : ∀ w ∈ vz_at, w.before args s = true := vx_hat (fun w hw => C.2.2.2.2.1 w (hat w hw)) xB_N (fun w hw => by
      have h1 := hX.2.2.2 w hw
      simp only [xB, List.mem_cons, List.not_mem_nil, or_false] at hw
      rcases hw with rfl | rfl | rfl | rfl | rfl | rfl | rfl <;> exact va_any rfl h1)
  have hat' : ∀ w ∈ vz_at, w.before args s' = true := fun w hw => vx_ot_at hW0 hvm.symm (hg_N w (List.mem_cons_of_mem _ (List.mem_cons_of_mem _ hw))) (hats w hw)
  have hk' : (Cond.classLink "CutYard" 136 xNS).before args s' = true := vx_ot_at hW0 hvm.symm (hg_N _ List.mem_cons_self) (C.2.2.2.2.1 _ hk)
  have hini' : (Cond.initialized xNS).before args s' = true := vx_ot_at hW0 hvm.symm (hg_N _ (List.mem_cons_of_mem _ List.mem_cons_self)) (C.2.2.2.2.1 _ hini)
  have hU' : vx_Zq Bundle.tN "UNASSIGNED_STACK" Bundle.steD A s' s'.heap := by rw [hhp]; exact vx_Zq.moved hW0.alike (hX.1.kept a3.2.1)
  have hN' : vx_Zq Bundle.tN "SUPPRESSED_SENTINEL" Bundle.listD A s' s'.heap := by rw [hhp]; exact vx_Zq.moved hW0.alike (hX.2.1.kept a3.2.1)
  have h : ∀ w ∈ vz_own, w.before args s' = true := vx_own (by rw [← vz_at_eq]; exact hat') (vx_isRefq hU'.1) (vx_isRefq hN'.1) hU'.2.word hN'.2.word
  have hown' : s'.vm.findClass "CutYard" = some m.cls := by rw [hvm]; exact C.2.2.2.1
  have hins : (Cond.instantiable xNS 6).before args s' = true := h _ (by simp [vz_own])
  have hb := C.2.1
  have hsize : ls.size = c.maxLocals := by rw [a4.1]; exact C.2.2.1.symm
  obtain ⟨vm₁, cX, kX, hfX, hkX, -, -, X₁, st1⟩ := Y.newCold C.1 (own := "CutYard") (C := xNS) (index := 136) (n := 6) hown' hk' hins hini'
    (g := F0 m pc ls rest) rfl (by rw [hb]; exact d0) (Nat.le_refl _) (Nat.le_refl _)
  generalize hT1 : (T.setVm vm₁).pushCell { cls := cX, slots := kX.instanceTypes.map defaultValue, vm := .none } = T1 at X₁ st1
  have hcat : (Value.ref T.heap.size).category = 1 := rfl
  have hcellA : T1.heap[T.heap.size]? = some (freshCell cX kX) := by rw [← hT1]; exact State.heap_pushCell_size _ _
  have d3' : decode c.code (pc + 3) = .ok (.dup, 1) := by rw [hb]; exact d3
  have d4' : decode c.code (pc + 4) = .ok (.ldc is, 2) := by rw [hb]; exact d4
  have hstr' : vk_R "CutYard" is text (sA is) s' := vk_R.warm hW0 (hX.2.2.1 _ hstr)
  have hexec := C.1
  obtain ⟨U, hsteps, hrun, hend, hW, hsame, ce, hce, hcv, hcl0⟩ := vz_ctor X₁ hexec htr hown' h (fun x hx => nomatch hx) hfX hkX hcellA (by rw [hhp, hT0]; exact Nat.le_refl _) (msg := .ref (sA is)) rfl
    (g := { method := m, pc := pc + 6, locals := ls, stack := .ref (sA is) :: .ref T.heap.size :: .ref T.heap.size :: rest, locked := none }) rfl hsize rfl rfl (rest := rest) rfl
    (by rw [hb]; exact d6) (by rw [hb]; exact d9) (fun x hx => (hT x hx).elim) (show 2 + 3 < R.frames by omega) (by
      show 2 * 0 + _ + _ ≤ R.locals
      simp only [List.map_cons, List.sum_cons, hcat]; omega) C.2.2.2.2.2.2.2.2.1
  obtain ⟨f1, f2⟩ := vx_frame hsame
  rw [hhp] at f1 f2
  have hWs : s.WarmedH U.vm := State.WarmedH.trans hW0 hW
  have hcl : s.vm.findClass xNS = some ce.cls := by
    rw [hvm] at hcl0
    exact hcl0
  have hall : s.sameButNew ({ U with vm := s.vm } : State) locs mc ms := by
    subst hA
    obtain ⟨e1, e2⟩ := hsame
    rw [State.setFrames_setFrames] at e1
    have h2 : (T.setVm s.vm).sameButNew ({ U with vm := s.vm } : State) [] (0 + 1) (0 + 6) := ⟨e1, e2⟩
    have h3 := X.same.trans h2
    rw [List.append_nil] at h3
    exact h3.mono hc hs
  have hk2 : ∀ q : Nat, q < H.size → U.heap[q]? = H[q]? := fun q hq => f2 q hq (fun z hz => nomatch hz)
  refine ⟨U, ?_, .threw T.heap.size, hrun, hend, Or.inr ⟨T.heap.size, rfl, xNS, ce, locs, ?_, hce, hcv, hcl, hWs, hall, a3.2.2⟩⟩
  · refine st1 _ ?_
    show Steps p.tables e below (T1.setTop { method := m, pc := pc + 3, locals := ls, stack := .ref T.heap.size :: rest, locked := none }) _
    jvm_step X₁.here [X₁.here.top, hexec, d3', Value.category]
    exact X₁.ldcString hexec (own := "CutYard") (text := text) (index := is) (a := sA is) hown' hstr'.1 hstr'.2
      (g := { method := m, pc := pc + 4, locals := ls, stack := .ref T.heap.size :: .ref T.heap.size :: rest, locked := none }) rfl d4' _ hsteps
  · refine ⟨⟨w, hΨ, a1.kept (fun k q h => hk2 q.1 (va_at.lt (a1 k q h))), a2⟩, Nat.le_trans a3.1 f1, fun q h1 h2 => ?_⟩
    rw [hk2 q (Nat.lt_of_lt_of_le h1 a3.1)]
    exact a3.2.1 q h1 h2
end VZM
end
section
/-! the law's twelve wrappers: calls that catch -/
def xC : List (String × String) := [("java/lang/UnsupportedOperationException", "java/lang/IllegalArgumentException"), ("java/lang/UnsupportedOperationException", "java/lang/IndexOutOfBoundsException"), ("java/lang/IllegalArgumentException", "java/lang/IndexOutOfBoundsException"), ("java/lang/IllegalArgumentException", "java/util/NoSuchElementException")]
def cK (U : State) : Prop := ∀ q ∈ xC, va_Nc q.1 q.2 U
theorem cK.moved {u U : State} (hvm : u.vm.Alike U.vm) (h : cK u) : cK U := fun q hq => (h q hq).moved hvm
def mL (l : Launch) (D : va_G) (cy : Nat → ClassId) (sA : Nat → Nat) (y : MethodName) (ws : List Cond) (d mc ms : Nat) (av : List Value) (w : va_W) (Φ : Option Value → va_W → Prop) : Prop :=
  ∀ sz : Nat, Met l y ws { frames := d, cells := mc, slots := ms, locals := 40 * d } (va_Pc av (fun U => U.heap.size = sz ∧ va_P D vwCl w U.heap ∧ va_K D vwCl (mTy cy) U ∧ va_D (fun _ => True) w ∧ nK U ∧ xK (va_A w sz) sA U U.heap ∧ cK U)) (fun _ st oc t => (∃ (r : Option Value) (w' : va_W), oc = .returned r ∧ Φ r w' ∧ va_P D vwCl w' t.heap ∧ va_D (va_A w sz) w') ∧ va_F (va_A w sz) st t) mc ms (va_A w sz)
section MLL
variable {p : Program} {l : Launch} {e : Env} {R : Room} {s : State} {m : MethodId} {args : Array Value} {below : List Frame} {meth : Method} {c : Code} {D : va_G} {cy : Nat → ClassId} {sA : Nat → Nat} {A : Nat → Prop} {cc : ByteArray} {nL kc ks : Nat} {own : String} {Ts : List Cond} {ret0 : Option FieldType} {Q : State → Prop} {w w' : va_W} {pc : Nat} {lv lv' : List (Nat × Value)} {rest : List Value} {Φ : Option Value → va_W → Prop}
theorem mL.of {y : MethodName} {ws ws' : List Cond} {d mc ms : Nat} {av : List Value} {hh : List (Nat × Nat × Nat × Nat)} (hy : plainName y.cls = true) (hw : ws = Cond.codeWith y cc nL ret0 hh :: ws') (hlen : (lg_sl av).length ≤ nL)
    (body : ∀ (p : Program) (e : Env) (s : State) (m : MethodId) (args : Array Value) (below : List Frame) (meth : Method) (c : Code) (A : Nat → Prop), mC p s m args meth c D cy A cc nL y.cls ws ret0 → c.exceptionTable.toList = tableOf hh → xK A sA s s.heap → cK s → mW p l e { frames := d, cells := mc, slots := ms, locals := 40 * d } s m args below meth c D A nL 0 0 (mQ D Φ A below args s mc ms) w 0 (lv_args 0 av) []) : mL l D cy sA y ws d mc ms av w Φ := by
  intro sz
  refine va_MetW (cc := cc) (maxL := nL) (ret := ret0) (hh := hh) hy hw ?_
  intro p e s m args below meth c s₁ B hml hv
  obtain ⟨rfl, hsz, hP, hK, hD0, hNk, hXk, hCk⟩ := hv
  subst hsz
  have hl := lv_entry av (n := nL) hlen
  rw [lg_entry_eq]
  have hpre := atoms_spec (ws := ws) B.pre
  have htab : c.exceptionTable.toList = tableOf hh := vx_table (x := y) B (hpre _ (by rw [hw]; exact List.mem_cons_self))
  have hC : mC p s m av.toArray meth c D cy (va_A w s.heap.size) cc nL y.cls ws ret0 := ⟨B.exec, B.bytes, hml, findClass_of_methodNamed B.named, hpre, hK, fun q h => Or.inr h, B.returns, B.notSynchronized, hNk⟩
  exact body p e s m av.toArray below meth c (va_A w s.heap.size) hC htab hXk hCk s.heap [] _ hP hD0.self va_S.rf hl
/-- a call of a method that may throw, where each throw is caught -/
theorem m_callVC (C : mC p s m args meth c D cy A cc nL own Ts ret0) (hX : xK A sA s s.heap) {y : MethodName} {ws' : List Cond} {d' mc' ms' n index maxL : Nat} {bytes : ByteArray} {ret : Option FieldType} {b : Nat} {As : List Value} {Φ' : Option Value → va_W → Prop} {Ψ' : String → va_W → Prop} (hM : mX l D cy sA y ws' d' mc' ms' (.ref b :: As) w Φ' Ψ') {Cn : String} {T : u_T} {N ci : Nat} {fs : List Value} (cw : CallW R s args own Cn index y bytes maxL ret ws' { frames := d', cells := mc', slots := ms', locals := 40 * d' } mc' ms' n) (q0 : Nat) (he : w[q0]? = some (b, .inr (ci, fs))) (hc : vwCl[ci]? = some (Cn, T, N)) (hn : As.length = n) {st0 : List Value} (hst : st0 = As.reverse ++ .ref b :: rest) (hrm : (rest.map fun v => v.category).sum ≤ 8) (hdg : decode cc pc = .ok (.invokevirtual index, 3)) (hf : kc + mc' ≤ R.cells ∧ ks + ms' ≤ R.slots)
    (kx : ∀ (E : String) (w' : va_W) (q : Nat), Ψ' E w' → ∃ (pre : List ExceptionTableEntry) (x : ExceptionTableEntry) (suf : List ExceptionTableEntry) (name : String), c.exceptionTable.toList = pre ++ x :: suf ∧ (∀ z ∈ pre, covers z pc = false ∨ (z.catchType ≠ 0 ∧ ∃ nm : String, (Cond.classLink own z.catchType nm).before args s = true ∧ va_Nc E nm s)) ∧ covers x pc = true ∧ x.catchType ≠ 0 ∧ (Cond.classLink own x.catchType name).before args s = true ∧ (Cond.castable E name).before args s = true ∧ mW p l e R s m args below meth c D A nL (kc + mc') (ks + ms') Q w' x.handlerPc lv [.ref q])
    (kk : ∀ (r : Option Value) (w' : va_W), Φ' r w' → mW p l e R s m args below meth c D A nL (kc + mc') (ks + ms') Q w' (pc + 3) lv (r.toList ++ rest)) : mW p l e R s m args below meth c D A nL kc ks Q w pc lv st0 := by
  intro H locs ls a1 a2 a3 a4
  have hK := C.2.2.2.2.2.1
  have hfr := m_frA C a2 a3
  have hr := vx_runV (e := e) (below := below) (meth := meth) (locs := locs) (cells := kc) (slots := ks) (rest := rest) (g := F0 m pc ls st0) ⟨C.1, C.2.1, C.2.2.1, C.2.2.2.1, C.2.2.2.2.1⟩ (hM H.size) cw ⟨m_blindX, va_recv hK a1 hc he, fun U hU hW => ⟨rfl, by rw [hU], by rw [hU]; exact a1, va_K.moved hW.alike hK, a2.weaken (fun _ _ _ _ => trivial), nK.warm hW C.2.2.2.2.2.2.2.2.2, hX.to hW a3 hU hfr⟩⟩ rfl hn a4.1 hst (lv_room (m := m) (pc := pc) (ls := ls) (rest := st0) hrm) hdg hf
  intro T hT0 X
  rcases hr T hT0 X with ⟨v, st₀, t, T', L, h0, X', hL, e1, e2, ⟨⟨r, w', hv, hp, hb, hd⟩, hz, hk⟩, st⟩ | ⟨q, st₀, t, T', L, E, ce, h0, X', hL, e1, e2, ⟨⟨w', hp, hb, hd⟩, hz, hk⟩, hce, hcv, hcl, st⟩
  · cases hv
    rw [h0] at hz hk
    obtain ⟨t2, b1, b2⟩ := kk v w' hp T'.heap (locs ++ L) ls (by rw [e1]; exact hb) ⟨hd.1, fun k q h9 => hfr _ (hd.2 k q h9)⟩
      ⟨Nat.le_trans a3.1 (by rw [e1]; exact hz), fun q h1 h2 => by rw [e1, hk q (Nat.lt_of_lt_of_le h1 a3.1) (fun z => h2 (hfr q z))]; exact a3.2.1 q h1 h2, fun q hq => by
        rcases List.mem_append.mp hq with h | h
        · exact a3.2.2 q h
        · exact hfr _ (hL q h)⟩ a4 T' rfl X'
    exact ⟨t2, st t2 b1, b2⟩
  · rw [h0] at hz hk
    have hS' : va_S A s.heap T'.heap (locs ++ L) := ⟨Nat.le_trans a3.1 (by rw [e1]; exact hz), fun q h1 h2 => by rw [e1, hk q (Nat.lt_of_lt_of_le h1 a3.1) (fun z => h2 (hfr q z))]; exact a3.2.1 q h1 h2, fun q hq => by
        rcases List.mem_append.mp hq with h | h
        · exact a3.2.2 q h
        · exact hfr _ (hL q h)⟩
    obtain ⟨pre, x, suf, name, c1, c2, c3, c4, c5, c6, c7⟩ := kx E w' q hp
    have hcat := vx_catch (l := l) (e := e) (R := R) (below := below) (meth := meth) (locs := locs ++ L) (cells := kc + mc') (slots := ks + ms') (Q := Q) (ls := ls) (rest := rest) C.2.2.2.1 pre x suf c1 c2 c3 c4 c5 c6 (show T'.heap[q]? = some ce by rw [e1]; exact hce) hcv hcl (c7 T'.heap (locs ++ L) ls (by rw [e1]; exact hb) ⟨hd.1, fun k q h9 => hfr _ (hd.2 k q h9)⟩ hS' a4)
    obtain ⟨t2, b1, b2⟩ := hcat T' rfl X'
    exact ⟨t2, st.trans b1, b2⟩
end MLL
theorem gp_59 {cy : Nat → ClassId} {ad ln : Nat → Nat} {v : gV} {ou : Nat → Int64} : (gW cy ad ln v ou)[59]? = some (ad 59, .inl (cy 4, 1, .inr (.inl ou))) := rfl
theorem gs_59 {cy : Nat → ClassId} {ad ln : Nat → Nat} {v : gV} {ou ou' : Nat → Int64} : (gW cy ad ln v ou).set 59 (ad 59, .inl (cy 4, 1, .inr (.inl ou'))) = gW cy ad ln v ou' := by
  apply List.ext_getElem?
  intro j
  by_cases hj : j = 59
  · subst hj
    rw [List.getElem?_set_self (by simp [gW])]
    rfl
  · rw [List.getElem?_set_ne (fun q => hj q.symm)]
    by_cases hj60 : j < 60
    · rw [gW_at _ hj60, gW_at _ hj60]
      have : gE cy ad ln v ou j = gE cy ad ln v ou' j := by
        unfold gE
        by_cases h1 : gIs j = true
        · rw [if_pos h1, if_pos h1]
        by_cases h2 : gBs j = true
        · rw [if_neg h1, if_neg h1, if_pos h2, if_pos h2]
        by_cases h3 : 14 ≤ j ∧ j < 30
        · rw [if_neg h1, if_neg h1, if_neg h2, if_neg h2, if_pos h3, if_pos h3]
        have h4 : j = 0 ∨ j = 1 ∨ j = 2 ∨ j = 3 ∨ j = 46 ∨ j = 51 := by
          simp [gIs] at h1
          simp [gBs] at h2
          omega
        rcases h4 with rfl | rfl | rfl | rfl | rfl | rfl <;> rfl
      rw [this]
    · rw [List.getElem?_eq_none (by simp [gW]; omega), List.getElem?_eq_none (by simp [gW]; omega)]
end
section
/-! rows of the law's body -/
section LR
variable {p : Program} {l : Launch} {e : Env} {R : Room} {s : State} {m : MethodId} {args : Array Value} {below : List Frame} {meth : Method} {c : Code} {D : va_G} {cy : Nat → ClassId} {sA : Nat → Nat} {A : Nat → Prop} {cc : ByteArray} {nL kc ks : Nat} {own : String} {Ts : List Cond} {ret0 : Option FieldType} {Q : State → Prop} {w w' : va_W} {pc : Nat} {lv lv' : List (Nat × Value)} {rest : List Value} {b L : Nat} {xs : Nat → Int32}
theorem m_sld (C : mC p s m args meth c D cy A cc nL own Ts ret0) (hX : va_X b L xs s s.heap) (hbl : b < s.heap.size) (hbA : ¬ A b) {i : Int32} (hin : vp_in i L) (hdg : decode cc pc = .ok (.iaload, 1)) (kk : mW p l e R s m args below meth c D A nL kc ks Q w (pc + 1) lv (.int (xs i.toNatClampNeg) :: rest)) : mW p l e R s m args below meth c D A nL kc ks Q w pc lv (.int i :: .ref b :: rest) := fun H locs ls a1 a2 a3 a4 => va_sld C.1 C.2.1 hX hbl hbA a3 hin hdg (kk H locs ls a1 a2 a3 a4)
theorem m_slen (C : mC p s m args meth c D cy A cc nL own Ts ret0) (hX : va_X b L xs s s.heap) (hbl : b < s.heap.size) (hbA : ¬ A b) (hdg : decode cc pc = .ok (.arraylength, 1)) (kk : mW p l e R s m args below meth c D A nL kc ks Q w (pc + 1) lv (.int (Int32.ofNat L) :: rest)) : mW p l e R s m args below meth c D A nL kc ks Q w pc lv (.ref b :: rest) := fun H locs ls a1 a2 a3 a4 => va_slen C.1 C.2.1 hX hbl hbA a3 hdg (kk H locs ls a1 a2 a3 a4)
theorem m_lcmp (C : mC p s m args meth c D cy A cc nL own Ts ret0) {x y : Int64} (hdg : decode cc pc = .ok (.lcmp, 1)) (kk : mW p l e R s m args below meth c D A nL kc ks Q w (pc + 1) lv (.int (lg_cmp x y) :: rest)) : mW p l e R s m args below meth c D A nL kc ks Q w pc lv (.long y :: .long x :: rest) := fun H locs ls a1 a2 a3 a4 => W.lcmp C.1 C.2.1 hdg (kk H locs ls a1 a2 a3 a4)
theorem m_sw (C : mC p s m args meth c D cy A cc nL own Ts ret0) {dflt : Int} {offs : Array Int} {len td n : Nat} {x : Int32} (tg : Nat → Nat) (hn31 : n < 2 ^ 31) (hdg : decode cc pc = .ok (.tableswitch dflt 0 (n : Int) offs, len)) (ht : ∀ i, i ≤ n → ∃ off : Int, offs[i]? = some off ∧ (pc : Int) + off = (tg i : Int)) (ed : (pc : Int) + dflt = (td : Int))
    (k : ∀ i, i ≤ n → x = nI i → mW p l e R s m args below meth c D A nL kc ks Q w (tg i) lv rest) (kd : (∀ i, i ≤ n → x ≠ nI i) → mW p l e R s m args below meth c D A nL kc ks Q w td lv rest) : mW p l e R s m args below meth c D A nL kc ks Q w pc lv (.int x :: rest) := by
  by_cases h : 0 ≤ x.toInt ∧ x.toInt ≤ (n : Int)
  · obtain ⟨i, hi⟩ : ∃ i : Nat, (i : Int) = x.toInt := ⟨x.toInt.toNat, by omega⟩
    have hin : i ≤ n := by omega
    have hlt : i < 2 ^ 31 := by
      have := Int32.toInt_lt x
      omega
    have hx : x = nI i := Int32.toInt_inj.mp (by rw [nI_toInt hlt]; exact hi.symm)
    obtain ⟨off, h1, h2⟩ := ht i hin
    exact m_tableIn C hdg (by omega) (by omega) (by rw [← hi]; simpa using h1) h2 (k i hin hx)
  · refine m_tableOut C hdg (by omega) ed (kd ?_)
    intro i hi hx
    apply h
    rw [hx, nI_toInt (by omega)]
    omega
theorem m_blindL {av : List Value} {sz : Nat} : FrameBlind (va_Pc av (fun U => U.heap.size = sz ∧ va_P D vwCl w U.heap ∧ va_K D vwCl (mTy cy) U ∧ va_D (fun _ => True) w ∧ nK U ∧ xK (va_A w sz) sA U U.heap ∧ cK U)) := by
  intro a U g mk q
  obtain ⟨q0, q1, qP, qK, qD, qN, qX, qC⟩ := q
  exact ⟨q0, q1, qP, va_K.moved (u := U) (U := U.calling g mk a) (Vm.Alike.refl U.vm) qK, qD, nK.warm (s := U) (U := U.calling g mk a) (State.WarmedH.refl U) qN, qX.call, cK.moved (U := U.calling g mk a) (Vm.Alike.refl U.vm) qC⟩
theorem m_callSL (C : mC p s m args meth c D cy A cc nL own Ts ret0) (hX : xK A sA s s.heap) (hC : cK s) {y : MethodName} {ws' : List Cond} {d' mc' ms' n index maxL : Nat} {bytes : ByteArray} {ret : Option FieldType} {hh : List (Nat × Nat × Nat × Nat)} {As : List Value} {Φ : Option Value → va_W → Prop} (hM : mL l D cy sA y ws' d' mc' ms' As w Φ) (cw : vx_CSW R s args own index y bytes maxL ret hh ws' { frames := d', cells := mc', slots := ms', locals := 40 * d' } mc' ms' n) (hn : As.length = n) {st0 : List Value} (hst : st0 = As.reverse ++ rest) (hrm : (rest.map fun v => v.category).sum ≤ 8) (hdg : decode cc pc = .ok (.invokestatic index, 3)) (hf : kc + mc' ≤ R.cells ∧ ks + ms' ≤ R.slots)
    (kk : ∀ (r : Option Value) (w' : va_W), Φ r w' → mW p l e R s m args below meth c D A nL (kc + mc') (ks + ms') Q w' (pc + 3) lv (r.toList ++ rest)) : mW p l e R s m args below meth c D A nL kc ks Q w pc lv st0 := by
  intro H locs ls a1 a2 a3 a4
  have hK := C.2.2.2.2.2.1
  exact m_behind C a1 a2 a3 a4 (vx_runSW (g := F0 m pc ls st0) ⟨C.1, C.2.1, C.2.2.1, C.2.2.2.1, C.2.2.2.2.1⟩ (hM H.size) cw ⟨m_blindL, fun U hU hW => ⟨rfl, by rw [hU], by rw [hU]; exact a1, va_K.moved hW.alike hK, a2.weaken (fun _ _ _ _ => trivial), nK.warm hW C.2.2.2.2.2.2.2.2.2, hX.to hW a3 hU (m_frA C a2 a3), cK.moved hW.alike hC⟩⟩ rfl hn a4.1 hst (lv_room (m := m) (pc := pc) (ls := ls) (rest := st0) hrm) hdg hf) kk
end LR
theorem lg_cmp0 {x y : Int64} (h : x = y) : lg_cmp x y = 0 := by
  subst h
  simp [lg_cmp]
end
section
def R_law : String := "CutYardLaw"
def lw_P (b : Addr) (xs : List Int32) (args : Array Value) (s : State) : Prop := args = #[.ref b] ∧ s.IntsAt b xs ∧ xs.length ≤ 2048 ∧ (Jvm.Cond.and given_1 narrow_1).before args s = true
def lw_Q (_ : Array Value) (s : State) (o : Outcome) (t : State) : Prop := o = .returned (some (.int 1)) ∧ Framed s o t [] 601024 7293034
def lw_Z (below : List Frame) (a : Array Value) (s : State) : State → Prop := fun t => ∃ o, t.status = .running ∧ Ended t below o ∧ lw_Q a s o t
/-- the law's own end, with 1 on the stack, nothing written that was there before, its room as the claim has it -/
theorem lw_ret {p : Program} {l : Launch} {e : Env} {s : State} {m : MethodId} {below : List Frame} {meth : Method} {c : Code} {b : Nat} (hx : p.tables.exec = Jvm.exec) (hb : c.code = code) (hr : meth.sig.returnType = ret) (hlocks : meth.locks = false) {pc : Nat} {H : Heap} {ls : Array Slot} (hdg : decode code pc = .ok (.ireturn, 1)) : W p l e room_1 s m #[Value.ref b] below meth c H [] 601024 7293034 (lw_Z below #[Value.ref b] s) (F0 m pc ls [.int 1]) := by
  intro T hT X
  obtain ⟨fs, hret, hrun, hended, hW, hframe⟩ := X.leave (v := some (.int 1)) (hlocks := hlocks) (fun h => by rw [hr] at h; cases h)
  have hmeth' : T.vm.method? m = some meth := X.method'
  refine ⟨T.setFrames fs, ?_, .returned (some (.int 1)), hrun, hended, rfl, ⟨_, rfl⟩, hW, hframe⟩
  jvm_step X.here [X.here.top, hx, hb, hdg, hmeth', hr, ret, narrow_b1]
  (try refine ⟨rfl, ?_⟩); (try refine ⟨rfl, ?_⟩)
  first | (intro acts; rw [hret _ acts rfl rfl rfl]) | rw [hret _ _ rfl rfl rfl]
  exact Steps.refl _
/-- what holds at the law's entry: the machine, the code, the tables' words (any of lw_tbl by 'hts w (by decide +kernel)'), the script of L ints xs at the cell b, what the Statement gives of the start (any of its parts by flat_of_before) -/
def lw_At (p : Program) (s : State) (m : MethodId) (meth : Method) (c : Code) (b L : Nat) (xs : Nat → Int32) : Prop :=
  p.tables.exec = Jvm.exec ∧ c.code = code ∧ meth.sig.returnType = ret ∧ c.maxLocals = 7 ∧ s.vm.findClass R_law = some m.cls ∧ (∀ w ∈ lw_tbl, w.before #[Value.ref b] s = true) ∧ va_X b L xs s s.heap ∧ b < s.heap.size ∧ meth.locks = false ∧ (Jvm.Cond.and given_1 narrow_1).before #[Value.ref b] s = true
end
section
/-! rows of constructors; worlds w ++ ys, ys a list that is written out -/
theorem ga_at {w ys : va_W} (j : Nat) {q : Nat × va_E} (h : ys[j]? = some q) : (w ++ ys)[w.length + j]? = some q := by
  rw [List.getElem?_append_right (Nat.le_add_right _ _), Nat.add_sub_cancel_left]
  exact h
theorem ga_set {w ys : va_W} (j : Nat) {q : Nat × va_E} : (w ++ ys).set (w.length + j) q = w ++ ys.set j q := by
  rw [List.set_append_right _ _ (Nat.le_add_right _ _), Nat.add_sub_cancel_left]
theorem ga_app {w ys : va_W} {q : Nat × va_E} : (w ++ ys) ++ [q] = w ++ (ys ++ [q]) := List.append_assoc _ _ _
section CT
variable {p : Program} {l : Launch} {e : Env} {R : Room} {s : State} {m : MethodId} {args : Array Value} {below : List Frame} {meth : Method} {c : Code} {D : va_G} {cy : Nat → ClassId} {A : Nat → Prop} {cc : ByteArray} {nL kc ks : Nat} {own : String} {Ts : List Cond} {ret0 : Option FieldType} {Q : State → Prop} {w w' : va_W} {pc : Nat} {lv lv' : List (Nat × Value)} {rest : List Value}
theorem m_new (C : mC p s m args meth c D cy A cc nL own Ts ret0) {Cn : String} {T : u_T} {N ci index : Nat} (hin : ∀ w ∈ u_ws Cn T N, w ∈ Ts) (ty : Nat → FieldType) (hty : ∀ k, k < N → parseFieldDescriptor (T k).2.2.1 = some (ty k)) (hcl : Cond.classLink own index Cn ∈ Ts) (hinst : Cond.instantiable Cn N ∈ Ts) (hini : Cond.initialized Cn ∈ Ts) (hc : vwCl[ci]? = some (Cn, T, N)) {fs : List Value} (hfs : ∀ j, j < N → defaultValue (ty j) = vp_V fs j) (hcells : kc + 1 ≤ R.cells) (hslots : ks + N ≤ R.slots) (hdg : decode cc pc = .ok (.new index, 3))
    (kk : ∀ q : Nat, mW p l e R s m args below meth c D A nL (kc + 1) (ks + N) Q (w ++ [(q, .inr (ci, fs))]) (pc + 3) lv (.ref q :: rest)) : mW p l e R s m args below meth c D A nL kc ks Q w pc lv rest := fun H locs ls a1 a2 a3 a4 => va_new C.1 C.2.1 C.2.2.2.2.1 hin ty hty C.2.2.2.1 (C.2.2.2.2.1 _ hcl) (C.2.2.2.2.1 _ hinst) (C.2.2.2.2.1 _ hini) C.2.2.2.2.2.1 a1 a2 a3 C.2.2.2.2.2.2.1 hc hfs hcells hslots hdg (fun q H1 b1 b2 b3 => kk q H1 locs ls b1 b2 b3 a4)
theorem m_objInit (C : mC p s m args meth c D cy A cc nL own Ts ret0) {idx a : Nat} (hlink : Cond.methodLink own idx objectInit ∈ Ts) (hinst : Cond.instanceMethod objectInit ∈ Ts) (hcode : Cond.code objectInit ⟨#[0xb1]⟩ 1 none ∈ Ts) (hdg : decode cc pc = .ok (.invokespecial idx, 3)) (hframes : 1 ≤ R.frames) (hlocals : (rest.map fun v => v.category).sum + 12 ≤ R.locals) (kk : mW p l e R s m args below meth c D A nL kc ks Q w (pc + 3) lv rest) : mW p l e R s m args below meth c D A nL kc ks Q w pc lv (.ref a :: rest) := fun H locs ls a1 a2 a3 a4 => W.objInit C.1 C.2.1 C.2.2.2.1 (C.2.2.2.2.1 _ hlink) (C.2.2.2.2.1 _ hinst) (C.2.2.2.2.1 _ hcode) (g := F0 m pc ls (.ref a :: rest)) rfl (by rw [C.2.2.1]; exact a4.1) rfl hdg hframes (by show 2 * 0 + _ + 12 ≤ _; omega) (kk H locs ls a1 a2 a3 a4)
theorem m_callI (C : mC p s m args meth c D cy A cc nL own Ts ret0) {y : MethodName} {ws' : List Cond} {d' mc' ms' n index maxL : Nat} {bytes : ByteArray} {b : Nat} {As : List Value} {Φ : Option Value → va_W → Prop} (hM : mM l D cy y ws' d' mc' ms' (.ref b :: As) w Φ) (cw : CallB R s args own index y bytes maxL none ws' { frames := d', cells := mc', slots := ms', locals := 40 * d' } mc' ms' n ∧ y.name = "<init>" ∧ (Cond.instanceMethod y).before args s = true) (hn : As.length = n) {st0 : List Value} (hst : st0 = As.reverse ++ .ref b :: rest) (hrm : (rest.map fun v => v.category).sum ≤ 8) (hdg : decode cc pc = .ok (.invokespecial index, 3)) (hf : kc + mc' ≤ R.cells ∧ ks + ms' ≤ R.slots)
    (kk : ∀ (r : Option Value) (w' : va_W), Φ r w' → mW p l e R s m args below meth c D A nL (kc + mc') (ks + ms') Q w' (pc + 3) lv (r.toList ++ rest)) : mW p l e R s m args below meth c D A nL kc ks Q w pc lv st0 := by
  intro H locs ls a1 a2 a3 a4
  have hK := C.2.2.2.2.2.1
  exact m_behind C a1 a2 a3 a4 (va_runI (g := F0 m pc ls st0) ⟨C.1, C.2.1, C.2.2.1, C.2.2.2.1, C.2.2.2.2.1⟩ (hM H.size) cw ⟨m_blind, fun U hU hW => ⟨rfl, by rw [hU], by rw [hU]; exact a1, va_K.moved hW.alike hK, a2.weaken (fun _ _ _ _ => trivial), nK.warm hW C.2.2.2.2.2.2.2.2.2⟩⟩ rfl hn a4.1 hst (lv_room (m := m) (pc := pc) (ls := ls) (rest := st0) hrm) hdg hf) kk
theorem m_callIN (C : mC p s m args meth c D cy A cc nL own Ts ret0) {y : MethodName} {ws' : List Cond} {d' mc' ms' n index maxL : Nat} {bytes : ByteArray} {host : String} {b : Nat} {As : List Value} {Φ : Option Value → va_W → Prop} (hM : mM l D cy y ws' d' mc' ms' (.ref b :: As) w Φ) (cw : va_CN R s args own index y host bytes maxL none ws' { frames := d', cells := mc', slots := ms', locals := 40 * d' } mc' ms' n ∧ y.name = "<init>" ∧ (Cond.instanceMethod y).before args s = true) (hn : As.length = n) {st0 : List Value} (hst : st0 = As.reverse ++ .ref b :: rest) (hrm : (rest.map fun v => v.category).sum ≤ 8) (hdg : decode cc pc = .ok (.invokespecial index, 3)) (hf : kc + mc' ≤ R.cells ∧ ks + ms' ≤ R.slots)
    (kk : ∀ (r : Option Value) (w' : va_W), Φ r w' → mW p l e R s m args below meth c D A nL (kc + mc') (ks + ms') Q w' (pc + 3) lv (r.toList ++ rest)) : mW p l e R s m args below meth c D A nL kc ks Q w pc lv st0 := by
  intro H locs ls a1 a2 a3 a4
  have hK := C.2.2.2.2.2.1
  exact m_behind C a1 a2 a3 a4 (va_runIN (g := F0 m pc ls st0) ⟨C.1, C.2.1, C.2.2.1, C.2.2.2.1, C.2.2.2.2.1⟩ (hM H.size) cw ⟨m_blind, fun U hU hW => ⟨rfl, by rw [hU], by rw [hU]; exact a1, va_K.moved hW.alike hK, a2.weaken (fun _ _ _ _ => trivial), nK.warm hW C.2.2.2.2.2.2.2.2.2⟩⟩ rfl hn a4.1 hst (lv_room (m := m) (pc := pc) (ls := ls) (rest := st0) hrm) hdg hf) kk
theorem m_aast (C : mC p s m args meth c D cy A cc nL own Ts ret0) (q0 qk ci : Nat) {a n v : Nat} {r : vw_C} {vs : List Value} {f : Nat → Option Nat} (ha : w[q0]? = some (a, .inl (cy 3, n, .inr (.inr (.inr (.inr f)))))) (hr : r.1 = "CutYard$Content") (hv : w[qk]? = some (v, .inr (ci, vs))) (hc : vwCl[ci]? = some r) {i : Int32} (hin : vp_in i n) (hdg : decode cc pc = .ok (.aastore, 1)) (hw : w.set q0 (a, .inl (cy 3, n, .inr (.inr (.inr (.inr (va_up f i.toNatClampNeg (some v))))))) = w') (kk : mW p l e R s m args below meth c D A nL kc ks Q w' (pc + 1) lv rest) : mW p l e R s m args below meth c D A nL kc ks Q w pc lv (.ref v :: .int i :: .ref a :: rest) := fun H locs ls a1 a2 a3 a4 => va_astq C.1 C.2.1 C.2.2.2.2.2.1 a1 a2 a3 q0 3 qk ci ha (by rw [hr]; rfl) hv hc hin hdg (fun H1 locs1 b1 b2 b3 => kk H1 locs1 ls (hw ▸ b1) (hw ▸ b2) b3 a4)
end CT
end
section
set_option maxHeartbeats 4000000 in
set_option maxRecDepth 100000 in
theorem s_fillG (l : Launch) (D : va_G) (cy : Nat → ClassId) {w : va_W} (k n : Nat) {a : Nat} {f : Nat → Int32} (x : Int32) (hk : w[k]? = some (a, .inl (cy 0, n, .inl f))) (hn : n < 2 ^ 31) : mM l D cy yJ7_fill_53178 wsJ7_fill_53178 1 0 0 [.ref a, .int x] w (fun r w1 => r = none ∧ w1 = w.set k (a, .inl (cy 0, n, .inl (fun j => if j < n then x else f j)))) := by
  have hkl : k < w.length := by
    rcases Nat.lt_or_ge k w.length with h | h
    · exact h
    · rw [List.getElem?_eq_none h] at hk
      cases hk
  refine mM.of (cc := cJ7_fill_53178) (nL := 4) (ret0 := none) (by decide +kernel) rfl (Nat.le_of_ble_eq_true rfl) ?_
  intro p e s m args below meth c A C hini
  refine mW.sub (lv' := [(0, .ref a), (1, .int x)]) [0, 1] rfl ?_
  refine m_iconst (v := 0) C dJ7_fill_53178_0 (by decide) ?_
  refine m_istore_n (lv' := [(2, .int 0), (0, .ref a), (1, .int x)]) C dJ7_fill_53178_1 rfl (by decide) rfl ?_
  refine m_aload_n C dJ7_fill_53178_2 rfl 1 rfl ?_
  refine m_alen C k 0 hk rfl rfl dJ7_fill_53178_3 ?_
  refine m_istore_n (lv' := [(3, .int (nI n)), (2, .int 0), (0, .ref a), (1, .int x)]) C dJ7_fill_53178_4 rfl (by decide) rfl ?_
  refine mW.sub (lv' := [(0, .ref a), (1, .int x), (2, .int (nI 0)), (3, .int (nI n))]) [2, 3, 1, 0] rfl ?_
  refine mW.eq (w' := w.set k (a, .inl (cy 0, n, .inl (fun j => if j < 0 then x else f j)))) rfl rfl rfl ?_ ?_
  · apply List.ext_getElem?
    intro j
    by_cases hj : j = k
    · subst hj
      rw [List.getElem?_set_self hkl, hk]
      simp
    · rw [List.getElem?_set_ne (fun q => hj q.symm)]
  refine m_ind (σ := Nat) (fun r i => i ≤ n ∧ r = n - i) (fun i => w.set k (a, .inl (cy 0, n, .inl (fun j => if j < i then x else f j)))) 5 (fun i => [(0, .ref a), (1, .int x), (2, .int (nI i)), (3, .int (nI n))]) ?_ n 0 ⟨Nat.zero_le _, rfl⟩
  rintro r i ⟨hi, rfl⟩ ih
  show mW _ _ _ _ _ _ _ _ _ _ _ _ _ _ _ _ (w.set k (a, .inl (cy 0, n, .inl (fun j => if j < i then x else f j)))) 5 [(0, .ref a), (1, .int x), (2, .int (nI i)), (3, .int (nI n))] []
  refine m_iload_n C dJ7_fill_53178_5 rfl 2 rfl ?_
  refine m_iload_n C dJ7_fill_53178_6 rfl 3 rfl ?_
  refine m_icmp_ge (tgt := 20) C dJ7_fill_53178_7 (by decide) (fun c1 => ?_) (fun c1 => ?_)
  · have h1 := (nI_leI (by omega) (by omega)).mp c1
    have : i = n := by omega
    subst this
    exact m_vret C dJ7_fill_53178_20 (Nat.le_refl _) (Nat.le_refl _) ⟨rfl, rfl⟩
  · have h1 : ¬ n ≤ i := fun q => c1 ((nI_leI (by omega) (by omega)).mpr q)
    refine m_aload_n C dJ7_fill_53178_10 rfl 0 rfl ?_
    refine m_iload_n C dJ7_fill_53178_11 rfl 2 rfl ?_
    refine m_iload_n C dJ7_fill_53178_12 rfl 1 rfl ?_
    refine m_iast (w' := w.set k (a, .inl (cy 0, n, .inl (fun j => if j < i + 1 then x else f j)))) C k (List.getElem?_set_self hkl) (vp_in_nI (by omega) hn) dJ7_fill_53178_13 ?_ ?_
    · rw [List.set_set, nI_clamp (by omega)]
      congr 5
      congr 1
      funext j
      unfold upd
      by_cases hj : j = i
      · subst hj
        simp
      · by_cases hj2 : j < i
        · rw [if_neg hj, if_pos (by omega : j < i + 1)]
          exact if_pos hj2
        · rw [if_neg hj, if_neg (by omega : ¬ j < i + 1)]
          exact if_neg hj2
    refine m_iinc (lv' := [(2, .int (nI (i + 1))), (0, .ref a), (1, .int x), (3, .int (nI n))]) C dJ7_fill_53178_14 (k := 2) rfl (nI_1 i) (by decide) rfl ?_
    refine m_goto (tgt := 5) C dJ7_fill_53178_17 (by decide) ?_
    exact mW.sub [1, 2, 0, 3] rfl (ih (n - (i + 1)) (i + 1) (by omega) ⟨by omega, rfl⟩)
theorem hiX1_init_X1 : ∀ w ∈ wsX10, w ∈ wsX1_init := by decide +kernel
set_option maxHeartbeats 4000000 in
set_option maxRecDepth 100000 in
theorem c_X1_init (l : Launch) (D : va_G) (cy : Nat → ClassId) (w : va_W) (q : Nat) : mM l D cy yX1_init wsX1_init 2 0 0 [.ref q] (w ++ [(q, .inr (1, [.int 0, .int 0, .int 0]))]) (fun r w1 => r = none ∧ w1 = w ++ [(q, .inr (1, [.int 15, .int 4, .int 32]))]) := by
  refine mM.of (cc := cX1_init) (nL := 1) (ret0 := none) (by decide +kernel) rfl (Nat.le_of_ble_eq_true rfl) ?_
  intro p e s m args below meth c A C hini
  refine mW.sub (lv' := [(0, .ref q)]) [0] rfl ?_
  refine m_aload_n C dX1_init_0 rfl 0 rfl ?_
  refine m_objInit C (by decide +kernel) (by decide +kernel) (by decide +kernel) dX1_init_1 (Nat.le_of_ble_eq_true rfl) (Nat.le_of_ble_eq_true rfl) ?_
  refine m_aload_n C dX1_init_4 rfl 0 rfl ?_
  refine m_bipush (v := 15) C dX1_init_5 (by decide) ?_
  refine m_put (w' := w ++ [(q, .inr (1, [.int 15, .int 0, .int 0]))]) (T := TX1) (N := 3) C hiX1_init_X1 tyX1 tyX1_ok nmX1 (w.length + 0) (ga_at 0 rfl) rfl 0 (by decide) (by decide +kernel) rfl rfl rfl (Nat.le_of_ble_eq_true rfl) dX1_init_7 (ga_set 0) ?_
  refine m_aload_n C dX1_init_10 rfl 0 rfl ?_
  refine m_iconst (v := 4) C dX1_init_11 (by decide) ?_
  refine m_put (w' := w ++ [(q, .inr (1, [.int 15, .int 4, .int 0]))]) (T := TX1) (N := 3) C hiX1_init_X1 tyX1 tyX1_ok nmX1 (w.length + 0) (ga_at 0 rfl) rfl 1 (by decide) (by decide +kernel) rfl rfl rfl (Nat.le_of_ble_eq_true rfl) dX1_init_12 (ga_set 0) ?_
  refine m_aload_n C dX1_init_15 rfl 0 rfl ?_
  refine m_bipush (v := 32) C dX1_init_16 (by decide) ?_
  refine m_put (w' := w ++ [(q, .inr (1, [.int 15, .int 4, .int 32]))]) (T := TX1) (N := 3) C hiX1_init_X1 tyX1 tyX1_ok nmX1 (w.length + 0) (ga_at 0 rfl) rfl 2 (by decide) (by decide +kernel) rfl rfl rfl (Nat.le_of_ble_eq_true rfl) dX1_init_18 (ga_set 0) ?_
  exact m_vret C dX1_init_21 (Nat.le_of_ble_eq_true rfl) (Nat.le_of_ble_eq_true rfl) ⟨rfl, rfl⟩
theorem hiX0_init_X0 : ∀ w ∈ wsX00, w ∈ wsX0_init := by decide +kernel
set_option maxHeartbeats 4000000 in
set_option maxRecDepth 100000 in
theorem c_X0_init (l : Launch) (D : va_G) (cy : Nat → ClassId) (w : va_W) (q : Nat) : mM l D cy yX0_init wsX0_init 2 1 16 [.ref q] (w ++ [(q, .inr (0, [.null, .int 0, .int 0]))]) (fun r w1 => r = none ∧ ∃ q1 : Nat, w1 = w ++ [(q, .inr (0, [.ref q1, .int 0, .int 0])), (q1, .inl (cy 0, 16, .inl (fun _ => 0)))]) := by
  refine mM.of (cc := cX0_init) (nL := 1) (ret0 := none) (by decide +kernel) rfl (Nat.le_of_ble_eq_true rfl) ?_
  intro p e s m args below meth c A C hini
  refine mW.sub (lv' := [(0, .ref q)]) [0] rfl ?_
  refine m_aload_n C dX0_init_0 rfl 0 rfl ?_
  refine m_objInit C (by decide +kernel) (by decide +kernel) (by decide +kernel) dX0_init_1 (Nat.le_of_ble_eq_true rfl) (Nat.le_of_ble_eq_true rfl) ?_
  refine m_aload_n C dX0_init_4 rfl 0 rfl ?_
  refine m_bipush (v := 16) C dX0_init_5 (by decide) ?_
  refine m_newa (ty := .int) (a0 := (16, .inl (fun _ => 0))) (N' := 16) C 0 rfl rfl (fun U cA h => h) (by decide +kernel) (fun cA => rfl) (by decide) (by decide) (by decide) (Nat.le_of_ble_eq_true rfl) (Nat.le_of_ble_eq_true rfl) dX0_init_7 (fun q1 => ?_)
  refine mW.eq (w' := w ++ [(q, .inr (0, [.null, .int 0, .int 0])), (q1, .inl (cy 0, 16, .inl (fun _ => 0)))]) rfl rfl rfl (by simp) ?_
  refine m_put (w' := w ++ [(q, .inr (0, [.ref q1, .int 0, .int 0])), (q1, .inl (cy 0, 16, .inl (fun _ => 0)))]) (T := TX0) (N := 3) C hiX0_init_X0 tyX0 tyX0_ok nmX0 (w.length + 0) (ga_at 0 rfl) rfl 0 (by decide) (by decide +kernel) rfl rfl rfl (Nat.le_of_ble_eq_true rfl) dX0_init_9 (ga_set 0) ?_
  refine m_aload_n C dX0_init_12 rfl 0 rfl ?_
  refine m_iconst (v := 0) C dX0_init_13 (by decide) ?_
  refine m_put (w' := w ++ [(q, .inr (0, [.ref q1, .int 0, .int 0])), (q1, .inl (cy 0, 16, .inl (fun _ => 0)))]) (T := TX0) (N := 3) C hiX0_init_X0 tyX0 tyX0_ok nmX0 (w.length + 0) (ga_at 0 rfl) rfl 1 (by decide) (by decide +kernel) rfl rfl rfl (Nat.le_of_ble_eq_true rfl) dX0_init_14 (ga_set 0) ?_
  refine m_aload_n C dX0_init_17 rfl 0 rfl ?_
  refine m_iconst (v := 0) C dX0_init_18 (by decide) ?_
  refine m_put (w' := w ++ [(q, .inr (0, [.ref q1, .int 0, .int 0])), (q1, .inl (cy 0, 16, .inl (fun _ => 0)))]) (T := TX0) (N := 3) C hiX0_init_X0 tyX0 tyX0_ok nmX0 (w.length + 0) (ga_at 0 rfl) rfl 2 (by decide) (by decide +kernel) rfl rfl rfl (Nat.le_of_ble_eq_true rfl) dX0_init_19 (ga_set 0) ?_
  exact m_vret C dX0_init_22 (Nat.le_of_ble_eq_true rfl) (Nat.le_of_ble_eq_true rfl) ⟨rfl, q1, rfl⟩
theorem hiX2_init_X2 : ∀ w ∈ wsX20, w ∈ wsX2_init := by decide +kernel
set_option maxHeartbeats 4000000 in
set_option maxRecDepth 100000 in
theorem c_X2_init (l : Launch) (D : va_G) (cy : Nat → ClassId) (w : va_W) (q : Nat) : mM l D cy yX2_init wsX2_init 3 6 3136 [.ref q] (w ++ [(q, .inr (2, [.null, .null, .null, .null, .null, .null, .int 0, .int 0, .int 0]))]) (fun r w1 => r = none ∧ ∃ q1 q2 q3 q4 q5 q6 : Nat, w1 = w ++ [(q, .inr (2, [.ref q1, .ref q2, .ref q3, .ref q4, .ref q5, .ref q6, .int 0, .int 0, .int 0])), (q1, .inl (cy 0, 400, .inl (fun _ => 0))), (q2, .inl (cy 0, 400, .inl (fun _ => 0))), (q3, .inl (cy 0, 400, .inl (fun _ => 0))), (q4, .inl (cy 0, 400, .inl (fun _ => 0))), (q5, .inl (cy 0, 512, .inl (fun j => if j < 512 then (-1) else 0))), (q6, .inl (cy 1, 1024, .inl (fun _ => 0)))]) := by
  refine mM.of (cc := cX2_init) (nL := 1) (ret0 := none) (by decide +kernel) rfl (Nat.le_of_ble_eq_true rfl) ?_
  intro p e s m args below meth c A C hini
  refine mW.sub (lv' := [(0, .ref q)]) [0] rfl ?_
  refine m_aload_n C dX2_init_0 rfl 0 rfl ?_
  refine m_objInit C (by decide +kernel) (by decide +kernel) (by decide +kernel) dX2_init_1 (Nat.le_of_ble_eq_true rfl) (Nat.le_of_ble_eq_true rfl) ?_
  refine m_aload_n C dX2_init_4 rfl 0 rfl ?_
  refine m_sipush (v := 400) C dX2_init_5 (by decide) ?_
  refine m_newa (ty := .int) (a0 := (400, .inl (fun _ => 0))) (N' := 400) C 0 rfl rfl (fun U cA h => h) (by decide +kernel) (fun cA => rfl) (by decide) (by decide) (by decide) (Nat.le_of_ble_eq_true rfl) (Nat.le_of_ble_eq_true rfl) dX2_init_8 (fun q1 => ?_)
  refine mW.eq (w' := w ++ [(q, .inr (2, [.null, .null, .null, .null, .null, .null, .int 0, .int 0, .int 0])), (q1, .inl (cy 0, 400, .inl (fun _ => 0)))]) rfl rfl rfl (by simp) ?_
  refine m_putF (w' := w ++ [(q, .inr (2, [.ref q1, .null, .null, .null, .null, .null, .int 0, .int 0, .int 0])), (q1, .inl (cy 0, 400, .inl (fun _ => 0)))]) (T := TX2) (N := 9) C hiX2_init_X2 tyX2 tyX2_ok nmX2 (w.length + 0) (ga_at 0 rfl) rfl 0 (by decide) (by decide +kernel) rfl (hini rfl) rfl rfl rfl (Nat.le_of_ble_eq_true rfl) dX2_init_10 (ga_set 0) ?_
  refine m_aload_n C dX2_init_13 rfl 0 rfl ?_
  refine m_sipush (v := 400) C dX2_init_14 (by decide) ?_
  refine m_newa (ty := .int) (a0 := (400, .inl (fun _ => 0))) (N' := 400) C 0 rfl rfl (fun U cA h => h) (by decide +kernel) (fun cA => rfl) (by decide) (by decide) (by decide) (Nat.le_of_ble_eq_true rfl) (Nat.le_of_ble_eq_true rfl) dX2_init_17 (fun q2 => ?_)
  refine mW.eq (w' := w ++ [(q, .inr (2, [.ref q1, .null, .null, .null, .null, .null, .int 0, .int 0, .int 0])), (q1, .inl (cy 0, 400, .inl (fun _ => 0))), (q2, .inl (cy 0, 400, .inl (fun _ => 0)))]) rfl rfl rfl (by simp) ?_
  refine m_putF (w' := w ++ [(q, .inr (2, [.ref q1, .ref q2, .null, .null, .null, .null, .int 0, .int 0, .int 0])), (q1, .inl (cy 0, 400, .inl (fun _ => 0))), (q2, .inl (cy 0, 400, .inl (fun _ => 0)))]) (T := TX2) (N := 9) C hiX2_init_X2 tyX2 tyX2_ok nmX2 (w.length + 0) (ga_at 0 rfl) rfl 1 (by decide) (by decide +kernel) rfl (hini rfl) rfl rfl rfl (Nat.le_of_ble_eq_true rfl) dX2_init_19 (ga_set 0) ?_
  refine m_aload_n C dX2_init_22 rfl 0 rfl ?_
  refine m_sipush (v := 400) C dX2_init_23 (by decide) ?_
  refine m_newa (ty := .int) (a0 := (400, .inl (fun _ => 0))) (N' := 400) C 0 rfl rfl (fun U cA h => h) (by decide +kernel) (fun cA => rfl) (by decide) (by decide) (by decide) (Nat.le_of_ble_eq_true rfl) (Nat.le_of_ble_eq_true rfl) dX2_init_26 (fun q3 => ?_)
  refine mW.eq (w' := w ++ [(q, .inr (2, [.ref q1, .ref q2, .null, .null, .null, .null, .int 0, .int 0, .int 0])), (q1, .inl (cy 0, 400, .inl (fun _ => 0))), (q2, .inl (cy 0, 400, .inl (fun _ => 0))), (q3, .inl (cy 0, 400, .inl (fun _ => 0)))]) rfl rfl rfl (by simp) ?_
  refine m_putF (w' := w ++ [(q, .inr (2, [.ref q1, .ref q2, .ref q3, .null, .null, .null, .int 0, .int 0, .int 0])), (q1, .inl (cy 0, 400, .inl (fun _ => 0))), (q2, .inl (cy 0, 400, .inl (fun _ => 0))), (q3, .inl (cy 0, 400, .inl (fun _ => 0)))]) (T := TX2) (N := 9) C hiX2_init_X2 tyX2 tyX2_ok nmX2 (w.length + 0) (ga_at 0 rfl) rfl 2 (by decide) (by decide +kernel) rfl (hini rfl) rfl rfl rfl (Nat.le_of_ble_eq_true rfl) dX2_init_28 (ga_set 0) ?_
  refine m_aload_n C dX2_init_31 rfl 0 rfl ?_
  refine m_sipush (v := 400) C dX2_init_32 (by decide) ?_
  refine m_newa (ty := .int) (a0 := (400, .inl (fun _ => 0))) (N' := 400) C 0 rfl rfl (fun U cA h => h) (by decide +kernel) (fun cA => rfl) (by decide) (by decide) (by decide) (Nat.le_of_ble_eq_true rfl) (Nat.le_of_ble_eq_true rfl) dX2_init_35 (fun q4 => ?_)
  refine mW.eq (w' := w ++ [(q, .inr (2, [.ref q1, .ref q2, .ref q3, .null, .null, .null, .int 0, .int 0, .int 0])), (q1, .inl (cy 0, 400, .inl (fun _ => 0))), (q2, .inl (cy 0, 400, .inl (fun _ => 0))), (q3, .inl (cy 0, 400, .inl (fun _ => 0))), (q4, .inl (cy 0, 400, .inl (fun _ => 0)))]) rfl rfl rfl (by simp) ?_
  refine m_putF (w' := w ++ [(q, .inr (2, [.ref q1, .ref q2, .ref q3, .ref q4, .null, .null, .int 0, .int 0, .int 0])), (q1, .inl (cy 0, 400, .inl (fun _ => 0))), (q2, .inl (cy 0, 400, .inl (fun _ => 0))), (q3, .inl (cy 0, 400, .inl (fun _ => 0))), (q4, .inl (cy 0, 400, .inl (fun _ => 0)))]) (T := TX2) (N := 9) C hiX2_init_X2 tyX2 tyX2_ok nmX2 (w.length + 0) (ga_at 0 rfl) rfl 3 (by decide) (by decide +kernel) rfl (hini rfl) rfl rfl rfl (Nat.le_of_ble_eq_true rfl) dX2_init_37 (ga_set 0) ?_
  refine m_aload_n C dX2_init_40 rfl 0 rfl ?_
  refine m_sipush (v := 512) C dX2_init_41 (by decide) ?_
  refine m_newa (ty := .int) (a0 := (512, .inl (fun _ => 0))) (N' := 512) C 0 rfl rfl (fun U cA h => h) (by decide +kernel) (fun cA => rfl) (by decide) (by decide) (by decide) (Nat.le_of_ble_eq_true rfl) (Nat.le_of_ble_eq_true rfl) dX2_init_44 (fun q5 => ?_)
  refine mW.eq (w' := w ++ [(q, .inr (2, [.ref q1, .ref q2, .ref q3, .ref q4, .null, .null, .int 0, .int 0, .int 0])), (q1, .inl (cy 0, 400, .inl (fun _ => 0))), (q2, .inl (cy 0, 400, .inl (fun _ => 0))), (q3, .inl (cy 0, 400, .inl (fun _ => 0))), (q4, .inl (cy 0, 400, .inl (fun _ => 0))), (q5, .inl (cy 0, 512, .inl (fun _ => 0)))]) rfl rfl rfl (by simp) ?_
  refine m_putF (w' := w ++ [(q, .inr (2, [.ref q1, .ref q2, .ref q3, .ref q4, .ref q5, .null, .int 0, .int 0, .int 0])), (q1, .inl (cy 0, 400, .inl (fun _ => 0))), (q2, .inl (cy 0, 400, .inl (fun _ => 0))), (q3, .inl (cy 0, 400, .inl (fun _ => 0))), (q4, .inl (cy 0, 400, .inl (fun _ => 0))), (q5, .inl (cy 0, 512, .inl (fun _ => 0)))]) (T := TX2) (N := 9) C hiX2_init_X2 tyX2 tyX2_ok nmX2 (w.length + 0) (ga_at 0 rfl) rfl 4 (by decide) (by decide +kernel) rfl (hini rfl) rfl rfl rfl (Nat.le_of_ble_eq_true rfl) dX2_init_46 (ga_set 0) ?_
  refine m_aload_n C dX2_init_49 rfl 0 rfl ?_
  refine m_sipush (v := 1024) C dX2_init_50 (by decide) ?_
  refine m_newa (ty := .byte) (a0 := (1024, .inl (fun _ => 0))) (N' := 1024) C 1 rfl rfl (fun U cA h => h) (by decide +kernel) (fun cA => rfl) (by decide) (by decide) (by decide) (Nat.le_of_ble_eq_true rfl) (Nat.le_of_ble_eq_true rfl) dX2_init_53 (fun q6 => ?_)
  refine mW.eq (w' := w ++ [(q, .inr (2, [.ref q1, .ref q2, .ref q3, .ref q4, .ref q5, .null, .int 0, .int 0, .int 0])), (q1, .inl (cy 0, 400, .inl (fun _ => 0))), (q2, .inl (cy 0, 400, .inl (fun _ => 0))), (q3, .inl (cy 0, 400, .inl (fun _ => 0))), (q4, .inl (cy 0, 400, .inl (fun _ => 0))), (q5, .inl (cy 0, 512, .inl (fun _ => 0))), (q6, .inl (cy 1, 1024, .inl (fun _ => 0)))]) rfl rfl rfl (by simp) ?_
  refine m_put (w' := w ++ [(q, .inr (2, [.ref q1, .ref q2, .ref q3, .ref q4, .ref q5, .ref q6, .int 0, .int 0, .int 0])), (q1, .inl (cy 0, 400, .inl (fun _ => 0))), (q2, .inl (cy 0, 400, .inl (fun _ => 0))), (q3, .inl (cy 0, 400, .inl (fun _ => 0))), (q4, .inl (cy 0, 400, .inl (fun _ => 0))), (q5, .inl (cy 0, 512, .inl (fun _ => 0))), (q6, .inl (cy 1, 1024, .inl (fun _ => 0)))]) (T := TX2) (N := 9) C hiX2_init_X2 tyX2 tyX2_ok nmX2 (w.length + 0) (ga_at 0 rfl) rfl 5 (by decide) (by decide +kernel) rfl rfl rfl (Nat.le_of_ble_eq_true rfl) dX2_init_55 (ga_set 0) ?_
  refine m_aload_n C dX2_init_58 rfl 0 rfl ?_
  refine m_iconst (v := 0) C dX2_init_59 (by decide) ?_
  refine m_put (w' := w ++ [(q, .inr (2, [.ref q1, .ref q2, .ref q3, .ref q4, .ref q5, .ref q6, .int 0, .int 0, .int 0])), (q1, .inl (cy 0, 400, .inl (fun _ => 0))), (q2, .inl (cy 0, 400, .inl (fun _ => 0))), (q3, .inl (cy 0, 400, .inl (fun _ => 0))), (q4, .inl (cy 0, 400, .inl (fun _ => 0))), (q5, .inl (cy 0, 512, .inl (fun _ => 0))), (q6, .inl (cy 1, 1024, .inl (fun _ => 0)))]) (T := TX2) (N := 9) C hiX2_init_X2 tyX2 tyX2_ok nmX2 (w.length + 0) (ga_at 0 rfl) rfl 6 (by decide) (by decide +kernel) rfl rfl rfl (Nat.le_of_ble_eq_true rfl) dX2_init_60 (ga_set 0) ?_
  refine m_aload_n C dX2_init_63 rfl 0 rfl ?_
  refine m_iconst (v := 0) C dX2_init_64 (by decide) ?_
  refine m_put (w' := w ++ [(q, .inr (2, [.ref q1, .ref q2, .ref q3, .ref q4, .ref q5, .ref q6, .int 0, .int 0, .int 0])), (q1, .inl (cy 0, 400, .inl (fun _ => 0))), (q2, .inl (cy 0, 400, .inl (fun _ => 0))), (q3, .inl (cy 0, 400, .inl (fun _ => 0))), (q4, .inl (cy 0, 400, .inl (fun _ => 0))), (q5, .inl (cy 0, 512, .inl (fun _ => 0))), (q6, .inl (cy 1, 1024, .inl (fun _ => 0)))]) (T := TX2) (N := 9) C hiX2_init_X2 tyX2 tyX2_ok nmX2 (w.length + 0) (ga_at 0 rfl) rfl 7 (by decide) (by decide +kernel) rfl rfl rfl (Nat.le_of_ble_eq_true rfl) dX2_init_65 (ga_set 0) ?_
  refine m_aload_n C dX2_init_68 rfl 0 rfl ?_
  refine m_iconst (v := 0) C dX2_init_69 (by decide) ?_
  refine m_put (w' := w ++ [(q, .inr (2, [.ref q1, .ref q2, .ref q3, .ref q4, .ref q5, .ref q6, .int 0, .int 0, .int 0])), (q1, .inl (cy 0, 400, .inl (fun _ => 0))), (q2, .inl (cy 0, 400, .inl (fun _ => 0))), (q3, .inl (cy 0, 400, .inl (fun _ => 0))), (q4, .inl (cy 0, 400, .inl (fun _ => 0))), (q5, .inl (cy 0, 512, .inl (fun _ => 0))), (q6, .inl (cy 1, 1024, .inl (fun _ => 0)))]) (T := TX2) (N := 9) C hiX2_init_X2 tyX2 tyX2_ok nmX2 (w.length + 0) (ga_at 0 rfl) rfl 8 (by decide) (by decide +kernel) rfl rfl rfl (Nat.le_of_ble_eq_true rfl) dX2_init_70 (ga_set 0) ?_
  refine m_aload_n C dX2_init_73 rfl 0 rfl ?_
  refine m_get (T := TX2) (N := 9) C hiX2_init_X2 (w.length + 0) (ga_at 0 rfl) rfl 4 (by decide) (by decide +kernel) rfl dX2_init_74 ?_
  refine m_iconst (v := (-1)) C dX2_init_77 (by decide) ?_
  refine m_callS C (s_fillG l D cy (w.length + 5) 512 ((-1) : Int32) (ga_at 5 rfl) (by decide)) (va_cwS 2 C.2.2.2.2.1 gX2_init_J7_fill_53178 rfl rfl rfl (by decide +kernel) ⟨Nat.le_of_ble_eq_true rfl, Nat.le_of_ble_eq_true rfl⟩) rfl rfl (Nat.le_of_ble_eq_true rfl) dX2_init_78 ⟨Nat.le_of_ble_eq_true rfl, Nat.le_of_ble_eq_true rfl⟩ (fun r w1 h1 => ?_)
  obtain ⟨rfl, rfl⟩ := h1
  refine mW.eq (w' := w ++ [(q, .inr (2, [.ref q1, .ref q2, .ref q3, .ref q4, .ref q5, .ref q6, .int 0, .int 0, .int 0])), (q1, .inl (cy 0, 400, .inl (fun _ => 0))), (q2, .inl (cy 0, 400, .inl (fun _ => 0))), (q3, .inl (cy 0, 400, .inl (fun _ => 0))), (q4, .inl (cy 0, 400, .inl (fun _ => 0))), (q5, .inl (cy 0, 512, .inl (fun j => if j < 512 then (-1) else 0))), (q6, .inl (cy 1, 1024, .inl (fun _ => 0)))]) (st' := []) rfl rfl rfl (show _ = List.set (w ++ [(q, .inr (2, [.ref q1, .ref q2, .ref q3, .ref q4, .ref q5, .ref q6, .int 0, .int 0, .int 0])), (q1, .inl (cy 0, 400, .inl (fun _ => 0))), (q2, .inl (cy 0, 400, .inl (fun _ => 0))), (q3, .inl (cy 0, 400, .inl (fun _ => 0))), (q4, .inl (cy 0, 400, .inl (fun _ => 0))), (q5, .inl (cy 0, 512, .inl (fun _ => 0))), (q6, .inl (cy 1, 1024, .inl (fun _ => 0)))]) (w.length + 5) _ from by rw [ga_set]; rfl) ?_
  exact m_vret C dX2_init_81 (Nat.le_of_ble_eq_true rfl) (Nat.le_of_ble_eq_true rfl) ⟨rfl, q1, q2, q3, q4, q5, q6, rfl⟩
theorem hiX4_init_X4 : ∀ w ∈ wsX40, w ∈ wsX4_init := by decide +kernel
set_option maxHeartbeats 4000000 in
set_option maxRecDepth 100000 in
theorem c_X4_init (l : Launch) (D : va_G) (cy : Nat → ClassId) (w : va_W) (q : Nat) : mM l D cy yX4_init wsX4_init 2 12 80832 [.ref q] (w ++ [(q, .inr (4, [.int 0, .int 0, .int 0, .int 0, .int 0, .null, .int 0, .null, .int 0, .null, .null, .null, .null, .null, .null, .null, .null, .null, .null]))]) (fun r w1 => r = none ∧ ∃ q1 q2 q3 q4 q5 q6 q7 q8 q9 q10 q11 q12 : Nat, w1 = w ++ [(q, .inr (4, [.int 0, .int 4, .int 4, .int 32, .int 0, .ref q1, .int 0, .ref q2, .int 0, .ref q3, .ref q4, .ref q5, .ref q6, .ref q7, .ref q8, .ref q9, .ref q10, .ref q11, .ref q12])), (q1, .inl (cy 0, 1500, .inl (fun _ => 0))), (q2, .inl (cy 0, 1500, .inl (fun _ => 0))), (q3, .inl (cy 0, 1500, .inl (fun _ => 0))), (q4, .inl (cy 0, 1500, .inl (fun _ => 0))), (q5, .inl (cy 2, 400, .inl (fun _ => 0))), (q6, .inl (cy 0, 16, .inl (fun _ => 0))), (q7, .inl (cy 0, 24000, .inl (fun _ => 0))), (q8, .inl (cy 0, 16, .inl (fun _ => 0))), (q9, .inl (cy 0, 24000, .inl (fun _ => 0))), (q10, .inl (cy 0, 400, .inl (fun _ => 0))), (q11, .inl (cy 0, 400, .inl (fun _ => 0))), (q12, .inl (cy 0, 25600, .inl (fun _ => 0)))]) := by
  refine mM.of (cc := cX4_init) (nL := 1) (ret0 := none) (by decide +kernel) rfl (Nat.le_of_ble_eq_true rfl) ?_
  intro p e s m args below meth c A C hini
  refine mW.sub (lv' := [(0, .ref q)]) [0] rfl ?_
  refine m_aload_n C dX4_init_0 rfl 0 rfl ?_
  refine m_objInit C (by decide +kernel) (by decide +kernel) (by decide +kernel) dX4_init_1 (Nat.le_of_ble_eq_true rfl) (Nat.le_of_ble_eq_true rfl) ?_
  refine m_aload_n C dX4_init_4 rfl 0 rfl ?_
  refine m_iconst (v := 4) C dX4_init_5 (by decide) ?_
  refine m_put (w' := w ++ [(q, .inr (4, [.int 0, .int 4, .int 0, .int 0, .int 0, .null, .int 0, .null, .int 0, .null, .null, .null, .null, .null, .null, .null, .null, .null, .null]))]) (T := TX4) (N := 19) C hiX4_init_X4 tyX4 tyX4_ok nmX4 (w.length + 0) (ga_at 0 rfl) rfl 1 (by decide) (by decide +kernel) rfl rfl rfl (Nat.le_of_ble_eq_true rfl) dX4_init_6 (ga_set 0) ?_
  refine m_aload_n C dX4_init_9 rfl 0 rfl ?_
  refine m_iconst (v := 4) C dX4_init_10 (by decide) ?_
  refine m_put (w' := w ++ [(q, .inr (4, [.int 0, .int 4, .int 4, .int 0, .int 0, .null, .int 0, .null, .int 0, .null, .null, .null, .null, .null, .null, .null, .null, .null, .null]))]) (T := TX4) (N := 19) C hiX4_init_X4 tyX4 tyX4_ok nmX4 (w.length + 0) (ga_at 0 rfl) rfl 2 (by decide) (by decide +kernel) rfl rfl rfl (Nat.le_of_ble_eq_true rfl) dX4_init_11 (ga_set 0) ?_
  refine m_aload_n C dX4_init_14 rfl 0 rfl ?_
  refine m_bipush (v := 32) C dX4_init_15 (by decide) ?_
  refine m_put (w' := w ++ [(q, .inr (4, [.int 0, .int 4, .int 4, .int 32, .int 0, .null, .int 0, .null, .int 0, .null, .null, .null, .null, .null, .null, .null, .null, .null, .null]))]) (T := TX4) (N := 19) C hiX4_init_X4 tyX4 tyX4_ok nmX4 (w.length + 0) (ga_at 0 rfl) rfl 3 (by decide) (by decide +kernel) rfl rfl rfl (Nat.le_of_ble_eq_true rfl) dX4_init_17 (ga_set 0) ?_
  refine m_aload_n C dX4_init_20 rfl 0 rfl ?_
  refine m_sipush (v := 1500) C dX4_init_21 (by decide) ?_
  refine m_newa (ty := .int) (a0 := (1500, .inl (fun _ => 0))) (N' := 1500) C 0 rfl rfl (fun U cA h => h) (by decide +kernel) (fun cA => rfl) (by decide) (by decide) (by decide) (Nat.le_of_ble_eq_true rfl) (Nat.le_of_ble_eq_true rfl) dX4_init_24 (fun q1 => ?_)
  refine mW.eq (w' := w ++ [(q, .inr (4, [.int 0, .int 4, .int 4, .int 32, .int 0, .null, .int 0, .null, .int 0, .null, .null, .null, .null, .null, .null, .null, .null, .null, .null])), (q1, .inl (cy 0, 1500, .inl (fun _ => 0)))]) rfl rfl rfl (by simp) ?_
  refine m_putF (w' := w ++ [(q, .inr (4, [.int 0, .int 4, .int 4, .int 32, .int 0, .ref q1, .int 0, .null, .int 0, .null, .null, .null, .null, .null, .null, .null, .null, .null, .null])), (q1, .inl (cy 0, 1500, .inl (fun _ => 0)))]) (T := TX4) (N := 19) C hiX4_init_X4 tyX4 tyX4_ok nmX4 (w.length + 0) (ga_at 0 rfl) rfl 5 (by decide) (by decide +kernel) rfl (hini rfl) rfl rfl rfl (Nat.le_of_ble_eq_true rfl) dX4_init_26 (ga_set 0) ?_
  refine m_aload_n C dX4_init_29 rfl 0 rfl ?_
  refine m_sipush (v := 1500) C dX4_init_30 (by decide) ?_
  refine m_newa (ty := .int) (a0 := (1500, .inl (fun _ => 0))) (N' := 1500) C 0 rfl rfl (fun U cA h => h) (by decide +kernel) (fun cA => rfl) (by decide) (by decide) (by decide) (Nat.le_of_ble_eq_true rfl) (Nat.le_of_ble_eq_true rfl) dX4_init_33 (fun q2 => ?_)
  refine mW.eq (w' := w ++ [(q, .inr (4, [.int 0, .int 4, .int 4, .int 32, .int 0, .ref q1, .int 0, .null, .int 0, .null, .null, .null, .null, .null, .null, .null, .null, .null, .null])), (q1, .inl (cy 0, 1500, .inl (fun _ => 0))), (q2, .inl (cy 0, 1500, .inl (fun _ => 0)))]) rfl rfl rfl (by simp) ?_
  refine m_putF (w' := w ++ [(q, .inr (4, [.int 0, .int 4, .int 4, .int 32, .int 0, .ref q1, .int 0, .ref q2, .int 0, .null, .null, .null, .null, .null, .null, .null, .null, .null, .null])), (q1, .inl (cy 0, 1500, .inl (fun _ => 0))), (q2, .inl (cy 0, 1500, .inl (fun _ => 0)))]) (T := TX4) (N := 19) C hiX4_init_X4 tyX4 tyX4_ok nmX4 (w.length + 0) (ga_at 0 rfl) rfl 7 (by decide) (by decide +kernel) rfl (hini rfl) rfl rfl rfl (Nat.le_of_ble_eq_true rfl) dX4_init_35 (ga_set 0) ?_
  refine m_aload_n C dX4_init_38 rfl 0 rfl ?_
  refine m_sipush (v := 1500) C dX4_init_39 (by decide) ?_
  refine m_newa (ty := .int) (a0 := (1500, .inl (fun _ => 0))) (N' := 1500) C 0 rfl rfl (fun U cA h => h) (by decide +kernel) (fun cA => rfl) (by decide) (by decide) (by decide) (Nat.le_of_ble_eq_true rfl) (Nat.le_of_ble_eq_true rfl) dX4_init_42 (fun q3 => ?_)
  refine mW.eq (w' := w ++ [(q, .inr (4, [.int 0, .int 4, .int 4, .int 32, .int 0, .ref q1, .int 0, .ref q2, .int 0, .null, .null, .null, .null, .null, .null, .null, .null, .null, .null])), (q1, .inl (cy 0, 1500, .inl (fun _ => 0))), (q2, .inl (cy 0, 1500, .inl (fun _ => 0))), (q3, .inl (cy 0, 1500, .inl (fun _ => 0)))]) rfl rfl rfl (by simp) ?_
  refine m_putF (w' := w ++ [(q, .inr (4, [.int 0, .int 4, .int 4, .int 32, .int 0, .ref q1, .int 0, .ref q2, .int 0, .ref q3, .null, .null, .null, .null, .null, .null, .null, .null, .null])), (q1, .inl (cy 0, 1500, .inl (fun _ => 0))), (q2, .inl (cy 0, 1500, .inl (fun _ => 0))), (q3, .inl (cy 0, 1500, .inl (fun _ => 0)))]) (T := TX4) (N := 19) C hiX4_init_X4 tyX4 tyX4_ok nmX4 (w.length + 0) (ga_at 0 rfl) rfl 9 (by decide) (by decide +kernel) rfl (hini rfl) rfl rfl rfl (Nat.le_of_ble_eq_true rfl) dX4_init_44 (ga_set 0) ?_
  refine m_aload_n C dX4_init_47 rfl 0 rfl ?_
  refine m_sipush (v := 1500) C dX4_init_48 (by decide) ?_
  refine m_newa (ty := .int) (a0 := (1500, .inl (fun _ => 0))) (N' := 1500) C 0 rfl rfl (fun U cA h => h) (by decide +kernel) (fun cA => rfl) (by decide) (by decide) (by decide) (Nat.le_of_ble_eq_true rfl) (Nat.le_of_ble_eq_true rfl) dX4_init_51 (fun q4 => ?_)
  refine mW.eq (w' := w ++ [(q, .inr (4, [.int 0, .int 4, .int 4, .int 32, .int 0, .ref q1, .int 0, .ref q2, .int 0, .ref q3, .null, .null, .null, .null, .null, .null, .null, .null, .null])), (q1, .inl (cy 0, 1500, .inl (fun _ => 0))), (q2, .inl (cy 0, 1500, .inl (fun _ => 0))), (q3, .inl (cy 0, 1500, .inl (fun _ => 0))), (q4, .inl (cy 0, 1500, .inl (fun _ => 0)))]) rfl rfl rfl (by simp) ?_
  refine m_putF (w' := w ++ [(q, .inr (4, [.int 0, .int 4, .int 4, .int 32, .int 0, .ref q1, .int 0, .ref q2, .int 0, .ref q3, .ref q4, .null, .null, .null, .null, .null, .null, .null, .null])), (q1, .inl (cy 0, 1500, .inl (fun _ => 0))), (q2, .inl (cy 0, 1500, .inl (fun _ => 0))), (q3, .inl (cy 0, 1500, .inl (fun _ => 0))), (q4, .inl (cy 0, 1500, .inl (fun _ => 0)))]) (T := TX4) (N := 19) C hiX4_init_X4 tyX4 tyX4_ok nmX4 (w.length + 0) (ga_at 0 rfl) rfl 10 (by decide) (by decide +kernel) rfl (hini rfl) rfl rfl rfl (Nat.le_of_ble_eq_true rfl) dX4_init_53 (ga_set 0) ?_
  refine m_aload_n C dX4_init_56 rfl 0 rfl ?_
  refine m_sipush (v := 400) C dX4_init_57 (by decide) ?_
  refine m_newa (ty := .boolean) (a0 := (400, .inl (fun _ => 0))) (N' := 400) C 2 rfl rfl (fun U cA h => h) (by decide +kernel) (fun cA => rfl) (by decide) (by decide) (by decide) (Nat.le_of_ble_eq_true rfl) (Nat.le_of_ble_eq_true rfl) dX4_init_60 (fun q5 => ?_)
  refine mW.eq (w' := w ++ [(q, .inr (4, [.int 0, .int 4, .int 4, .int 32, .int 0, .ref q1, .int 0, .ref q2, .int 0, .ref q3, .ref q4, .null, .null, .null, .null, .null, .null, .null, .null])), (q1, .inl (cy 0, 1500, .inl (fun _ => 0))), (q2, .inl (cy 0, 1500, .inl (fun _ => 0))), (q3, .inl (cy 0, 1500, .inl (fun _ => 0))), (q4, .inl (cy 0, 1500, .inl (fun _ => 0))), (q5, .inl (cy 2, 400, .inl (fun _ => 0)))]) rfl rfl rfl (by simp) ?_
  refine m_putF (w' := w ++ [(q, .inr (4, [.int 0, .int 4, .int 4, .int 32, .int 0, .ref q1, .int 0, .ref q2, .int 0, .ref q3, .ref q4, .ref q5, .null, .null, .null, .null, .null, .null, .null])), (q1, .inl (cy 0, 1500, .inl (fun _ => 0))), (q2, .inl (cy 0, 1500, .inl (fun _ => 0))), (q3, .inl (cy 0, 1500, .inl (fun _ => 0))), (q4, .inl (cy 0, 1500, .inl (fun _ => 0))), (q5, .inl (cy 2, 400, .inl (fun _ => 0)))]) (T := TX4) (N := 19) C hiX4_init_X4 tyX4 tyX4_ok nmX4 (w.length + 0) (ga_at 0 rfl) rfl 11 (by decide) (by decide +kernel) rfl (hini rfl) rfl rfl rfl (Nat.le_of_ble_eq_true rfl) dX4_init_62 (ga_set 0) ?_
  refine m_aload_n C dX4_init_65 rfl 0 rfl ?_
  refine m_bipush (v := 16) C dX4_init_66 (by decide) ?_
  refine m_newa (ty := .int) (a0 := (16, .inl (fun _ => 0))) (N' := 16) C 0 rfl rfl (fun U cA h => h) (by decide +kernel) (fun cA => rfl) (by decide) (by decide) (by decide) (Nat.le_of_ble_eq_true rfl) (Nat.le_of_ble_eq_true rfl) dX4_init_68 (fun q6 => ?_)
  refine mW.eq (w' := w ++ [(q, .inr (4, [.int 0, .int 4, .int 4, .int 32, .int 0, .ref q1, .int 0, .ref q2, .int 0, .ref q3, .ref q4, .ref q5, .null, .null, .null, .null, .null, .null, .null])), (q1, .inl (cy 0, 1500, .inl (fun _ => 0))), (q2, .inl (cy 0, 1500, .inl (fun _ => 0))), (q3, .inl (cy 0, 1500, .inl (fun _ => 0))), (q4, .inl (cy 0, 1500, .inl (fun _ => 0))), (q5, .inl (cy 2, 400, .inl (fun _ => 0))), (q6, .inl (cy 0, 16, .inl (fun _ => 0)))]) rfl rfl rfl (by simp) ?_
  refine m_putF (w' := w ++ [(q, .inr (4, [.int 0, .int 4, .int 4, .int 32, .int 0, .ref q1, .int 0, .ref q2, .int 0, .ref q3, .ref q4, .ref q5, .ref q6, .null, .null, .null, .null, .null, .null])), (q1, .inl (cy 0, 1500, .inl (fun _ => 0))), (q2, .inl (cy 0, 1500, .inl (fun _ => 0))), (q3, .inl (cy 0, 1500, .inl (fun _ => 0))), (q4, .inl (cy 0, 1500, .inl (fun _ => 0))), (q5, .inl (cy 2, 400, .inl (fun _ => 0))), (q6, .inl (cy 0, 16, .inl (fun _ => 0)))]) (T := TX4) (N := 19) C hiX4_init_X4 tyX4 tyX4_ok nmX4 (w.length + 0) (ga_at 0 rfl) rfl 12 (by decide) (by decide +kernel) rfl (hini rfl) rfl rfl rfl (Nat.le_of_ble_eq_true rfl) dX4_init_70 (ga_set 0) ?_
  refine m_aload_n C dX4_init_73 rfl 0 rfl ?_
  refine m_sipush (v := 24000) C dX4_init_74 (by decide) ?_
  refine m_newa (ty := .int) (a0 := (24000, .inl (fun _ => 0))) (N' := 24000) C 0 rfl rfl (fun U cA h => h) (by decide +kernel) (fun cA => rfl) (by decide) (by decide) (by decide) (Nat.le_of_ble_eq_true rfl) (Nat.le_of_ble_eq_true rfl) dX4_init_77 (fun q7 => ?_)
  refine mW.eq (w' := w ++ [(q, .inr (4, [.int 0, .int 4, .int 4, .int 32, .int 0, .ref q1, .int 0, .ref q2, .int 0, .ref q3, .ref q4, .ref q5, .ref q6, .null, .null, .null, .null, .null, .null])), (q1, .inl (cy 0, 1500, .inl (fun _ => 0))), (q2, .inl (cy 0, 1500, .inl (fun _ => 0))), (q3, .inl (cy 0, 1500, .inl (fun _ => 0))), (q4, .inl (cy 0, 1500, .inl (fun _ => 0))), (q5, .inl (cy 2, 400, .inl (fun _ => 0))), (q6, .inl (cy 0, 16, .inl (fun _ => 0))), (q7, .inl (cy 0, 24000, .inl (fun _ => 0)))]) rfl rfl rfl (by simp) ?_
  refine m_putF (w' := w ++ [(q, .inr (4, [.int 0, .int 4, .int 4, .int 32, .int 0, .ref q1, .int 0, .ref q2, .int 0, .ref q3, .ref q4, .ref q5, .ref q6, .ref q7, .null, .null, .null, .null, .null])), (q1, .inl (cy 0, 1500, .inl (fun _ => 0))), (q2, .inl (cy 0, 1500, .inl (fun _ => 0))), (q3, .inl (cy 0, 1500, .inl (fun _ => 0))), (q4, .inl (cy 0, 1500, .inl (fun _ => 0))), (q5, .inl (cy 2, 400, .inl (fun _ => 0))), (q6, .inl (cy 0, 16, .inl (fun _ => 0))), (q7, .inl (cy 0, 24000, .inl (fun _ => 0)))]) (T := TX4) (N := 19) C hiX4_init_X4 tyX4 tyX4_ok nmX4 (w.length + 0) (ga_at 0 rfl) rfl 13 (by decide) (by decide +kernel) rfl (hini rfl) rfl rfl rfl (Nat.le_of_ble_eq_true rfl) dX4_init_79 (ga_set 0) ?_
  refine m_aload_n C dX4_init_82 rfl 0 rfl ?_
  refine m_bipush (v := 16) C dX4_init_83 (by decide) ?_
  refine m_newa (ty := .int) (a0 := (16, .inl (fun _ => 0))) (N' := 16) C 0 rfl rfl (fun U cA h => h) (by decide +kernel) (fun cA => rfl) (by decide) (by decide) (by decide) (Nat.le_of_ble_eq_true rfl) (Nat.le_of_ble_eq_true rfl) dX4_init_85 (fun q8 => ?_)
  refine mW.eq (w' := w ++ [(q, .inr (4, [.int 0, .int 4, .int 4, .int 32, .int 0, .ref q1, .int 0, .ref q2, .int 0, .ref q3, .ref q4, .ref q5, .ref q6, .ref q7, .null, .null, .null, .null, .null])), (q1, .inl (cy 0, 1500, .inl (fun _ => 0))), (q2, .inl (cy 0, 1500, .inl (fun _ => 0))), (q3, .inl (cy 0, 1500, .inl (fun _ => 0))), (q4, .inl (cy 0, 1500, .inl (fun _ => 0))), (q5, .inl (cy 2, 400, .inl (fun _ => 0))), (q6, .inl (cy 0, 16, .inl (fun _ => 0))), (q7, .inl (cy 0, 24000, .inl (fun _ => 0))), (q8, .inl (cy 0, 16, .inl (fun _ => 0)))]) rfl rfl rfl (by simp) ?_
  refine m_putF (w' := w ++ [(q, .inr (4, [.int 0, .int 4, .int 4, .int 32, .int 0, .ref q1, .int 0, .ref q2, .int 0, .ref q3, .ref q4, .ref q5, .ref q6, .ref q7, .ref q8, .null, .null, .null, .null])), (q1, .inl (cy 0, 1500, .inl (fun _ => 0))), (q2, .inl (cy 0, 1500, .inl (fun _ => 0))), (q3, .inl (cy 0, 1500, .inl (fun _ => 0))), (q4, .inl (cy 0, 1500, .inl (fun _ => 0))), (q5, .inl (cy 2, 400, .inl (fun _ => 0))), (q6, .inl (cy 0, 16, .inl (fun _ => 0))), (q7, .inl (cy 0, 24000, .inl (fun _ => 0))), (q8, .inl (cy 0, 16, .inl (fun _ => 0)))]) (T := TX4) (N := 19) C hiX4_init_X4 tyX4 tyX4_ok nmX4 (w.length + 0) (ga_at 0 rfl) rfl 14 (by decide) (by decide +kernel) rfl (hini rfl) rfl rfl rfl (Nat.le_of_ble_eq_true rfl) dX4_init_87 (ga_set 0) ?_
  refine m_aload_n C dX4_init_90 rfl 0 rfl ?_
  refine m_sipush (v := 24000) C dX4_init_91 (by decide) ?_
  refine m_newa (ty := .int) (a0 := (24000, .inl (fun _ => 0))) (N' := 24000) C 0 rfl rfl (fun U cA h => h) (by decide +kernel) (fun cA => rfl) (by decide) (by decide) (by decide) (Nat.le_of_ble_eq_true rfl) (Nat.le_of_ble_eq_true rfl) dX4_init_94 (fun q9 => ?_)
  refine mW.eq (w' := w ++ [(q, .inr (4, [.int 0, .int 4, .int 4, .int 32, .int 0, .ref q1, .int 0, .ref q2, .int 0, .ref q3, .ref q4, .ref q5, .ref q6, .ref q7, .ref q8, .null, .null, .null, .null])), (q1, .inl (cy 0, 1500, .inl (fun _ => 0))), (q2, .inl (cy 0, 1500, .inl (fun _ => 0))), (q3, .inl (cy 0, 1500, .inl (fun _ => 0))), (q4, .inl (cy 0, 1500, .inl (fun _ => 0))), (q5, .inl (cy 2, 400, .inl (fun _ => 0))), (q6, .inl (cy 0, 16, .inl (fun _ => 0))), (q7, .inl (cy 0, 24000, .inl (fun _ => 0))), (q8, .inl (cy 0, 16, .inl (fun _ => 0))), (q9, .inl (cy 0, 24000, .inl (fun _ => 0)))]) rfl rfl rfl (by simp) ?_
  refine m_putF (w' := w ++ [(q, .inr (4, [.int 0, .int 4, .int 4, .int 32, .int 0, .ref q1, .int 0, .ref q2, .int 0, .ref q3, .ref q4, .ref q5, .ref q6, .ref q7, .ref q8, .ref q9, .null, .null, .null])), (q1, .inl (cy 0, 1500, .inl (fun _ => 0))), (q2, .inl (cy 0, 1500, .inl (fun _ => 0))), (q3, .inl (cy 0, 1500, .inl (fun _ => 0))), (q4, .inl (cy 0, 1500, .inl (fun _ => 0))), (q5, .inl (cy 2, 400, .inl (fun _ => 0))), (q6, .inl (cy 0, 16, .inl (fun _ => 0))), (q7, .inl (cy 0, 24000, .inl (fun _ => 0))), (q8, .inl (cy 0, 16, .inl (fun _ => 0))), (q9, .inl (cy 0, 24000, .inl (fun _ => 0)))]) (T := TX4) (N := 19) C hiX4_init_X4 tyX4 tyX4_ok nmX4 (w.length + 0) (ga_at 0 rfl) rfl 15 (by decide) (by decide +kernel) rfl (hini rfl) rfl rfl rfl (Nat.le_of_ble_eq_true rfl) dX4_init_96 (ga_set 0) ?_
  refine m_aload_n C dX4_init_99 rfl 0 rfl ?_
  refine m_sipush (v := 400) C dX4_init_100 (by decide) ?_
  refine m_newa (ty := .int) (a0 := (400, .inl (fun _ => 0))) (N' := 400) C 0 rfl rfl (fun U cA h => h) (by decide +kernel) (fun cA => rfl) (by decide) (by decide) (by decide) (Nat.le_of_ble_eq_true rfl) (Nat.le_of_ble_eq_true rfl) dX4_init_103 (fun q10 => ?_)
  refine mW.eq (w' := w ++ [(q, .inr (4, [.int 0, .int 4, .int 4, .int 32, .int 0, .ref q1, .int 0, .ref q2, .int 0, .ref q3, .ref q4, .ref q5, .ref q6, .ref q7, .ref q8, .ref q9, .null, .null, .null])), (q1, .inl (cy 0, 1500, .inl (fun _ => 0))), (q2, .inl (cy 0, 1500, .inl (fun _ => 0))), (q3, .inl (cy 0, 1500, .inl (fun _ => 0))), (q4, .inl (cy 0, 1500, .inl (fun _ => 0))), (q5, .inl (cy 2, 400, .inl (fun _ => 0))), (q6, .inl (cy 0, 16, .inl (fun _ => 0))), (q7, .inl (cy 0, 24000, .inl (fun _ => 0))), (q8, .inl (cy 0, 16, .inl (fun _ => 0))), (q9, .inl (cy 0, 24000, .inl (fun _ => 0))), (q10, .inl (cy 0, 400, .inl (fun _ => 0)))]) rfl rfl rfl (by simp) ?_
  refine m_putF (w' := w ++ [(q, .inr (4, [.int 0, .int 4, .int 4, .int 32, .int 0, .ref q1, .int 0, .ref q2, .int 0, .ref q3, .ref q4, .ref q5, .ref q6, .ref q7, .ref q8, .ref q9, .ref q10, .null, .null])), (q1, .inl (cy 0, 1500, .inl (fun _ => 0))), (q2, .inl (cy 0, 1500, .inl (fun _ => 0))), (q3, .inl (cy 0, 1500, .inl (fun _ => 0))), (q4, .inl (cy 0, 1500, .inl (fun _ => 0))), (q5, .inl (cy 2, 400, .inl (fun _ => 0))), (q6, .inl (cy 0, 16, .inl (fun _ => 0))), (q7, .inl (cy 0, 24000, .inl (fun _ => 0))), (q8, .inl (cy 0, 16, .inl (fun _ => 0))), (q9, .inl (cy 0, 24000, .inl (fun _ => 0))), (q10, .inl (cy 0, 400, .inl (fun _ => 0)))]) (T := TX4) (N := 19) C hiX4_init_X4 tyX4 tyX4_ok nmX4 (w.length + 0) (ga_at 0 rfl) rfl 16 (by decide) (by decide +kernel) rfl (hini rfl) rfl rfl rfl (Nat.le_of_ble_eq_true rfl) dX4_init_105 (ga_set 0) ?_
  refine m_aload_n C dX4_init_108 rfl 0 rfl ?_
  refine m_sipush (v := 400) C dX4_init_109 (by decide) ?_
  refine m_newa (ty := .int) (a0 := (400, .inl (fun _ => 0))) (N' := 400) C 0 rfl rfl (fun U cA h => h) (by decide +kernel) (fun cA => rfl) (by decide) (by decide) (by decide) (Nat.le_of_ble_eq_true rfl) (Nat.le_of_ble_eq_true rfl) dX4_init_112 (fun q11 => ?_)
  refine mW.eq (w' := w ++ [(q, .inr (4, [.int 0, .int 4, .int 4, .int 32, .int 0, .ref q1, .int 0, .ref q2, .int 0, .ref q3, .ref q4, .ref q5, .ref q6, .ref q7, .ref q8, .ref q9, .ref q10, .null, .null])), (q1, .inl (cy 0, 1500, .inl (fun _ => 0))), (q2, .inl (cy 0, 1500, .inl (fun _ => 0))), (q3, .inl (cy 0, 1500, .inl (fun _ => 0))), (q4, .inl (cy 0, 1500, .inl (fun _ => 0))), (q5, .inl (cy 2, 400, .inl (fun _ => 0))), (q6, .inl (cy 0, 16, .inl (fun _ => 0))), (q7, .inl (cy 0, 24000, .inl (fun _ => 0))), (q8, .inl (cy 0, 16, .inl (fun _ => 0))), (q9, .inl (cy 0, 24000, .inl (fun _ => 0))), (q10, .inl (cy 0, 400, .inl (fun _ => 0))), (q11, .inl (cy 0, 400, .inl (fun _ => 0)))]) rfl rfl rfl (by simp) ?_
  refine m_putF (w' := w ++ [(q, .inr (4, [.int 0, .int 4, .int 4, .int 32, .int 0, .ref q1, .int 0, .ref q2, .int 0, .ref q3, .ref q4, .ref q5, .ref q6, .ref q7, .ref q8, .ref q9, .ref q10, .ref q11, .null])), (q1, .inl (cy 0, 1500, .inl (fun _ => 0))), (q2, .inl (cy 0, 1500, .inl (fun _ => 0))), (q3, .inl (cy 0, 1500, .inl (fun _ => 0))), (q4, .inl (cy 0, 1500, .inl (fun _ => 0))), (q5, .inl (cy 2, 400, .inl (fun _ => 0))), (q6, .inl (cy 0, 16, .inl (fun _ => 0))), (q7, .inl (cy 0, 24000, .inl (fun _ => 0))), (q8, .inl (cy 0, 16, .inl (fun _ => 0))), (q9, .inl (cy 0, 24000, .inl (fun _ => 0))), (q10, .inl (cy 0, 400, .inl (fun _ => 0))), (q11, .inl (cy 0, 400, .inl (fun _ => 0)))]) (T := TX4) (N := 19) C hiX4_init_X4 tyX4 tyX4_ok nmX4 (w.length + 0) (ga_at 0 rfl) rfl 17 (by decide) (by decide +kernel) rfl (hini rfl) rfl rfl rfl (Nat.le_of_ble_eq_true rfl) dX4_init_114 (ga_set 0) ?_
  refine m_aload_n C dX4_init_117 rfl 0 rfl ?_
  refine m_sipush (v := 25600) C dX4_init_118 (by decide) ?_
  refine m_newa (ty := .int) (a0 := (25600, .inl (fun _ => 0))) (N' := 25600) C 0 rfl rfl (fun U cA h => h) (by decide +kernel) (fun cA => rfl) (by decide) (by decide) (by decide) (Nat.le_of_ble_eq_true rfl) (Nat.le_of_ble_eq_true rfl) dX4_init_121 (fun q12 => ?_)
  refine mW.eq (w' := w ++ [(q, .inr (4, [.int 0, .int 4, .int 4, .int 32, .int 0, .ref q1, .int 0, .ref q2, .int 0, .ref q3, .ref q4, .ref q5, .ref q6, .ref q7, .ref q8, .ref q9, .ref q10, .ref q11, .null])), (q1, .inl (cy 0, 1500, .inl (fun _ => 0))), (q2, .inl (cy 0, 1500, .inl (fun _ => 0))), (q3, .inl (cy 0, 1500, .inl (fun _ => 0))), (q4, .inl (cy 0, 1500, .inl (fun _ => 0))), (q5, .inl (cy 2, 400, .inl (fun _ => 0))), (q6, .inl (cy 0, 16, .inl (fun _ => 0))), (q7, .inl (cy 0, 24000, .inl (fun _ => 0))), (q8, .inl (cy 0, 16, .inl (fun _ => 0))), (q9, .inl (cy 0, 24000, .inl (fun _ => 0))), (q10, .inl (cy 0, 400, .inl (fun _ => 0))), (q11, .inl (cy 0, 400, .inl (fun _ => 0))), (q12, .inl (cy 0, 25600, .inl (fun _ => 0)))]) rfl rfl rfl (by simp) ?_
  refine m_putF (w' := w ++ [(q, .inr (4, [.int 0, .int 4, .int 4, .int 32, .int 0, .ref q1, .int 0, .ref q2, .int 0, .ref q3, .ref q4, .ref q5, .ref q6, .ref q7, .ref q8, .ref q9, .ref q10, .ref q11, .ref q12])), (q1, .inl (cy 0, 1500, .inl (fun _ => 0))), (q2, .inl (cy 0, 1500, .inl (fun _ => 0))), (q3, .inl (cy 0, 1500, .inl (fun _ => 0))), (q4, .inl (cy 0, 1500, .inl (fun _ => 0))), (q5, .inl (cy 2, 400, .inl (fun _ => 0))), (q6, .inl (cy 0, 16, .inl (fun _ => 0))), (q7, .inl (cy 0, 24000, .inl (fun _ => 0))), (q8, .inl (cy 0, 16, .inl (fun _ => 0))), (q9, .inl (cy 0, 24000, .inl (fun _ => 0))), (q10, .inl (cy 0, 400, .inl (fun _ => 0))), (q11, .inl (cy 0, 400, .inl (fun _ => 0))), (q12, .inl (cy 0, 25600, .inl (fun _ => 0)))]) (T := TX4) (N := 19) C hiX4_init_X4 tyX4 tyX4_ok nmX4 (w.length + 0) (ga_at 0 rfl) rfl 18 (by decide) (by decide +kernel) rfl (hini rfl) rfl rfl rfl (Nat.le_of_ble_eq_true rfl) dX4_init_123 (ga_set 0) ?_
  exact m_vret C dX4_init_126 (Nat.le_of_ble_eq_true rfl) (Nat.le_of_ble_eq_true rfl) ⟨rfl, q1, q2, q3, q4, q5, q6, q7, q8, q9, q10, q11, q12, rfl⟩
end
