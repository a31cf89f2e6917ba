section
-- ===== PART A: goes FIRST, ahead of the names: the tables' words, and 'selects' of the private methods out of them =====
/-- a private method of a class that the tables say can be made, by its rows of tables_1 -/
def lw_okq (q : MethodName × Nat) : Prop := (q.1.cls ≠ "java/lang/invoke/MethodHandle" ∧ q.1.cls ≠ "java/lang/invoke/VarHandle") ∧ Cond.instantiable q.1.cls q.2 ∈ tables_1 ∧ Cond.privateMethod q.1 ∈ tables_1 ∧ Cond.instanceMethod q.1 ∈ tables_1
theorem lw_p0 : lw_okq (⟨"LiarsAnswers", "yesPrice", "(I)I"⟩, 8) := ⟨⟨by decide +kernel, by decide +kernel⟩, List.mem_of_getElem? (i := 17) (by decide +kernel), List.mem_of_getElem? (i := 162) (by decide +kernel), List.mem_of_getElem? (i := 163) (by decide +kernel)⟩
theorem lw_p1 : lw_okq (⟨"LiarsAnswers", "noPrice", "(I)I"⟩, 8) := ⟨⟨by decide +kernel, by decide +kernel⟩, List.mem_of_getElem? (i := 17) (by decide +kernel), List.mem_of_getElem? (i := 181) (by decide +kernel), List.mem_of_getElem? (i := 182) (by decide +kernel)⟩
theorem lw_p2 : lw_okq (⟨"LiarsAnswers", "heapTable", "(I)LLiarsAnswers$HeapTable;"⟩, 8) := ⟨⟨by decide +kernel, by decide +kernel⟩, List.mem_of_getElem? (i := 17) (by decide +kernel), List.mem_of_getElem? (i := 195) (by decide +kernel), List.mem_of_getElem? (i := 196) (by decide +kernel)⟩
theorem lw_p3 : lw_okq (⟨"LiarsAnswers$HeapTable", "learnOne", "(IIII)V"⟩, 4) := ⟨⟨by decide +kernel, by decide +kernel⟩, List.mem_of_getElem? (i := 253) (by decide +kernel), List.mem_of_getElem? (i := 277) (by decide +kernel), List.mem_of_getElem? (i := 278) (by decide +kernel)⟩
theorem lw_p4 : lw_okq (⟨"LiarsAnswers$HeapTable", "fewAt", "(I)I"⟩, 4) := ⟨⟨by decide +kernel, by decide +kernel⟩, List.mem_of_getElem? (i := 253) (by decide +kernel), List.mem_of_getElem? (i := 286) (by decide +kernel), List.mem_of_getElem? (i := 287) (by decide +kernel)⟩
theorem lw_p5 : lw_okq (⟨"LiarsAnswers$LeastHeap", "lowestTaken", "()I"⟩, 8) := ⟨⟨by decide +kernel, by decide +kernel⟩, List.mem_of_getElem? (i := 235) (by decide +kernel), List.mem_of_getElem? (i := 325) (by decide +kernel), List.mem_of_getElem? (i := 326) (by decide +kernel)⟩
theorem lw_p6 : lw_okq (⟨"LiarsAnswers", "fewestNow", "()I"⟩, 8) := ⟨⟨by decide +kernel, by decide +kernel⟩, List.mem_of_getElem? (i := 17) (by decide +kernel), List.mem_of_getElem? (i := 334) (by decide +kernel), List.mem_of_getElem? (i := 335) (by decide +kernel)⟩
theorem lw_p7 : lw_okq (⟨"LiarsAnswers$Game", "priceFor", "(ZZ)I"⟩, 9) := ⟨⟨by decide +kernel, by decide +kernel⟩, List.mem_of_getElem? (i := 65) (by decide +kernel), List.mem_of_getElem? (i := 397) (by decide +kernel), List.mem_of_getElem? (i := 398) (by decide +kernel)⟩
theorem lw_p8 : lw_okq (⟨"LiarsAnswers", "spanTable", "(I)LLiarsAnswers$SpanTable;"⟩, 8) := ⟨⟨by decide +kernel, by decide +kernel⟩, List.mem_of_getElem? (i := 17) (by decide +kernel), List.mem_of_getElem? (i := 437) (by decide +kernel), List.mem_of_getElem? (i := 438) (by decide +kernel)⟩
theorem lw_p9 : lw_okq (⟨"LiarsAnswers$SpanTable", "learned", "(I)I"⟩, 4) := ⟨⟨by decide +kernel, by decide +kernel⟩, List.mem_of_getElem? (i := 440) (by decide +kernel), List.mem_of_getElem? (i := 468) (by decide +kernel), List.mem_of_getElem? (i := 469) (by decide +kernel)⟩
theorem lw_p10 : lw_okq (⟨"LiarsAnswers$SpanTable", "fewAt", "(I)I"⟩, 4) := ⟨⟨by decide +kernel, by decide +kernel⟩, List.mem_of_getElem? (i := 440) (by decide +kernel), List.mem_of_getElem? (i := 478) (by decide +kernel), List.mem_of_getElem? (i := 479) (by decide +kernel)⟩
theorem lw_p11 : lw_okq (⟨"LiarsAnswers$SpanTable", "leastQuestions", "(II)I"⟩, 4) := ⟨⟨by decide +kernel, by decide +kernel⟩, List.mem_of_getElem? (i := 440) (by decide +kernel), List.mem_of_getElem? (i := 482) (by decide +kernel), List.mem_of_getElem? (i := 483) (by decide +kernel)⟩
theorem lw_p12 : lw_okq (⟨"LiarsAnswers$SpanTable", "greaterBehind", "(II)I"⟩, 4) := ⟨⟨by decide +kernel, by decide +kernel⟩, List.mem_of_getElem? (i := 440) (by decide +kernel), List.mem_of_getElem? (i := 487) (by decide +kernel), List.mem_of_getElem? (i := 488) (by decide +kernel)⟩
theorem lw_p13 : lw_okq (⟨"LiarsAnswers$LeastHeap", "layLowest", "([IIII)I"⟩, 8) := ⟨⟨by decide +kernel, by decide +kernel⟩, List.mem_of_getElem? (i := 235) (by decide +kernel), List.mem_of_getElem? (i := 515) (by decide +kernel), List.mem_of_getElem? (i := 516) (by decide +kernel)⟩
theorem lw_p14 : lw_okq (⟨"LiarsAnswers", "fewestBehind", "(Z)I"⟩, 8) := ⟨⟨by decide +kernel, by decide +kernel⟩, List.mem_of_getElem? (i := 17) (by decide +kernel), List.mem_of_getElem? (i := 528) (by decide +kernel), List.mem_of_getElem? (i := 529) (by decide +kernel)⟩
theorem lw_p15 : lw_okq (⟨"LiarsAnswers", "playOne", "(II)Z"⟩, 8) := ⟨⟨by decide +kernel, by decide +kernel⟩, List.mem_of_getElem? (i := 17) (by decide +kernel), List.mem_of_getElem? (i := 594) (by decide +kernel), List.mem_of_getElem? (i := 595) (by decide +kernel)⟩
def lw_privs_1 : List (MethodName × Nat) := [(⟨"LiarsAnswers", "yesPrice", "(I)I"⟩, 8), (⟨"LiarsAnswers", "noPrice", "(I)I"⟩, 8), (⟨"LiarsAnswers", "heapTable", "(I)LLiarsAnswers$HeapTable;"⟩, 8), (⟨"LiarsAnswers$HeapTable", "learnOne", "(IIII)V"⟩, 4), (⟨"LiarsAnswers$HeapTable", "fewAt", "(I)I"⟩, 4), (⟨"LiarsAnswers$LeastHeap", "lowestTaken", "()I"⟩, 8), (⟨"LiarsAnswers", "fewestNow", "()I"⟩, 8), (⟨"LiarsAnswers$Game", "priceFor", "(ZZ)I"⟩, 9), (⟨"LiarsAnswers", "spanTable", "(I)LLiarsAnswers$SpanTable;"⟩, 8), (⟨"LiarsAnswers$SpanTable", "learned", "(I)I"⟩, 4), (⟨"LiarsAnswers$SpanTable", "fewAt", "(I)I"⟩, 4), (⟨"LiarsAnswers$SpanTable", "leastQuestions", "(II)I"⟩, 4), (⟨"LiarsAnswers$SpanTable", "greaterBehind", "(II)I"⟩, 4), (⟨"LiarsAnswers$LeastHeap", "layLowest", "([IIII)I"⟩, 8), (⟨"LiarsAnswers", "fewestBehind", "(Z)I"⟩, 8), (⟨"LiarsAnswers", "playOne", "(II)Z"⟩, 8)]
theorem lw_r1 : ∀ q ∈ lw_privs_1, lw_okq q := List.forall_mem_cons.mpr ⟨lw_p0, List.forall_mem_cons.mpr ⟨lw_p1, List.forall_mem_cons.mpr ⟨lw_p2, List.forall_mem_cons.mpr ⟨lw_p3, List.forall_mem_cons.mpr ⟨lw_p4, List.forall_mem_cons.mpr ⟨lw_p5, List.forall_mem_cons.mpr ⟨lw_p6, List.forall_mem_cons.mpr ⟨lw_p7, List.forall_mem_cons.mpr ⟨lw_p8, List.forall_mem_cons.mpr ⟨lw_p9, List.forall_mem_cons.mpr ⟨lw_p10, List.forall_mem_cons.mpr ⟨lw_p11, List.forall_mem_cons.mpr ⟨lw_p12, List.forall_mem_cons.mpr ⟨lw_p13, List.forall_mem_cons.mpr ⟨lw_p14, List.forall_mem_cons.mpr ⟨lw_p15, fun _ h => absurd h List.not_mem_nil⟩⟩⟩⟩⟩⟩⟩⟩⟩⟩⟩⟩⟩⟩⟩⟩
theorem lw_p16 : lw_okq (⟨"LiarsAnswersModel", "worthOf", "([I)I"⟩, 21) := ⟨⟨by decide +kernel, by decide +kernel⟩, List.mem_of_getElem? (i := 610) (by decide +kernel), List.mem_of_getElem? (i := 698) (by decide +kernel), List.mem_of_getElem? (i := 699) (by decide +kernel)⟩
theorem lw_p17 : lw_okq (⟨"LiarsAnswersModel", "levels", "(II)V"⟩, 21) := ⟨⟨by decide +kernel, by decide +kernel⟩, List.mem_of_getElem? (i := 610) (by decide +kernel), List.mem_of_getElem? (i := 703) (by decide +kernel), List.mem_of_getElem? (i := 704) (by decide +kernel)⟩
theorem lw_p18 : lw_okq (⟨"LiarsAnswersModel", "mayDo", "(II)Z"⟩, 21) := ⟨⟨by decide +kernel, by decide +kernel⟩, List.mem_of_getElem? (i := 610) (by decide +kernel), List.mem_of_getElem? (i := 710) (by decide +kernel), List.mem_of_getElem? (i := 711) (by decide +kernel)⟩
theorem lw_p19 : lw_okq (⟨"LiarsAnswersModel", "canDo", "(II)Z"⟩, 21) := ⟨⟨by decide +kernel, by decide +kernel⟩, List.mem_of_getElem? (i := 610) (by decide +kernel), List.mem_of_getElem? (i := 714) (by decide +kernel), List.mem_of_getElem? (i := 715) (by decide +kernel)⟩
theorem lw_p20 : lw_okq (⟨"LiarsAnswersModel", "isWithin", "(III)Z"⟩, 21) := ⟨⟨by decide +kernel, by decide +kernel⟩, List.mem_of_getElem? (i := 610) (by decide +kernel), List.mem_of_getElem? (i := 721) (by decide +kernel), List.mem_of_getElem? (i := 722) (by decide +kernel)⟩
theorem lw_p21 : lw_okq (⟨"LiarsAnswersModel", "tries", "(IZ)I"⟩, 21) := ⟨⟨by decide +kernel, by decide +kernel⟩, List.mem_of_getElem? (i := 610) (by decide +kernel), List.mem_of_getElem? (i := 737) (by decide +kernel), List.mem_of_getElem? (i := 738) (by decide +kernel)⟩
theorem lw_p22 : lw_okq (⟨"LiarsAnswersModel", "many", "()I"⟩, 21) := ⟨⟨by decide +kernel, by decide +kernel⟩, List.mem_of_getElem? (i := 610) (by decide +kernel), List.mem_of_getElem? (i := 757) (by decide +kernel), List.mem_of_getElem? (i := 758) (by decide +kernel)⟩
theorem lw_p23 : lw_okq (⟨"LiarsAnswersModel", "knowSpans", "()V"⟩, 21) := ⟨⟨by decide +kernel, by decide +kernel⟩, List.mem_of_getElem? (i := 610) (by decide +kernel), List.mem_of_getElem? (i := 769) (by decide +kernel), List.mem_of_getElem? (i := 770) (by decide +kernel)⟩
theorem lw_p24 : lw_okq (⟨"LiarsAnswersModel", "canSpan", "(II)Z"⟩, 21) := ⟨⟨by decide +kernel, by decide +kernel⟩, List.mem_of_getElem? (i := 610) (by decide +kernel), List.mem_of_getElem? (i := 773) (by decide +kernel), List.mem_of_getElem? (i := 774) (by decide +kernel)⟩
theorem lw_p25 : lw_okq (⟨"LiarsAnswersModel", "spanBehind", "(IIIZ)I"⟩, 21) := ⟨⟨by decide +kernel, by decide +kernel⟩, List.mem_of_getElem? (i := 610) (by decide +kernel), List.mem_of_getElem? (i := 777) (by decide +kernel), List.mem_of_getElem? (i := 778) (by decide +kernel)⟩
theorem lw_p26 : lw_okq (⟨"LiarsAnswersModel", "greater", "(I)I"⟩, 21) := ⟨⟨by decide +kernel, by decide +kernel⟩, List.mem_of_getElem? (i := 610) (by decide +kernel), List.mem_of_getElem? (i := 793) (by decide +kernel), List.mem_of_getElem? (i := 794) (by decide +kernel)⟩
theorem lw_p27 : lw_okq (⟨"LiarsAnswersModel", "wordOf", "(I)I"⟩, 21) := ⟨⟨by decide +kernel, by decide +kernel⟩, List.mem_of_getElem? (i := 610) (by decide +kernel), List.mem_of_getElem? (i := 816) (by decide +kernel), List.mem_of_getElem? (i := 817) (by decide +kernel)⟩
theorem lw_p28 : lw_okq (⟨"LiarsAnswersModel", "isWord", "(I)Z"⟩, 21) := ⟨⟨by decide +kernel, by decide +kernel⟩, List.mem_of_getElem? (i := 610) (by decide +kernel), List.mem_of_getElem? (i := 835) (by decide +kernel), List.mem_of_getElem? (i := 836) (by decide +kernel)⟩
def lw_privs_2 : List (MethodName × Nat) := [(⟨"LiarsAnswersModel", "worthOf", "([I)I"⟩, 21), (⟨"LiarsAnswersModel", "levels", "(II)V"⟩, 21), (⟨"LiarsAnswersModel", "mayDo", "(II)Z"⟩, 21), (⟨"LiarsAnswersModel", "canDo", "(II)Z"⟩, 21), (⟨"LiarsAnswersModel", "isWithin", "(III)Z"⟩, 21), (⟨"LiarsAnswersModel", "tries", "(IZ)I"⟩, 21), (⟨"LiarsAnswersModel", "many", "()I"⟩, 21), (⟨"LiarsAnswersModel", "knowSpans", "()V"⟩, 21), (⟨"LiarsAnswersModel", "canSpan", "(II)Z"⟩, 21), (⟨"LiarsAnswersModel", "spanBehind", "(IIIZ)I"⟩, 21), (⟨"LiarsAnswersModel", "greater", "(I)I"⟩, 21), (⟨"LiarsAnswersModel", "wordOf", "(I)I"⟩, 21), (⟨"LiarsAnswersModel", "isWord", "(I)Z"⟩, 21)]
theorem lw_r2 : ∀ q ∈ lw_privs_2, lw_okq q := List.forall_mem_cons.mpr ⟨lw_p16, List.forall_mem_cons.mpr ⟨lw_p17, List.forall_mem_cons.mpr ⟨lw_p18, List.forall_mem_cons.mpr ⟨lw_p19, List.forall_mem_cons.mpr ⟨lw_p20, List.forall_mem_cons.mpr ⟨lw_p21, List.forall_mem_cons.mpr ⟨lw_p22, List.forall_mem_cons.mpr ⟨lw_p23, List.forall_mem_cons.mpr ⟨lw_p24, List.forall_mem_cons.mpr ⟨lw_p25, List.forall_mem_cons.mpr ⟨lw_p26, List.forall_mem_cons.mpr ⟨lw_p27, List.forall_mem_cons.mpr ⟨lw_p28, fun _ h => absurd h List.not_mem_nil⟩⟩⟩⟩⟩⟩⟩⟩⟩⟩⟩⟩⟩
def lw_privs : List (MethodName × Nat) := lw_privs_1 ++ (lw_privs_2)
def lw_tbl : List Cond := k2_sels lw_privs ++ tables_1
theorem lw_privs_ok : ∀ q ∈ lw_privs, lw_okq q := by
  show ∀ q ∈ lw_privs_1 ++ (lw_privs_2), lw_okq q
  exact List.forall_mem_append.mpr ⟨lw_r1, lw_r2⟩
end
section
def RX0 : String := "LiarsAnswers$AnyHeap"
def TX0 : u_T := fun k => match k with
  | 0 => ("LiarsAnswers$HeapWalk", "few", "[I", true)
  | 1 => ("LiarsAnswers$HeapWalk", "yesPrice", "I", true)
  | 2 => ("LiarsAnswers$HeapWalk", "noPrice", "I", true)
  | 3 => ("LiarsAnswers$HeapWalk", "have", "[I", true)
  | 4 => ("LiarsAnswers$HeapWalk", "taken", "[I", true)
  | _ => ("LiarsAnswers$HeapWalk", "goal", "I", false)
def tyX0 : Nat → FieldType := fun k => match k with
  | 0 => .array .int
  | 1 => .int
  | 2 => .int
  | 3 => .array .int
  | 4 => .array .int
  | _ => .int
abbrev wsX00 : List Cond := u_ws RX0 TX0 6
theorem nmX0 : ∀ a, a < 6 → ∀ b, b < 6 → a ≠ b → (TX0 a).2.1 ≠ (TX0 b).2.1 := by decide +kernel
theorem tyX0_ok : ∀ k, k < 6 → parseFieldDescriptor (TX0 k).2.2.1 = some (tyX0 k) := by decide +kernel
abbrev cX0_init : ByteArray := prog_2_method_1_code
def yX0_init : MethodName := ⟨RX0, "<init>", "([III)V"⟩
abbrev cX0_hold : ByteArray := prog_2_method_2_code
def yX0_hold : MethodName := ⟨RX0, "hold", "(IIII)V"⟩
abbrev cX0_last : ByteArray := prog_2_method_3_code
def yX0_last : MethodName := ⟨RX0, "last", "(III)Z"⟩
def RX1 : String := "LiarsAnswers$BothLiar"
def TX1 : u_T := fun k => match k with
  | _ => ("", "", "", false)
def tyX1 : Nat → FieldType := fun k => match k with
  | _ => .int
abbrev wsX10 : List Cond := u_ws RX1 TX1 0
theorem nmX1 : ∀ a, a < 0 → ∀ b, b < 0 → a ≠ b → (TX1 a).2.1 ≠ (TX1 b).2.1 := by decide +kernel
theorem tyX1_ok : ∀ k, k < 0 → parseFieldDescriptor (TX1 k).2.2.1 = some (tyX1 k) := by decide +kernel
abbrev cX1_init : ByteArray := prog_3_method_1_code
def yX1_init : MethodName := ⟨RX1, "<init>", "()V"⟩
abbrev cX1_price : ByteArray := prog_3_method_2_code
def yX1_price : MethodName := ⟨RX1, "price", "(ZZLLiarsAnswers$Tally;)I"⟩
def RX2 : String := "LiarsAnswers$Code"
def TX2 : u_T := fun k => match k with
  | 0 => ("LiarsAnswers$Code", "questions", "[I", true)
  | 1 => ("LiarsAnswers$Code", "words", "[I", true)
  | _ => ("LiarsAnswers$Code", "size", "I", false)
def tyX2 : Nat → FieldType := fun k => match k with
  | 0 => .array .int
  | 1 => .array .int
  | _ => .int
abbrev wsX20 : List Cond := u_ws RX2 TX2 3
theorem nmX2 : ∀ a, a < 3 → ∀ b, b < 3 → a ≠ b → (TX2 a).2.1 ≠ (TX2 b).2.1 := by decide +kernel
theorem tyX2_ok : ∀ k, k < 3 → parseFieldDescriptor (TX2 k).2.2.1 = some (tyX2 k) := by decide +kernel
abbrev cX2_init : ByteArray := prog_4_method_1_code
def yX2_init : MethodName := ⟨RX2, "<init>", "()V"⟩
abbrev cX2_add : ByteArray := prog_4_method_2_code
def yX2_add : MethodName := ⟨RX2, "add", "(I)Z"⟩
abbrev cX2_removeLatest : ByteArray := prog_4_method_3_code
def yX2_removeLatest : MethodName := ⟨RX2, "removeLatest", "()Z"⟩
abbrev cX2_question : ByteArray := prog_4_method_4_code
def yX2_question : MethodName := ⟨RX2, "question", "(I)I"⟩
abbrev cX2_isWord : ByteArray := prog_4_method_5_code
def yX2_isWord : MethodName := ⟨RX2, "isWord", "(I)Z"⟩
abbrev cX2_wordOf : ByteArray := prog_4_method_6_code
def yX2_wordOf : MethodName := ⟨RX2, "wordOf", "(I)I"⟩
abbrev cX2_allApart : ByteArray := prog_4_method_7_code
def yX2_allApart : MethodName := ⟨RX2, "allApart", "(II)Z"⟩
abbrev cX2_onlyNear : ByteArray := prog_4_method_8_code
def yX2_onlyNear : MethodName := ⟨RX2, "onlyNear", "(III)I"⟩
def RX3 : String := "LiarsAnswers$Game"
def TX3 : u_T := fun k => match k with
  | 0 => ("LiarsAnswers$Game", "on", "Z", false)
  | 1 => ("LiarsAnswers$Game", "kind", "I", false)
  | 2 => ("LiarsAnswers$Game", "n", "I", false)
  | 3 => ("LiarsAnswers$Game", "e", "I", false)
  | 4 => ("LiarsAnswers$Game", "answers", "I", false)
  | 5 => ("LiarsAnswers$Game", "waits", "I", false)
  | 6 => ("LiarsAnswers$Game", "yesPrice", "I", false)
  | 7 => ("LiarsAnswers$Game", "noPrice", "I", false)
  | _ => ("LiarsAnswers$Game", "lefts", "[I", true)
def tyX3 : Nat → FieldType := fun k => match k with
  | 0 => .boolean
  | 1 => .int
  | 2 => .int
  | 3 => .int
  | 4 => .int
  | 5 => .int
  | 6 => .int
  | 7 => .int
  | _ => .array .int
abbrev wsX30 : List Cond := u_ws RX3 TX3 9
theorem nmX3 : ∀ a, a < 9 → ∀ b, b < 9 → a ≠ b → (TX3 a).2.1 ≠ (TX3 b).2.1 := by decide +kernel
theorem tyX3_ok : ∀ k, k < 9 → parseFieldDescriptor (TX3 k).2.2.1 = some (tyX3 k) := by decide +kernel
abbrev cX3_init : ByteArray := prog_5_method_1_code
def yX3_init : MethodName := ⟨RX3, "<init>", "()V"⟩
abbrev cX3_start : ByteArray := prog_5_method_2_code
def yX3_start : MethodName := ⟨RX3, "start", "(IIIII)V"⟩
abbrev cX3_row : ByteArray := prog_5_method_3_code
def yX3_row : MethodName := ⟨RX3, "row", "()I"⟩
abbrev cX3_rowBehind : ByteArray := prog_5_method_4_code
def yX3_rowBehind : MethodName := ⟨RX3, "rowBehind", "()I"⟩
abbrev cX3_within : ByteArray := prog_5_method_5_code
def yX3_within : MethodName := ⟨RX3, "within", "(I)I"⟩
abbrev cX3_leftOf : ByteArray := prog_5_method_6_code
def yX3_leftOf : MethodName := ⟨RX3, "leftOf", "(I)I"⟩
abbrev cX3_countOf : ByteArray := prog_5_method_7_code
def yX3_countOf : MethodName := ⟨RX3, "countOf", "(I)I"⟩
abbrev cX3_standingIn : ByteArray := prog_5_method_8_code
def yX3_standingIn : MethodName := ⟨RX3, "standingIn", "(I)I"⟩
abbrev cX3_waitFor : ByteArray := prog_5_method_9_code
def yX3_waitFor : MethodName := ⟨RX3, "waitFor", "(I)V"⟩
abbrev cX3_reply : ByteArray := prog_5_method_10_code
def yX3_reply : MethodName := ⟨RX3, "reply", "(IZ)I"⟩
abbrev cX3_forgetLatest : ByteArray := prog_5_method_11_code
def yX3_forgetLatest : MethodName := ⟨RX3, "forgetLatest", "()V"⟩
abbrev cX3_layBehind : ByteArray := prog_5_method_12_code
def yX3_layBehind : MethodName := ⟨RX3, "layBehind", "(IZ)I"⟩
abbrev cX3_priceFor : ByteArray := prog_5_method_13_code
def yX3_priceFor : MethodName := ⟨RX3, "priceFor", "(ZZ)I"⟩
abbrev cX3_asDigits : ByteArray := prog_5_method_14_code
def yX3_asDigits : MethodName := ⟨RX3, "asDigits", "()I"⟩
def RX4 : String := "LiarsAnswers$HeapTable"
def TX4 : u_T := fun k => match k with
  | 0 => ("LiarsAnswers$HeapTable", "few", "[I", true)
  | 1 => ("LiarsAnswers$HeapTable", "known", "[I", true)
  | 2 => ("LiarsAnswers$HeapTable", "anyHeap", "LLiarsAnswers$AnyHeap;", true)
  | _ => ("LiarsAnswers$HeapTable", "leastHeap", "LLiarsAnswers$LeastHeap;", true)
def tyX4 : Nat → FieldType := fun k => match k with
  | 0 => .array .int
  | 1 => .array .int
  | 2 => .object "LiarsAnswers$AnyHeap"
  | _ => .object "LiarsAnswers$LeastHeap"
abbrev wsX40 : List Cond := u_ws RX4 TX4 4
theorem nmX4 : ∀ a, a < 4 → ∀ b, b < 4 → a ≠ b → (TX4 a).2.1 ≠ (TX4 b).2.1 := by decide +kernel
theorem tyX4_ok : ∀ k, k < 4 → parseFieldDescriptor (TX4 k).2.2.1 = some (tyX4 k) := by decide +kernel
abbrev cX4_init : ByteArray := prog_6_method_1_code
def yX4_init : MethodName := ⟨RX4, "<init>", "([ILLiarsAnswers$AnyHeap;LLiarsAnswers$LeastHeap;)V"⟩
abbrev cX4_learn : ByteArray := prog_6_method_2_code
def yX4_learn : MethodName := ⟨RX4, "learn", "(II)V"⟩
abbrev cX4_learnOne : ByteArray := prog_6_method_3_code
def yX4_learnOne : MethodName := ⟨RX4, "learnOne", "(IIII)V"⟩
abbrev cX4_stepTo : ByteArray := prog_6_method_4_code
def yX4_stepTo : MethodName := ⟨RX4, "stepTo", "(II)I"⟩
abbrev cX4_fewAt : ByteArray := prog_6_method_5_code
def yX4_fewAt : MethodName := ⟨RX4, "fewAt", "(I)I"⟩
abbrev cX4_fewestOf : ByteArray := prog_6_method_6_code
def yX4_fewestOf : MethodName := ⟨RX4, "fewestOf", "([III)I"⟩
abbrev cX4_bestHeap : ByteArray := prog_6_method_7_code
def yX4_bestHeap : MethodName := ⟨RX4, "bestHeap", "([III)I"⟩
def RX5 : String := "LiarsAnswers$HeapWalk"
def TX5 : u_T := fun k => match k with
  | _ => ("", "", "", false)
def tyX5 : Nat → FieldType := fun k => match k with
  | _ => .int
abbrev wsX50 : List Cond := u_ws RX5 TX5 0
theorem nmX5 : ∀ a, a < 0 → ∀ b, b < 0 → a ≠ b → (TX5 a).2.1 ≠ (TX5 b).2.1 := by decide +kernel
theorem tyX5_ok : ∀ k, k < 0 → parseFieldDescriptor (TX5 k).2.2.1 = some (tyX5 k) := by decide +kernel
abbrev cX5_init : ByteArray := prog_7_method_1_code
def yX5_init : MethodName := ⟨RX5, "<init>", "([III)V"⟩
abbrev cX5_walk : ByteArray := prog_7_method_2_code
def yX5_walk : MethodName := ⟨RX5, "walk", "(I)Z"⟩
abbrev cX5_down : ByteArray := prog_7_method_3_code
def yX5_down : MethodName := ⟨RX5, "down", "(III)Z"⟩
abbrev cX5_isBeyond : ByteArray := prog_7_method_5_code
def yX5_isBeyond : MethodName := ⟨RX5, "isBeyond", "(I)Z"⟩
abbrev cX5_outward : ByteArray := prog_7_method_6_code
def yX5_outward : MethodName := ⟨RX5, "outward", "(II)I"⟩
def RX6 : String := "LiarsAnswers$LeastHeap"
def TX6 : u_T := fun k => match k with
  | 0 => ("LiarsAnswers$HeapWalk", "few", "[I", true)
  | 1 => ("LiarsAnswers$HeapWalk", "yesPrice", "I", true)
  | 2 => ("LiarsAnswers$HeapWalk", "noPrice", "I", true)
  | 3 => ("LiarsAnswers$HeapWalk", "have", "[I", true)
  | 4 => ("LiarsAnswers$HeapWalk", "taken", "[I", true)
  | 5 => ("LiarsAnswers$HeapWalk", "goal", "I", false)
  | 6 => ("LiarsAnswers$LeastHeap", "lowest", "[I", true)
  | _ => ("LiarsAnswers$LeastHeap", "least", "I", false)
def tyX6 : Nat → FieldType := fun k => match k with
  | 0 => .array .int
  | 1 => .int
  | 2 => .int
  | 3 => .array .int
  | 4 => .array .int
  | 5 => .int
  | 6 => .array .int
  | _ => .int
abbrev wsX60 : List Cond := u_ws RX6 TX6 8
theorem nmX6 : ∀ a, a < 8 → ∀ b, b < 8 → a ≠ b → (TX6 a).2.1 ≠ (TX6 b).2.1 := by decide +kernel
theorem tyX6_ok : ∀ k, k < 8 → parseFieldDescriptor (TX6 k).2.2.1 = some (tyX6 k) := by decide +kernel
abbrev cX6_init : ByteArray := prog_8_method_1_code
def yX6_init : MethodName := ⟨RX6, "<init>", "([III)V"⟩
abbrev cX6_find : ByteArray := prog_8_method_2_code
def yX6_find : MethodName := ⟨RX6, "find", "([IIII)I"⟩
abbrev cX6_layLowest : ByteArray := prog_8_method_3_code
def yX6_layLowest : MethodName := ⟨RX6, "layLowest", "([IIII)I"⟩
abbrev cX6_last : ByteArray := prog_8_method_4_code
def yX6_last : MethodName := ⟨RX6, "last", "(III)Z"⟩
abbrev cX6_lowestTaken : ByteArray := prog_8_method_5_code
def yX6_lowestTaken : MethodName := ⟨RX6, "lowestTaken", "()I"⟩
def RX7 : String := "LiarsAnswers$Liar"
def TX7 : u_T := fun k => match k with
  | _ => ("", "", "", false)
def tyX7 : Nat → FieldType := fun k => match k with
  | _ => .int
abbrev wsX70 : List Cond := u_ws RX7 TX7 0
theorem nmX7 : ∀ a, a < 0 → ∀ b, b < 0 → a ≠ b → (TX7 a).2.1 ≠ (TX7 b).2.1 := by decide +kernel
theorem tyX7_ok : ∀ k, k < 0 → parseFieldDescriptor (TX7 k).2.2.1 = some (tyX7 k) := by decide +kernel
abbrev cX7_init : ByteArray := prog_9_method_1_code
def yX7_init : MethodName := ⟨RX7, "<init>", "()V"⟩
abbrev cX7_price : ByteArray := prog_9_method_2_code
def yX7_price : MethodName := ⟨RX7, "price", "(ZZLLiarsAnswers$Tally;)I"⟩
def RX8 : String := "LiarsAnswers$SpanTable"
def TX8 : u_T := fun k => match k with
  | 0 => ("LiarsAnswers$SpanTable", "yesPrice", "I", true)
  | 1 => ("LiarsAnswers$SpanTable", "noPrice", "I", true)
  | 2 => ("LiarsAnswers$SpanTable", "few", "[I", true)
  | _ => ("LiarsAnswers$SpanTable", "known", "I", false)
def tyX8 : Nat → FieldType := fun k => match k with
  | 0 => .int
  | 1 => .int
  | 2 => .array .int
  | _ => .int
abbrev wsX80 : List Cond := u_ws RX8 TX8 4
theorem nmX8 : ∀ a, a < 4 → ∀ b, b < 4 → a ≠ b → (TX8 a).2.1 ≠ (TX8 b).2.1 := by decide +kernel
theorem tyX8_ok : ∀ k, k < 4 → parseFieldDescriptor (TX8 k).2.2.1 = some (tyX8 k) := by decide +kernel
abbrev cX8_init : ByteArray := prog_10_method_1_code
def yX8_init : MethodName := ⟨RX8, "<init>", "(II)V"⟩
abbrev cX8_fewestOf : ByteArray := prog_10_method_2_code
def yX8_fewestOf : MethodName := ⟨RX8, "fewestOf", "(I)I"⟩
abbrev cX8_learned : ByteArray := prog_10_method_3_code
def yX8_learned : MethodName := ⟨RX8, "learned", "(I)I"⟩
abbrev cX8_leastQuestions : ByteArray := prog_10_method_4_code
def yX8_leastQuestions : MethodName := ⟨RX8, "leastQuestions", "(II)I"⟩
abbrev cX8_greaterBehind : ByteArray := prog_10_method_5_code
def yX8_greaterBehind : MethodName := ⟨RX8, "greaterBehind", "(II)I"⟩
abbrev cX8_charged : ByteArray := prog_10_method_6_code
def yX8_charged : MethodName := ⟨RX8, "charged", "(III)I"⟩
abbrev cX8_standing : ByteArray := prog_10_method_7_code
def yX8_standing : MethodName := ⟨RX8, "standing", "(I)I"⟩
abbrev cX8_lowestGap : ByteArray := prog_10_method_8_code
def yX8_lowestGap : MethodName := ⟨RX8, "lowestGap", "(I)I"⟩
abbrev cX8_fewAt : ByteArray := prog_10_method_9_code
def yX8_fewAt : MethodName := ⟨RX8, "fewAt", "(I)I"⟩
def RX9 : String := "LiarsAnswers$Tally"
def TX9 : u_T := fun k => match k with
  | _ => ("LiarsAnswers$Tally", "sum", "J", false)
def tyX9 : Nat → FieldType := fun k => match k with
  | _ => .long
abbrev wsX90 : List Cond := u_ws RX9 TX9 1
theorem nmX9 : ∀ a, a < 1 → ∀ b, b < 1 → a ≠ b → (TX9 a).2.1 ≠ (TX9 b).2.1 := by decide +kernel
theorem tyX9_ok : ∀ k, k < 1 → parseFieldDescriptor (TX9 k).2.2.1 = some (tyX9 k) := by decide +kernel
abbrev cX9_init : ByteArray := prog_11_method_1_code
def yX9_init : MethodName := ⟨RX9, "<init>", "()V"⟩
def RX10 : String := "LiarsAnswers$YesLiar"
def TX10 : u_T := fun k => match k with
  | _ => ("", "", "", false)
def tyX10 : Nat → FieldType := fun k => match k with
  | _ => .int
abbrev wsX100 : List Cond := u_ws RX10 TX10 0
theorem nmX10 : ∀ a, a < 0 → ∀ b, b < 0 → a ≠ b → (TX10 a).2.1 ≠ (TX10 b).2.1 := by decide +kernel
theorem tyX10_ok : ∀ k, k < 0 → parseFieldDescriptor (TX10 k).2.2.1 = some (tyX10 k) := by decide +kernel
abbrev cX10_init : ByteArray := prog_12_method_1_code
def yX10_init : MethodName := ⟨RX10, "<init>", "()V"⟩
abbrev cX10_price : ByteArray := prog_12_method_2_code
def yX10_price : MethodName := ⟨RX10, "price", "(ZZLLiarsAnswers$Tally;)I"⟩
def RX11 : String := "LiarsAnswers"
def TX11 : u_T := fun k => match k with
  | 0 => ("LiarsAnswers", "liars", "[LLiarsAnswers$Liar;", true)
  | 1 => ("LiarsAnswers", "traced", "LLiarsAnswers$Tally;", true)
  | 2 => ("LiarsAnswers", "untold", "LLiarsAnswers$Tally;", true)
  | 3 => ("LiarsAnswers", "heapTables", "[LLiarsAnswers$HeapTable;", true)
  | 4 => ("LiarsAnswers", "spanTables", "[LLiarsAnswers$SpanTable;", true)
  | 5 => ("LiarsAnswers", "game", "LLiarsAnswers$Game;", true)
  | 6 => ("LiarsAnswers", "code", "LLiarsAnswers$Code;", true)
  | _ => ("LiarsAnswers", "takenBack", "I", false)
def tyX11 : Nat → FieldType := fun k => match k with
  | 0 => .array (.object "LiarsAnswers$Liar")
  | 1 => .object "LiarsAnswers$Tally"
  | 2 => .object "LiarsAnswers$Tally"
  | 3 => .array (.object "LiarsAnswers$HeapTable")
  | 4 => .array (.object "LiarsAnswers$SpanTable")
  | 5 => .object "LiarsAnswers$Game"
  | 6 => .object "LiarsAnswers$Code"
  | _ => .int
abbrev wsX110 : List Cond := u_ws RX11 TX11 8
theorem nmX11 : ∀ a, a < 8 → ∀ b, b < 8 → a ≠ b → (TX11 a).2.1 ≠ (TX11 b).2.1 := by decide +kernel
theorem tyX11_ok : ∀ k, k < 8 → parseFieldDescriptor (TX11 k).2.2.1 = some (tyX11 k) := by decide +kernel
abbrev cX11_init : ByteArray := prog_1_method_1_code
def yX11_init : MethodName := ⟨RX11, "<init>", "()V"⟩
abbrev cX11_begin : ByteArray := prog_1_method_2_code
def yX11_begin : MethodName := ⟨RX11, "begin", "(III)I"⟩
abbrev cX11_cost : ByteArray := prog_1_method_3_code
def yX11_cost : MethodName := ⟨RX11, "cost", "(IZZ)I"⟩
abbrev cX11_ask : ByteArray := prog_1_method_4_code
def yX11_ask : MethodName := ⟨RX11, "ask", "(I)I"⟩
abbrev cX11_answer : ByteArray := prog_1_method_5_code
def yX11_answer : MethodName := ⟨RX11, "answer", "(Z)I"⟩
abbrev cX11_back : ByteArray := prog_1_method_6_code
def yX11_back : MethodName := ⟨RX11, "back", "()I"⟩
abbrev cX11_left : ByteArray := prog_1_method_7_code
def yX11_left : MethodName := ⟨RX11, "left", "(I)I"⟩
abbrev cX11_state : ByteArray := prog_1_method_8_code
def yX11_state : MethodName := ⟨RX11, "state", "(I)I"⟩
abbrev cX11_found : ByteArray := prog_1_method_9_code
def yX11_found : MethodName := ⟨RX11, "found", "()I"⟩
abbrev cX11_fewest : ByteArray := prog_1_method_10_code
def yX11_fewest : MethodName := ⟨RX11, "fewest", "()I"⟩
abbrev cX11_spans : ByteArray := prog_1_method_11_code
def yX11_spans : MethodName := ⟨RX11, "spans", "()I"⟩
abbrev cX11_weight : ByteArray := prog_1_method_12_code
def yX11_weight : MethodName := ⟨RX11, "weight", "(I)J"⟩
abbrev cX11_best : ByteArray := prog_1_method_13_code
def yX11_best : MethodName := ⟨RX11, "best", "()I"⟩
abbrev cX11_worse : ByteArray := prog_1_method_14_code
def yX11_worse : MethodName := ⟨RX11, "worse", "()I"⟩
abbrev cX11_set : ByteArray := prog_1_method_15_code
def yX11_set : MethodName := ⟨RX11, "set", "(I)I"⟩
abbrev cX11_drop : ByteArray := prog_1_method_16_code
def yX11_drop : MethodName := ⟨RX11, "drop", "()I"⟩
abbrev cX11_word : ByteArray := prog_1_method_17_code
def yX11_word : MethodName := ⟨RX11, "word", "(I)I"⟩
abbrev cX11_apart : ByteArray := prog_1_method_18_code
def yX11_apart : MethodName := ⟨RX11, "apart", "(II)I"⟩
abbrev cX11_serves : ByteArray := prog_1_method_19_code
def yX11_serves : MethodName := ⟨RX11, "serves", "(II)I"⟩
abbrev cX11_read : ByteArray := prog_1_method_20_code
def yX11_read : MethodName := ⟨RX11, "read", "(III)I"⟩
abbrev cX11_play : ByteArray := prog_1_method_21_code
def yX11_play : MethodName := ⟨RX11, "play", "(I)I"⟩
abbrev cX11_told : ByteArray := prog_1_method_22_code
def yX11_told : MethodName := ⟨RX11, "told", "(I)I"⟩
abbrev cX11_trace : ByteArray := prog_1_method_23_code
def yX11_trace : MethodName := ⟨RX11, "trace", "()J"⟩
abbrev cX11_isKind : ByteArray := prog_1_method_24_code
def yX11_isKind : MethodName := ⟨RX11, "isKind", "(I)Z"⟩
abbrev cX11_isNumber : ByteArray := prog_1_method_25_code
def yX11_isNumber : MethodName := ⟨RX11, "isNumber", "(I)Z"⟩
abbrev cX11_isCount : ByteArray := prog_1_method_26_code
def yX11_isCount : MethodName := ⟨RX11, "isCount", "(I)Z"⟩
abbrev cX11_isLies : ByteArray := prog_1_method_27_code
def yX11_isLies : MethodName := ⟨RX11, "isLies", "(I)Z"⟩
abbrev cX11_isHeap : ByteArray := prog_1_method_28_code
def yX11_isHeap : MethodName := ⟨RX11, "isHeap", "(I)Z"⟩
abbrev cX11_yesPrice : ByteArray := prog_1_method_29_code
def yX11_yesPrice : MethodName := ⟨RX11, "yesPrice", "(I)I"⟩
abbrev cX11_noPrice : ByteArray := prog_1_method_30_code
def yX11_noPrice : MethodName := ⟨RX11, "noPrice", "(I)I"⟩
abbrev cX11_heapTable : ByteArray := prog_1_method_31_code
def yX11_heapTable : MethodName := ⟨RX11, "heapTable", "(I)LLiarsAnswers$HeapTable;"⟩
abbrev cX11_spanTable : ByteArray := prog_1_method_32_code
def yX11_spanTable : MethodName := ⟨RX11, "spanTable", "(I)LLiarsAnswers$SpanTable;"⟩
abbrev cX11_fewestNow : ByteArray := prog_1_method_33_code
def yX11_fewestNow : MethodName := ⟨RX11, "fewestNow", "()I"⟩
abbrev cX11_fewestBehind : ByteArray := prog_1_method_34_code
def yX11_fewestBehind : MethodName := ⟨RX11, "fewestBehind", "(Z)I"⟩
abbrev cX11_toldOrNone : ByteArray := prog_1_method_35_code
def yX11_toldOrNone : MethodName := ⟨RX11, "toldOrNone", "(I)I"⟩
abbrev cX11_playOne : ByteArray := prog_1_method_36_code
def yX11_playOne : MethodName := ⟨RX11, "playOne", "(II)Z"⟩
abbrev cX11_waysToLie : ByteArray := prog_1_method_37_code
def yX11_waysToLie : MethodName := ⟨RX11, "waysToLie", "(II)J"⟩
abbrev cX11_placeOf : ByteArray := prog_1_method_38_code
def yX11_placeOf : MethodName := ⟨RX11, "placeOf", "(II)I"⟩
abbrev cX11_leftAt : ByteArray := prog_1_method_39_code
def yX11_leftAt : MethodName := ⟨RX11, "leftAt", "([II)I"⟩
def RX12 : String := "LiarsAnswersModel"
def TX12 : u_T := fun k => match k with
  | 0 => ("LiarsAnswersModel", "hasGame", "Z", false)
  | 1 => ("LiarsAnswersModel", "kind", "I", false)
  | 2 => ("LiarsAnswersModel", "n", "I", false)
  | 3 => ("LiarsAnswersModel", "e", "I", false)
  | 4 => ("LiarsAnswersModel", "answers", "I", false)
  | 5 => ("LiarsAnswersModel", "waits", "I", false)
  | 6 => ("LiarsAnswersModel", "left", "[I", true)
  | 7 => ("LiarsAnswersModel", "before", "[I", true)
  | 8 => ("LiarsAnswersModel", "tookBack", "I", false)
  | 9 => ("LiarsAnswersModel", "questions", "I", false)
  | 10 => ("LiarsAnswersModel", "question", "[I", true)
  | 11 => ("LiarsAnswersModel", "trace", "J", false)
  | 12 => ("LiarsAnswersModel", "row", "[B", true)
  | 13 => ("LiarsAnswersModel", "spansKind", "I", false)
  | 14 => ("LiarsAnswersModel", "spansMany", "I", false)
  | 15 => ("LiarsAnswersModel", "spanFewest", "[I", true)
  | 16 => ("LiarsAnswersModel", "heap", "[I", true)
  | 17 => ("LiarsAnswersModel", "beside", "[I", true)
  | 18 => ("LiarsAnswersModel", "counts", "[I", true)
  | 19 => ("LiarsAnswersModel", "most", "[I", true)
  | _ => ("LiarsAnswersModel", "then", "[I", true)
def tyX12 : Nat → FieldType := fun k => match k with
  | 0 => .boolean
  | 1 => .int
  | 2 => .int
  | 3 => .int
  | 4 => .int
  | 5 => .int
  | 6 => .array .int
  | 7 => .array .int
  | 8 => .int
  | 9 => .int
  | 10 => .array .int
  | 11 => .long
  | 12 => .array .byte
  | 13 => .int
  | 14 => .int
  | 15 => .array .int
  | 16 => .array .int
  | 17 => .array .int
  | 18 => .array .int
  | 19 => .array .int
  | _ => .array .int
abbrev wsX120 : List Cond := u_ws RX12 TX12 21
theorem nmX12 : ∀ a, a < 21 → ∀ b, b < 21 → a ≠ b → (TX12 a).2.1 ≠ (TX12 b).2.1 := by decide +kernel
theorem tyX12_ok : ∀ k, k < 21 → parseFieldDescriptor (TX12 k).2.2.1 = some (tyX12 k) := by decide +kernel
abbrev cX12_init : ByteArray := prog_14_method_1_code
def yX12_init : MethodName := ⟨RX12, "<init>", "()V"⟩
abbrev cX12_in : ByteArray := prog_14_method_3_code
def yX12_in : MethodName := ⟨RX12, "in", "(III)Z"⟩
abbrev cX12_costOf : ByteArray := prog_14_method_4_code
def yX12_costOf : MethodName := ⟨RX12, "costOf", "(IZZ)I"⟩
abbrev cX12_cost : ByteArray := prog_14_method_5_code
def yX12_cost : MethodName := ⟨RX12, "cost", "(IZZ)I"⟩
abbrev cX12_place : ByteArray := prog_14_method_6_code
def yX12_place : MethodName := ⟨RX12, "place", "(IIII)I"⟩
abbrev cX12_behind : ByteArray := prog_14_method_7_code
def yX12_behind : MethodName := ⟨RX12, "behind", "(IZ[I[I)I"⟩
abbrev cX12_canDo : ByteArray := prog_14_method_8_code
def yX12_canDo : MethodName := ⟨RX12, "canDo", "(II)Z"⟩
abbrev cX12_isWithin : ByteArray := prog_14_method_9_code
def yX12_isWithin : MethodName := ⟨RX12, "isWithin", "(III)Z"⟩
abbrev cX12_mayDo : ByteArray := prog_14_method_10_code
def yX12_mayDo : MethodName := ⟨RX12, "mayDo", "(II)Z"⟩
abbrev cX12_levels : ByteArray := prog_14_method_11_code
def yX12_levels : MethodName := ⟨RX12, "levels", "(II)V"⟩
abbrev cX12_worthOf : ByteArray := prog_14_method_12_code
def yX12_worthOf : MethodName := ⟨RX12, "worthOf", "([I)I"⟩
abbrev cX12_shown : ByteArray := prog_14_method_13_code
def yX12_shown : MethodName := ⟨RX12, "shown", "(I)I"⟩
abbrev cX12_begin : ByteArray := prog_14_method_14_code
def yX12_begin : MethodName := ⟨RX12, "begin", "(III)I"⟩
abbrev cX12_many : ByteArray := prog_14_method_15_code
def yX12_many : MethodName := ⟨RX12, "many", "()I"⟩
abbrev cX12_ask : ByteArray := prog_14_method_16_code
def yX12_ask : MethodName := ⟨RX12, "ask", "(I)I"⟩
abbrev cX12_tries : ByteArray := prog_14_method_17_code
def yX12_tries : MethodName := ⟨RX12, "tries", "(IZ)I"⟩
abbrev cX12_answer : ByteArray := prog_14_method_18_code
def yX12_answer : MethodName := ⟨RX12, "answer", "(Z)I"⟩
abbrev cX12_back : ByteArray := prog_14_method_19_code
def yX12_back : MethodName := ⟨RX12, "back", "()I"⟩
abbrev cX12_left : ByteArray := prog_14_method_20_code
def yX12_left : MethodName := ⟨RX12, "left", "(I)I"⟩
abbrev cX12_state : ByteArray := prog_14_method_21_code
def yX12_state : MethodName := ⟨RX12, "state", "(I)I"⟩
abbrev cX12_found : ByteArray := prog_14_method_22_code
def yX12_found : MethodName := ⟨RX12, "found", "()I"⟩
abbrev cX12_fewest : ByteArray := prog_14_method_23_code
def yX12_fewest : MethodName := ⟨RX12, "fewest", "()I"⟩
abbrev cX12_spanBehind : ByteArray := prog_14_method_24_code
def yX12_spanBehind : MethodName := ⟨RX12, "spanBehind", "(IIIZ)I"⟩
abbrev cX12_canSpan : ByteArray := prog_14_method_25_code
def yX12_canSpan : MethodName := ⟨RX12, "canSpan", "(II)Z"⟩
abbrev cX12_knowSpans : ByteArray := prog_14_method_26_code
def yX12_knowSpans : MethodName := ⟨RX12, "knowSpans", "()V"⟩
abbrev cX12_spans : ByteArray := prog_14_method_27_code
def yX12_spans : MethodName := ⟨RX12, "spans", "()I"⟩
abbrev cX12_choose : ByteArray := prog_14_method_28_code
def yX12_choose : MethodName := ⟨RX12, "choose", "(II)J"⟩
abbrev cX12_weight : ByteArray := prog_14_method_29_code
def yX12_weight : MethodName := ⟨RX12, "weight", "(I)J"⟩
abbrev cX12_greater : ByteArray := prog_14_method_30_code
def yX12_greater : MethodName := ⟨RX12, "greater", "(I)I"⟩
abbrev cX12_best : ByteArray := prog_14_method_31_code
def yX12_best : MethodName := ⟨RX12, "best", "()I"⟩
abbrev cX12_worse : ByteArray := prog_14_method_32_code
def yX12_worse : MethodName := ⟨RX12, "worse", "()I"⟩
abbrev cX12_set : ByteArray := prog_14_method_33_code
def yX12_set : MethodName := ⟨RX12, "set", "(I)I"⟩
abbrev cX12_drop : ByteArray := prog_14_method_34_code
def yX12_drop : MethodName := ⟨RX12, "drop", "()I"⟩
abbrev cX12_wordOf : ByteArray := prog_14_method_35_code
def yX12_wordOf : MethodName := ⟨RX12, "wordOf", "(I)I"⟩
abbrev cX12_isNumber : ByteArray := prog_14_method_36_code
def yX12_isNumber : MethodName := ⟨RX12, "isNumber", "(I)Z"⟩
abbrev cX12_word : ByteArray := prog_14_method_37_code
def yX12_word : MethodName := ⟨RX12, "word", "(I)I"⟩
abbrev cX12_ones : ByteArray := prog_14_method_38_code
def yX12_ones : MethodName := ⟨RX12, "ones", "(I)I"⟩
abbrev cX12_apart : ByteArray := prog_14_method_39_code
def yX12_apart : MethodName := ⟨RX12, "apart", "(II)I"⟩
abbrev cX12_serves : ByteArray := prog_14_method_40_code
def yX12_serves : MethodName := ⟨RX12, "serves", "(II)I"⟩
abbrev cX12_isWord : ByteArray := prog_14_method_41_code
def yX12_isWord : MethodName := ⟨RX12, "isWord", "(I)Z"⟩
abbrev cX12_read : ByteArray := prog_14_method_42_code
def yX12_read : MethodName := ⟨RX12, "read", "(III)I"⟩
abbrev cX12_play : ByteArray := prog_14_method_43_code
def yX12_play : MethodName := ⟨RX12, "play", "(I)I"⟩
abbrev cX12_told : ByteArray := prog_14_method_44_code
def yX12_told : MethodName := ⟨RX12, "told", "(I)I"⟩
abbrev cX12_trace : ByteArray := prog_14_method_45_code
def yX12_trace : MethodName := ⟨RX12, "trace", "()J"⟩
def RJ6 : String := "java/lang/Integer"
def TJ6 : u_T := fun k => match k with
  | _ => ("", "", "", false)
def tyJ6 : Nat → FieldType := fun k => match k with
  | _ => .int
abbrev wsJ60 : List Cond := u_ws RJ6 TJ6 0
theorem nmJ6 : ∀ a, a < 0 → ∀ b, b < 0 → a ≠ b → (TJ6 a).2.1 ≠ (TJ6 b).2.1 := by decide +kernel
theorem tyJ6_ok : ∀ k, k < 0 → parseFieldDescriptor (TJ6 k).2.2.1 = some (tyJ6 k) := by decide +kernel
abbrev cJ6_bitCount_0f7a4 : ByteArray := prog_15_method_49_code
def yJ6_bitCount_0f7a4 : MethodName := ⟨RJ6, "bitCount", "(I)I"⟩
def RJ9 : String := "java/lang/Math"
def TJ9 : u_T := fun k => match k with
  | _ => ("", "", "", false)
def tyJ9 : Nat → FieldType := fun k => match k with
  | _ => .int
abbrev wsJ90 : List Cond := u_ws RJ9 TJ9 0
theorem nmJ9 : ∀ a, a < 0 → ∀ b, b < 0 → a ≠ b → (TJ9 a).2.1 ≠ (TJ9 b).2.1 := by decide +kernel
theorem tyJ9_ok : ∀ k, k < 0 → parseFieldDescriptor (TJ9 k).2.2.1 = some (tyJ9 k) := by decide +kernel
abbrev cJ9_max_7cf53 : ByteArray := prog_16_method_65_code
def yJ9_max_7cf53 : MethodName := ⟨RJ9, "max", "(II)I"⟩
abbrev cJ9_min_7cf53 : ByteArray := prog_16_method_69_code
def yJ9_min_7cf53 : MethodName := ⟨RJ9, "min", "(II)I"⟩
def RL : String := "LiarsAnswersLaw"
abbrev cL_law : ByteArray := code
def yL_law : MethodName := ⟨RL, "law", "([I)Z"⟩
theorem dX0_init_0 : decode cX0_init 0 = .ok (.aload_n 0, 1) := by decide +kernel
theorem dX0_init_1 : decode cX0_init 1 = .ok (.aload_n 1, 1) := by decide +kernel
theorem dX0_init_2 : decode cX0_init 2 = .ok (.iload_n 2, 1) := by decide +kernel
theorem dX0_init_3 : decode cX0_init 3 = .ok (.iload_n 3, 1) := by decide +kernel
theorem dX0_init_4 : decode cX0_init 4 = .ok (.invokespecial 1, 3) := by decide +kernel
theorem dX0_init_7 : decode cX0_init 7 = .ok (.return_, 1) := by decide +kernel
theorem dX0_hold_0 : decode cX0_hold 0 = .ok (.aload_n 0, 1) := by decide +kernel
theorem dX0_hold_1 : decode cX0_hold 1 = .ok (.getfield 7, 3) := by decide +kernel
theorem dX0_hold_4 : decode cX0_hold 4 = .ok (.iconst 0, 1) := by decide +kernel
theorem dX0_hold_5 : decode cX0_hold 5 = .ok (.iload_n 1, 1) := by decide +kernel
theorem dX0_hold_6 : decode cX0_hold 6 = .ok (.iastore, 1) := by decide +kernel
theorem dX0_hold_7 : decode cX0_hold 7 = .ok (.aload_n 0, 1) := by decide +kernel
theorem dX0_hold_8 : decode cX0_hold 8 = .ok (.getfield 7, 3) := by decide +kernel
theorem dX0_hold_11 : decode cX0_hold 11 = .ok (.iconst 1, 1) := by decide +kernel
theorem dX0_hold_12 : decode cX0_hold 12 = .ok (.iload_n 2, 1) := by decide +kernel
theorem dX0_hold_13 : decode cX0_hold 13 = .ok (.iastore, 1) := by decide +kernel
theorem dX0_hold_14 : decode cX0_hold 14 = .ok (.aload_n 0, 1) := by decide +kernel
theorem dX0_hold_15 : decode cX0_hold 15 = .ok (.getfield 7, 3) := by decide +kernel
theorem dX0_hold_18 : decode cX0_hold 18 = .ok (.iconst 2, 1) := by decide +kernel
theorem dX0_hold_19 : decode cX0_hold 19 = .ok (.iload_n 3, 1) := by decide +kernel
theorem dX0_hold_20 : decode cX0_hold 20 = .ok (.iastore, 1) := by decide +kernel
theorem dX0_hold_21 : decode cX0_hold 21 = .ok (.aload_n 0, 1) := by decide +kernel
theorem dX0_hold_22 : decode cX0_hold 22 = .ok (.getfield 7, 3) := by decide +kernel
theorem dX0_hold_25 : decode cX0_hold 25 = .ok (.iconst 3, 1) := by decide +kernel
theorem dX0_hold_26 : decode cX0_hold 26 = .ok (.iload 4, 2) := by decide +kernel
theorem dX0_hold_28 : decode cX0_hold 28 = .ok (.iastore, 1) := by decide +kernel
theorem dX0_hold_29 : decode cX0_hold 29 = .ok (.return_, 1) := by decide +kernel
theorem dX0_last_0 : decode cX0_last 0 = .ok (.iload_n 3, 1) := by decide +kernel
theorem dX0_last_1 : decode cX0_last 1 = .ok (.iconst 1, 1) := by decide +kernel
theorem dX0_last_2 : decode cX0_last 2 = .ok (.iadd, 1) := by decide +kernel
theorem dX0_last_3 : decode cX0_last 3 = .ok (.iconst 2, 1) := by decide +kernel
theorem dX0_last_4 : decode cX0_last 4 = .ok (.idiv, 1) := by decide +kernel
theorem dX0_last_5 : decode cX0_last 5 = .ok (.istore 4, 2) := by decide +kernel
theorem dX0_last_7 : decode cX0_last 7 = .ok (.iload 4, 2) := by decide +kernel
theorem dX0_last_9 : decode cX0_last 9 = .ok (.ifCond .le 20, 3) := by decide +kernel
theorem dX0_last_12 : decode cX0_last 12 = .ok (.aload_n 0, 1) := by decide +kernel
theorem dX0_last_13 : decode cX0_last 13 = .ok (.iload_n 1, 1) := by decide +kernel
theorem dX0_last_14 : decode cX0_last 14 = .ok (.iload 4, 2) := by decide +kernel
theorem dX0_last_16 : decode cX0_last 16 = .ok (.iadd, 1) := by decide +kernel
theorem dX0_last_17 : decode cX0_last 17 = .ok (.invokevirtual 13, 3) := by decide +kernel
theorem dX0_last_20 : decode cX0_last 20 = .ok (.ifCond .eq 9, 3) := by decide +kernel
theorem dX0_last_23 : decode cX0_last 23 = .ok (.iinc 4 (-1), 3) := by decide +kernel
theorem dX0_last_26 : decode cX0_last 26 = .ok (.goto (-19), 3) := by decide +kernel
theorem dX0_last_29 : decode cX0_last 29 = .ok (.iload 4, 2) := by decide +kernel
theorem dX0_last_31 : decode cX0_last 31 = .ok (.iload_n 3, 1) := by decide +kernel
theorem dX0_last_32 : decode cX0_last 32 = .ok (.if_icmp .ge 31, 3) := by decide +kernel
theorem dX0_last_35 : decode cX0_last 35 = .ok (.aload_n 0, 1) := by decide +kernel
theorem dX0_last_36 : decode cX0_last 36 = .ok (.iload_n 2, 1) := by decide +kernel
theorem dX0_last_37 : decode cX0_last 37 = .ok (.iload 4, 2) := by decide +kernel
theorem dX0_last_39 : decode cX0_last 39 = .ok (.isub, 1) := by decide +kernel
theorem dX0_last_40 : decode cX0_last 40 = .ok (.invokevirtual 13, 3) := by decide +kernel
theorem dX0_last_43 : decode cX0_last 43 = .ok (.ifCond .eq 20, 3) := by decide +kernel
theorem dX0_last_46 : decode cX0_last 46 = .ok (.aload_n 0, 1) := by decide +kernel
theorem dX0_last_47 : decode cX0_last 47 = .ok (.iload_n 1, 1) := by decide +kernel
theorem dX0_last_48 : decode cX0_last 48 = .ok (.iload 4, 2) := by decide +kernel
theorem dX0_last_50 : decode cX0_last 50 = .ok (.iadd, 1) := by decide +kernel
theorem dX0_last_51 : decode cX0_last 51 = .ok (.invokevirtual 13, 3) := by decide +kernel
theorem dX0_last_54 : decode cX0_last 54 = .ok (.ifCond .ne 9, 3) := by decide +kernel
theorem dX0_last_57 : decode cX0_last 57 = .ok (.iinc 4 1, 3) := by decide +kernel
theorem dX0_last_60 : decode cX0_last 60 = .ok (.goto (-31), 3) := by decide +kernel
theorem dX0_last_63 : decode cX0_last 63 = .ok (.aload_n 0, 1) := by decide +kernel
theorem dX0_last_64 : decode cX0_last 64 = .ok (.iload_n 1, 1) := by decide +kernel
theorem dX0_last_65 : decode cX0_last 65 = .ok (.iload 4, 2) := by decide +kernel
theorem dX0_last_67 : decode cX0_last 67 = .ok (.iadd, 1) := by decide +kernel
theorem dX0_last_68 : decode cX0_last 68 = .ok (.invokevirtual 13, 3) := by decide +kernel
theorem dX0_last_71 : decode cX0_last 71 = .ok (.ifCond .ne 18, 3) := by decide +kernel
theorem dX0_last_74 : decode cX0_last 74 = .ok (.aload_n 0, 1) := by decide +kernel
theorem dX0_last_75 : decode cX0_last 75 = .ok (.iload_n 2, 1) := by decide +kernel
theorem dX0_last_76 : decode cX0_last 76 = .ok (.iload 4, 2) := by decide +kernel
theorem dX0_last_78 : decode cX0_last 78 = .ok (.isub, 1) := by decide +kernel
theorem dX0_last_79 : decode cX0_last 79 = .ok (.invokevirtual 13, 3) := by decide +kernel
theorem dX0_last_82 : decode cX0_last 82 = .ok (.ifCond .ne 7, 3) := by decide +kernel
theorem dX0_last_85 : decode cX0_last 85 = .ok (.iconst 1, 1) := by decide +kernel
theorem dX0_last_86 : decode cX0_last 86 = .ok (.goto 4, 3) := by decide +kernel
theorem dX0_last_89 : decode cX0_last 89 = .ok (.iconst 0, 1) := by decide +kernel
theorem dX0_last_90 : decode cX0_last 90 = .ok (.ireturn, 1) := by decide +kernel
theorem dX1_init_0 : decode cX1_init 0 = .ok (.aload_n 0, 1) := by decide +kernel
theorem dX1_init_1 : decode cX1_init 1 = .ok (.invokespecial 3, 3) := by decide +kernel
theorem dX1_init_4 : decode cX1_init 4 = .ok (.return_, 1) := by decide +kernel
theorem dX1_price_0 : decode cX1_price 0 = .ok (.aload_n 3, 1) := by decide +kernel
theorem dX1_price_1 : decode cX1_price 1 = .ok (.dup, 1) := by decide +kernel
theorem dX1_price_2 : decode cX1_price 2 = .ok (.getfield 9, 3) := by decide +kernel
theorem dX1_price_5 : decode cX1_price 5 = .ok (.ldc2_w 15, 3) := by decide +kernel
theorem dX1_price_8 : decode cX1_price 8 = .ok (.ladd, 1) := by decide +kernel
theorem dX1_price_9 : decode cX1_price 9 = .ok (.putfield 9, 3) := by decide +kernel
theorem dX1_price_12 : decode cX1_price 12 = .ok (.aload_n 0, 1) := by decide +kernel
theorem dX1_price_13 : decode cX1_price 13 = .ok (.iload_n 1, 1) := by decide +kernel
theorem dX1_price_14 : decode cX1_price 14 = .ok (.iload_n 2, 1) := by decide +kernel
theorem dX1_price_15 : decode cX1_price 15 = .ok (.aload_n 3, 1) := by decide +kernel
theorem dX1_price_16 : decode cX1_price 16 = .ok (.invokespecial 17, 3) := by decide +kernel
theorem dX1_price_19 : decode cX1_price 19 = .ok (.istore 4, 2) := by decide +kernel
theorem dX1_price_21 : decode cX1_price 21 = .ok (.iload 4, 2) := by decide +kernel
theorem dX1_price_23 : decode cX1_price 23 = .ok (.bipush 9, 2) := by decide +kernel
theorem dX1_price_25 : decode cX1_price 25 = .ok (.if_icmp .ne 7, 3) := by decide +kernel
theorem dX1_price_28 : decode cX1_price 28 = .ok (.iconst 1, 1) := by decide +kernel
theorem dX1_price_29 : decode cX1_price 29 = .ok (.goto 5, 3) := by decide +kernel
theorem dX1_price_32 : decode cX1_price 32 = .ok (.iload 4, 2) := by decide +kernel
theorem dX1_price_34 : decode cX1_price 34 = .ok (.ireturn, 1) := by decide +kernel
theorem dX2_init_0 : decode cX2_init 0 = .ok (.aload_n 0, 1) := by decide +kernel
theorem dX2_init_1 : decode cX2_init 1 = .ok (.invokespecial 3, 3) := by decide +kernel
theorem dX2_init_4 : decode cX2_init 4 = .ok (.aload_n 0, 1) := by decide +kernel
theorem dX2_init_5 : decode cX2_init 5 = .ok (.bipush 12, 2) := by decide +kernel
theorem dX2_init_7 : decode cX2_init 7 = .ok (.newarray .int, 2) := by decide +kernel
theorem dX2_init_9 : decode cX2_init 9 = .ok (.putfield 9, 3) := by decide +kernel
theorem dX2_init_12 : decode cX2_init 12 = .ok (.aload_n 0, 1) := by decide +kernel
theorem dX2_init_13 : decode cX2_init 13 = .ok (.bipush 16, 2) := by decide +kernel
theorem dX2_init_15 : decode cX2_init 15 = .ok (.newarray .int, 2) := by decide +kernel
theorem dX2_init_17 : decode cX2_init 17 = .ok (.putfield 15, 3) := by decide +kernel
theorem dX2_init_20 : decode cX2_init 20 = .ok (.aload_n 0, 1) := by decide +kernel
theorem dX2_init_21 : decode cX2_init 21 = .ok (.iconst 0, 1) := by decide +kernel
theorem dX2_init_22 : decode cX2_init 22 = .ok (.putfield 18, 3) := by decide +kernel
theorem dX2_init_25 : decode cX2_init 25 = .ok (.return_, 1) := by decide +kernel
theorem dX2_add_0 : decode cX2_add 0 = .ok (.aload_n 0, 1) := by decide +kernel
theorem dX2_add_1 : decode cX2_add 1 = .ok (.getfield 18, 3) := by decide +kernel
theorem dX2_add_4 : decode cX2_add 4 = .ok (.bipush 12, 2) := by decide +kernel
theorem dX2_add_6 : decode cX2_add 6 = .ok (.if_icmp .lt 5, 3) := by decide +kernel
theorem dX2_add_9 : decode cX2_add 9 = .ok (.iconst 0, 1) := by decide +kernel
theorem dX2_add_10 : decode cX2_add 10 = .ok (.ireturn, 1) := by decide +kernel
theorem dX2_add_11 : decode cX2_add 11 = .ok (.aload_n 0, 1) := by decide +kernel
theorem dX2_add_12 : decode cX2_add 12 = .ok (.getfield 9, 3) := by decide +kernel
theorem dX2_add_15 : decode cX2_add 15 = .ok (.aload_n 0, 1) := by decide +kernel
theorem dX2_add_16 : decode cX2_add 16 = .ok (.getfield 18, 3) := by decide +kernel
theorem dX2_add_19 : decode cX2_add 19 = .ok (.iload_n 1, 1) := by decide +kernel
theorem dX2_add_20 : decode cX2_add 20 = .ok (.iastore, 1) := by decide +kernel
theorem dX2_add_21 : decode cX2_add 21 = .ok (.iconst 0, 1) := by decide +kernel
theorem dX2_add_22 : decode cX2_add 22 = .ok (.istore_n 2, 1) := by decide +kernel
theorem dX2_add_23 : decode cX2_add 23 = .ok (.iload_n 2, 1) := by decide +kernel
theorem dX2_add_24 : decode cX2_add 24 = .ok (.bipush 16, 2) := by decide +kernel
theorem dX2_add_26 : decode cX2_add 26 = .ok (.if_icmp .ge 28, 3) := by decide +kernel
theorem dX2_add_29 : decode cX2_add 29 = .ok (.aload_n 0, 1) := by decide +kernel
theorem dX2_add_30 : decode cX2_add 30 = .ok (.getfield 15, 3) := by decide +kernel
theorem dX2_add_33 : decode cX2_add 33 = .ok (.iload_n 2, 1) := by decide +kernel
theorem dX2_add_34 : decode cX2_add 34 = .ok (.dup2, 1) := by decide +kernel
theorem dX2_add_35 : decode cX2_add 35 = .ok (.iaload, 1) := by decide +kernel
theorem dX2_add_36 : decode cX2_add 36 = .ok (.iload_n 1, 1) := by decide +kernel
theorem dX2_add_37 : decode cX2_add 37 = .ok (.iload_n 2, 1) := by decide +kernel
theorem dX2_add_38 : decode cX2_add 38 = .ok (.ishr, 1) := by decide +kernel
theorem dX2_add_39 : decode cX2_add 39 = .ok (.iconst 1, 1) := by decide +kernel
theorem dX2_add_40 : decode cX2_add 40 = .ok (.iand, 1) := by decide +kernel
theorem dX2_add_41 : decode cX2_add 41 = .ok (.aload_n 0, 1) := by decide +kernel
theorem dX2_add_42 : decode cX2_add 42 = .ok (.getfield 18, 3) := by decide +kernel
theorem dX2_add_45 : decode cX2_add 45 = .ok (.ishl, 1) := by decide +kernel
theorem dX2_add_46 : decode cX2_add 46 = .ok (.ior, 1) := by decide +kernel
theorem dX2_add_47 : decode cX2_add 47 = .ok (.iastore, 1) := by decide +kernel
theorem dX2_add_48 : decode cX2_add 48 = .ok (.iinc 2 1, 3) := by decide +kernel
theorem dX2_add_51 : decode cX2_add 51 = .ok (.goto (-28), 3) := by decide +kernel
theorem dX2_add_54 : decode cX2_add 54 = .ok (.aload_n 0, 1) := by decide +kernel
theorem dX2_add_55 : decode cX2_add 55 = .ok (.dup, 1) := by decide +kernel
theorem dX2_add_56 : decode cX2_add 56 = .ok (.getfield 18, 3) := by decide +kernel
theorem dX2_add_59 : decode cX2_add 59 = .ok (.iconst 1, 1) := by decide +kernel
theorem dX2_add_60 : decode cX2_add 60 = .ok (.iadd, 1) := by decide +kernel
theorem dX2_add_61 : decode cX2_add 61 = .ok (.putfield 18, 3) := by decide +kernel
theorem dX2_add_64 : decode cX2_add 64 = .ok (.iconst 1, 1) := by decide +kernel
theorem dX2_add_65 : decode cX2_add 65 = .ok (.ireturn, 1) := by decide +kernel
theorem dX2_removeLatest_0 : decode cX2_removeLatest 0 = .ok (.aload_n 0, 1) := by decide +kernel
theorem dX2_removeLatest_1 : decode cX2_removeLatest 1 = .ok (.getfield 18, 3) := by decide +kernel
theorem dX2_removeLatest_4 : decode cX2_removeLatest 4 = .ok (.ifCond .gt 5, 3) := by decide +kernel
theorem dX2_removeLatest_7 : decode cX2_removeLatest 7 = .ok (.iconst 0, 1) := by decide +kernel
theorem dX2_removeLatest_8 : decode cX2_removeLatest 8 = .ok (.ireturn, 1) := by decide +kernel
theorem dX2_removeLatest_9 : decode cX2_removeLatest 9 = .ok (.aload_n 0, 1) := by decide +kernel
theorem dX2_removeLatest_10 : decode cX2_removeLatest 10 = .ok (.dup, 1) := by decide +kernel
theorem dX2_removeLatest_11 : decode cX2_removeLatest 11 = .ok (.getfield 18, 3) := by decide +kernel
theorem dX2_removeLatest_14 : decode cX2_removeLatest 14 = .ok (.iconst 1, 1) := by decide +kernel
theorem dX2_removeLatest_15 : decode cX2_removeLatest 15 = .ok (.isub, 1) := by decide +kernel
theorem dX2_removeLatest_16 : decode cX2_removeLatest 16 = .ok (.putfield 18, 3) := by decide +kernel
theorem dX2_removeLatest_19 : decode cX2_removeLatest 19 = .ok (.iconst 0, 1) := by decide +kernel
theorem dX2_removeLatest_20 : decode cX2_removeLatest 20 = .ok (.istore_n 1, 1) := by decide +kernel
theorem dX2_removeLatest_21 : decode cX2_removeLatest 21 = .ok (.iload_n 1, 1) := by decide +kernel
theorem dX2_removeLatest_22 : decode cX2_removeLatest 22 = .ok (.bipush 16, 2) := by decide +kernel
theorem dX2_removeLatest_24 : decode cX2_removeLatest 24 = .ok (.if_icmp .ge 26, 3) := by decide +kernel
theorem dX2_removeLatest_27 : decode cX2_removeLatest 27 = .ok (.aload_n 0, 1) := by decide +kernel
theorem dX2_removeLatest_28 : decode cX2_removeLatest 28 = .ok (.getfield 15, 3) := by decide +kernel
theorem dX2_removeLatest_31 : decode cX2_removeLatest 31 = .ok (.iload_n 1, 1) := by decide +kernel
theorem dX2_removeLatest_32 : decode cX2_removeLatest 32 = .ok (.dup2, 1) := by decide +kernel
theorem dX2_removeLatest_33 : decode cX2_removeLatest 33 = .ok (.iaload, 1) := by decide +kernel
theorem dX2_removeLatest_34 : decode cX2_removeLatest 34 = .ok (.iconst 1, 1) := by decide +kernel
theorem dX2_removeLatest_35 : decode cX2_removeLatest 35 = .ok (.aload_n 0, 1) := by decide +kernel
theorem dX2_removeLatest_36 : decode cX2_removeLatest 36 = .ok (.getfield 18, 3) := by decide +kernel
theorem dX2_removeLatest_39 : decode cX2_removeLatest 39 = .ok (.ishl, 1) := by decide +kernel
theorem dX2_removeLatest_40 : decode cX2_removeLatest 40 = .ok (.iconst 1, 1) := by decide +kernel
theorem dX2_removeLatest_41 : decode cX2_removeLatest 41 = .ok (.isub, 1) := by decide +kernel
theorem dX2_removeLatest_42 : decode cX2_removeLatest 42 = .ok (.iand, 1) := by decide +kernel
theorem dX2_removeLatest_43 : decode cX2_removeLatest 43 = .ok (.iastore, 1) := by decide +kernel
theorem dX2_removeLatest_44 : decode cX2_removeLatest 44 = .ok (.iinc 1 1, 3) := by decide +kernel
theorem dX2_removeLatest_47 : decode cX2_removeLatest 47 = .ok (.goto (-26), 3) := by decide +kernel
theorem dX2_removeLatest_50 : decode cX2_removeLatest 50 = .ok (.iconst 1, 1) := by decide +kernel
theorem dX2_removeLatest_51 : decode cX2_removeLatest 51 = .ok (.ireturn, 1) := by decide +kernel
theorem dX2_question_0 : decode cX2_question 0 = .ok (.iload_n 1, 1) := by decide +kernel
theorem dX2_question_1 : decode cX2_question 1 = .ok (.ifCond .lt 20, 3) := by decide +kernel
theorem dX2_question_4 : decode cX2_question 4 = .ok (.iload_n 1, 1) := by decide +kernel
theorem dX2_question_5 : decode cX2_question 5 = .ok (.aload_n 0, 1) := by decide +kernel
theorem dX2_question_6 : decode cX2_question 6 = .ok (.getfield 18, 3) := by decide +kernel
theorem dX2_question_9 : decode cX2_question 9 = .ok (.if_icmp .ge 12, 3) := by decide +kernel
theorem dX2_question_12 : decode cX2_question 12 = .ok (.aload_n 0, 1) := by decide +kernel
theorem dX2_question_13 : decode cX2_question 13 = .ok (.getfield 9, 3) := by decide +kernel
theorem dX2_question_16 : decode cX2_question 16 = .ok (.iload_n 1, 1) := by decide +kernel
theorem dX2_question_17 : decode cX2_question 17 = .ok (.iaload, 1) := by decide +kernel
theorem dX2_question_18 : decode cX2_question 18 = .ok (.goto 4, 3) := by decide +kernel
theorem dX2_question_21 : decode cX2_question 21 = .ok (.iconst 0, 1) := by decide +kernel
theorem dX2_question_22 : decode cX2_question 22 = .ok (.ireturn, 1) := by decide +kernel
theorem dX2_isWord_0 : decode cX2_isWord 0 = .ok (.iload_n 1, 1) := by decide +kernel
theorem dX2_isWord_1 : decode cX2_isWord 1 = .ok (.ifCond .lt 16, 3) := by decide +kernel
theorem dX2_isWord_4 : decode cX2_isWord 4 = .ok (.iload_n 1, 1) := by decide +kernel
theorem dX2_isWord_5 : decode cX2_isWord 5 = .ok (.aload_n 0, 1) := by decide +kernel
theorem dX2_isWord_6 : decode cX2_isWord 6 = .ok (.getfield 18, 3) := by decide +kernel
theorem dX2_isWord_9 : decode cX2_isWord 9 = .ok (.ishr, 1) := by decide +kernel
theorem dX2_isWord_10 : decode cX2_isWord 10 = .ok (.ifCond .ne 7, 3) := by decide +kernel
theorem dX2_isWord_13 : decode cX2_isWord 13 = .ok (.iconst 1, 1) := by decide +kernel
theorem dX2_isWord_14 : decode cX2_isWord 14 = .ok (.goto 4, 3) := by decide +kernel
theorem dX2_isWord_17 : decode cX2_isWord 17 = .ok (.iconst 0, 1) := by decide +kernel
theorem dX2_isWord_18 : decode cX2_isWord 18 = .ok (.ireturn, 1) := by decide +kernel
theorem dX2_wordOf_0 : decode cX2_wordOf 0 = .ok (.iload_n 1, 1) := by decide +kernel
theorem dX2_wordOf_1 : decode cX2_wordOf 1 = .ok (.ifCond .lt 18, 3) := by decide +kernel
theorem dX2_wordOf_4 : decode cX2_wordOf 4 = .ok (.iload_n 1, 1) := by decide +kernel
theorem dX2_wordOf_5 : decode cX2_wordOf 5 = .ok (.bipush 16, 2) := by decide +kernel
theorem dX2_wordOf_7 : decode cX2_wordOf 7 = .ok (.if_icmp .ge 12, 3) := by decide +kernel
theorem dX2_wordOf_10 : decode cX2_wordOf 10 = .ok (.aload_n 0, 1) := by decide +kernel
theorem dX2_wordOf_11 : decode cX2_wordOf 11 = .ok (.getfield 15, 3) := by decide +kernel
theorem dX2_wordOf_14 : decode cX2_wordOf 14 = .ok (.iload_n 1, 1) := by decide +kernel
theorem dX2_wordOf_15 : decode cX2_wordOf 15 = .ok (.iaload, 1) := by decide +kernel
theorem dX2_wordOf_16 : decode cX2_wordOf 16 = .ok (.goto 4, 3) := by decide +kernel
theorem dX2_wordOf_19 : decode cX2_wordOf 19 = .ok (.iconst 0, 1) := by decide +kernel
theorem dX2_wordOf_20 : decode cX2_wordOf 20 = .ok (.ireturn, 1) := by decide +kernel
theorem dX2_allApart_0 : decode cX2_allApart 0 = .ok (.iconst 0, 1) := by decide +kernel
theorem dX2_allApart_1 : decode cX2_allApart 1 = .ok (.istore_n 3, 1) := by decide +kernel
theorem dX2_allApart_2 : decode cX2_allApart 2 = .ok (.iload_n 3, 1) := by decide +kernel
theorem dX2_allApart_3 : decode cX2_allApart 3 = .ok (.iload_n 1, 1) := by decide +kernel
theorem dX2_allApart_4 : decode cX2_allApart 4 = .ok (.if_icmp .ge 49, 3) := by decide +kernel
theorem dX2_allApart_7 : decode cX2_allApart 7 = .ok (.aload_n 0, 1) := by decide +kernel
theorem dX2_allApart_8 : decode cX2_allApart 8 = .ok (.iload_n 3, 1) := by decide +kernel
theorem dX2_allApart_9 : decode cX2_allApart 9 = .ok (.invokevirtual 22, 3) := by decide +kernel
theorem dX2_allApart_12 : decode cX2_allApart 12 = .ok (.istore 4, 2) := by decide +kernel
theorem dX2_allApart_14 : decode cX2_allApart 14 = .ok (.iconst 0, 1) := by decide +kernel
theorem dX2_allApart_15 : decode cX2_allApart 15 = .ok (.istore 5, 2) := by decide +kernel
theorem dX2_allApart_17 : decode cX2_allApart 17 = .ok (.iload 5, 2) := by decide +kernel
theorem dX2_allApart_19 : decode cX2_allApart 19 = .ok (.iload_n 3, 1) := by decide +kernel
theorem dX2_allApart_20 : decode cX2_allApart 20 = .ok (.if_icmp .ge 27, 3) := by decide +kernel
theorem dX2_allApart_23 : decode cX2_allApart 23 = .ok (.iload 4, 2) := by decide +kernel
theorem dX2_allApart_25 : decode cX2_allApart 25 = .ok (.aload_n 0, 1) := by decide +kernel
theorem dX2_allApart_26 : decode cX2_allApart 26 = .ok (.iload 5, 2) := by decide +kernel
theorem dX2_allApart_28 : decode cX2_allApart 28 = .ok (.invokevirtual 22, 3) := by decide +kernel
theorem dX2_allApart_31 : decode cX2_allApart 31 = .ok (.ixor, 1) := by decide +kernel
theorem dX2_allApart_32 : decode cX2_allApart 32 = .ok (.invokestatic 26, 3) := by decide +kernel
theorem dX2_allApart_35 : decode cX2_allApart 35 = .ok (.iload_n 2, 1) := by decide +kernel
theorem dX2_allApart_36 : decode cX2_allApart 36 = .ok (.if_icmp .gt 5, 3) := by decide +kernel
theorem dX2_allApart_39 : decode cX2_allApart 39 = .ok (.iconst 0, 1) := by decide +kernel
theorem dX2_allApart_40 : decode cX2_allApart 40 = .ok (.ireturn, 1) := by decide +kernel
theorem dX2_allApart_41 : decode cX2_allApart 41 = .ok (.iinc 5 1, 3) := by decide +kernel
theorem dX2_allApart_44 : decode cX2_allApart 44 = .ok (.goto (-27), 3) := by decide +kernel
theorem dX2_allApart_47 : decode cX2_allApart 47 = .ok (.iinc 3 1, 3) := by decide +kernel
theorem dX2_allApart_50 : decode cX2_allApart 50 = .ok (.goto (-48), 3) := by decide +kernel
theorem dX2_allApart_53 : decode cX2_allApart 53 = .ok (.iconst 1, 1) := by decide +kernel
theorem dX2_allApart_54 : decode cX2_allApart 54 = .ok (.ireturn, 1) := by decide +kernel
theorem dX2_onlyNear_0 : decode cX2_onlyNear 0 = .ok (.bipush (-9), 2) := by decide +kernel
theorem dX2_onlyNear_2 : decode cX2_onlyNear 2 = .ok (.istore 4, 2) := by decide +kernel
theorem dX2_onlyNear_4 : decode cX2_onlyNear 4 = .ok (.iconst 0, 1) := by decide +kernel
theorem dX2_onlyNear_5 : decode cX2_onlyNear 5 = .ok (.istore 5, 2) := by decide +kernel
theorem dX2_onlyNear_7 : decode cX2_onlyNear 7 = .ok (.iload 5, 2) := by decide +kernel
theorem dX2_onlyNear_9 : decode cX2_onlyNear 9 = .ok (.iload_n 2, 1) := by decide +kernel
theorem dX2_onlyNear_10 : decode cX2_onlyNear 10 = .ok (.if_icmp .ge 38, 3) := by decide +kernel
theorem dX2_onlyNear_13 : decode cX2_onlyNear 13 = .ok (.iload_n 1, 1) := by decide +kernel
theorem dX2_onlyNear_14 : decode cX2_onlyNear 14 = .ok (.aload_n 0, 1) := by decide +kernel
theorem dX2_onlyNear_15 : decode cX2_onlyNear 15 = .ok (.iload 5, 2) := by decide +kernel
theorem dX2_onlyNear_17 : decode cX2_onlyNear 17 = .ok (.invokevirtual 22, 3) := by decide +kernel
theorem dX2_onlyNear_20 : decode cX2_onlyNear 20 = .ok (.ixor, 1) := by decide +kernel
theorem dX2_onlyNear_21 : decode cX2_onlyNear 21 = .ok (.invokestatic 26, 3) := by decide +kernel
theorem dX2_onlyNear_24 : decode cX2_onlyNear 24 = .ok (.iload_n 3, 1) := by decide +kernel
theorem dX2_onlyNear_25 : decode cX2_onlyNear 25 = .ok (.if_icmp .gt 17, 3) := by decide +kernel
theorem dX2_onlyNear_28 : decode cX2_onlyNear 28 = .ok (.iload 4, 2) := by decide +kernel
theorem dX2_onlyNear_30 : decode cX2_onlyNear 30 = .ok (.bipush (-9), 2) := by decide +kernel
theorem dX2_onlyNear_32 : decode cX2_onlyNear 32 = .ok (.if_icmp .eq 6, 3) := by decide +kernel
theorem dX2_onlyNear_35 : decode cX2_onlyNear 35 = .ok (.bipush (-9), 2) := by decide +kernel
theorem dX2_onlyNear_37 : decode cX2_onlyNear 37 = .ok (.ireturn, 1) := by decide +kernel
theorem dX2_onlyNear_38 : decode cX2_onlyNear 38 = .ok (.iload 5, 2) := by decide +kernel
theorem dX2_onlyNear_40 : decode cX2_onlyNear 40 = .ok (.istore 4, 2) := by decide +kernel
theorem dX2_onlyNear_42 : decode cX2_onlyNear 42 = .ok (.iinc 5 1, 3) := by decide +kernel
theorem dX2_onlyNear_45 : decode cX2_onlyNear 45 = .ok (.goto (-38), 3) := by decide +kernel
theorem dX2_onlyNear_48 : decode cX2_onlyNear 48 = .ok (.iload 4, 2) := by decide +kernel
theorem dX2_onlyNear_50 : decode cX2_onlyNear 50 = .ok (.ireturn, 1) := by decide +kernel
theorem dX3_init_0 : decode cX3_init 0 = .ok (.aload_n 0, 1) := by decide +kernel
theorem dX3_init_1 : decode cX3_init 1 = .ok (.invokespecial 3, 3) := by decide +kernel
theorem dX3_init_4 : decode cX3_init 4 = .ok (.aload_n 0, 1) := by decide +kernel
theorem dX3_init_5 : decode cX3_init 5 = .ok (.iconst 0, 1) := by decide +kernel
theorem dX3_init_6 : decode cX3_init 6 = .ok (.putfield 9, 3) := by decide +kernel
theorem dX3_init_9 : decode cX3_init 9 = .ok (.aload_n 0, 1) := by decide +kernel
theorem dX3_init_10 : decode cX3_init 10 = .ok (.iconst 0, 1) := by decide +kernel
theorem dX3_init_11 : decode cX3_init 11 = .ok (.putfield 15, 3) := by decide +kernel
theorem dX3_init_14 : decode cX3_init 14 = .ok (.aload_n 0, 1) := by decide +kernel
theorem dX3_init_15 : decode cX3_init 15 = .ok (.iconst 0, 1) := by decide +kernel
theorem dX3_init_16 : decode cX3_init 16 = .ok (.putfield 19, 3) := by decide +kernel
theorem dX3_init_19 : decode cX3_init 19 = .ok (.aload_n 0, 1) := by decide +kernel
theorem dX3_init_20 : decode cX3_init 20 = .ok (.iconst 0, 1) := by decide +kernel
theorem dX3_init_21 : decode cX3_init 21 = .ok (.putfield 22, 3) := by decide +kernel
theorem dX3_init_24 : decode cX3_init 24 = .ok (.aload_n 0, 1) := by decide +kernel
theorem dX3_init_25 : decode cX3_init 25 = .ok (.iconst 0, 1) := by decide +kernel
theorem dX3_init_26 : decode cX3_init 26 = .ok (.putfield 25, 3) := by decide +kernel
theorem dX3_init_29 : decode cX3_init 29 = .ok (.aload_n 0, 1) := by decide +kernel
theorem dX3_init_30 : decode cX3_init 30 = .ok (.iconst (-1), 1) := by decide +kernel
theorem dX3_init_31 : decode cX3_init 31 = .ok (.putfield 28, 3) := by decide +kernel
theorem dX3_init_34 : decode cX3_init 34 = .ok (.aload_n 0, 1) := by decide +kernel
theorem dX3_init_35 : decode cX3_init 35 = .ok (.iconst 0, 1) := by decide +kernel
theorem dX3_init_36 : decode cX3_init 36 = .ok (.putfield 31, 3) := by decide +kernel
theorem dX3_init_39 : decode cX3_init 39 = .ok (.aload_n 0, 1) := by decide +kernel
theorem dX3_init_40 : decode cX3_init 40 = .ok (.iconst 0, 1) := by decide +kernel
theorem dX3_init_41 : decode cX3_init 41 = .ok (.putfield 34, 3) := by decide +kernel
theorem dX3_init_44 : decode cX3_init 44 = .ok (.aload_n 0, 1) := by decide +kernel
theorem dX3_init_45 : decode cX3_init 45 = .ok (.sipush 992, 3) := by decide +kernel
theorem dX3_init_48 : decode cX3_init 48 = .ok (.newarray .int, 2) := by decide +kernel
theorem dX3_init_50 : decode cX3_init 50 = .ok (.putfield 37, 3) := by decide +kernel
theorem dX3_init_53 : decode cX3_init 53 = .ok (.return_, 1) := by decide +kernel
theorem dX3_start_0 : decode cX3_start 0 = .ok (.aload_n 0, 1) := by decide +kernel
theorem dX3_start_1 : decode cX3_start 1 = .ok (.iconst 1, 1) := by decide +kernel
theorem dX3_start_2 : decode cX3_start 2 = .ok (.putfield 9, 3) := by decide +kernel
theorem dX3_start_5 : decode cX3_start 5 = .ok (.aload_n 0, 1) := by decide +kernel
theorem dX3_start_6 : decode cX3_start 6 = .ok (.iload_n 1, 1) := by decide +kernel
theorem dX3_start_7 : decode cX3_start 7 = .ok (.putfield 15, 3) := by decide +kernel
theorem dX3_start_10 : decode cX3_start 10 = .ok (.aload_n 0, 1) := by decide +kernel
theorem dX3_start_11 : decode cX3_start 11 = .ok (.iconst 1, 1) := by decide +kernel
theorem dX3_start_12 : decode cX3_start 12 = .ok (.iload_n 2, 1) := by decide +kernel
theorem dX3_start_13 : decode cX3_start 13 = .ok (.bipush 16, 2) := by decide +kernel
theorem dX3_start_15 : decode cX3_start 15 = .ok (.invokestatic 41, 3) := by decide +kernel
theorem dX3_start_18 : decode cX3_start 18 = .ok (.invokestatic 47, 3) := by decide +kernel
theorem dX3_start_21 : decode cX3_start 21 = .ok (.putfield 19, 3) := by decide +kernel
theorem dX3_start_24 : decode cX3_start 24 = .ok (.aload_n 0, 1) := by decide +kernel
theorem dX3_start_25 : decode cX3_start 25 = .ok (.iload_n 3, 1) := by decide +kernel
theorem dX3_start_26 : decode cX3_start 26 = .ok (.putfield 22, 3) := by decide +kernel
theorem dX3_start_29 : decode cX3_start 29 = .ok (.aload_n 0, 1) := by decide +kernel
theorem dX3_start_30 : decode cX3_start 30 = .ok (.iconst 0, 1) := by decide +kernel
theorem dX3_start_31 : decode cX3_start 31 = .ok (.putfield 25, 3) := by decide +kernel
theorem dX3_start_34 : decode cX3_start 34 = .ok (.aload_n 0, 1) := by decide +kernel
theorem dX3_start_35 : decode cX3_start 35 = .ok (.iconst (-1), 1) := by decide +kernel
theorem dX3_start_36 : decode cX3_start 36 = .ok (.putfield 28, 3) := by decide +kernel
theorem dX3_start_39 : decode cX3_start 39 = .ok (.aload_n 0, 1) := by decide +kernel
theorem dX3_start_40 : decode cX3_start 40 = .ok (.iload 4, 2) := by decide +kernel
theorem dX3_start_42 : decode cX3_start 42 = .ok (.putfield 31, 3) := by decide +kernel
theorem dX3_start_45 : decode cX3_start 45 = .ok (.aload_n 0, 1) := by decide +kernel
theorem dX3_start_46 : decode cX3_start 46 = .ok (.iload 5, 2) := by decide +kernel
theorem dX3_start_48 : decode cX3_start 48 = .ok (.putfield 34, 3) := by decide +kernel
theorem dX3_start_51 : decode cX3_start 51 = .ok (.iconst 0, 1) := by decide +kernel
theorem dX3_start_52 : decode cX3_start 52 = .ok (.istore 6, 2) := by decide +kernel
theorem dX3_start_54 : decode cX3_start 54 = .ok (.iload 6, 2) := by decide +kernel
theorem dX3_start_56 : decode cX3_start 56 = .ok (.aload_n 0, 1) := by decide +kernel
theorem dX3_start_57 : decode cX3_start 57 = .ok (.getfield 19, 3) := by decide +kernel
theorem dX3_start_60 : decode cX3_start 60 = .ok (.if_icmp .ge 17, 3) := by decide +kernel
theorem dX3_start_63 : decode cX3_start 63 = .ok (.aload_n 0, 1) := by decide +kernel
theorem dX3_start_64 : decode cX3_start 64 = .ok (.getfield 37, 3) := by decide +kernel
theorem dX3_start_67 : decode cX3_start 67 = .ok (.iload 6, 2) := by decide +kernel
theorem dX3_start_69 : decode cX3_start 69 = .ok (.iload_n 3, 1) := by decide +kernel
theorem dX3_start_70 : decode cX3_start 70 = .ok (.iastore, 1) := by decide +kernel
theorem dX3_start_71 : decode cX3_start 71 = .ok (.iinc 6 1, 3) := by decide +kernel
theorem dX3_start_74 : decode cX3_start 74 = .ok (.goto (-20), 3) := by decide +kernel
theorem dX3_start_77 : decode cX3_start 77 = .ok (.return_, 1) := by decide +kernel
theorem dX3_row_0 : decode cX3_row 0 = .ok (.aload_n 0, 1) := by decide +kernel
theorem dX3_row_1 : decode cX3_row 1 = .ok (.getfield 25, 3) := by decide +kernel
theorem dX3_row_4 : decode cX3_row 4 = .ok (.bipush 16, 2) := by decide +kernel
theorem dX3_row_6 : decode cX3_row 6 = .ok (.imul, 1) := by decide +kernel
theorem dX3_row_7 : decode cX3_row 7 = .ok (.ireturn, 1) := by decide +kernel
theorem dX3_rowBehind_0 : decode cX3_rowBehind 0 = .ok (.aload_n 0, 1) := by decide +kernel
theorem dX3_rowBehind_1 : decode cX3_rowBehind 1 = .ok (.invokevirtual 50, 3) := by decide +kernel
theorem dX3_rowBehind_4 : decode cX3_rowBehind 4 = .ok (.bipush 16, 2) := by decide +kernel
theorem dX3_rowBehind_6 : decode cX3_rowBehind 6 = .ok (.iadd, 1) := by decide +kernel
theorem dX3_rowBehind_7 : decode cX3_rowBehind 7 = .ok (.ireturn, 1) := by decide +kernel
theorem dX3_within_0 : decode cX3_within 0 = .ok (.iload_n 1, 1) := by decide +kernel
theorem dX3_within_1 : decode cX3_within 1 = .ok (.iconst 1, 1) := by decide +kernel
theorem dX3_within_2 : decode cX3_within 2 = .ok (.aload_n 0, 1) := by decide +kernel
theorem dX3_within_3 : decode cX3_within 3 = .ok (.getfield 19, 3) := by decide +kernel
theorem dX3_within_6 : decode cX3_within 6 = .ok (.ishl, 1) := by decide +kernel
theorem dX3_within_7 : decode cX3_within 7 = .ok (.iconst 1, 1) := by decide +kernel
theorem dX3_within_8 : decode cX3_within 8 = .ok (.isub, 1) := by decide +kernel
theorem dX3_within_9 : decode cX3_within 9 = .ok (.iand, 1) := by decide +kernel
theorem dX3_within_10 : decode cX3_within 10 = .ok (.ireturn, 1) := by decide +kernel
theorem dX3_leftOf_0 : decode cX3_leftOf 0 = .ok (.iload_n 1, 1) := by decide +kernel
theorem dX3_leftOf_1 : decode cX3_leftOf 1 = .ok (.ifCond .lt 25, 3) := by decide +kernel
theorem dX3_leftOf_4 : decode cX3_leftOf 4 = .ok (.iload_n 1, 1) := by decide +kernel
theorem dX3_leftOf_5 : decode cX3_leftOf 5 = .ok (.aload_n 0, 1) := by decide +kernel
theorem dX3_leftOf_6 : decode cX3_leftOf 6 = .ok (.getfield 19, 3) := by decide +kernel
theorem dX3_leftOf_9 : decode cX3_leftOf 9 = .ok (.if_icmp .ge 17, 3) := by decide +kernel
theorem dX3_leftOf_12 : decode cX3_leftOf 12 = .ok (.aload_n 0, 1) := by decide +kernel
theorem dX3_leftOf_13 : decode cX3_leftOf 13 = .ok (.getfield 37, 3) := by decide +kernel
theorem dX3_leftOf_16 : decode cX3_leftOf 16 = .ok (.aload_n 0, 1) := by decide +kernel
theorem dX3_leftOf_17 : decode cX3_leftOf 17 = .ok (.invokevirtual 50, 3) := by decide +kernel
theorem dX3_leftOf_20 : decode cX3_leftOf 20 = .ok (.iload_n 1, 1) := by decide +kernel
theorem dX3_leftOf_21 : decode cX3_leftOf 21 = .ok (.iadd, 1) := by decide +kernel
theorem dX3_leftOf_22 : decode cX3_leftOf 22 = .ok (.iaload, 1) := by decide +kernel
theorem dX3_leftOf_23 : decode cX3_leftOf 23 = .ok (.goto 4, 3) := by decide +kernel
theorem dX3_leftOf_26 : decode cX3_leftOf 26 = .ok (.iconst (-1), 1) := by decide +kernel
theorem dX3_leftOf_27 : decode cX3_leftOf 27 = .ok (.ireturn, 1) := by decide +kernel
theorem dX3_countOf_0 : decode cX3_countOf 0 = .ok (.iconst 0, 1) := by decide +kernel
theorem dX3_countOf_1 : decode cX3_countOf 1 = .ok (.istore_n 2, 1) := by decide +kernel
theorem dX3_countOf_2 : decode cX3_countOf 2 = .ok (.iconst 0, 1) := by decide +kernel
theorem dX3_countOf_3 : decode cX3_countOf 3 = .ok (.istore_n 3, 1) := by decide +kernel
theorem dX3_countOf_4 : decode cX3_countOf 4 = .ok (.iload_n 3, 1) := by decide +kernel
theorem dX3_countOf_5 : decode cX3_countOf 5 = .ok (.aload_n 0, 1) := by decide +kernel
theorem dX3_countOf_6 : decode cX3_countOf 6 = .ok (.getfield 19, 3) := by decide +kernel
theorem dX3_countOf_9 : decode cX3_countOf 9 = .ok (.if_icmp .ge 21, 3) := by decide +kernel
theorem dX3_countOf_12 : decode cX3_countOf 12 = .ok (.aload_n 0, 1) := by decide +kernel
theorem dX3_countOf_13 : decode cX3_countOf 13 = .ok (.iload_n 3, 1) := by decide +kernel
theorem dX3_countOf_14 : decode cX3_countOf 14 = .ok (.invokevirtual 54, 3) := by decide +kernel
theorem dX3_countOf_17 : decode cX3_countOf 17 = .ok (.iload_n 1, 1) := by decide +kernel
theorem dX3_countOf_18 : decode cX3_countOf 18 = .ok (.if_icmp .ne 6, 3) := by decide +kernel
theorem dX3_countOf_21 : decode cX3_countOf 21 = .ok (.iinc 2 1, 3) := by decide +kernel
theorem dX3_countOf_24 : decode cX3_countOf 24 = .ok (.iinc 3 1, 3) := by decide +kernel
theorem dX3_countOf_27 : decode cX3_countOf 27 = .ok (.goto (-23), 3) := by decide +kernel
theorem dX3_countOf_30 : decode cX3_countOf 30 = .ok (.iload_n 2, 1) := by decide +kernel
theorem dX3_countOf_31 : decode cX3_countOf 31 = .ok (.ireturn, 1) := by decide +kernel
theorem dX3_standingIn_0 : decode cX3_standingIn 0 = .ok (.iconst 0, 1) := by decide +kernel
theorem dX3_standingIn_1 : decode cX3_standingIn 1 = .ok (.istore_n 2, 1) := by decide +kernel
theorem dX3_standingIn_2 : decode cX3_standingIn 2 = .ok (.iconst 0, 1) := by decide +kernel
theorem dX3_standingIn_3 : decode cX3_standingIn 3 = .ok (.istore_n 3, 1) := by decide +kernel
theorem dX3_standingIn_4 : decode cX3_standingIn 4 = .ok (.iload_n 3, 1) := by decide +kernel
theorem dX3_standingIn_5 : decode cX3_standingIn 5 = .ok (.aload_n 0, 1) := by decide +kernel
theorem dX3_standingIn_6 : decode cX3_standingIn 6 = .ok (.getfield 19, 3) := by decide +kernel
theorem dX3_standingIn_9 : decode cX3_standingIn 9 = .ok (.if_icmp .ge 30, 3) := by decide +kernel
theorem dX3_standingIn_12 : decode cX3_standingIn 12 = .ok (.iload_n 1, 1) := by decide +kernel
theorem dX3_standingIn_13 : decode cX3_standingIn 13 = .ok (.iload_n 3, 1) := by decide +kernel
theorem dX3_standingIn_14 : decode cX3_standingIn 14 = .ok (.ishr, 1) := by decide +kernel
theorem dX3_standingIn_15 : decode cX3_standingIn 15 = .ok (.iconst 1, 1) := by decide +kernel
theorem dX3_standingIn_16 : decode cX3_standingIn 16 = .ok (.iand, 1) := by decide +kernel
theorem dX3_standingIn_17 : decode cX3_standingIn 17 = .ok (.iconst 1, 1) := by decide +kernel
theorem dX3_standingIn_18 : decode cX3_standingIn 18 = .ok (.if_icmp .ne 15, 3) := by decide +kernel
theorem dX3_standingIn_21 : decode cX3_standingIn 21 = .ok (.aload_n 0, 1) := by decide +kernel
theorem dX3_standingIn_22 : decode cX3_standingIn 22 = .ok (.iload_n 3, 1) := by decide +kernel
theorem dX3_standingIn_23 : decode cX3_standingIn 23 = .ok (.invokevirtual 54, 3) := by decide +kernel
theorem dX3_standingIn_26 : decode cX3_standingIn 26 = .ok (.iconst (-1), 1) := by decide +kernel
theorem dX3_standingIn_27 : decode cX3_standingIn 27 = .ok (.if_icmp .eq 6, 3) := by decide +kernel
theorem dX3_standingIn_30 : decode cX3_standingIn 30 = .ok (.iinc 2 1, 3) := by decide +kernel
theorem dX3_standingIn_33 : decode cX3_standingIn 33 = .ok (.iinc 3 1, 3) := by decide +kernel
theorem dX3_standingIn_36 : decode cX3_standingIn 36 = .ok (.goto (-32), 3) := by decide +kernel
theorem dX3_standingIn_39 : decode cX3_standingIn 39 = .ok (.iload_n 2, 1) := by decide +kernel
theorem dX3_standingIn_40 : decode cX3_standingIn 40 = .ok (.ireturn, 1) := by decide +kernel
theorem dX3_waitFor_0 : decode cX3_waitFor 0 = .ok (.aload_n 0, 1) := by decide +kernel
theorem dX3_waitFor_1 : decode cX3_waitFor 1 = .ok (.iload_n 1, 1) := by decide +kernel
theorem dX3_waitFor_2 : decode cX3_waitFor 2 = .ok (.putfield 28, 3) := by decide +kernel
theorem dX3_waitFor_5 : decode cX3_waitFor 5 = .ok (.return_, 1) := by decide +kernel
theorem dX3_reply_0 : decode cX3_reply 0 = .ok (.aload_n 0, 1) := by decide +kernel
theorem dX3_reply_1 : decode cX3_reply 1 = .ok (.iload_n 1, 1) := by decide +kernel
theorem dX3_reply_2 : decode cX3_reply 2 = .ok (.iload_n 2, 1) := by decide +kernel
theorem dX3_reply_3 : decode cX3_reply 3 = .ok (.invokevirtual 58, 3) := by decide +kernel
theorem dX3_reply_6 : decode cX3_reply 6 = .ok (.istore_n 3, 1) := by decide +kernel
theorem dX3_reply_7 : decode cX3_reply 7 = .ok (.iload_n 3, 1) := by decide +kernel
theorem dX3_reply_8 : decode cX3_reply 8 = .ok (.ifCond .ne 6, 3) := by decide +kernel
theorem dX3_reply_11 : decode cX3_reply 11 = .ok (.bipush (-2), 2) := by decide +kernel
theorem dX3_reply_13 : decode cX3_reply 13 = .ok (.ireturn, 1) := by decide +kernel
theorem dX3_reply_14 : decode cX3_reply 14 = .ok (.aload_n 0, 1) := by decide +kernel
theorem dX3_reply_15 : decode cX3_reply 15 = .ok (.getfield 25, 3) := by decide +kernel
theorem dX3_reply_18 : decode cX3_reply 18 = .ok (.bipush 60, 2) := by decide +kernel
theorem dX3_reply_20 : decode cX3_reply 20 = .ok (.if_icmp .lt 6, 3) := by decide +kernel
theorem dX3_reply_23 : decode cX3_reply 23 = .ok (.bipush (-3), 2) := by decide +kernel
theorem dX3_reply_25 : decode cX3_reply 25 = .ok (.ireturn, 1) := by decide +kernel
theorem dX3_reply_26 : decode cX3_reply 26 = .ok (.aload_n 0, 1) := by decide +kernel
theorem dX3_reply_27 : decode cX3_reply 27 = .ok (.dup, 1) := by decide +kernel
theorem dX3_reply_28 : decode cX3_reply 28 = .ok (.getfield 25, 3) := by decide +kernel
theorem dX3_reply_31 : decode cX3_reply 31 = .ok (.iconst 1, 1) := by decide +kernel
theorem dX3_reply_32 : decode cX3_reply 32 = .ok (.iadd, 1) := by decide +kernel
theorem dX3_reply_33 : decode cX3_reply 33 = .ok (.putfield 25, 3) := by decide +kernel
theorem dX3_reply_36 : decode cX3_reply 36 = .ok (.aload_n 0, 1) := by decide +kernel
theorem dX3_reply_37 : decode cX3_reply 37 = .ok (.iconst (-1), 1) := by decide +kernel
theorem dX3_reply_38 : decode cX3_reply 38 = .ok (.putfield 28, 3) := by decide +kernel
theorem dX3_reply_41 : decode cX3_reply 41 = .ok (.iload_n 3, 1) := by decide +kernel
theorem dX3_reply_42 : decode cX3_reply 42 = .ok (.ireturn, 1) := by decide +kernel
theorem dX3_forgetLatest_0 : decode cX3_forgetLatest 0 = .ok (.aload_n 0, 1) := by decide +kernel
theorem dX3_forgetLatest_1 : decode cX3_forgetLatest 1 = .ok (.iconst 0, 1) := by decide +kernel
theorem dX3_forgetLatest_2 : decode cX3_forgetLatest 2 = .ok (.aload_n 0, 1) := by decide +kernel
theorem dX3_forgetLatest_3 : decode cX3_forgetLatest 3 = .ok (.getfield 25, 3) := by decide +kernel
theorem dX3_forgetLatest_6 : decode cX3_forgetLatest 6 = .ok (.iconst 1, 1) := by decide +kernel
theorem dX3_forgetLatest_7 : decode cX3_forgetLatest 7 = .ok (.isub, 1) := by decide +kernel
theorem dX3_forgetLatest_8 : decode cX3_forgetLatest 8 = .ok (.invokestatic 47, 3) := by decide +kernel
theorem dX3_forgetLatest_11 : decode cX3_forgetLatest 11 = .ok (.putfield 25, 3) := by decide +kernel
theorem dX3_forgetLatest_14 : decode cX3_forgetLatest 14 = .ok (.aload_n 0, 1) := by decide +kernel
theorem dX3_forgetLatest_15 : decode cX3_forgetLatest 15 = .ok (.iconst (-1), 1) := by decide +kernel
theorem dX3_forgetLatest_16 : decode cX3_forgetLatest 16 = .ok (.putfield 28, 3) := by decide +kernel
theorem dX3_forgetLatest_19 : decode cX3_forgetLatest 19 = .ok (.return_, 1) := by decide +kernel
theorem dX3_layBehind_0 : decode cX3_layBehind 0 = .ok (.aload_n 0, 1) := by decide +kernel
theorem dX3_layBehind_1 : decode cX3_layBehind 1 = .ok (.invokevirtual 62, 3) := by decide +kernel
theorem dX3_layBehind_4 : decode cX3_layBehind 4 = .ok (.istore_n 3, 1) := by decide +kernel
theorem dX3_layBehind_5 : decode cX3_layBehind 5 = .ok (.iconst 0, 1) := by decide +kernel
theorem dX3_layBehind_6 : decode cX3_layBehind 6 = .ok (.istore 4, 2) := by decide +kernel
theorem dX3_layBehind_8 : decode cX3_layBehind 8 = .ok (.iconst 0, 1) := by decide +kernel
theorem dX3_layBehind_9 : decode cX3_layBehind 9 = .ok (.istore 5, 2) := by decide +kernel
theorem dX3_layBehind_11 : decode cX3_layBehind 11 = .ok (.iload 5, 2) := by decide +kernel
theorem dX3_layBehind_13 : decode cX3_layBehind 13 = .ok (.aload_n 0, 1) := by decide +kernel
theorem dX3_layBehind_14 : decode cX3_layBehind 14 = .ok (.getfield 19, 3) := by decide +kernel
theorem dX3_layBehind_17 : decode cX3_layBehind 17 = .ok (.if_icmp .ge 62, 3) := by decide +kernel
theorem dX3_layBehind_20 : decode cX3_layBehind 20 = .ok (.iconst (-1), 1) := by decide +kernel
theorem dX3_layBehind_21 : decode cX3_layBehind 21 = .ok (.aload_n 0, 1) := by decide +kernel
theorem dX3_layBehind_22 : decode cX3_layBehind 22 = .ok (.iload 5, 2) := by decide +kernel
theorem dX3_layBehind_24 : decode cX3_layBehind 24 = .ok (.invokevirtual 54, 3) := by decide +kernel
theorem dX3_layBehind_27 : decode cX3_layBehind 27 = .ok (.aload_n 0, 1) := by decide +kernel
theorem dX3_layBehind_28 : decode cX3_layBehind 28 = .ok (.iload_n 1, 1) := by decide +kernel
theorem dX3_layBehind_29 : decode cX3_layBehind 29 = .ok (.iload 5, 2) := by decide +kernel
theorem dX3_layBehind_31 : decode cX3_layBehind 31 = .ok (.ishr, 1) := by decide +kernel
theorem dX3_layBehind_32 : decode cX3_layBehind 32 = .ok (.iconst 1, 1) := by decide +kernel
theorem dX3_layBehind_33 : decode cX3_layBehind 33 = .ok (.iand, 1) := by decide +kernel
theorem dX3_layBehind_34 : decode cX3_layBehind 34 = .ok (.iconst 1, 1) := by decide +kernel
theorem dX3_layBehind_35 : decode cX3_layBehind 35 = .ok (.if_icmp .ne 7, 3) := by decide +kernel
theorem dX3_layBehind_38 : decode cX3_layBehind 38 = .ok (.iconst 1, 1) := by decide +kernel
theorem dX3_layBehind_39 : decode cX3_layBehind 39 = .ok (.goto 4, 3) := by decide +kernel
theorem dX3_layBehind_42 : decode cX3_layBehind 42 = .ok (.iconst 0, 1) := by decide +kernel
theorem dX3_layBehind_43 : decode cX3_layBehind 43 = .ok (.iload_n 2, 1) := by decide +kernel
theorem dX3_layBehind_44 : decode cX3_layBehind 44 = .ok (.invokevirtual 65, 3) := by decide +kernel
theorem dX3_layBehind_47 : decode cX3_layBehind 47 = .ok (.isub, 1) := by decide +kernel
theorem dX3_layBehind_48 : decode cX3_layBehind 48 = .ok (.invokestatic 47, 3) := by decide +kernel
theorem dX3_layBehind_51 : decode cX3_layBehind 51 = .ok (.istore 6, 2) := by decide +kernel
theorem dX3_layBehind_53 : decode cX3_layBehind 53 = .ok (.aload_n 0, 1) := by decide +kernel
theorem dX3_layBehind_54 : decode cX3_layBehind 54 = .ok (.getfield 37, 3) := by decide +kernel
theorem dX3_layBehind_57 : decode cX3_layBehind 57 = .ok (.iload_n 3, 1) := by decide +kernel
theorem dX3_layBehind_58 : decode cX3_layBehind 58 = .ok (.iload 5, 2) := by decide +kernel
theorem dX3_layBehind_60 : decode cX3_layBehind 60 = .ok (.iadd, 1) := by decide +kernel
theorem dX3_layBehind_61 : decode cX3_layBehind 61 = .ok (.iload 6, 2) := by decide +kernel
theorem dX3_layBehind_63 : decode cX3_layBehind 63 = .ok (.iastore, 1) := by decide +kernel
theorem dX3_layBehind_64 : decode cX3_layBehind 64 = .ok (.iload 6, 2) := by decide +kernel
theorem dX3_layBehind_66 : decode cX3_layBehind 66 = .ok (.iconst (-1), 1) := by decide +kernel
theorem dX3_layBehind_67 : decode cX3_layBehind 67 = .ok (.if_icmp .eq 6, 3) := by decide +kernel
theorem dX3_layBehind_70 : decode cX3_layBehind 70 = .ok (.iinc 4 1, 3) := by decide +kernel
theorem dX3_layBehind_73 : decode cX3_layBehind 73 = .ok (.iinc 5 1, 3) := by decide +kernel
theorem dX3_layBehind_76 : decode cX3_layBehind 76 = .ok (.goto (-65), 3) := by decide +kernel
theorem dX3_layBehind_79 : decode cX3_layBehind 79 = .ok (.iload 4, 2) := by decide +kernel
theorem dX3_layBehind_81 : decode cX3_layBehind 81 = .ok (.ireturn, 1) := by decide +kernel
theorem dX3_priceFor_0 : decode cX3_priceFor 0 = .ok (.iload_n 1, 1) := by decide +kernel
theorem dX3_priceFor_1 : decode cX3_priceFor 1 = .ok (.iload_n 2, 1) := by decide +kernel
theorem dX3_priceFor_2 : decode cX3_priceFor 2 = .ok (.if_icmp .ne 5, 3) := by decide +kernel
theorem dX3_priceFor_5 : decode cX3_priceFor 5 = .ok (.iconst 0, 1) := by decide +kernel
theorem dX3_priceFor_6 : decode cX3_priceFor 6 = .ok (.ireturn, 1) := by decide +kernel
theorem dX3_priceFor_7 : decode cX3_priceFor 7 = .ok (.iload_n 2, 1) := by decide +kernel
theorem dX3_priceFor_8 : decode cX3_priceFor 8 = .ok (.ifCond .eq 10, 3) := by decide +kernel
theorem dX3_priceFor_11 : decode cX3_priceFor 11 = .ok (.aload_n 0, 1) := by decide +kernel
theorem dX3_priceFor_12 : decode cX3_priceFor 12 = .ok (.getfield 31, 3) := by decide +kernel
theorem dX3_priceFor_15 : decode cX3_priceFor 15 = .ok (.goto 7, 3) := by decide +kernel
theorem dX3_priceFor_18 : decode cX3_priceFor 18 = .ok (.aload_n 0, 1) := by decide +kernel
theorem dX3_priceFor_19 : decode cX3_priceFor 19 = .ok (.getfield 34, 3) := by decide +kernel
theorem dX3_priceFor_22 : decode cX3_priceFor 22 = .ok (.ireturn, 1) := by decide +kernel
theorem dX3_asDigits_0 : decode cX3_asDigits 0 = .ok (.iconst 0, 1) := by decide +kernel
theorem dX3_asDigits_1 : decode cX3_asDigits 1 = .ok (.istore_n 1, 1) := by decide +kernel
theorem dX3_asDigits_2 : decode cX3_asDigits 2 = .ok (.iconst 0, 1) := by decide +kernel
theorem dX3_asDigits_3 : decode cX3_asDigits 3 = .ok (.istore_n 2, 1) := by decide +kernel
theorem dX3_asDigits_4 : decode cX3_asDigits 4 = .ok (.iload_n 2, 1) := by decide +kernel
theorem dX3_asDigits_5 : decode cX3_asDigits 5 = .ok (.aload_n 0, 1) := by decide +kernel
theorem dX3_asDigits_6 : decode cX3_asDigits 6 = .ok (.getfield 19, 3) := by decide +kernel
theorem dX3_asDigits_9 : decode cX3_asDigits 9 = .ok (.if_icmp .ge 33, 3) := by decide +kernel
theorem dX3_asDigits_12 : decode cX3_asDigits 12 = .ok (.iload_n 2, 1) := by decide +kernel
theorem dX3_asDigits_13 : decode cX3_asDigits 13 = .ok (.bipush 6, 2) := by decide +kernel
theorem dX3_asDigits_15 : decode cX3_asDigits 15 = .ok (.if_icmp .ge 27, 3) := by decide +kernel
theorem dX3_asDigits_18 : decode cX3_asDigits 18 = .ok (.iload_n 1, 1) := by decide +kernel
theorem dX3_asDigits_19 : decode cX3_asDigits 19 = .ok (.aload_n 0, 1) := by decide +kernel
theorem dX3_asDigits_20 : decode cX3_asDigits 20 = .ok (.iload_n 2, 1) := by decide +kernel
theorem dX3_asDigits_21 : decode cX3_asDigits 21 = .ok (.invokevirtual 54, 3) := by decide +kernel
theorem dX3_asDigits_24 : decode cX3_asDigits 24 = .ok (.iconst 1, 1) := by decide +kernel
theorem dX3_asDigits_25 : decode cX3_asDigits 25 = .ok (.iadd, 1) := by decide +kernel
theorem dX3_asDigits_26 : decode cX3_asDigits 26 = .ok (.iconst 3, 1) := by decide +kernel
theorem dX3_asDigits_27 : decode cX3_asDigits 27 = .ok (.invokestatic 41, 3) := by decide +kernel
theorem dX3_asDigits_30 : decode cX3_asDigits 30 = .ok (.iconst 2, 1) := by decide +kernel
theorem dX3_asDigits_31 : decode cX3_asDigits 31 = .ok (.iload_n 2, 1) := by decide +kernel
theorem dX3_asDigits_32 : decode cX3_asDigits 32 = .ok (.imul, 1) := by decide +kernel
theorem dX3_asDigits_33 : decode cX3_asDigits 33 = .ok (.ishl, 1) := by decide +kernel
theorem dX3_asDigits_34 : decode cX3_asDigits 34 = .ok (.ior, 1) := by decide +kernel
theorem dX3_asDigits_35 : decode cX3_asDigits 35 = .ok (.istore_n 1, 1) := by decide +kernel
theorem dX3_asDigits_36 : decode cX3_asDigits 36 = .ok (.iinc 2 1, 3) := by decide +kernel
theorem dX3_asDigits_39 : decode cX3_asDigits 39 = .ok (.goto (-35), 3) := by decide +kernel
theorem dX3_asDigits_42 : decode cX3_asDigits 42 = .ok (.iload_n 1, 1) := by decide +kernel
theorem dX3_asDigits_43 : decode cX3_asDigits 43 = .ok (.ireturn, 1) := by decide +kernel
theorem dX4_init_0 : decode cX4_init 0 = .ok (.aload_n 0, 1) := by decide +kernel
theorem dX4_init_1 : decode cX4_init 1 = .ok (.invokespecial 3, 3) := by decide +kernel
theorem dX4_init_4 : decode cX4_init 4 = .ok (.aload_n 0, 1) := by decide +kernel
theorem dX4_init_5 : decode cX4_init 5 = .ok (.iconst 4, 1) := by decide +kernel
theorem dX4_init_6 : decode cX4_init 6 = .ok (.newarray .int, 2) := by decide +kernel
theorem dX4_init_8 : decode cX4_init 8 = .ok (.putfield 9, 3) := by decide +kernel
theorem dX4_init_11 : decode cX4_init 11 = .ok (.aload_n 0, 1) := by decide +kernel
theorem dX4_init_12 : decode cX4_init 12 = .ok (.aload_n 1, 1) := by decide +kernel
theorem dX4_init_13 : decode cX4_init 13 = .ok (.putfield 15, 3) := by decide +kernel
theorem dX4_init_16 : decode cX4_init 16 = .ok (.aload_n 0, 1) := by decide +kernel
theorem dX4_init_17 : decode cX4_init 17 = .ok (.aload_n 2, 1) := by decide +kernel
theorem dX4_init_18 : decode cX4_init 18 = .ok (.putfield 18, 3) := by decide +kernel
theorem dX4_init_21 : decode cX4_init 21 = .ok (.aload_n 0, 1) := by decide +kernel
theorem dX4_init_22 : decode cX4_init 22 = .ok (.aload_n 3, 1) := by decide +kernel
theorem dX4_init_23 : decode cX4_init 23 = .ok (.putfield 22, 3) := by decide +kernel
theorem dX4_init_26 : decode cX4_init 26 = .ok (.return_, 1) := by decide +kernel
theorem dX4_learn_0 : decode cX4_learn 0 = .ok (.iload_n 1, 1) := by decide +kernel
theorem dX4_learn_1 : decode cX4_learn 1 = .ok (.bipush 16, 2) := by decide +kernel
theorem dX4_learn_3 : decode cX4_learn 3 = .ok (.if_icmp .gt 22, 3) := by decide +kernel
theorem dX4_learn_6 : decode cX4_learn 6 = .ok (.iload_n 2, 1) := by decide +kernel
theorem dX4_learn_7 : decode cX4_learn 7 = .ok (.ifCond .lt 18, 3) := by decide +kernel
theorem dX4_learn_10 : decode cX4_learn 10 = .ok (.iload_n 2, 1) := by decide +kernel
theorem dX4_learn_11 : decode cX4_learn 11 = .ok (.iconst 3, 1) := by decide +kernel
theorem dX4_learn_12 : decode cX4_learn 12 = .ok (.if_icmp .gt 13, 3) := by decide +kernel
theorem dX4_learn_15 : decode cX4_learn 15 = .ok (.aload_n 0, 1) := by decide +kernel
theorem dX4_learn_16 : decode cX4_learn 16 = .ok (.getfield 9, 3) := by decide +kernel
theorem dX4_learn_19 : decode cX4_learn 19 = .ok (.iload_n 2, 1) := by decide +kernel
theorem dX4_learn_20 : decode cX4_learn 20 = .ok (.iaload, 1) := by decide +kernel
theorem dX4_learn_21 : decode cX4_learn 21 = .ok (.iload_n 1, 1) := by decide +kernel
theorem dX4_learn_22 : decode cX4_learn 22 = .ok (.if_icmp .lt 4, 3) := by decide +kernel
theorem dX4_learn_25 : decode cX4_learn 25 = .ok (.return_, 1) := by decide +kernel
theorem dX4_learn_26 : decode cX4_learn 26 = .ok (.aload_n 0, 1) := by decide +kernel
theorem dX4_learn_27 : decode cX4_learn 27 = .ok (.getfield 9, 3) := by decide +kernel
theorem dX4_learn_30 : decode cX4_learn 30 = .ok (.iload_n 2, 1) := by decide +kernel
theorem dX4_learn_31 : decode cX4_learn 31 = .ok (.iaload, 1) := by decide +kernel
theorem dX4_learn_32 : decode cX4_learn 32 = .ok (.iconst 1, 1) := by decide +kernel
theorem dX4_learn_33 : decode cX4_learn 33 = .ok (.iadd, 1) := by decide +kernel
theorem dX4_learn_34 : decode cX4_learn 34 = .ok (.istore_n 3, 1) := by decide +kernel
theorem dX4_learn_35 : decode cX4_learn 35 = .ok (.iconst 0, 1) := by decide +kernel
theorem dX4_learn_36 : decode cX4_learn 36 = .ok (.istore 4, 2) := by decide +kernel
theorem dX4_learn_38 : decode cX4_learn 38 = .ok (.iload 4, 2) := by decide +kernel
theorem dX4_learn_40 : decode cX4_learn 40 = .ok (.iload_n 2, 1) := by decide +kernel
theorem dX4_learn_41 : decode cX4_learn 41 = .ok (.iconst 3, 1) := by decide +kernel
theorem dX4_learn_42 : decode cX4_learn 42 = .ok (.if_icmp .ge 7, 3) := by decide +kernel
theorem dX4_learn_45 : decode cX4_learn 45 = .ok (.iconst 0, 1) := by decide +kernel
theorem dX4_learn_46 : decode cX4_learn 46 = .ok (.goto 4, 3) := by decide +kernel
theorem dX4_learn_49 : decode cX4_learn 49 = .ok (.iload_n 1, 1) := by decide +kernel
theorem dX4_learn_50 : decode cX4_learn 50 = .ok (.if_icmp .gt 91, 3) := by decide +kernel
theorem dX4_learn_53 : decode cX4_learn 53 = .ok (.iload 4, 2) := by decide +kernel
theorem dX4_learn_55 : decode cX4_learn 55 = .ok (.istore 5, 2) := by decide +kernel
theorem dX4_learn_57 : decode cX4_learn 57 = .ok (.iload 5, 2) := by decide +kernel
theorem dX4_learn_59 : decode cX4_learn 59 = .ok (.iload_n 2, 1) := by decide +kernel
theorem dX4_learn_60 : decode cX4_learn 60 = .ok (.iconst 2, 1) := by decide +kernel
theorem dX4_learn_61 : decode cX4_learn 61 = .ok (.if_icmp .ge 7, 3) := by decide +kernel
theorem dX4_learn_64 : decode cX4_learn 64 = .ok (.iconst 0, 1) := by decide +kernel
theorem dX4_learn_65 : decode cX4_learn 65 = .ok (.goto 4, 3) := by decide +kernel
theorem dX4_learn_68 : decode cX4_learn 68 = .ok (.iload_n 1, 1) := by decide +kernel
theorem dX4_learn_69 : decode cX4_learn 69 = .ok (.if_icmp .gt 66, 3) := by decide +kernel
theorem dX4_learn_72 : decode cX4_learn 72 = .ok (.iload 5, 2) := by decide +kernel
theorem dX4_learn_74 : decode cX4_learn 74 = .ok (.istore 6, 2) := by decide +kernel
theorem dX4_learn_76 : decode cX4_learn 76 = .ok (.iload 6, 2) := by decide +kernel
theorem dX4_learn_78 : decode cX4_learn 78 = .ok (.iload_n 2, 1) := by decide +kernel
theorem dX4_learn_79 : decode cX4_learn 79 = .ok (.iconst 1, 1) := by decide +kernel
theorem dX4_learn_80 : decode cX4_learn 80 = .ok (.if_icmp .ge 7, 3) := by decide +kernel
theorem dX4_learn_83 : decode cX4_learn 83 = .ok (.iconst 0, 1) := by decide +kernel
theorem dX4_learn_84 : decode cX4_learn 84 = .ok (.goto 4, 3) := by decide +kernel
theorem dX4_learn_87 : decode cX4_learn 87 = .ok (.iload_n 1, 1) := by decide +kernel
theorem dX4_learn_88 : decode cX4_learn 88 = .ok (.if_icmp .gt 41, 3) := by decide +kernel
theorem dX4_learn_91 : decode cX4_learn 91 = .ok (.iload 6, 2) := by decide +kernel
theorem dX4_learn_93 : decode cX4_learn 93 = .ok (.iload_n 3, 1) := by decide +kernel
theorem dX4_learn_94 : decode cX4_learn 94 = .ok (.invokestatic 26, 3) := by decide +kernel
theorem dX4_learn_97 : decode cX4_learn 97 = .ok (.istore 7, 2) := by decide +kernel
theorem dX4_learn_99 : decode cX4_learn 99 = .ok (.iload 7, 2) := by decide +kernel
theorem dX4_learn_101 : decode cX4_learn 101 = .ok (.iload_n 1, 1) := by decide +kernel
theorem dX4_learn_102 : decode cX4_learn 102 = .ok (.if_icmp .gt 21, 3) := by decide +kernel
theorem dX4_learn_105 : decode cX4_learn 105 = .ok (.aload_n 0, 1) := by decide +kernel
theorem dX4_learn_106 : decode cX4_learn 106 = .ok (.iload 7, 2) := by decide +kernel
theorem dX4_learn_108 : decode cX4_learn 108 = .ok (.iload 6, 2) := by decide +kernel
theorem dX4_learn_110 : decode cX4_learn 110 = .ok (.iload 5, 2) := by decide +kernel
theorem dX4_learn_112 : decode cX4_learn 112 = .ok (.iload 4, 2) := by decide +kernel
theorem dX4_learn_114 : decode cX4_learn 114 = .ok (.invokevirtual 32, 3) := by decide +kernel
theorem dX4_learn_117 : decode cX4_learn 117 = .ok (.iinc 7 1, 3) := by decide +kernel
theorem dX4_learn_120 : decode cX4_learn 120 = .ok (.goto (-21), 3) := by decide +kernel
theorem dX4_learn_123 : decode cX4_learn 123 = .ok (.iinc 6 1, 3) := by decide +kernel
theorem dX4_learn_126 : decode cX4_learn 126 = .ok (.goto (-50), 3) := by decide +kernel
theorem dX4_learn_129 : decode cX4_learn 129 = .ok (.iinc 5 1, 3) := by decide +kernel
theorem dX4_learn_132 : decode cX4_learn 132 = .ok (.goto (-75), 3) := by decide +kernel
theorem dX4_learn_135 : decode cX4_learn 135 = .ok (.iinc 4 1, 3) := by decide +kernel
theorem dX4_learn_138 : decode cX4_learn 138 = .ok (.goto (-100), 3) := by decide +kernel
theorem dX4_learn_141 : decode cX4_learn 141 = .ok (.iconst 0, 1) := by decide +kernel
theorem dX4_learn_142 : decode cX4_learn 142 = .ok (.istore 4, 2) := by decide +kernel
theorem dX4_learn_144 : decode cX4_learn 144 = .ok (.iload 4, 2) := by decide +kernel
theorem dX4_learn_146 : decode cX4_learn 146 = .ok (.iload_n 2, 1) := by decide +kernel
theorem dX4_learn_147 : decode cX4_learn 147 = .ok (.if_icmp .gt 27, 3) := by decide +kernel
theorem dX4_learn_150 : decode cX4_learn 150 = .ok (.aload_n 0, 1) := by decide +kernel
theorem dX4_learn_151 : decode cX4_learn 151 = .ok (.getfield 9, 3) := by decide +kernel
theorem dX4_learn_154 : decode cX4_learn 154 = .ok (.iload 4, 2) := by decide +kernel
theorem dX4_learn_156 : decode cX4_learn 156 = .ok (.aload_n 0, 1) := by decide +kernel
theorem dX4_learn_157 : decode cX4_learn 157 = .ok (.getfield 9, 3) := by decide +kernel
theorem dX4_learn_160 : decode cX4_learn 160 = .ok (.iload 4, 2) := by decide +kernel
theorem dX4_learn_162 : decode cX4_learn 162 = .ok (.iaload, 1) := by decide +kernel
theorem dX4_learn_163 : decode cX4_learn 163 = .ok (.iload_n 1, 1) := by decide +kernel
theorem dX4_learn_164 : decode cX4_learn 164 = .ok (.invokestatic 26, 3) := by decide +kernel
theorem dX4_learn_167 : decode cX4_learn 167 = .ok (.iastore, 1) := by decide +kernel
theorem dX4_learn_168 : decode cX4_learn 168 = .ok (.iinc 4 1, 3) := by decide +kernel
theorem dX4_learn_171 : decode cX4_learn 171 = .ok (.goto (-27), 3) := by decide +kernel
theorem dX4_learn_174 : decode cX4_learn 174 = .ok (.return_, 1) := by decide +kernel
theorem dX4_learnOne_0 : decode cX4_learnOne 0 = .ok (.iload_n 1, 1) := by decide +kernel
theorem dX4_learnOne_1 : decode cX4_learnOne 1 = .ok (.iconst 1, 1) := by decide +kernel
theorem dX4_learnOne_2 : decode cX4_learnOne 2 = .ok (.iload_n 2, 1) := by decide +kernel
theorem dX4_learnOne_3 : decode cX4_learnOne 3 = .ok (.invokestatic 36, 3) := by decide +kernel
theorem dX4_learnOne_6 : decode cX4_learnOne 6 = .ok (.iadd, 1) := by decide +kernel
theorem dX4_learnOne_7 : decode cX4_learnOne 7 = .ok (.iconst 2, 1) := by decide +kernel
theorem dX4_learnOne_8 : decode cX4_learnOne 8 = .ok (.iload_n 3, 1) := by decide +kernel
theorem dX4_learnOne_9 : decode cX4_learnOne 9 = .ok (.invokestatic 36, 3) := by decide +kernel
theorem dX4_learnOne_12 : decode cX4_learnOne 12 = .ok (.iadd, 1) := by decide +kernel
theorem dX4_learnOne_13 : decode cX4_learnOne 13 = .ok (.iconst 3, 1) := by decide +kernel
theorem dX4_learnOne_14 : decode cX4_learnOne 14 = .ok (.iload 4, 2) := by decide +kernel
theorem dX4_learnOne_16 : decode cX4_learnOne 16 = .ok (.invokestatic 36, 3) := by decide +kernel
theorem dX4_learnOne_19 : decode cX4_learnOne 19 = .ok (.iadd, 1) := by decide +kernel
theorem dX4_learnOne_20 : decode cX4_learnOne 20 = .ok (.istore 5, 2) := by decide +kernel
theorem dX4_learnOne_22 : decode cX4_learnOne 22 = .ok (.iload 5, 2) := by decide +kernel
theorem dX4_learnOne_24 : decode cX4_learnOne 24 = .ok (.ifCond .lt 13, 3) := by decide +kernel
theorem dX4_learnOne_27 : decode cX4_learnOne 27 = .ok (.iload 5, 2) := by decide +kernel
theorem dX4_learnOne_29 : decode cX4_learnOne 29 = .ok (.aload_n 0, 1) := by decide +kernel
theorem dX4_learnOne_30 : decode cX4_learnOne 30 = .ok (.getfield 15, 3) := by decide +kernel
theorem dX4_learnOne_33 : decode cX4_learnOne 33 = .ok (.arraylength, 1) := by decide +kernel
theorem dX4_learnOne_34 : decode cX4_learnOne 34 = .ok (.if_icmp .lt 4, 3) := by decide +kernel
theorem dX4_learnOne_37 : decode cX4_learnOne 37 = .ok (.return_, 1) := by decide +kernel
theorem dX4_learnOne_38 : decode cX4_learnOne 38 = .ok (.iload_n 1, 1) := by decide +kernel
theorem dX4_learnOne_39 : decode cX4_learnOne 39 = .ok (.iconst 1, 1) := by decide +kernel
theorem dX4_learnOne_40 : decode cX4_learnOne 40 = .ok (.if_icmp .gt 12, 3) := by decide +kernel
theorem dX4_learnOne_43 : decode cX4_learnOne 43 = .ok (.aload_n 0, 1) := by decide +kernel
theorem dX4_learnOne_44 : decode cX4_learnOne 44 = .ok (.getfield 15, 3) := by decide +kernel
theorem dX4_learnOne_47 : decode cX4_learnOne 47 = .ok (.iload 5, 2) := by decide +kernel
theorem dX4_learnOne_49 : decode cX4_learnOne 49 = .ok (.iconst 0, 1) := by decide +kernel
theorem dX4_learnOne_50 : decode cX4_learnOne 50 = .ok (.iastore, 1) := by decide +kernel
theorem dX4_learnOne_51 : decode cX4_learnOne 51 = .ok (.return_, 1) := by decide +kernel
theorem dX4_learnOne_52 : decode cX4_learnOne 52 = .ok (.iconst 1, 1) := by decide +kernel
theorem dX4_learnOne_53 : decode cX4_learnOne 53 = .ok (.istore 6, 2) := by decide +kernel
theorem dX4_learnOne_55 : decode cX4_learnOne 55 = .ok (.iload 6, 2) := by decide +kernel
theorem dX4_learnOne_57 : decode cX4_learnOne 57 = .ok (.iload_n 1, 1) := by decide +kernel
theorem dX4_learnOne_58 : decode cX4_learnOne 58 = .ok (.iload_n 2, 1) := by decide +kernel
theorem dX4_learnOne_59 : decode cX4_learnOne 59 = .ok (.if_icmp .le 14, 3) := by decide +kernel
theorem dX4_learnOne_62 : decode cX4_learnOne 62 = .ok (.aload_n 0, 1) := by decide +kernel
theorem dX4_learnOne_63 : decode cX4_learnOne 63 = .ok (.iload 5, 2) := by decide +kernel
theorem dX4_learnOne_65 : decode cX4_learnOne 65 = .ok (.iconst 1, 1) := by decide +kernel
theorem dX4_learnOne_66 : decode cX4_learnOne 66 = .ok (.isub, 1) := by decide +kernel
theorem dX4_learnOne_67 : decode cX4_learnOne 67 = .ok (.invokevirtual 39, 3) := by decide +kernel
theorem dX4_learnOne_70 : decode cX4_learnOne 70 = .ok (.goto 4, 3) := by decide +kernel
theorem dX4_learnOne_73 : decode cX4_learnOne 73 = .ok (.iconst 0, 1) := by decide +kernel
theorem dX4_learnOne_74 : decode cX4_learnOne 74 = .ok (.invokestatic 26, 3) := by decide +kernel
theorem dX4_learnOne_77 : decode cX4_learnOne 77 = .ok (.istore 6, 2) := by decide +kernel
theorem dX4_learnOne_79 : decode cX4_learnOne 79 = .ok (.iload 6, 2) := by decide +kernel
theorem dX4_learnOne_81 : decode cX4_learnOne 81 = .ok (.iload_n 2, 1) := by decide +kernel
theorem dX4_learnOne_82 : decode cX4_learnOne 82 = .ok (.iload_n 3, 1) := by decide +kernel
theorem dX4_learnOne_83 : decode cX4_learnOne 83 = .ok (.if_icmp .le 18, 3) := by decide +kernel
theorem dX4_learnOne_86 : decode cX4_learnOne 86 = .ok (.aload_n 0, 1) := by decide +kernel
theorem dX4_learnOne_87 : decode cX4_learnOne 87 = .ok (.iload 5, 2) := by decide +kernel
theorem dX4_learnOne_89 : decode cX4_learnOne 89 = .ok (.iconst 1, 1) := by decide +kernel
theorem dX4_learnOne_90 : decode cX4_learnOne 90 = .ok (.iload_n 2, 1) := by decide +kernel
theorem dX4_learnOne_91 : decode cX4_learnOne 91 = .ok (.invokestatic 43, 3) := by decide +kernel
theorem dX4_learnOne_94 : decode cX4_learnOne 94 = .ok (.isub, 1) := by decide +kernel
theorem dX4_learnOne_95 : decode cX4_learnOne 95 = .ok (.invokevirtual 39, 3) := by decide +kernel
theorem dX4_learnOne_98 : decode cX4_learnOne 98 = .ok (.goto 4, 3) := by decide +kernel
theorem dX4_learnOne_101 : decode cX4_learnOne 101 = .ok (.iconst 0, 1) := by decide +kernel
theorem dX4_learnOne_102 : decode cX4_learnOne 102 = .ok (.invokestatic 26, 3) := by decide +kernel
theorem dX4_learnOne_105 : decode cX4_learnOne 105 = .ok (.istore 6, 2) := by decide +kernel
theorem dX4_learnOne_107 : decode cX4_learnOne 107 = .ok (.iload 6, 2) := by decide +kernel
theorem dX4_learnOne_109 : decode cX4_learnOne 109 = .ok (.iload_n 3, 1) := by decide +kernel
theorem dX4_learnOne_110 : decode cX4_learnOne 110 = .ok (.iload 4, 2) := by decide +kernel
theorem dX4_learnOne_112 : decode cX4_learnOne 112 = .ok (.if_icmp .le 18, 3) := by decide +kernel
theorem dX4_learnOne_115 : decode cX4_learnOne 115 = .ok (.aload_n 0, 1) := by decide +kernel
theorem dX4_learnOne_116 : decode cX4_learnOne 116 = .ok (.iload 5, 2) := by decide +kernel
theorem dX4_learnOne_118 : decode cX4_learnOne 118 = .ok (.iconst 2, 1) := by decide +kernel
theorem dX4_learnOne_119 : decode cX4_learnOne 119 = .ok (.iload_n 3, 1) := by decide +kernel
theorem dX4_learnOne_120 : decode cX4_learnOne 120 = .ok (.invokestatic 43, 3) := by decide +kernel
theorem dX4_learnOne_123 : decode cX4_learnOne 123 = .ok (.isub, 1) := by decide +kernel
theorem dX4_learnOne_124 : decode cX4_learnOne 124 = .ok (.invokevirtual 39, 3) := by decide +kernel
theorem dX4_learnOne_127 : decode cX4_learnOne 127 = .ok (.goto 4, 3) := by decide +kernel
theorem dX4_learnOne_130 : decode cX4_learnOne 130 = .ok (.iconst 0, 1) := by decide +kernel
theorem dX4_learnOne_131 : decode cX4_learnOne 131 = .ok (.invokestatic 26, 3) := by decide +kernel
theorem dX4_learnOne_134 : decode cX4_learnOne 134 = .ok (.istore 6, 2) := by decide +kernel
theorem dX4_learnOne_136 : decode cX4_learnOne 136 = .ok (.iload 6, 2) := by decide +kernel
theorem dX4_learnOne_138 : decode cX4_learnOne 138 = .ok (.iload 4, 2) := by decide +kernel
theorem dX4_learnOne_140 : decode cX4_learnOne 140 = .ok (.ifCond .le 19, 3) := by decide +kernel
theorem dX4_learnOne_143 : decode cX4_learnOne 143 = .ok (.aload_n 0, 1) := by decide +kernel
theorem dX4_learnOne_144 : decode cX4_learnOne 144 = .ok (.iload 5, 2) := by decide +kernel
theorem dX4_learnOne_146 : decode cX4_learnOne 146 = .ok (.iconst 3, 1) := by decide +kernel
theorem dX4_learnOne_147 : decode cX4_learnOne 147 = .ok (.iload 4, 2) := by decide +kernel
theorem dX4_learnOne_149 : decode cX4_learnOne 149 = .ok (.invokestatic 43, 3) := by decide +kernel
theorem dX4_learnOne_152 : decode cX4_learnOne 152 = .ok (.isub, 1) := by decide +kernel
theorem dX4_learnOne_153 : decode cX4_learnOne 153 = .ok (.invokevirtual 39, 3) := by decide +kernel
theorem dX4_learnOne_156 : decode cX4_learnOne 156 = .ok (.goto 4, 3) := by decide +kernel
theorem dX4_learnOne_159 : decode cX4_learnOne 159 = .ok (.iconst 0, 1) := by decide +kernel
theorem dX4_learnOne_160 : decode cX4_learnOne 160 = .ok (.invokestatic 26, 3) := by decide +kernel
theorem dX4_learnOne_163 : decode cX4_learnOne 163 = .ok (.istore 6, 2) := by decide +kernel
theorem dX4_learnOne_165 : decode cX4_learnOne 165 = .ok (.aload_n 0, 1) := by decide +kernel
theorem dX4_learnOne_166 : decode cX4_learnOne 166 = .ok (.getfield 15, 3) := by decide +kernel
theorem dX4_learnOne_169 : decode cX4_learnOne 169 = .ok (.iload 5, 2) := by decide +kernel
theorem dX4_learnOne_171 : decode cX4_learnOne 171 = .ok (.bipush 13, 2) := by decide +kernel
theorem dX4_learnOne_173 : decode cX4_learnOne 173 = .ok (.iastore, 1) := by decide +kernel
theorem dX4_learnOne_174 : decode cX4_learnOne 174 = .ok (.aload_n 0, 1) := by decide +kernel
theorem dX4_learnOne_175 : decode cX4_learnOne 175 = .ok (.getfield 18, 3) := by decide +kernel
theorem dX4_learnOne_178 : decode cX4_learnOne 178 = .ok (.iload_n 1, 1) := by decide +kernel
theorem dX4_learnOne_179 : decode cX4_learnOne 179 = .ok (.iload_n 2, 1) := by decide +kernel
theorem dX4_learnOne_180 : decode cX4_learnOne 180 = .ok (.iload_n 3, 1) := by decide +kernel
theorem dX4_learnOne_181 : decode cX4_learnOne 181 = .ok (.iload 4, 2) := by decide +kernel
theorem dX4_learnOne_183 : decode cX4_learnOne 183 = .ok (.invokevirtual 46, 3) := by decide +kernel
theorem dX4_learnOne_186 : decode cX4_learnOne 186 = .ok (.iload 6, 2) := by decide +kernel
theorem dX4_learnOne_188 : decode cX4_learnOne 188 = .ok (.istore 7, 2) := by decide +kernel
theorem dX4_learnOne_190 : decode cX4_learnOne 190 = .ok (.iload 7, 2) := by decide +kernel
theorem dX4_learnOne_192 : decode cX4_learnOne 192 = .ok (.bipush 13, 2) := by decide +kernel
theorem dX4_learnOne_194 : decode cX4_learnOne 194 = .ok (.if_icmp .ge 23, 3) := by decide +kernel
theorem dX4_learnOne_197 : decode cX4_learnOne 197 = .ok (.aload_n 0, 1) := by decide +kernel
theorem dX4_learnOne_198 : decode cX4_learnOne 198 = .ok (.getfield 18, 3) := by decide +kernel
theorem dX4_learnOne_201 : decode cX4_learnOne 201 = .ok (.iload 7, 2) := by decide +kernel
theorem dX4_learnOne_203 : decode cX4_learnOne 203 = .ok (.iconst 1, 1) := by decide +kernel
theorem dX4_learnOne_204 : decode cX4_learnOne 204 = .ok (.isub, 1) := by decide +kernel
theorem dX4_learnOne_205 : decode cX4_learnOne 205 = .ok (.invokevirtual 51, 3) := by decide +kernel
theorem dX4_learnOne_208 : decode cX4_learnOne 208 = .ok (.ifCond .ne 9, 3) := by decide +kernel
theorem dX4_learnOne_211 : decode cX4_learnOne 211 = .ok (.iinc 7 1, 3) := by decide +kernel
theorem dX4_learnOne_214 : decode cX4_learnOne 214 = .ok (.goto (-24), 3) := by decide +kernel
theorem dX4_learnOne_217 : decode cX4_learnOne 217 = .ok (.aload_n 0, 1) := by decide +kernel
theorem dX4_learnOne_218 : decode cX4_learnOne 218 = .ok (.getfield 15, 3) := by decide +kernel
theorem dX4_learnOne_221 : decode cX4_learnOne 221 = .ok (.iload 5, 2) := by decide +kernel
theorem dX4_learnOne_223 : decode cX4_learnOne 223 = .ok (.iload 7, 2) := by decide +kernel
theorem dX4_learnOne_225 : decode cX4_learnOne 225 = .ok (.iastore, 1) := by decide +kernel
theorem dX4_learnOne_226 : decode cX4_learnOne 226 = .ok (.return_, 1) := by decide +kernel
theorem dX4_stepTo_0 : decode cX4_stepTo 0 = .ok (.iload_n 0, 1) := by decide +kernel
theorem dX4_stepTo_1 : decode cX4_stepTo 1 = .ok (.iload_n 1, 1) := by decide +kernel
theorem dX4_stepTo_2 : decode cX4_stepTo 2 = .ok (.invokestatic 36, 3) := by decide +kernel
theorem dX4_stepTo_5 : decode cX4_stepTo 5 = .ok (.iload_n 0, 1) := by decide +kernel
theorem dX4_stepTo_6 : decode cX4_stepTo 6 = .ok (.iload_n 1, 1) := by decide +kernel
theorem dX4_stepTo_7 : decode cX4_stepTo 7 = .ok (.iconst 1, 1) := by decide +kernel
theorem dX4_stepTo_8 : decode cX4_stepTo 8 = .ok (.isub, 1) := by decide +kernel
theorem dX4_stepTo_9 : decode cX4_stepTo 9 = .ok (.invokestatic 36, 3) := by decide +kernel
theorem dX4_stepTo_12 : decode cX4_stepTo 12 = .ok (.isub, 1) := by decide +kernel
theorem dX4_stepTo_13 : decode cX4_stepTo 13 = .ok (.ireturn, 1) := by decide +kernel
theorem dX4_fewAt_0 : decode cX4_fewAt 0 = .ok (.iload_n 1, 1) := by decide +kernel
theorem dX4_fewAt_1 : decode cX4_fewAt 1 = .ok (.ifCond .lt 21, 3) := by decide +kernel
theorem dX4_fewAt_4 : decode cX4_fewAt 4 = .ok (.iload_n 1, 1) := by decide +kernel
theorem dX4_fewAt_5 : decode cX4_fewAt 5 = .ok (.aload_n 0, 1) := by decide +kernel
theorem dX4_fewAt_6 : decode cX4_fewAt 6 = .ok (.getfield 15, 3) := by decide +kernel
theorem dX4_fewAt_9 : decode cX4_fewAt 9 = .ok (.arraylength, 1) := by decide +kernel
theorem dX4_fewAt_10 : decode cX4_fewAt 10 = .ok (.if_icmp .ge 12, 3) := by decide +kernel
theorem dX4_fewAt_13 : decode cX4_fewAt 13 = .ok (.aload_n 0, 1) := by decide +kernel
theorem dX4_fewAt_14 : decode cX4_fewAt 14 = .ok (.getfield 15, 3) := by decide +kernel
theorem dX4_fewAt_17 : decode cX4_fewAt 17 = .ok (.iload_n 1, 1) := by decide +kernel
theorem dX4_fewAt_18 : decode cX4_fewAt 18 = .ok (.iaload, 1) := by decide +kernel
theorem dX4_fewAt_19 : decode cX4_fewAt 19 = .ok (.goto 5, 3) := by decide +kernel
theorem dX4_fewAt_22 : decode cX4_fewAt 22 = .ok (.bipush 13, 2) := by decide +kernel
theorem dX4_fewAt_24 : decode cX4_fewAt 24 = .ok (.ireturn, 1) := by decide +kernel
theorem dX4_fewestOf_0 : decode cX4_fewestOf 0 = .ok (.iconst 0, 1) := by decide +kernel
theorem dX4_fewestOf_1 : decode cX4_fewestOf 1 = .ok (.istore 4, 2) := by decide +kernel
theorem dX4_fewestOf_3 : decode cX4_fewestOf 3 = .ok (.iconst 0, 1) := by decide +kernel
theorem dX4_fewestOf_4 : decode cX4_fewestOf 4 = .ok (.istore 5, 2) := by decide +kernel
theorem dX4_fewestOf_6 : decode cX4_fewestOf 6 = .ok (.iload 5, 2) := by decide +kernel
theorem dX4_fewestOf_8 : decode cX4_fewestOf 8 = .ok (.iconst 4, 1) := by decide +kernel
theorem dX4_fewestOf_9 : decode cX4_fewestOf 9 = .ok (.if_icmp .ge 55, 3) := by decide +kernel
theorem dX4_fewestOf_12 : decode cX4_fewestOf 12 = .ok (.iconst 0, 1) := by decide +kernel
theorem dX4_fewestOf_13 : decode cX4_fewestOf 13 = .ok (.istore 6, 2) := by decide +kernel
theorem dX4_fewestOf_15 : decode cX4_fewestOf 15 = .ok (.iconst 0, 1) := by decide +kernel
theorem dX4_fewestOf_16 : decode cX4_fewestOf 16 = .ok (.istore 7, 2) := by decide +kernel
theorem dX4_fewestOf_18 : decode cX4_fewestOf 18 = .ok (.iload 7, 2) := by decide +kernel
theorem dX4_fewestOf_20 : decode cX4_fewestOf 20 = .ok (.iload_n 3, 1) := by decide +kernel
theorem dX4_fewestOf_21 : decode cX4_fewestOf 21 = .ok (.if_icmp .ge 25, 3) := by decide +kernel
theorem dX4_fewestOf_24 : decode cX4_fewestOf 24 = .ok (.aload_n 1, 1) := by decide +kernel
theorem dX4_fewestOf_25 : decode cX4_fewestOf 25 = .ok (.iload_n 2, 1) := by decide +kernel
theorem dX4_fewestOf_26 : decode cX4_fewestOf 26 = .ok (.iload 7, 2) := by decide +kernel
theorem dX4_fewestOf_28 : decode cX4_fewestOf 28 = .ok (.iadd, 1) := by decide +kernel
theorem dX4_fewestOf_29 : decode cX4_fewestOf 29 = .ok (.invokestatic 55, 3) := by decide +kernel
theorem dX4_fewestOf_32 : decode cX4_fewestOf 32 = .ok (.iload 5, 2) := by decide +kernel
theorem dX4_fewestOf_34 : decode cX4_fewestOf 34 = .ok (.if_icmp .lt 6, 3) := by decide +kernel
theorem dX4_fewestOf_37 : decode cX4_fewestOf 37 = .ok (.iinc 6 1, 3) := by decide +kernel
theorem dX4_fewestOf_40 : decode cX4_fewestOf 40 = .ok (.iinc 7 1, 3) := by decide +kernel
theorem dX4_fewestOf_43 : decode cX4_fewestOf 43 = .ok (.goto (-25), 3) := by decide +kernel
theorem dX4_fewestOf_46 : decode cX4_fewestOf 46 = .ok (.iload 4, 2) := by decide +kernel
theorem dX4_fewestOf_48 : decode cX4_fewestOf 48 = .ok (.iload 5, 2) := by decide +kernel
theorem dX4_fewestOf_50 : decode cX4_fewestOf 50 = .ok (.iload 6, 2) := by decide +kernel
theorem dX4_fewestOf_52 : decode cX4_fewestOf 52 = .ok (.invokestatic 36, 3) := by decide +kernel
theorem dX4_fewestOf_55 : decode cX4_fewestOf 55 = .ok (.iadd, 1) := by decide +kernel
theorem dX4_fewestOf_56 : decode cX4_fewestOf 56 = .ok (.istore 4, 2) := by decide +kernel
theorem dX4_fewestOf_58 : decode cX4_fewestOf 58 = .ok (.iinc 5 1, 3) := by decide +kernel
theorem dX4_fewestOf_61 : decode cX4_fewestOf 61 = .ok (.goto (-55), 3) := by decide +kernel
theorem dX4_fewestOf_64 : decode cX4_fewestOf 64 = .ok (.aload_n 0, 1) := by decide +kernel
theorem dX4_fewestOf_65 : decode cX4_fewestOf 65 = .ok (.iload 4, 2) := by decide +kernel
theorem dX4_fewestOf_67 : decode cX4_fewestOf 67 = .ok (.invokevirtual 39, 3) := by decide +kernel
theorem dX4_fewestOf_70 : decode cX4_fewestOf 70 = .ok (.ireturn, 1) := by decide +kernel
theorem dX4_bestHeap_0 : decode cX4_bestHeap 0 = .ok (.aload_n 0, 1) := by decide +kernel
theorem dX4_bestHeap_1 : decode cX4_bestHeap 1 = .ok (.getfield 22, 3) := by decide +kernel
theorem dX4_bestHeap_4 : decode cX4_bestHeap 4 = .ok (.aload_n 1, 1) := by decide +kernel
theorem dX4_bestHeap_5 : decode cX4_bestHeap 5 = .ok (.iload_n 2, 1) := by decide +kernel
theorem dX4_bestHeap_6 : decode cX4_bestHeap 6 = .ok (.iload_n 3, 1) := by decide +kernel
theorem dX4_bestHeap_7 : decode cX4_bestHeap 7 = .ok (.aload_n 0, 1) := by decide +kernel
theorem dX4_bestHeap_8 : decode cX4_bestHeap 8 = .ok (.aload_n 1, 1) := by decide +kernel
theorem dX4_bestHeap_9 : decode cX4_bestHeap 9 = .ok (.iload_n 2, 1) := by decide +kernel
theorem dX4_bestHeap_10 : decode cX4_bestHeap 10 = .ok (.iload_n 3, 1) := by decide +kernel
theorem dX4_bestHeap_11 : decode cX4_bestHeap 11 = .ok (.invokevirtual 59, 3) := by decide +kernel
theorem dX4_bestHeap_14 : decode cX4_bestHeap 14 = .ok (.iconst 1, 1) := by decide +kernel
theorem dX4_bestHeap_15 : decode cX4_bestHeap 15 = .ok (.isub, 1) := by decide +kernel
theorem dX4_bestHeap_16 : decode cX4_bestHeap 16 = .ok (.invokevirtual 63, 3) := by decide +kernel
theorem dX4_bestHeap_19 : decode cX4_bestHeap 19 = .ok (.ireturn, 1) := by decide +kernel
theorem dX5_init_0 : decode cX5_init 0 = .ok (.aload_n 0, 1) := by decide +kernel
theorem dX5_init_1 : decode cX5_init 1 = .ok (.invokespecial 3, 3) := by decide +kernel
theorem dX5_init_4 : decode cX5_init 4 = .ok (.aload_n 0, 1) := by decide +kernel
theorem dX5_init_5 : decode cX5_init 5 = .ok (.bipush 8, 2) := by decide +kernel
theorem dX5_init_7 : decode cX5_init 7 = .ok (.newarray .int, 2) := by decide +kernel
theorem dX5_init_9 : decode cX5_init 9 = .ok (.putfield 9, 3) := by decide +kernel
theorem dX5_init_12 : decode cX5_init 12 = .ok (.aload_n 0, 1) := by decide +kernel
theorem dX5_init_13 : decode cX5_init 13 = .ok (.bipush 8, 2) := by decide +kernel
theorem dX5_init_15 : decode cX5_init 15 = .ok (.newarray .int, 2) := by decide +kernel
theorem dX5_init_17 : decode cX5_init 17 = .ok (.putfield 15, 3) := by decide +kernel
theorem dX5_init_20 : decode cX5_init 20 = .ok (.aload_n 0, 1) := by decide +kernel
theorem dX5_init_21 : decode cX5_init 21 = .ok (.iconst 0, 1) := by decide +kernel
theorem dX5_init_22 : decode cX5_init 22 = .ok (.putfield 18, 3) := by decide +kernel
theorem dX5_init_25 : decode cX5_init 25 = .ok (.aload_n 0, 1) := by decide +kernel
theorem dX5_init_26 : decode cX5_init 26 = .ok (.aload_n 1, 1) := by decide +kernel
theorem dX5_init_27 : decode cX5_init 27 = .ok (.putfield 22, 3) := by decide +kernel
theorem dX5_init_30 : decode cX5_init 30 = .ok (.aload_n 0, 1) := by decide +kernel
theorem dX5_init_31 : decode cX5_init 31 = .ok (.iconst 1, 1) := by decide +kernel
theorem dX5_init_32 : decode cX5_init 32 = .ok (.iload_n 2, 1) := by decide +kernel
theorem dX5_init_33 : decode cX5_init 33 = .ok (.iconst 4, 1) := by decide +kernel
theorem dX5_init_34 : decode cX5_init 34 = .ok (.invokestatic 25, 3) := by decide +kernel
theorem dX5_init_37 : decode cX5_init 37 = .ok (.invokestatic 31, 3) := by decide +kernel
theorem dX5_init_40 : decode cX5_init 40 = .ok (.putfield 34, 3) := by decide +kernel
theorem dX5_init_43 : decode cX5_init 43 = .ok (.aload_n 0, 1) := by decide +kernel
theorem dX5_init_44 : decode cX5_init 44 = .ok (.iconst 1, 1) := by decide +kernel
theorem dX5_init_45 : decode cX5_init 45 = .ok (.iload_n 3, 1) := by decide +kernel
theorem dX5_init_46 : decode cX5_init 46 = .ok (.iconst 4, 1) := by decide +kernel
theorem dX5_init_47 : decode cX5_init 47 = .ok (.invokestatic 25, 3) := by decide +kernel
theorem dX5_init_50 : decode cX5_init 50 = .ok (.invokestatic 31, 3) := by decide +kernel
theorem dX5_init_53 : decode cX5_init 53 = .ok (.putfield 37, 3) := by decide +kernel
theorem dX5_init_56 : decode cX5_init 56 = .ok (.return_, 1) := by decide +kernel
theorem dX5_walk_0 : decode cX5_walk 0 = .ok (.aload_n 0, 1) := by decide +kernel
theorem dX5_walk_1 : decode cX5_walk 1 = .ok (.iload_n 1, 1) := by decide +kernel
theorem dX5_walk_2 : decode cX5_walk 2 = .ok (.putfield 18, 3) := by decide +kernel
theorem dX5_walk_5 : decode cX5_walk 5 = .ok (.aload_n 0, 1) := by decide +kernel
theorem dX5_walk_6 : decode cX5_walk 6 = .ok (.iconst 3, 1) := by decide +kernel
theorem dX5_walk_7 : decode cX5_walk 7 = .ok (.iconst 0, 1) := by decide +kernel
theorem dX5_walk_8 : decode cX5_walk 8 = .ok (.iconst 0, 1) := by decide +kernel
theorem dX5_walk_9 : decode cX5_walk 9 = .ok (.invokevirtual 40, 3) := by decide +kernel
theorem dX5_walk_12 : decode cX5_walk 12 = .ok (.ireturn, 1) := by decide +kernel
theorem dX5_down_0 : decode cX5_down 0 = .ok (.iload_n 1, 1) := by decide +kernel
theorem dX5_down_1 : decode cX5_down 1 = .ok (.ifCond .lt 8, 3) := by decide +kernel
theorem dX5_down_4 : decode cX5_down 4 = .ok (.iload_n 1, 1) := by decide +kernel
theorem dX5_down_5 : decode cX5_down 5 = .ok (.iconst 4, 1) := by decide +kernel
theorem dX5_down_6 : decode cX5_down 6 = .ok (.if_icmp .lt 5, 3) := by decide +kernel
theorem dX5_down_9 : decode cX5_down 9 = .ok (.iconst 0, 1) := by decide +kernel
theorem dX5_down_10 : decode cX5_down 10 = .ok (.ireturn, 1) := by decide +kernel
theorem dX5_down_11 : decode cX5_down 11 = .ok (.aload_n 0, 1) := by decide +kernel
theorem dX5_down_12 : decode cX5_down 12 = .ok (.getfield 15, 3) := by decide +kernel
theorem dX5_down_15 : decode cX5_down 15 = .ok (.iload_n 1, 1) := by decide +kernel
theorem dX5_down_16 : decode cX5_down 16 = .ok (.iconst 1, 1) := by decide +kernel
theorem dX5_down_17 : decode cX5_down 17 = .ok (.iadd, 1) := by decide +kernel
theorem dX5_down_18 : decode cX5_down 18 = .ok (.iaload, 1) := by decide +kernel
theorem dX5_down_19 : decode cX5_down 19 = .ok (.istore 4, 2) := by decide +kernel
theorem dX5_down_21 : decode cX5_down 21 = .ok (.aload_n 0, 1) := by decide +kernel
theorem dX5_down_22 : decode cX5_down 22 = .ok (.getfield 9, 3) := by decide +kernel
theorem dX5_down_25 : decode cX5_down 25 = .ok (.iload_n 1, 1) := by decide +kernel
theorem dX5_down_26 : decode cX5_down 26 = .ok (.iaload, 1) := by decide +kernel
theorem dX5_down_27 : decode cX5_down 27 = .ok (.aload_n 0, 1) := by decide +kernel
theorem dX5_down_28 : decode cX5_down 28 = .ok (.getfield 9, 3) := by decide +kernel
theorem dX5_down_31 : decode cX5_down 31 = .ok (.iload_n 1, 1) := by decide +kernel
theorem dX5_down_32 : decode cX5_down 32 = .ok (.iconst 1, 1) := by decide +kernel
theorem dX5_down_33 : decode cX5_down 33 = .ok (.iadd, 1) := by decide +kernel
theorem dX5_down_34 : decode cX5_down 34 = .ok (.iaload, 1) := by decide +kernel
theorem dX5_down_35 : decode cX5_down 35 = .ok (.isub, 1) := by decide +kernel
theorem dX5_down_36 : decode cX5_down 36 = .ok (.istore 5, 2) := by decide +kernel
theorem dX5_down_38 : decode cX5_down 38 = .ok (.aload_n 0, 1) := by decide +kernel
theorem dX5_down_39 : decode cX5_down 39 = .ok (.getfield 9, 3) := by decide +kernel
theorem dX5_down_42 : decode cX5_down 42 = .ok (.iload_n 1, 1) := by decide +kernel
theorem dX5_down_43 : decode cX5_down 43 = .ok (.aload_n 0, 1) := by decide +kernel
theorem dX5_down_44 : decode cX5_down 44 = .ok (.getfield 34, 3) := by decide +kernel
theorem dX5_down_47 : decode cX5_down 47 = .ok (.iadd, 1) := by decide +kernel
theorem dX5_down_48 : decode cX5_down 48 = .ok (.iaload, 1) := by decide +kernel
theorem dX5_down_49 : decode cX5_down 49 = .ok (.aload_n 0, 1) := by decide +kernel
theorem dX5_down_50 : decode cX5_down 50 = .ok (.getfield 15, 3) := by decide +kernel
theorem dX5_down_53 : decode cX5_down 53 = .ok (.iload_n 1, 1) := by decide +kernel
theorem dX5_down_54 : decode cX5_down 54 = .ok (.aload_n 0, 1) := by decide +kernel
theorem dX5_down_55 : decode cX5_down 55 = .ok (.getfield 34, 3) := by decide +kernel
theorem dX5_down_58 : decode cX5_down 58 = .ok (.iadd, 1) := by decide +kernel
theorem dX5_down_59 : decode cX5_down 59 = .ok (.iaload, 1) := by decide +kernel
theorem dX5_down_60 : decode cX5_down 60 = .ok (.isub, 1) := by decide +kernel
theorem dX5_down_61 : decode cX5_down 61 = .ok (.istore 6, 2) := by decide +kernel
theorem dX5_down_63 : decode cX5_down 63 = .ok (.aload_n 0, 1) := by decide +kernel
theorem dX5_down_64 : decode cX5_down 64 = .ok (.getfield 9, 3) := by decide +kernel
theorem dX5_down_67 : decode cX5_down 67 = .ok (.iload_n 1, 1) := by decide +kernel
theorem dX5_down_68 : decode cX5_down 68 = .ok (.iaload, 1) := by decide +kernel
theorem dX5_down_69 : decode cX5_down 69 = .ok (.aload_n 0, 1) := by decide +kernel
theorem dX5_down_70 : decode cX5_down 70 = .ok (.getfield 15, 3) := by decide +kernel
theorem dX5_down_73 : decode cX5_down 73 = .ok (.iload_n 1, 1) := by decide +kernel
theorem dX5_down_74 : decode cX5_down 74 = .ok (.aload_n 0, 1) := by decide +kernel
theorem dX5_down_75 : decode cX5_down 75 = .ok (.getfield 37, 3) := by decide +kernel
theorem dX5_down_78 : decode cX5_down 78 = .ok (.iadd, 1) := by decide +kernel
theorem dX5_down_79 : decode cX5_down 79 = .ok (.iaload, 1) := by decide +kernel
theorem dX5_down_80 : decode cX5_down 80 = .ok (.iadd, 1) := by decide +kernel
theorem dX5_down_81 : decode cX5_down 81 = .ok (.istore 7, 2) := by decide +kernel
theorem dX5_down_83 : decode cX5_down 83 = .ok (.iload_n 1, 1) := by decide +kernel
theorem dX5_down_84 : decode cX5_down 84 = .ok (.ifCond .ne 24, 3) := by decide +kernel
theorem dX5_down_87 : decode cX5_down 87 = .ok (.aload_n 0, 1) := by decide +kernel
theorem dX5_down_88 : decode cX5_down 88 = .ok (.iload_n 2, 1) := by decide +kernel
theorem dX5_down_89 : decode cX5_down 89 = .ok (.iload 4, 2) := by decide +kernel
theorem dX5_down_91 : decode cX5_down 91 = .ok (.iadd, 1) := by decide +kernel
theorem dX5_down_92 : decode cX5_down 92 = .ok (.iload 6, 2) := by decide +kernel
theorem dX5_down_94 : decode cX5_down 94 = .ok (.iadd, 1) := by decide +kernel
theorem dX5_down_95 : decode cX5_down 95 = .ok (.iload_n 3, 1) := by decide +kernel
theorem dX5_down_96 : decode cX5_down 96 = .ok (.iload 4, 2) := by decide +kernel
theorem dX5_down_98 : decode cX5_down 98 = .ok (.isub, 1) := by decide +kernel
theorem dX5_down_99 : decode cX5_down 99 = .ok (.iload 7, 2) := by decide +kernel
theorem dX5_down_101 : decode cX5_down 101 = .ok (.iadd, 1) := by decide +kernel
theorem dX5_down_102 : decode cX5_down 102 = .ok (.iload 5, 2) := by decide +kernel
theorem dX5_down_104 : decode cX5_down 104 = .ok (.invokevirtual 44, 3) := by decide +kernel
theorem dX5_down_107 : decode cX5_down 107 = .ok (.ireturn, 1) := by decide +kernel
theorem dX5_down_108 : decode cX5_down 108 = .ok (.iconst 0, 1) := by decide +kernel
theorem dX5_down_109 : decode cX5_down 109 = .ok (.istore 8, 2) := by decide +kernel
theorem dX5_down_111 : decode cX5_down 111 = .ok (.iload 8, 2) := by decide +kernel
theorem dX5_down_113 : decode cX5_down 113 = .ok (.iload 5, 2) := by decide +kernel
theorem dX5_down_115 : decode cX5_down 115 = .ok (.if_icmp .gt 71, 3) := by decide +kernel
theorem dX5_down_118 : decode cX5_down 118 = .ok (.iload 4, 2) := by decide +kernel
theorem dX5_down_120 : decode cX5_down 120 = .ok (.iload 8, 2) := by decide +kernel
theorem dX5_down_122 : decode cX5_down 122 = .ok (.iload 5, 2) := by decide +kernel
theorem dX5_down_124 : decode cX5_down 124 = .ok (.invokestatic 47, 3) := by decide +kernel
theorem dX5_down_127 : decode cX5_down 127 = .ok (.iadd, 1) := by decide +kernel
theorem dX5_down_128 : decode cX5_down 128 = .ok (.istore 9, 2) := by decide +kernel
theorem dX5_down_130 : decode cX5_down 130 = .ok (.aload_n 0, 1) := by decide +kernel
theorem dX5_down_131 : decode cX5_down 131 = .ok (.getfield 15, 3) := by decide +kernel
theorem dX5_down_134 : decode cX5_down 134 = .ok (.iload_n 1, 1) := by decide +kernel
theorem dX5_down_135 : decode cX5_down 135 = .ok (.iload 9, 2) := by decide +kernel
theorem dX5_down_137 : decode cX5_down 137 = .ok (.iastore, 1) := by decide +kernel
theorem dX5_down_138 : decode cX5_down 138 = .ok (.iload_n 2, 1) := by decide +kernel
theorem dX5_down_139 : decode cX5_down 139 = .ok (.iload_n 1, 1) := by decide +kernel
theorem dX5_down_140 : decode cX5_down 140 = .ok (.iload 9, 2) := by decide +kernel
theorem dX5_down_142 : decode cX5_down 142 = .ok (.iload 6, 2) := by decide +kernel
theorem dX5_down_144 : decode cX5_down 144 = .ok (.iadd, 1) := by decide +kernel
theorem dX5_down_145 : decode cX5_down 145 = .ok (.invokestatic 50, 3) := by decide +kernel
theorem dX5_down_148 : decode cX5_down 148 = .ok (.iadd, 1) := by decide +kernel
theorem dX5_down_149 : decode cX5_down 149 = .ok (.istore 10, 2) := by decide +kernel
theorem dX5_down_151 : decode cX5_down 151 = .ok (.iload_n 3, 1) := by decide +kernel
theorem dX5_down_152 : decode cX5_down 152 = .ok (.iload_n 1, 1) := by decide +kernel
theorem dX5_down_153 : decode cX5_down 153 = .ok (.iload 7, 2) := by decide +kernel
theorem dX5_down_155 : decode cX5_down 155 = .ok (.iload 9, 2) := by decide +kernel
theorem dX5_down_157 : decode cX5_down 157 = .ok (.isub, 1) := by decide +kernel
theorem dX5_down_158 : decode cX5_down 158 = .ok (.invokestatic 50, 3) := by decide +kernel
theorem dX5_down_161 : decode cX5_down 161 = .ok (.iadd, 1) := by decide +kernel
theorem dX5_down_162 : decode cX5_down 162 = .ok (.istore 11, 2) := by decide +kernel
theorem dX5_down_164 : decode cX5_down 164 = .ok (.aload_n 0, 1) := by decide +kernel
theorem dX5_down_165 : decode cX5_down 165 = .ok (.iload_n 1, 1) := by decide +kernel
theorem dX5_down_166 : decode cX5_down 166 = .ok (.iconst 1, 1) := by decide +kernel
theorem dX5_down_167 : decode cX5_down 167 = .ok (.isub, 1) := by decide +kernel
theorem dX5_down_168 : decode cX5_down 168 = .ok (.iload 10, 2) := by decide +kernel
theorem dX5_down_170 : decode cX5_down 170 = .ok (.iload 11, 2) := by decide +kernel
theorem dX5_down_172 : decode cX5_down 172 = .ok (.invokevirtual 40, 3) := by decide +kernel
theorem dX5_down_175 : decode cX5_down 175 = .ok (.ifCond .eq 5, 3) := by decide +kernel
theorem dX5_down_178 : decode cX5_down 178 = .ok (.iconst 1, 1) := by decide +kernel
theorem dX5_down_179 : decode cX5_down 179 = .ok (.ireturn, 1) := by decide +kernel
theorem dX5_down_180 : decode cX5_down 180 = .ok (.iinc 8 1, 3) := by decide +kernel
theorem dX5_down_183 : decode cX5_down 183 = .ok (.goto (-72), 3) := by decide +kernel
theorem dX5_down_186 : decode cX5_down 186 = .ok (.iconst 0, 1) := by decide +kernel
theorem dX5_down_187 : decode cX5_down 187 = .ok (.ireturn, 1) := by decide +kernel
theorem dX5_isBeyond_0 : decode cX5_isBeyond 0 = .ok (.iload_n 1, 1) := by decide +kernel
theorem dX5_isBeyond_1 : decode cX5_isBeyond 1 = .ok (.ifCond .lt 25, 3) := by decide +kernel
theorem dX5_isBeyond_4 : decode cX5_isBeyond 4 = .ok (.iload_n 1, 1) := by decide +kernel
theorem dX5_isBeyond_5 : decode cX5_isBeyond 5 = .ok (.aload_n 0, 1) := by decide +kernel
theorem dX5_isBeyond_6 : decode cX5_isBeyond 6 = .ok (.getfield 22, 3) := by decide +kernel
theorem dX5_isBeyond_9 : decode cX5_isBeyond 9 = .ok (.arraylength, 1) := by decide +kernel
theorem dX5_isBeyond_10 : decode cX5_isBeyond 10 = .ok (.if_icmp .ge 16, 3) := by decide +kernel
theorem dX5_isBeyond_13 : decode cX5_isBeyond 13 = .ok (.aload_n 0, 1) := by decide +kernel
theorem dX5_isBeyond_14 : decode cX5_isBeyond 14 = .ok (.getfield 22, 3) := by decide +kernel
theorem dX5_isBeyond_17 : decode cX5_isBeyond 17 = .ok (.iload_n 1, 1) := by decide +kernel
theorem dX5_isBeyond_18 : decode cX5_isBeyond 18 = .ok (.iaload, 1) := by decide +kernel
theorem dX5_isBeyond_19 : decode cX5_isBeyond 19 = .ok (.aload_n 0, 1) := by decide +kernel
theorem dX5_isBeyond_20 : decode cX5_isBeyond 20 = .ok (.getfield 18, 3) := by decide +kernel
theorem dX5_isBeyond_23 : decode cX5_isBeyond 23 = .ok (.if_icmp .le 7, 3) := by decide +kernel
theorem dX5_isBeyond_26 : decode cX5_isBeyond 26 = .ok (.iconst 1, 1) := by decide +kernel
theorem dX5_isBeyond_27 : decode cX5_isBeyond 27 = .ok (.goto 4, 3) := by decide +kernel
theorem dX5_isBeyond_30 : decode cX5_isBeyond 30 = .ok (.iconst 0, 1) := by decide +kernel
theorem dX5_isBeyond_31 : decode cX5_isBeyond 31 = .ok (.ireturn, 1) := by decide +kernel
theorem dX5_outward_0 : decode cX5_outward 0 = .ok (.iload_n 1, 1) := by decide +kernel
theorem dX5_outward_1 : decode cX5_outward 1 = .ok (.iconst 2, 1) := by decide +kernel
theorem dX5_outward_2 : decode cX5_outward 2 = .ok (.idiv, 1) := by decide +kernel
theorem dX5_outward_3 : decode cX5_outward 3 = .ok (.istore_n 2, 1) := by decide +kernel
theorem dX5_outward_4 : decode cX5_outward 4 = .ok (.iload_n 0, 1) := by decide +kernel
theorem dX5_outward_5 : decode cX5_outward 5 = .ok (.iconst 1, 1) := by decide +kernel
theorem dX5_outward_6 : decode cX5_outward 6 = .ok (.iand, 1) := by decide +kernel
theorem dX5_outward_7 : decode cX5_outward 7 = .ok (.iconst 1, 1) := by decide +kernel
theorem dX5_outward_8 : decode cX5_outward 8 = .ok (.if_icmp .ne 13, 3) := by decide +kernel
theorem dX5_outward_11 : decode cX5_outward 11 = .ok (.iload_n 2, 1) := by decide +kernel
theorem dX5_outward_12 : decode cX5_outward 12 = .ok (.iload_n 0, 1) := by decide +kernel
theorem dX5_outward_13 : decode cX5_outward 13 = .ok (.iconst 1, 1) := by decide +kernel
theorem dX5_outward_14 : decode cX5_outward 14 = .ok (.iadd, 1) := by decide +kernel
theorem dX5_outward_15 : decode cX5_outward 15 = .ok (.iconst 2, 1) := by decide +kernel
theorem dX5_outward_16 : decode cX5_outward 16 = .ok (.idiv, 1) := by decide +kernel
theorem dX5_outward_17 : decode cX5_outward 17 = .ok (.iadd, 1) := by decide +kernel
theorem dX5_outward_18 : decode cX5_outward 18 = .ok (.goto 8, 3) := by decide +kernel
theorem dX5_outward_21 : decode cX5_outward 21 = .ok (.iload_n 2, 1) := by decide +kernel
theorem dX5_outward_22 : decode cX5_outward 22 = .ok (.iload_n 0, 1) := by decide +kernel
theorem dX5_outward_23 : decode cX5_outward 23 = .ok (.iconst 2, 1) := by decide +kernel
theorem dX5_outward_24 : decode cX5_outward 24 = .ok (.idiv, 1) := by decide +kernel
theorem dX5_outward_25 : decode cX5_outward 25 = .ok (.isub, 1) := by decide +kernel
theorem dX5_outward_26 : decode cX5_outward 26 = .ok (.ireturn, 1) := by decide +kernel
theorem dX6_init_0 : decode cX6_init 0 = .ok (.aload_n 0, 1) := by decide +kernel
theorem dX6_init_1 : decode cX6_init 1 = .ok (.aload_n 1, 1) := by decide +kernel
theorem dX6_init_2 : decode cX6_init 2 = .ok (.iload_n 2, 1) := by decide +kernel
theorem dX6_init_3 : decode cX6_init 3 = .ok (.iload_n 3, 1) := by decide +kernel
theorem dX6_init_4 : decode cX6_init 4 = .ok (.invokespecial 3, 3) := by decide +kernel
theorem dX6_init_7 : decode cX6_init 7 = .ok (.aload_n 0, 1) := by decide +kernel
theorem dX6_init_8 : decode cX6_init 8 = .ok (.bipush 68, 2) := by decide +kernel
theorem dX6_init_10 : decode cX6_init 10 = .ok (.newarray .int, 2) := by decide +kernel
theorem dX6_init_12 : decode cX6_init 12 = .ok (.putfield 9, 3) := by decide +kernel
theorem dX6_init_15 : decode cX6_init 15 = .ok (.aload_n 0, 1) := by decide +kernel
theorem dX6_init_16 : decode cX6_init 16 = .ok (.iconst 0, 1) := by decide +kernel
theorem dX6_init_17 : decode cX6_init 17 = .ok (.putfield 15, 3) := by decide +kernel
theorem dX6_init_20 : decode cX6_init 20 = .ok (.return_, 1) := by decide +kernel
theorem dX6_find_0 : decode cX6_find 0 = .ok (.iconst 3, 1) := by decide +kernel
theorem dX6_find_1 : decode cX6_find 1 = .ok (.istore 5, 2) := by decide +kernel
theorem dX6_find_3 : decode cX6_find 3 = .ok (.iload 5, 2) := by decide +kernel
theorem dX6_find_5 : decode cX6_find 5 = .ok (.ifCond .lt 35, 3) := by decide +kernel
theorem dX6_find_8 : decode cX6_find 8 = .ok (.aload_n 0, 1) := by decide +kernel
theorem dX6_find_9 : decode cX6_find 9 = .ok (.getfield 19, 3) := by decide +kernel
theorem dX6_find_12 : decode cX6_find 12 = .ok (.iload 5, 2) := by decide +kernel
theorem dX6_find_14 : decode cX6_find 14 = .ok (.aload_n 0, 1) := by decide +kernel
theorem dX6_find_15 : decode cX6_find 15 = .ok (.getfield 19, 3) := by decide +kernel
theorem dX6_find_18 : decode cX6_find 18 = .ok (.iload 5, 2) := by decide +kernel
theorem dX6_find_20 : decode cX6_find 20 = .ok (.iconst 1, 1) := by decide +kernel
theorem dX6_find_21 : decode cX6_find 21 = .ok (.iadd, 1) := by decide +kernel
theorem dX6_find_22 : decode cX6_find 22 = .ok (.iaload, 1) := by decide +kernel
theorem dX6_find_23 : decode cX6_find 23 = .ok (.aload_n 0, 1) := by decide +kernel
theorem dX6_find_24 : decode cX6_find 24 = .ok (.aload_n 1, 1) := by decide +kernel
theorem dX6_find_25 : decode cX6_find 25 = .ok (.iload_n 2, 1) := by decide +kernel
theorem dX6_find_26 : decode cX6_find 26 = .ok (.iload_n 3, 1) := by decide +kernel
theorem dX6_find_27 : decode cX6_find 27 = .ok (.iload 5, 2) := by decide +kernel
theorem dX6_find_29 : decode cX6_find 29 = .ok (.invokevirtual 22, 3) := by decide +kernel
theorem dX6_find_32 : decode cX6_find 32 = .ok (.iadd, 1) := by decide +kernel
theorem dX6_find_33 : decode cX6_find 33 = .ok (.iastore, 1) := by decide +kernel
theorem dX6_find_34 : decode cX6_find 34 = .ok (.iinc 5 (-1), 3) := by decide +kernel
theorem dX6_find_37 : decode cX6_find 37 = .ok (.goto (-34), 3) := by decide +kernel
theorem dX6_find_40 : decode cX6_find 40 = .ok (.aload_n 0, 1) := by decide +kernel
theorem dX6_find_41 : decode cX6_find 41 = .ok (.ldc 26, 2) := by decide +kernel
theorem dX6_find_43 : decode cX6_find 43 = .ok (.putfield 15, 3) := by decide +kernel
theorem dX6_find_46 : decode cX6_find 46 = .ok (.aload_n 0, 1) := by decide +kernel
theorem dX6_find_47 : decode cX6_find 47 = .ok (.iload 4, 2) := by decide +kernel
theorem dX6_find_49 : decode cX6_find 49 = .ok (.invokevirtual 27, 3) := by decide +kernel
theorem dX6_find_52 : decode cX6_find 52 = .ok (.pop, 1) := by decide +kernel
theorem dX6_find_53 : decode cX6_find 53 = .ok (.aload_n 0, 1) := by decide +kernel
theorem dX6_find_54 : decode cX6_find 54 = .ok (.getfield 15, 3) := by decide +kernel
theorem dX6_find_57 : decode cX6_find 57 = .ok (.ireturn, 1) := by decide +kernel
theorem dX6_layLowest_0 : decode cX6_layLowest 0 = .ok (.iconst 0, 1) := by decide +kernel
theorem dX6_layLowest_1 : decode cX6_layLowest 1 = .ok (.istore 5, 2) := by decide +kernel
theorem dX6_layLowest_3 : decode cX6_layLowest 3 = .ok (.iconst 0, 1) := by decide +kernel
theorem dX6_layLowest_4 : decode cX6_layLowest 4 = .ok (.istore 6, 2) := by decide +kernel
theorem dX6_layLowest_6 : decode cX6_layLowest 6 = .ok (.iconst 0, 1) := by decide +kernel
theorem dX6_layLowest_7 : decode cX6_layLowest 7 = .ok (.istore 7, 2) := by decide +kernel
theorem dX6_layLowest_9 : decode cX6_layLowest 9 = .ok (.iload 7, 2) := by decide +kernel
theorem dX6_layLowest_11 : decode cX6_layLowest 11 = .ok (.iload_n 3, 1) := by decide +kernel
theorem dX6_layLowest_12 : decode cX6_layLowest 12 = .ok (.if_icmp .ge 56, 3) := by decide +kernel
theorem dX6_layLowest_15 : decode cX6_layLowest 15 = .ok (.iload 7, 2) := by decide +kernel
theorem dX6_layLowest_17 : decode cX6_layLowest 17 = .ok (.bipush 16, 2) := by decide +kernel
theorem dX6_layLowest_19 : decode cX6_layLowest 19 = .ok (.if_icmp .ge 49, 3) := by decide +kernel
theorem dX6_layLowest_22 : decode cX6_layLowest 22 = .ok (.aload_n 1, 1) := by decide +kernel
theorem dX6_layLowest_23 : decode cX6_layLowest 23 = .ok (.iload_n 2, 1) := by decide +kernel
theorem dX6_layLowest_24 : decode cX6_layLowest 24 = .ok (.iload 7, 2) := by decide +kernel
theorem dX6_layLowest_26 : decode cX6_layLowest 26 = .ok (.iadd, 1) := by decide +kernel
theorem dX6_layLowest_27 : decode cX6_layLowest 27 = .ok (.invokestatic 31, 3) := by decide +kernel
theorem dX6_layLowest_30 : decode cX6_layLowest 30 = .ok (.iload 4, 2) := by decide +kernel
theorem dX6_layLowest_32 : decode cX6_layLowest 32 = .ok (.if_icmp .ne 30, 3) := by decide +kernel
theorem dX6_layLowest_35 : decode cX6_layLowest 35 = .ok (.iinc 5 1, 3) := by decide +kernel
theorem dX6_layLowest_38 : decode cX6_layLowest 38 = .ok (.iload 6, 2) := by decide +kernel
theorem dX6_layLowest_40 : decode cX6_layLowest 40 = .ok (.iconst 1, 1) := by decide +kernel
theorem dX6_layLowest_41 : decode cX6_layLowest 41 = .ok (.iload 7, 2) := by decide +kernel
theorem dX6_layLowest_43 : decode cX6_layLowest 43 = .ok (.ishl, 1) := by decide +kernel
theorem dX6_layLowest_44 : decode cX6_layLowest 44 = .ok (.ior, 1) := by decide +kernel
theorem dX6_layLowest_45 : decode cX6_layLowest 45 = .ok (.istore 6, 2) := by decide +kernel
theorem dX6_layLowest_47 : decode cX6_layLowest 47 = .ok (.aload_n 0, 1) := by decide +kernel
theorem dX6_layLowest_48 : decode cX6_layLowest 48 = .ok (.getfield 9, 3) := by decide +kernel
theorem dX6_layLowest_51 : decode cX6_layLowest 51 = .ok (.iload 4, 2) := by decide +kernel
theorem dX6_layLowest_53 : decode cX6_layLowest 53 = .ok (.bipush 17, 2) := by decide +kernel
theorem dX6_layLowest_55 : decode cX6_layLowest 55 = .ok (.imul, 1) := by decide +kernel
theorem dX6_layLowest_56 : decode cX6_layLowest 56 = .ok (.iload 5, 2) := by decide +kernel
theorem dX6_layLowest_58 : decode cX6_layLowest 58 = .ok (.iadd, 1) := by decide +kernel
theorem dX6_layLowest_59 : decode cX6_layLowest 59 = .ok (.iload 6, 2) := by decide +kernel
theorem dX6_layLowest_61 : decode cX6_layLowest 61 = .ok (.iastore, 1) := by decide +kernel
theorem dX6_layLowest_62 : decode cX6_layLowest 62 = .ok (.iinc 7 1, 3) := by decide +kernel
theorem dX6_layLowest_65 : decode cX6_layLowest 65 = .ok (.goto (-56), 3) := by decide +kernel
theorem dX6_layLowest_68 : decode cX6_layLowest 68 = .ok (.iload 5, 2) := by decide +kernel
theorem dX6_layLowest_70 : decode cX6_layLowest 70 = .ok (.ireturn, 1) := by decide +kernel
theorem dX6_last_0 : decode cX6_last 0 = .ok (.iconst 0, 1) := by decide +kernel
theorem dX6_last_1 : decode cX6_last 1 = .ok (.istore 4, 2) := by decide +kernel
theorem dX6_last_3 : decode cX6_last 3 = .ok (.iload 4, 2) := by decide +kernel
theorem dX6_last_5 : decode cX6_last 5 = .ok (.iload_n 3, 1) := by decide +kernel
theorem dX6_last_6 : decode cX6_last 6 = .ok (.if_icmp .ge 20, 3) := by decide +kernel
theorem dX6_last_9 : decode cX6_last 9 = .ok (.aload_n 0, 1) := by decide +kernel
theorem dX6_last_10 : decode cX6_last 10 = .ok (.iload_n 2, 1) := by decide +kernel
theorem dX6_last_11 : decode cX6_last 11 = .ok (.iload 4, 2) := by decide +kernel
theorem dX6_last_13 : decode cX6_last 13 = .ok (.isub, 1) := by decide +kernel
theorem dX6_last_14 : decode cX6_last 14 = .ok (.invokevirtual 35, 3) := by decide +kernel
theorem dX6_last_17 : decode cX6_last 17 = .ok (.ifCond .eq 9, 3) := by decide +kernel
theorem dX6_last_20 : decode cX6_last 20 = .ok (.iinc 4 1, 3) := by decide +kernel
theorem dX6_last_23 : decode cX6_last 23 = .ok (.goto (-20), 3) := by decide +kernel
theorem dX6_last_26 : decode cX6_last 26 = .ok (.aload_n 0, 1) := by decide +kernel
theorem dX6_last_27 : decode cX6_last 27 = .ok (.iload_n 2, 1) := by decide +kernel
theorem dX6_last_28 : decode cX6_last 28 = .ok (.iload 4, 2) := by decide +kernel
theorem dX6_last_30 : decode cX6_last 30 = .ok (.isub, 1) := by decide +kernel
theorem dX6_last_31 : decode cX6_last 31 = .ok (.invokevirtual 35, 3) := by decide +kernel
theorem dX6_last_34 : decode cX6_last 34 = .ok (.ifCond .ne 44, 3) := by decide +kernel
theorem dX6_last_37 : decode cX6_last 37 = .ok (.aload_n 0, 1) := by decide +kernel
theorem dX6_last_38 : decode cX6_last 38 = .ok (.iload_n 1, 1) := by decide +kernel
theorem dX6_last_39 : decode cX6_last 39 = .ok (.iload 4, 2) := by decide +kernel
theorem dX6_last_41 : decode cX6_last 41 = .ok (.iadd, 1) := by decide +kernel
theorem dX6_last_42 : decode cX6_last 42 = .ok (.invokevirtual 35, 3) := by decide +kernel
theorem dX6_last_45 : decode cX6_last 45 = .ok (.ifCond .ne 33, 3) := by decide +kernel
theorem dX6_last_48 : decode cX6_last 48 = .ok (.aload_n 0, 1) := by decide +kernel
theorem dX6_last_49 : decode cX6_last 49 = .ok (.getfield 38, 3) := by decide +kernel
theorem dX6_last_52 : decode cX6_last 52 = .ok (.iconst 0, 1) := by decide +kernel
theorem dX6_last_53 : decode cX6_last 53 = .ok (.aload_n 0, 1) := by decide +kernel
theorem dX6_last_54 : decode cX6_last 54 = .ok (.getfield 38, 3) := by decide +kernel
theorem dX6_last_57 : decode cX6_last 57 = .ok (.iconst 1, 1) := by decide +kernel
theorem dX6_last_58 : decode cX6_last 58 = .ok (.iaload, 1) := by decide +kernel
theorem dX6_last_59 : decode cX6_last 59 = .ok (.iload 4, 2) := by decide +kernel
theorem dX6_last_61 : decode cX6_last 61 = .ok (.iadd, 1) := by decide +kernel
theorem dX6_last_62 : decode cX6_last 62 = .ok (.iastore, 1) := by decide +kernel
theorem dX6_last_63 : decode cX6_last 63 = .ok (.aload_n 0, 1) := by decide +kernel
theorem dX6_last_64 : decode cX6_last 64 = .ok (.aload_n 0, 1) := by decide +kernel
theorem dX6_last_65 : decode cX6_last 65 = .ok (.getfield 15, 3) := by decide +kernel
theorem dX6_last_68 : decode cX6_last 68 = .ok (.aload_n 0, 1) := by decide +kernel
theorem dX6_last_69 : decode cX6_last 69 = .ok (.invokevirtual 41, 3) := by decide +kernel
theorem dX6_last_72 : decode cX6_last 72 = .ok (.invokestatic 45, 3) := by decide +kernel
theorem dX6_last_75 : decode cX6_last 75 = .ok (.putfield 15, 3) := by decide +kernel
theorem dX6_last_78 : decode cX6_last 78 = .ok (.iconst 0, 1) := by decide +kernel
theorem dX6_last_79 : decode cX6_last 79 = .ok (.ireturn, 1) := by decide +kernel
theorem dX6_lowestTaken_0 : decode cX6_lowestTaken 0 = .ok (.iconst 0, 1) := by decide +kernel
theorem dX6_lowestTaken_1 : decode cX6_lowestTaken 1 = .ok (.istore_n 1, 1) := by decide +kernel
theorem dX6_lowestTaken_2 : decode cX6_lowestTaken 2 = .ok (.iconst 0, 1) := by decide +kernel
theorem dX6_lowestTaken_3 : decode cX6_lowestTaken 3 = .ok (.istore_n 2, 1) := by decide +kernel
theorem dX6_lowestTaken_4 : decode cX6_lowestTaken 4 = .ok (.iload_n 2, 1) := by decide +kernel
theorem dX6_lowestTaken_5 : decode cX6_lowestTaken 5 = .ok (.iconst 4, 1) := by decide +kernel
theorem dX6_lowestTaken_6 : decode cX6_lowestTaken 6 = .ok (.if_icmp .ge 49, 3) := by decide +kernel
theorem dX6_lowestTaken_9 : decode cX6_lowestTaken 9 = .ok (.aload_n 0, 1) := by decide +kernel
theorem dX6_lowestTaken_10 : decode cX6_lowestTaken 10 = .ok (.getfield 38, 3) := by decide +kernel
theorem dX6_lowestTaken_13 : decode cX6_lowestTaken 13 = .ok (.iload_n 2, 1) := by decide +kernel
theorem dX6_lowestTaken_14 : decode cX6_lowestTaken 14 = .ok (.iaload, 1) := by decide +kernel
theorem dX6_lowestTaken_15 : decode cX6_lowestTaken 15 = .ok (.aload_n 0, 1) := by decide +kernel
theorem dX6_lowestTaken_16 : decode cX6_lowestTaken 16 = .ok (.getfield 38, 3) := by decide +kernel
theorem dX6_lowestTaken_19 : decode cX6_lowestTaken 19 = .ok (.iload_n 2, 1) := by decide +kernel
theorem dX6_lowestTaken_20 : decode cX6_lowestTaken 20 = .ok (.iconst 1, 1) := by decide +kernel
theorem dX6_lowestTaken_21 : decode cX6_lowestTaken 21 = .ok (.iadd, 1) := by decide +kernel
theorem dX6_lowestTaken_22 : decode cX6_lowestTaken 22 = .ok (.iaload, 1) := by decide +kernel
theorem dX6_lowestTaken_23 : decode cX6_lowestTaken 23 = .ok (.isub, 1) := by decide +kernel
theorem dX6_lowestTaken_24 : decode cX6_lowestTaken 24 = .ok (.istore_n 3, 1) := by decide +kernel
theorem dX6_lowestTaken_25 : decode cX6_lowestTaken 25 = .ok (.iload_n 3, 1) := by decide +kernel
theorem dX6_lowestTaken_26 : decode cX6_lowestTaken 26 = .ok (.ifCond .le 23, 3) := by decide +kernel
theorem dX6_lowestTaken_29 : decode cX6_lowestTaken 29 = .ok (.iload_n 3, 1) := by decide +kernel
theorem dX6_lowestTaken_30 : decode cX6_lowestTaken 30 = .ok (.bipush 17, 2) := by decide +kernel
theorem dX6_lowestTaken_32 : decode cX6_lowestTaken 32 = .ok (.if_icmp .ge 17, 3) := by decide +kernel
theorem dX6_lowestTaken_35 : decode cX6_lowestTaken 35 = .ok (.iload_n 1, 1) := by decide +kernel
theorem dX6_lowestTaken_36 : decode cX6_lowestTaken 36 = .ok (.aload_n 0, 1) := by decide +kernel
theorem dX6_lowestTaken_37 : decode cX6_lowestTaken 37 = .ok (.getfield 9, 3) := by decide +kernel
theorem dX6_lowestTaken_40 : decode cX6_lowestTaken 40 = .ok (.iload_n 2, 1) := by decide +kernel
theorem dX6_lowestTaken_41 : decode cX6_lowestTaken 41 = .ok (.bipush 17, 2) := by decide +kernel
theorem dX6_lowestTaken_43 : decode cX6_lowestTaken 43 = .ok (.imul, 1) := by decide +kernel
theorem dX6_lowestTaken_44 : decode cX6_lowestTaken 44 = .ok (.iload_n 3, 1) := by decide +kernel
theorem dX6_lowestTaken_45 : decode cX6_lowestTaken 45 = .ok (.iadd, 1) := by decide +kernel
theorem dX6_lowestTaken_46 : decode cX6_lowestTaken 46 = .ok (.iaload, 1) := by decide +kernel
theorem dX6_lowestTaken_47 : decode cX6_lowestTaken 47 = .ok (.ior, 1) := by decide +kernel
theorem dX6_lowestTaken_48 : decode cX6_lowestTaken 48 = .ok (.istore_n 1, 1) := by decide +kernel
theorem dX6_lowestTaken_49 : decode cX6_lowestTaken 49 = .ok (.iinc 2 1, 3) := by decide +kernel
theorem dX6_lowestTaken_52 : decode cX6_lowestTaken 52 = .ok (.goto (-48), 3) := by decide +kernel
theorem dX6_lowestTaken_55 : decode cX6_lowestTaken 55 = .ok (.iload_n 1, 1) := by decide +kernel
theorem dX6_lowestTaken_56 : decode cX6_lowestTaken 56 = .ok (.ireturn, 1) := by decide +kernel
theorem dX7_init_0 : decode cX7_init 0 = .ok (.aload_n 0, 1) := by decide +kernel
theorem dX7_init_1 : decode cX7_init 1 = .ok (.invokespecial 3, 3) := by decide +kernel
theorem dX7_init_4 : decode cX7_init 4 = .ok (.return_, 1) := by decide +kernel
theorem dX7_price_0 : decode cX7_price 0 = .ok (.aload_n 3, 1) := by decide +kernel
theorem dX7_price_1 : decode cX7_price 1 = .ok (.dup, 1) := by decide +kernel
theorem dX7_price_2 : decode cX7_price 2 = .ok (.getfield 9, 3) := by decide +kernel
theorem dX7_price_5 : decode cX7_price 5 = .ok (.lconst 1, 1) := by decide +kernel
theorem dX7_price_6 : decode cX7_price 6 = .ok (.ladd, 1) := by decide +kernel
theorem dX7_price_7 : decode cX7_price 7 = .ok (.putfield 9, 3) := by decide +kernel
theorem dX7_price_10 : decode cX7_price 10 = .ok (.iload_n 1, 1) := by decide +kernel
theorem dX7_price_11 : decode cX7_price 11 = .ok (.iload_n 2, 1) := by decide +kernel
theorem dX7_price_12 : decode cX7_price 12 = .ok (.if_icmp .ne 7, 3) := by decide +kernel
theorem dX7_price_15 : decode cX7_price 15 = .ok (.iconst 0, 1) := by decide +kernel
theorem dX7_price_16 : decode cX7_price 16 = .ok (.goto 5, 3) := by decide +kernel
theorem dX7_price_19 : decode cX7_price 19 = .ok (.bipush 9, 2) := by decide +kernel
theorem dX7_price_21 : decode cX7_price 21 = .ok (.ireturn, 1) := by decide +kernel
theorem dX8_init_0 : decode cX8_init 0 = .ok (.aload_n 0, 1) := by decide +kernel
theorem dX8_init_1 : decode cX8_init 1 = .ok (.invokespecial 3, 3) := by decide +kernel
theorem dX8_init_4 : decode cX8_init 4 = .ok (.aload_n 0, 1) := by decide +kernel
theorem dX8_init_5 : decode cX8_init 5 = .ok (.sipush 4096, 3) := by decide +kernel
theorem dX8_init_8 : decode cX8_init 8 = .ok (.newarray .int, 2) := by decide +kernel
theorem dX8_init_10 : decode cX8_init 10 = .ok (.putfield 9, 3) := by decide +kernel
theorem dX8_init_13 : decode cX8_init 13 = .ok (.aload_n 0, 1) := by decide +kernel
theorem dX8_init_14 : decode cX8_init 14 = .ok (.iconst 0, 1) := by decide +kernel
theorem dX8_init_15 : decode cX8_init 15 = .ok (.putfield 15, 3) := by decide +kernel
theorem dX8_init_18 : decode cX8_init 18 = .ok (.aload_n 0, 1) := by decide +kernel
theorem dX8_init_19 : decode cX8_init 19 = .ok (.iload_n 1, 1) := by decide +kernel
theorem dX8_init_20 : decode cX8_init 20 = .ok (.iconst 3, 1) := by decide +kernel
theorem dX8_init_21 : decode cX8_init 21 = .ok (.invokestatic 19, 3) := by decide +kernel
theorem dX8_init_24 : decode cX8_init 24 = .ok (.putfield 25, 3) := by decide +kernel
theorem dX8_init_27 : decode cX8_init 27 = .ok (.aload_n 0, 1) := by decide +kernel
theorem dX8_init_28 : decode cX8_init 28 = .ok (.iload_n 2, 1) := by decide +kernel
theorem dX8_init_29 : decode cX8_init 29 = .ok (.iconst 3, 1) := by decide +kernel
theorem dX8_init_30 : decode cX8_init 30 = .ok (.invokestatic 19, 3) := by decide +kernel
theorem dX8_init_33 : decode cX8_init 33 = .ok (.putfield 28, 3) := by decide +kernel
theorem dX8_init_36 : decode cX8_init 36 = .ok (.return_, 1) := by decide +kernel
theorem dX8_fewestOf_0 : decode cX8_fewestOf 0 = .ok (.iload_n 1, 1) := by decide +kernel
theorem dX8_fewestOf_1 : decode cX8_fewestOf 1 = .ok (.ifCond .lt 10, 3) := by decide +kernel
theorem dX8_fewestOf_4 : decode cX8_fewestOf 4 = .ok (.iload_n 1, 1) := by decide +kernel
theorem dX8_fewestOf_5 : decode cX8_fewestOf 5 = .ok (.sipush 4096, 3) := by decide +kernel
theorem dX8_fewestOf_8 : decode cX8_fewestOf 8 = .ok (.if_icmp .lt 6, 3) := by decide +kernel
theorem dX8_fewestOf_11 : decode cX8_fewestOf 11 = .ok (.bipush 13, 2) := by decide +kernel
theorem dX8_fewestOf_13 : decode cX8_fewestOf 13 = .ok (.ireturn, 1) := by decide +kernel
theorem dX8_fewestOf_14 : decode cX8_fewestOf 14 = .ok (.aload_n 0, 1) := by decide +kernel
theorem dX8_fewestOf_15 : decode cX8_fewestOf 15 = .ok (.getfield 15, 3) := by decide +kernel
theorem dX8_fewestOf_18 : decode cX8_fewestOf 18 = .ok (.iload_n 1, 1) := by decide +kernel
theorem dX8_fewestOf_19 : decode cX8_fewestOf 19 = .ok (.if_icmp .gt 54, 3) := by decide +kernel
theorem dX8_fewestOf_22 : decode cX8_fewestOf 22 = .ok (.aload_n 0, 1) := by decide +kernel
theorem dX8_fewestOf_23 : decode cX8_fewestOf 23 = .ok (.getfield 15, 3) := by decide +kernel
theorem dX8_fewestOf_26 : decode cX8_fewestOf 26 = .ok (.sipush 4096, 3) := by decide +kernel
theorem dX8_fewestOf_29 : decode cX8_fewestOf 29 = .ok (.if_icmp .ge 44, 3) := by decide +kernel
theorem dX8_fewestOf_32 : decode cX8_fewestOf 32 = .ok (.aload_n 0, 1) := by decide +kernel
theorem dX8_fewestOf_33 : decode cX8_fewestOf 33 = .ok (.getfield 9, 3) := by decide +kernel
theorem dX8_fewestOf_36 : decode cX8_fewestOf 36 = .ok (.aload_n 0, 1) := by decide +kernel
theorem dX8_fewestOf_37 : decode cX8_fewestOf 37 = .ok (.getfield 15, 3) := by decide +kernel
theorem dX8_fewestOf_40 : decode cX8_fewestOf 40 = .ok (.bipush 13, 2) := by decide +kernel
theorem dX8_fewestOf_42 : decode cX8_fewestOf 42 = .ok (.iastore, 1) := by decide +kernel
theorem dX8_fewestOf_43 : decode cX8_fewestOf 43 = .ok (.aload_n 0, 1) := by decide +kernel
theorem dX8_fewestOf_44 : decode cX8_fewestOf 44 = .ok (.getfield 9, 3) := by decide +kernel
theorem dX8_fewestOf_47 : decode cX8_fewestOf 47 = .ok (.aload_n 0, 1) := by decide +kernel
theorem dX8_fewestOf_48 : decode cX8_fewestOf 48 = .ok (.getfield 15, 3) := by decide +kernel
theorem dX8_fewestOf_51 : decode cX8_fewestOf 51 = .ok (.aload_n 0, 1) := by decide +kernel
theorem dX8_fewestOf_52 : decode cX8_fewestOf 52 = .ok (.aload_n 0, 1) := by decide +kernel
theorem dX8_fewestOf_53 : decode cX8_fewestOf 53 = .ok (.getfield 15, 3) := by decide +kernel
theorem dX8_fewestOf_56 : decode cX8_fewestOf 56 = .ok (.invokevirtual 31, 3) := by decide +kernel
theorem dX8_fewestOf_59 : decode cX8_fewestOf 59 = .ok (.iastore, 1) := by decide +kernel
theorem dX8_fewestOf_60 : decode cX8_fewestOf 60 = .ok (.aload_n 0, 1) := by decide +kernel
theorem dX8_fewestOf_61 : decode cX8_fewestOf 61 = .ok (.dup, 1) := by decide +kernel
theorem dX8_fewestOf_62 : decode cX8_fewestOf 62 = .ok (.getfield 15, 3) := by decide +kernel
theorem dX8_fewestOf_65 : decode cX8_fewestOf 65 = .ok (.iconst 1, 1) := by decide +kernel
theorem dX8_fewestOf_66 : decode cX8_fewestOf 66 = .ok (.iadd, 1) := by decide +kernel
theorem dX8_fewestOf_67 : decode cX8_fewestOf 67 = .ok (.putfield 15, 3) := by decide +kernel
theorem dX8_fewestOf_70 : decode cX8_fewestOf 70 = .ok (.goto (-56), 3) := by decide +kernel
theorem dX8_fewestOf_73 : decode cX8_fewestOf 73 = .ok (.aload_n 0, 1) := by decide +kernel
theorem dX8_fewestOf_74 : decode cX8_fewestOf 74 = .ok (.getfield 9, 3) := by decide +kernel
theorem dX8_fewestOf_77 : decode cX8_fewestOf 77 = .ok (.iload_n 1, 1) := by decide +kernel
theorem dX8_fewestOf_78 : decode cX8_fewestOf 78 = .ok (.iaload, 1) := by decide +kernel
theorem dX8_fewestOf_79 : decode cX8_fewestOf 79 = .ok (.ireturn, 1) := by decide +kernel
theorem dX8_learned_0 : decode cX8_learned 0 = .ok (.iload_n 1, 1) := by decide +kernel
theorem dX8_learned_1 : decode cX8_learned 1 = .ok (.invokestatic 35, 3) := by decide +kernel
theorem dX8_learned_4 : decode cX8_learned 4 = .ok (.istore_n 2, 1) := by decide +kernel
theorem dX8_learned_5 : decode cX8_learned 5 = .ok (.iload_n 1, 1) := by decide +kernel
theorem dX8_learned_6 : decode cX8_learned 6 = .ok (.iload_n 2, 1) := by decide +kernel
theorem dX8_learned_7 : decode cX8_learned 7 = .ok (.if_icmp .le 20, 3) := by decide +kernel
theorem dX8_learned_10 : decode cX8_learned 10 = .ok (.aload_n 0, 1) := by decide +kernel
theorem dX8_learned_11 : decode cX8_learned 11 = .ok (.iload_n 1, 1) := by decide +kernel
theorem dX8_learned_12 : decode cX8_learned 12 = .ok (.iload_n 2, 1) := by decide +kernel
theorem dX8_learned_13 : decode cX8_learned 13 = .ok (.iconst 1, 1) := by decide +kernel
theorem dX8_learned_14 : decode cX8_learned 14 = .ok (.isub, 1) := by decide +kernel
theorem dX8_learned_15 : decode cX8_learned 15 = .ok (.iand, 1) := by decide +kernel
theorem dX8_learned_16 : decode cX8_learned 16 = .ok (.iload_n 1, 1) := by decide +kernel
theorem dX8_learned_17 : decode cX8_learned 17 = .ok (.iconst 2, 1) := by decide +kernel
theorem dX8_learned_18 : decode cX8_learned 18 = .ok (.ishr, 1) := by decide +kernel
theorem dX8_learned_19 : decode cX8_learned 19 = .ok (.iload_n 2, 1) := by decide +kernel
theorem dX8_learned_20 : decode cX8_learned 20 = .ok (.ineg, 1) := by decide +kernel
theorem dX8_learned_21 : decode cX8_learned 21 = .ok (.iand, 1) := by decide +kernel
theorem dX8_learned_22 : decode cX8_learned 22 = .ok (.ior, 1) := by decide +kernel
theorem dX8_learned_23 : decode cX8_learned 23 = .ok (.invokevirtual 38, 3) := by decide +kernel
theorem dX8_learned_26 : decode cX8_learned 26 = .ok (.ireturn, 1) := by decide +kernel
theorem dX8_learned_27 : decode cX8_learned 27 = .ok (.iload_n 2, 1) := by decide +kernel
theorem dX8_learned_28 : decode cX8_learned 28 = .ok (.iconst 4, 1) := by decide +kernel
theorem dX8_learned_29 : decode cX8_learned 29 = .ok (.if_icmp .gt 7, 3) := by decide +kernel
theorem dX8_learned_32 : decode cX8_learned 32 = .ok (.iconst 0, 1) := by decide +kernel
theorem dX8_learned_33 : decode cX8_learned 33 = .ok (.goto 9, 3) := by decide +kernel
theorem dX8_learned_36 : decode cX8_learned 36 = .ok (.aload_n 0, 1) := by decide +kernel
theorem dX8_learned_37 : decode cX8_learned 37 = .ok (.iload_n 1, 1) := by decide +kernel
theorem dX8_learned_38 : decode cX8_learned 38 = .ok (.iload_n 2, 1) := by decide +kernel
theorem dX8_learned_39 : decode cX8_learned 39 = .ok (.invokevirtual 41, 3) := by decide +kernel
theorem dX8_learned_42 : decode cX8_learned 42 = .ok (.ireturn, 1) := by decide +kernel
theorem dX8_leastQuestions_0 : decode cX8_leastQuestions 0 = .ok (.iconst 1, 1) := by decide +kernel
theorem dX8_leastQuestions_1 : decode cX8_leastQuestions 1 = .ok (.istore_n 3, 1) := by decide +kernel
theorem dX8_leastQuestions_2 : decode cX8_leastQuestions 2 = .ok (.iconst 1, 1) := by decide +kernel
theorem dX8_leastQuestions_3 : decode cX8_leastQuestions 3 = .ok (.istore 4, 2) := by decide +kernel
theorem dX8_leastQuestions_5 : decode cX8_leastQuestions 5 = .ok (.iload 4, 2) := by decide +kernel
theorem dX8_leastQuestions_7 : decode cX8_leastQuestions 7 = .ok (.iload_n 2, 1) := by decide +kernel
theorem dX8_leastQuestions_8 : decode cX8_leastQuestions 8 = .ok (.if_icmp .ge 25, 3) := by decide +kernel
theorem dX8_leastQuestions_11 : decode cX8_leastQuestions 11 = .ok (.iload_n 3, 1) := by decide +kernel
theorem dX8_leastQuestions_12 : decode cX8_leastQuestions 12 = .ok (.aload_n 0, 1) := by decide +kernel
theorem dX8_leastQuestions_13 : decode cX8_leastQuestions 13 = .ok (.iload_n 1, 1) := by decide +kernel
theorem dX8_leastQuestions_14 : decode cX8_leastQuestions 14 = .ok (.iload 4, 2) := by decide +kernel
theorem dX8_leastQuestions_16 : decode cX8_leastQuestions 16 = .ok (.isub, 1) := by decide +kernel
theorem dX8_leastQuestions_17 : decode cX8_leastQuestions 17 = .ok (.invokevirtual 38, 3) := by decide +kernel
theorem dX8_leastQuestions_20 : decode cX8_leastQuestions 20 = .ok (.invokestatic 44, 3) := by decide +kernel
theorem dX8_leastQuestions_23 : decode cX8_leastQuestions 23 = .ok (.istore_n 3, 1) := by decide +kernel
theorem dX8_leastQuestions_24 : decode cX8_leastQuestions 24 = .ok (.iload 4, 2) := by decide +kernel
theorem dX8_leastQuestions_26 : decode cX8_leastQuestions 26 = .ok (.iconst 2, 1) := by decide +kernel
theorem dX8_leastQuestions_27 : decode cX8_leastQuestions 27 = .ok (.ishl, 1) := by decide +kernel
theorem dX8_leastQuestions_28 : decode cX8_leastQuestions 28 = .ok (.istore 4, 2) := by decide +kernel
theorem dX8_leastQuestions_30 : decode cX8_leastQuestions 30 = .ok (.goto (-25), 3) := by decide +kernel
theorem dX8_leastQuestions_33 : decode cX8_leastQuestions 33 = .ok (.bipush 13, 2) := by decide +kernel
theorem dX8_leastQuestions_35 : decode cX8_leastQuestions 35 = .ok (.istore 4, 2) := by decide +kernel
theorem dX8_leastQuestions_37 : decode cX8_leastQuestions 37 = .ok (.iconst 1, 1) := by decide +kernel
theorem dX8_leastQuestions_38 : decode cX8_leastQuestions 38 = .ok (.istore 5, 2) := by decide +kernel
theorem dX8_leastQuestions_40 : decode cX8_leastQuestions 40 = .ok (.iload 5, 2) := by decide +kernel
theorem dX8_leastQuestions_42 : decode cX8_leastQuestions 42 = .ok (.iload_n 2, 1) := by decide +kernel
theorem dX8_leastQuestions_43 : decode cX8_leastQuestions 43 = .ok (.if_icmp .ge 67, 3) := by decide +kernel
theorem dX8_leastQuestions_46 : decode cX8_leastQuestions 46 = .ok (.iload 4, 2) := by decide +kernel
theorem dX8_leastQuestions_48 : decode cX8_leastQuestions 48 = .ok (.iload_n 3, 1) := by decide +kernel
theorem dX8_leastQuestions_49 : decode cX8_leastQuestions 49 = .ok (.if_icmp .lt 61, 3) := by decide +kernel
theorem dX8_leastQuestions_52 : decode cX8_leastQuestions 52 = .ok (.iconst 0, 1) := by decide +kernel
theorem dX8_leastQuestions_53 : decode cX8_leastQuestions 53 = .ok (.istore 6, 2) := by decide +kernel
theorem dX8_leastQuestions_55 : decode cX8_leastQuestions 55 = .ok (.iload 5, 2) := by decide +kernel
theorem dX8_leastQuestions_57 : decode cX8_leastQuestions 57 = .ok (.istore 7, 2) := by decide +kernel
theorem dX8_leastQuestions_59 : decode cX8_leastQuestions 59 = .ok (.iload 7, 2) := by decide +kernel
theorem dX8_leastQuestions_61 : decode cX8_leastQuestions 61 = .ok (.iload_n 2, 1) := by decide +kernel
theorem dX8_leastQuestions_62 : decode cX8_leastQuestions 62 = .ok (.if_icmp .ge 39, 3) := by decide +kernel
theorem dX8_leastQuestions_65 : decode cX8_leastQuestions 65 = .ok (.iload 4, 2) := by decide +kernel
theorem dX8_leastQuestions_67 : decode cX8_leastQuestions 67 = .ok (.iload_n 3, 1) := by decide +kernel
theorem dX8_leastQuestions_68 : decode cX8_leastQuestions 68 = .ok (.if_icmp .lt 33, 3) := by decide +kernel
theorem dX8_leastQuestions_71 : decode cX8_leastQuestions 71 = .ok (.iload 6, 2) := by decide +kernel
theorem dX8_leastQuestions_73 : decode cX8_leastQuestions 73 = .ok (.iload 7, 2) := by decide +kernel
theorem dX8_leastQuestions_75 : decode cX8_leastQuestions 75 = .ok (.ior, 1) := by decide +kernel
theorem dX8_leastQuestions_76 : decode cX8_leastQuestions 76 = .ok (.istore 6, 2) := by decide +kernel
theorem dX8_leastQuestions_78 : decode cX8_leastQuestions 78 = .ok (.iload 4, 2) := by decide +kernel
theorem dX8_leastQuestions_80 : decode cX8_leastQuestions 80 = .ok (.aload_n 0, 1) := by decide +kernel
theorem dX8_leastQuestions_81 : decode cX8_leastQuestions 81 = .ok (.iload_n 1, 1) := by decide +kernel
theorem dX8_leastQuestions_82 : decode cX8_leastQuestions 82 = .ok (.iload 6, 2) := by decide +kernel
theorem dX8_leastQuestions_84 : decode cX8_leastQuestions 84 = .ok (.invokevirtual 47, 3) := by decide +kernel
theorem dX8_leastQuestions_87 : decode cX8_leastQuestions 87 = .ok (.invokestatic 19, 3) := by decide +kernel
theorem dX8_leastQuestions_90 : decode cX8_leastQuestions 90 = .ok (.istore 4, 2) := by decide +kernel
theorem dX8_leastQuestions_92 : decode cX8_leastQuestions 92 = .ok (.iload 7, 2) := by decide +kernel
theorem dX8_leastQuestions_94 : decode cX8_leastQuestions 94 = .ok (.iconst 2, 1) := by decide +kernel
theorem dX8_leastQuestions_95 : decode cX8_leastQuestions 95 = .ok (.ishl, 1) := by decide +kernel
theorem dX8_leastQuestions_96 : decode cX8_leastQuestions 96 = .ok (.istore 7, 2) := by decide +kernel
theorem dX8_leastQuestions_98 : decode cX8_leastQuestions 98 = .ok (.goto (-39), 3) := by decide +kernel
theorem dX8_leastQuestions_101 : decode cX8_leastQuestions 101 = .ok (.iload 5, 2) := by decide +kernel
theorem dX8_leastQuestions_103 : decode cX8_leastQuestions 103 = .ok (.iconst 2, 1) := by decide +kernel
theorem dX8_leastQuestions_104 : decode cX8_leastQuestions 104 = .ok (.ishl, 1) := by decide +kernel
theorem dX8_leastQuestions_105 : decode cX8_leastQuestions 105 = .ok (.istore 5, 2) := by decide +kernel
theorem dX8_leastQuestions_107 : decode cX8_leastQuestions 107 = .ok (.goto (-67), 3) := by decide +kernel
theorem dX8_leastQuestions_110 : decode cX8_leastQuestions 110 = .ok (.bipush 13, 2) := by decide +kernel
theorem dX8_leastQuestions_112 : decode cX8_leastQuestions 112 = .ok (.iload 4, 2) := by decide +kernel
theorem dX8_leastQuestions_114 : decode cX8_leastQuestions 114 = .ok (.iconst 1, 1) := by decide +kernel
theorem dX8_leastQuestions_115 : decode cX8_leastQuestions 115 = .ok (.iadd, 1) := by decide +kernel
theorem dX8_leastQuestions_116 : decode cX8_leastQuestions 116 = .ok (.invokestatic 19, 3) := by decide +kernel
theorem dX8_leastQuestions_119 : decode cX8_leastQuestions 119 = .ok (.ireturn, 1) := by decide +kernel
theorem dX8_greaterBehind_0 : decode cX8_greaterBehind 0 = .ok (.aload_n 0, 1) := by decide +kernel
theorem dX8_greaterBehind_1 : decode cX8_greaterBehind 1 = .ok (.iload_n 1, 1) := by decide +kernel
theorem dX8_greaterBehind_2 : decode cX8_greaterBehind 2 = .ok (.iload_n 2, 1) := by decide +kernel
theorem dX8_greaterBehind_3 : decode cX8_greaterBehind 3 = .ok (.iconst (-1), 1) := by decide +kernel
theorem dX8_greaterBehind_4 : decode cX8_greaterBehind 4 = .ok (.ixor, 1) := by decide +kernel
theorem dX8_greaterBehind_5 : decode cX8_greaterBehind 5 = .ok (.aload_n 0, 1) := by decide +kernel
theorem dX8_greaterBehind_6 : decode cX8_greaterBehind 6 = .ok (.getfield 25, 3) := by decide +kernel
theorem dX8_greaterBehind_9 : decode cX8_greaterBehind 9 = .ok (.invokestatic 50, 3) := by decide +kernel
theorem dX8_greaterBehind_12 : decode cX8_greaterBehind 12 = .ok (.invokevirtual 38, 3) := by decide +kernel
theorem dX8_greaterBehind_15 : decode cX8_greaterBehind 15 = .ok (.istore_n 3, 1) := by decide +kernel
theorem dX8_greaterBehind_16 : decode cX8_greaterBehind 16 = .ok (.aload_n 0, 1) := by decide +kernel
theorem dX8_greaterBehind_17 : decode cX8_greaterBehind 17 = .ok (.iload_n 1, 1) := by decide +kernel
theorem dX8_greaterBehind_18 : decode cX8_greaterBehind 18 = .ok (.iload_n 2, 1) := by decide +kernel
theorem dX8_greaterBehind_19 : decode cX8_greaterBehind 19 = .ok (.aload_n 0, 1) := by decide +kernel
theorem dX8_greaterBehind_20 : decode cX8_greaterBehind 20 = .ok (.getfield 28, 3) := by decide +kernel
theorem dX8_greaterBehind_23 : decode cX8_greaterBehind 23 = .ok (.invokestatic 50, 3) := by decide +kernel
theorem dX8_greaterBehind_26 : decode cX8_greaterBehind 26 = .ok (.invokevirtual 38, 3) := by decide +kernel
theorem dX8_greaterBehind_29 : decode cX8_greaterBehind 29 = .ok (.istore 4, 2) := by decide +kernel
theorem dX8_greaterBehind_31 : decode cX8_greaterBehind 31 = .ok (.iload_n 3, 1) := by decide +kernel
theorem dX8_greaterBehind_32 : decode cX8_greaterBehind 32 = .ok (.iload 4, 2) := by decide +kernel
theorem dX8_greaterBehind_34 : decode cX8_greaterBehind 34 = .ok (.invokestatic 44, 3) := by decide +kernel
theorem dX8_greaterBehind_37 : decode cX8_greaterBehind 37 = .ok (.ireturn, 1) := by decide +kernel
theorem dX8_charged_0 : decode cX8_charged 0 = .ok (.iload_n 0, 1) := by decide +kernel
theorem dX8_charged_1 : decode cX8_charged 1 = .ok (.istore_n 3, 1) := by decide +kernel
theorem dX8_charged_2 : decode cX8_charged 2 = .ok (.iconst 0, 1) := by decide +kernel
theorem dX8_charged_3 : decode cX8_charged 3 = .ok (.istore 4, 2) := by decide +kernel
theorem dX8_charged_5 : decode cX8_charged 5 = .ok (.iload 4, 2) := by decide +kernel
theorem dX8_charged_7 : decode cX8_charged 7 = .ok (.iload_n 2, 1) := by decide +kernel
theorem dX8_charged_8 : decode cX8_charged 8 = .ok (.if_icmp .ge 18, 3) := by decide +kernel
theorem dX8_charged_11 : decode cX8_charged 11 = .ok (.iload_n 3, 1) := by decide +kernel
theorem dX8_charged_12 : decode cX8_charged 12 = .ok (.iload_n 3, 1) := by decide +kernel
theorem dX8_charged_13 : decode cX8_charged 13 = .ok (.invokestatic 54, 3) := by decide +kernel
theorem dX8_charged_16 : decode cX8_charged 16 = .ok (.iload_n 1, 1) := by decide +kernel
theorem dX8_charged_17 : decode cX8_charged 17 = .ok (.iand, 1) := by decide +kernel
theorem dX8_charged_18 : decode cX8_charged 18 = .ok (.isub, 1) := by decide +kernel
theorem dX8_charged_19 : decode cX8_charged 19 = .ok (.istore_n 3, 1) := by decide +kernel
theorem dX8_charged_20 : decode cX8_charged 20 = .ok (.iinc 4 1, 3) := by decide +kernel
theorem dX8_charged_23 : decode cX8_charged 23 = .ok (.goto (-18), 3) := by decide +kernel
theorem dX8_charged_26 : decode cX8_charged 26 = .ok (.iload_n 3, 1) := by decide +kernel
theorem dX8_charged_27 : decode cX8_charged 27 = .ok (.ireturn, 1) := by decide +kernel
theorem dX8_standing_0 : decode cX8_standing 0 = .ok (.iload_n 0, 1) := by decide +kernel
theorem dX8_standing_1 : decode cX8_standing 1 = .ok (.iload_n 0, 1) := by decide +kernel
theorem dX8_standing_2 : decode cX8_standing 2 = .ok (.iconst 1, 1) := by decide +kernel
theorem dX8_standing_3 : decode cX8_standing 3 = .ok (.ishr, 1) := by decide +kernel
theorem dX8_standing_4 : decode cX8_standing 4 = .ok (.ior, 1) := by decide +kernel
theorem dX8_standing_5 : decode cX8_standing 5 = .ok (.sipush 5461, 3) := by decide +kernel
theorem dX8_standing_8 : decode cX8_standing 8 = .ok (.iand, 1) := by decide +kernel
theorem dX8_standing_9 : decode cX8_standing 9 = .ok (.ireturn, 1) := by decide +kernel
theorem dX8_lowestGap_0 : decode cX8_lowestGap 0 = .ok (.sipush 5461, 3) := by decide +kernel
theorem dX8_lowestGap_3 : decode cX8_lowestGap 3 = .ok (.iload_n 0, 1) := by decide +kernel
theorem dX8_lowestGap_4 : decode cX8_lowestGap 4 = .ok (.invokestatic 54, 3) := by decide +kernel
theorem dX8_lowestGap_7 : decode cX8_lowestGap 7 = .ok (.iconst (-1), 1) := by decide +kernel
theorem dX8_lowestGap_8 : decode cX8_lowestGap 8 = .ok (.ixor, 1) := by decide +kernel
theorem dX8_lowestGap_9 : decode cX8_lowestGap 9 = .ok (.iand, 1) := by decide +kernel
theorem dX8_lowestGap_10 : decode cX8_lowestGap 10 = .ok (.istore_n 1, 1) := by decide +kernel
theorem dX8_lowestGap_11 : decode cX8_lowestGap 11 = .ok (.iload_n 1, 1) := by decide +kernel
theorem dX8_lowestGap_12 : decode cX8_lowestGap 12 = .ok (.iload_n 1, 1) := by decide +kernel
theorem dX8_lowestGap_13 : decode cX8_lowestGap 13 = .ok (.ineg, 1) := by decide +kernel
theorem dX8_lowestGap_14 : decode cX8_lowestGap 14 = .ok (.iand, 1) := by decide +kernel
theorem dX8_lowestGap_15 : decode cX8_lowestGap 15 = .ok (.ireturn, 1) := by decide +kernel
theorem dX8_fewAt_0 : decode cX8_fewAt 0 = .ok (.iload_n 1, 1) := by decide +kernel
theorem dX8_fewAt_1 : decode cX8_fewAt 1 = .ok (.ifCond .lt 19, 3) := by decide +kernel
theorem dX8_fewAt_4 : decode cX8_fewAt 4 = .ok (.iload_n 1, 1) := by decide +kernel
theorem dX8_fewAt_5 : decode cX8_fewAt 5 = .ok (.sipush 4096, 3) := by decide +kernel
theorem dX8_fewAt_8 : decode cX8_fewAt 8 = .ok (.if_icmp .ge 12, 3) := by decide +kernel
theorem dX8_fewAt_11 : decode cX8_fewAt 11 = .ok (.aload_n 0, 1) := by decide +kernel
theorem dX8_fewAt_12 : decode cX8_fewAt 12 = .ok (.getfield 9, 3) := by decide +kernel
theorem dX8_fewAt_15 : decode cX8_fewAt 15 = .ok (.iload_n 1, 1) := by decide +kernel
theorem dX8_fewAt_16 : decode cX8_fewAt 16 = .ok (.iaload, 1) := by decide +kernel
theorem dX8_fewAt_17 : decode cX8_fewAt 17 = .ok (.goto 5, 3) := by decide +kernel
theorem dX8_fewAt_20 : decode cX8_fewAt 20 = .ok (.bipush 13, 2) := by decide +kernel
theorem dX8_fewAt_22 : decode cX8_fewAt 22 = .ok (.ireturn, 1) := by decide +kernel
theorem dX9_init_0 : decode cX9_init 0 = .ok (.aload_n 0, 1) := by decide +kernel
theorem dX9_init_1 : decode cX9_init 1 = .ok (.invokespecial 1, 3) := by decide +kernel
theorem dX9_init_4 : decode cX9_init 4 = .ok (.aload_n 0, 1) := by decide +kernel
theorem dX9_init_5 : decode cX9_init 5 = .ok (.lconst 0, 1) := by decide +kernel
theorem dX9_init_6 : decode cX9_init 6 = .ok (.putfield 7, 3) := by decide +kernel
theorem dX9_init_9 : decode cX9_init 9 = .ok (.return_, 1) := by decide +kernel
theorem dX10_init_0 : decode cX10_init 0 = .ok (.aload_n 0, 1) := by decide +kernel
theorem dX10_init_1 : decode cX10_init 1 = .ok (.invokespecial 3, 3) := by decide +kernel
theorem dX10_init_4 : decode cX10_init 4 = .ok (.return_, 1) := by decide +kernel
theorem dX10_price_0 : decode cX10_price 0 = .ok (.aload_n 3, 1) := by decide +kernel
theorem dX10_price_1 : decode cX10_price 1 = .ok (.dup, 1) := by decide +kernel
theorem dX10_price_2 : decode cX10_price 2 = .ok (.getfield 9, 3) := by decide +kernel
theorem dX10_price_5 : decode cX10_price 5 = .ok (.ldc2_w 15, 3) := by decide +kernel
theorem dX10_price_8 : decode cX10_price 8 = .ok (.ladd, 1) := by decide +kernel
theorem dX10_price_9 : decode cX10_price 9 = .ok (.putfield 9, 3) := by decide +kernel
theorem dX10_price_12 : decode cX10_price 12 = .ok (.aload_n 0, 1) := by decide +kernel
theorem dX10_price_13 : decode cX10_price 13 = .ok (.iload_n 1, 1) := by decide +kernel
theorem dX10_price_14 : decode cX10_price 14 = .ok (.iload_n 2, 1) := by decide +kernel
theorem dX10_price_15 : decode cX10_price 15 = .ok (.aload_n 3, 1) := by decide +kernel
theorem dX10_price_16 : decode cX10_price 16 = .ok (.invokespecial 17, 3) := by decide +kernel
theorem dX10_price_19 : decode cX10_price 19 = .ok (.istore 4, 2) := by decide +kernel
theorem dX10_price_21 : decode cX10_price 21 = .ok (.iload_n 2, 1) := by decide +kernel
theorem dX10_price_22 : decode cX10_price 22 = .ok (.ifCond .eq 12, 3) := by decide +kernel
theorem dX10_price_25 : decode cX10_price 25 = .ok (.iload_n 1, 1) := by decide +kernel
theorem dX10_price_26 : decode cX10_price 26 = .ok (.ifCond .ne 8, 3) := by decide +kernel
theorem dX10_price_29 : decode cX10_price 29 = .ok (.bipush 9, 2) := by decide +kernel
theorem dX10_price_31 : decode cX10_price 31 = .ok (.goto 5, 3) := by decide +kernel
theorem dX10_price_34 : decode cX10_price 34 = .ok (.iload 4, 2) := by decide +kernel
theorem dX10_price_36 : decode cX10_price 36 = .ok (.ireturn, 1) := by decide +kernel
theorem dX11_init_0 : decode cX11_init 0 = .ok (.aload_n 0, 1) := by decide +kernel
theorem dX11_init_1 : decode cX11_init 1 = .ok (.invokespecial 3, 3) := by decide +kernel
theorem dX11_init_4 : decode cX11_init 4 = .ok (.aload_n 0, 1) := by decide +kernel
theorem dX11_init_5 : decode cX11_init 5 = .ok (.iconst 3, 1) := by decide +kernel
theorem dX11_init_6 : decode cX11_init 6 = .ok (.anewarray 9, 3) := by decide +kernel
theorem dX11_init_9 : decode cX11_init 9 = .ok (.dup, 1) := by decide +kernel
theorem dX11_init_10 : decode cX11_init 10 = .ok (.iconst 0, 1) := by decide +kernel
theorem dX11_init_11 : decode cX11_init 11 = .ok (.new 9, 3) := by decide +kernel
theorem dX11_init_14 : decode cX11_init 14 = .ok (.dup, 1) := by decide +kernel
theorem dX11_init_15 : decode cX11_init 15 = .ok (.invokespecial 11, 3) := by decide +kernel
theorem dX11_init_18 : decode cX11_init 18 = .ok (.aastore, 1) := by decide +kernel
theorem dX11_init_19 : decode cX11_init 19 = .ok (.dup, 1) := by decide +kernel
theorem dX11_init_20 : decode cX11_init 20 = .ok (.iconst 1, 1) := by decide +kernel
theorem dX11_init_21 : decode cX11_init 21 = .ok (.new 12, 3) := by decide +kernel
theorem dX11_init_24 : decode cX11_init 24 = .ok (.dup, 1) := by decide +kernel
theorem dX11_init_25 : decode cX11_init 25 = .ok (.invokespecial 14, 3) := by decide +kernel
theorem dX11_init_28 : decode cX11_init 28 = .ok (.aastore, 1) := by decide +kernel
theorem dX11_init_29 : decode cX11_init 29 = .ok (.dup, 1) := by decide +kernel
theorem dX11_init_30 : decode cX11_init 30 = .ok (.iconst 2, 1) := by decide +kernel
theorem dX11_init_31 : decode cX11_init 31 = .ok (.new 15, 3) := by decide +kernel
theorem dX11_init_34 : decode cX11_init 34 = .ok (.dup, 1) := by decide +kernel
theorem dX11_init_35 : decode cX11_init 35 = .ok (.invokespecial 17, 3) := by decide +kernel
theorem dX11_init_38 : decode cX11_init 38 = .ok (.aastore, 1) := by decide +kernel
theorem dX11_init_39 : decode cX11_init 39 = .ok (.putfield 18, 3) := by decide +kernel
theorem dX11_init_42 : decode cX11_init 42 = .ok (.aload_n 0, 1) := by decide +kernel
theorem dX11_init_43 : decode cX11_init 43 = .ok (.new 22, 3) := by decide +kernel
theorem dX11_init_46 : decode cX11_init 46 = .ok (.dup, 1) := by decide +kernel
theorem dX11_init_47 : decode cX11_init 47 = .ok (.invokespecial 24, 3) := by decide +kernel
theorem dX11_init_50 : decode cX11_init 50 = .ok (.putfield 25, 3) := by decide +kernel
theorem dX11_init_53 : decode cX11_init 53 = .ok (.aload_n 0, 1) := by decide +kernel
theorem dX11_init_54 : decode cX11_init 54 = .ok (.new 22, 3) := by decide +kernel
theorem dX11_init_57 : decode cX11_init 57 = .ok (.dup, 1) := by decide +kernel
theorem dX11_init_58 : decode cX11_init 58 = .ok (.invokespecial 24, 3) := by decide +kernel
theorem dX11_init_61 : decode cX11_init 61 = .ok (.putfield 29, 3) := by decide +kernel
theorem dX11_init_64 : decode cX11_init 64 = .ok (.aload_n 0, 1) := by decide +kernel
theorem dX11_init_65 : decode cX11_init 65 = .ok (.iconst 3, 1) := by decide +kernel
theorem dX11_init_66 : decode cX11_init 66 = .ok (.anewarray 32, 3) := by decide +kernel
theorem dX11_init_69 : decode cX11_init 69 = .ok (.putfield 34, 3) := by decide +kernel
theorem dX11_init_72 : decode cX11_init 72 = .ok (.aload_n 0, 1) := by decide +kernel
theorem dX11_init_73 : decode cX11_init 73 = .ok (.iconst 3, 1) := by decide +kernel
theorem dX11_init_74 : decode cX11_init 74 = .ok (.anewarray 38, 3) := by decide +kernel
theorem dX11_init_77 : decode cX11_init 77 = .ok (.putfield 40, 3) := by decide +kernel
theorem dX11_init_80 : decode cX11_init 80 = .ok (.aload_n 0, 1) := by decide +kernel
theorem dX11_init_81 : decode cX11_init 81 = .ok (.new 44, 3) := by decide +kernel
theorem dX11_init_84 : decode cX11_init 84 = .ok (.dup, 1) := by decide +kernel
theorem dX11_init_85 : decode cX11_init 85 = .ok (.invokespecial 46, 3) := by decide +kernel
theorem dX11_init_88 : decode cX11_init 88 = .ok (.putfield 47, 3) := by decide +kernel
theorem dX11_init_91 : decode cX11_init 91 = .ok (.aload_n 0, 1) := by decide +kernel
theorem dX11_init_92 : decode cX11_init 92 = .ok (.new 51, 3) := by decide +kernel
theorem dX11_init_95 : decode cX11_init 95 = .ok (.dup, 1) := by decide +kernel
theorem dX11_init_96 : decode cX11_init 96 = .ok (.invokespecial 53, 3) := by decide +kernel
theorem dX11_init_99 : decode cX11_init 99 = .ok (.putfield 54, 3) := by decide +kernel
theorem dX11_init_102 : decode cX11_init 102 = .ok (.aload_n 0, 1) := by decide +kernel
theorem dX11_init_103 : decode cX11_init 103 = .ok (.iconst 0, 1) := by decide +kernel
theorem dX11_init_104 : decode cX11_init 104 = .ok (.putfield 58, 3) := by decide +kernel
theorem dX11_init_107 : decode cX11_init 107 = .ok (.return_, 1) := by decide +kernel
theorem dX11_begin_0 : decode cX11_begin 0 = .ok (.iload_n 1, 1) := by decide +kernel
theorem dX11_begin_1 : decode cX11_begin 1 = .ok (.invokestatic 62, 3) := by decide +kernel
theorem dX11_begin_4 : decode cX11_begin 4 = .ok (.ifCond .eq 10, 3) := by decide +kernel
theorem dX11_begin_7 : decode cX11_begin 7 = .ok (.iload_n 2, 1) := by decide +kernel
theorem dX11_begin_8 : decode cX11_begin 8 = .ok (.invokestatic 66, 3) := by decide +kernel
theorem dX11_begin_11 : decode cX11_begin 11 = .ok (.ifCond .ne 5, 3) := by decide +kernel
theorem dX11_begin_14 : decode cX11_begin 14 = .ok (.iconst (-1), 1) := by decide +kernel
theorem dX11_begin_15 : decode cX11_begin 15 = .ok (.ireturn, 1) := by decide +kernel
theorem dX11_begin_16 : decode cX11_begin 16 = .ok (.iload_n 1, 1) := by decide +kernel
theorem dX11_begin_17 : decode cX11_begin 17 = .ok (.ifCond .eq 12, 3) := by decide +kernel
theorem dX11_begin_20 : decode cX11_begin 20 = .ok (.iload_n 3, 1) := by decide +kernel
theorem dX11_begin_21 : decode cX11_begin 21 = .ok (.invokestatic 69, 3) := by decide +kernel
theorem dX11_begin_24 : decode cX11_begin 24 = .ok (.ifCond .ne 5, 3) := by decide +kernel
theorem dX11_begin_27 : decode cX11_begin 27 = .ok (.iconst (-1), 1) := by decide +kernel
theorem dX11_begin_28 : decode cX11_begin 28 = .ok (.ireturn, 1) := by decide +kernel
theorem dX11_begin_29 : decode cX11_begin 29 = .ok (.iload_n 1, 1) := by decide +kernel
theorem dX11_begin_30 : decode cX11_begin 30 = .ok (.ifCond .ne 7, 3) := by decide +kernel
theorem dX11_begin_33 : decode cX11_begin 33 = .ok (.iconst 0, 1) := by decide +kernel
theorem dX11_begin_34 : decode cX11_begin 34 = .ok (.goto 4, 3) := by decide +kernel
theorem dX11_begin_37 : decode cX11_begin 37 = .ok (.iload_n 3, 1) := by decide +kernel
theorem dX11_begin_38 : decode cX11_begin 38 = .ok (.istore 4, 2) := by decide +kernel
theorem dX11_begin_40 : decode cX11_begin 40 = .ok (.aload_n 0, 1) := by decide +kernel
theorem dX11_begin_41 : decode cX11_begin 41 = .ok (.getfield 47, 3) := by decide +kernel
theorem dX11_begin_44 : decode cX11_begin 44 = .ok (.iload_n 1, 1) := by decide +kernel
theorem dX11_begin_45 : decode cX11_begin 45 = .ok (.iload_n 2, 1) := by decide +kernel
theorem dX11_begin_46 : decode cX11_begin 46 = .ok (.iload 4, 2) := by decide +kernel
theorem dX11_begin_48 : decode cX11_begin 48 = .ok (.aload_n 0, 1) := by decide +kernel
theorem dX11_begin_49 : decode cX11_begin 49 = .ok (.iload_n 1, 1) := by decide +kernel
theorem dX11_begin_50 : decode cX11_begin 50 = .ok (.invokevirtual 72, 3) := by decide +kernel
theorem dX11_begin_53 : decode cX11_begin 53 = .ok (.aload_n 0, 1) := by decide +kernel
theorem dX11_begin_54 : decode cX11_begin 54 = .ok (.iload_n 1, 1) := by decide +kernel
theorem dX11_begin_55 : decode cX11_begin 55 = .ok (.invokevirtual 76, 3) := by decide +kernel
theorem dX11_begin_58 : decode cX11_begin 58 = .ok (.invokevirtual 79, 3) := by decide +kernel
theorem dX11_begin_61 : decode cX11_begin 61 = .ok (.aload_n 0, 1) := by decide +kernel
theorem dX11_begin_62 : decode cX11_begin 62 = .ok (.iload_n 1, 1) := by decide +kernel
theorem dX11_begin_63 : decode cX11_begin 63 = .ok (.invokevirtual 83, 3) := by decide +kernel
theorem dX11_begin_66 : decode cX11_begin 66 = .ok (.iload_n 2, 1) := by decide +kernel
theorem dX11_begin_67 : decode cX11_begin 67 = .ok (.iload 4, 2) := by decide +kernel
theorem dX11_begin_69 : decode cX11_begin 69 = .ok (.invokevirtual 87, 3) := by decide +kernel
theorem dX11_begin_72 : decode cX11_begin 72 = .ok (.aload_n 0, 1) := by decide +kernel
theorem dX11_begin_73 : decode cX11_begin 73 = .ok (.invokevirtual 91, 3) := by decide +kernel
theorem dX11_begin_76 : decode cX11_begin 76 = .ok (.invokestatic 95, 3) := by decide +kernel
theorem dX11_begin_79 : decode cX11_begin 79 = .ok (.ireturn, 1) := by decide +kernel
theorem dX11_cost_0 : decode cX11_cost 0 = .ok (.iload_n 1, 1) := by decide +kernel
theorem dX11_cost_1 : decode cX11_cost 1 = .ok (.invokestatic 62, 3) := by decide +kernel
theorem dX11_cost_4 : decode cX11_cost 4 = .ok (.ifCond .ne 5, 3) := by decide +kernel
theorem dX11_cost_7 : decode cX11_cost 7 = .ok (.iconst (-1), 1) := by decide +kernel
theorem dX11_cost_8 : decode cX11_cost 8 = .ok (.ireturn, 1) := by decide +kernel
theorem dX11_cost_9 : decode cX11_cost 9 = .ok (.aload_n 0, 1) := by decide +kernel
theorem dX11_cost_10 : decode cX11_cost 10 = .ok (.getfield 18, 3) := by decide +kernel
theorem dX11_cost_13 : decode cX11_cost 13 = .ok (.iload_n 1, 1) := by decide +kernel
theorem dX11_cost_14 : decode cX11_cost 14 = .ok (.aaload, 1) := by decide +kernel
theorem dX11_cost_15 : decode cX11_cost 15 = .ok (.iload_n 2, 1) := by decide +kernel
theorem dX11_cost_16 : decode cX11_cost 16 = .ok (.iload_n 3, 1) := by decide +kernel
theorem dX11_cost_17 : decode cX11_cost 17 = .ok (.aload_n 0, 1) := by decide +kernel
theorem dX11_cost_18 : decode cX11_cost 18 = .ok (.getfield 25, 3) := by decide +kernel
theorem dX11_cost_21 : decode cX11_cost 21 = .ok (.invokevirtual 98, 3) := by decide +kernel
theorem dX11_cost_24 : decode cX11_cost 24 = .ok (.ireturn, 1) := by decide +kernel
theorem dX11_ask_0 : decode cX11_ask 0 = .ok (.iload_n 1, 1) := by decide +kernel
theorem dX11_ask_1 : decode cX11_ask 1 = .ok (.invokestatic 102, 3) := by decide +kernel
theorem dX11_ask_4 : decode cX11_ask 4 = .ok (.ifCond .ne 5, 3) := by decide +kernel
theorem dX11_ask_7 : decode cX11_ask 7 = .ok (.iconst (-1), 1) := by decide +kernel
theorem dX11_ask_8 : decode cX11_ask 8 = .ok (.ireturn, 1) := by decide +kernel
theorem dX11_ask_9 : decode cX11_ask 9 = .ok (.aload_n 0, 1) := by decide +kernel
theorem dX11_ask_10 : decode cX11_ask 10 = .ok (.getfield 47, 3) := by decide +kernel
theorem dX11_ask_13 : decode cX11_ask 13 = .ok (.getfield 105, 3) := by decide +kernel
theorem dX11_ask_16 : decode cX11_ask 16 = .ok (.ifCond .ne 6, 3) := by decide +kernel
theorem dX11_ask_19 : decode cX11_ask 19 = .ok (.bipush (-2), 2) := by decide +kernel
theorem dX11_ask_21 : decode cX11_ask 21 = .ok (.ireturn, 1) := by decide +kernel
theorem dX11_ask_22 : decode cX11_ask 22 = .ok (.aload_n 0, 1) := by decide +kernel
theorem dX11_ask_23 : decode cX11_ask 23 = .ok (.getfield 47, 3) := by decide +kernel
theorem dX11_ask_26 : decode cX11_ask 26 = .ok (.iload_n 1, 1) := by decide +kernel
theorem dX11_ask_27 : decode cX11_ask 27 = .ok (.invokevirtual 109, 3) := by decide +kernel
theorem dX11_ask_30 : decode cX11_ask 30 = .ok (.iload_n 1, 1) := by decide +kernel
theorem dX11_ask_31 : decode cX11_ask 31 = .ok (.if_icmp .eq 5, 3) := by decide +kernel
theorem dX11_ask_34 : decode cX11_ask 34 = .ok (.iconst (-1), 1) := by decide +kernel
theorem dX11_ask_35 : decode cX11_ask 35 = .ok (.ireturn, 1) := by decide +kernel
theorem dX11_ask_36 : decode cX11_ask 36 = .ok (.aload_n 0, 1) := by decide +kernel
theorem dX11_ask_37 : decode cX11_ask 37 = .ok (.getfield 47, 3) := by decide +kernel
theorem dX11_ask_40 : decode cX11_ask 40 = .ok (.iload_n 1, 1) := by decide +kernel
theorem dX11_ask_41 : decode cX11_ask 41 = .ok (.invokevirtual 112, 3) := by decide +kernel
theorem dX11_ask_44 : decode cX11_ask 44 = .ok (.aload_n 0, 1) := by decide +kernel
theorem dX11_ask_45 : decode cX11_ask 45 = .ok (.getfield 47, 3) := by decide +kernel
theorem dX11_ask_48 : decode cX11_ask 48 = .ok (.iload_n 1, 1) := by decide +kernel
theorem dX11_ask_49 : decode cX11_ask 49 = .ok (.invokevirtual 116, 3) := by decide +kernel
theorem dX11_ask_52 : decode cX11_ask 52 = .ok (.ireturn, 1) := by decide +kernel
theorem dX11_answer_0 : decode cX11_answer 0 = .ok (.aload_n 0, 1) := by decide +kernel
theorem dX11_answer_1 : decode cX11_answer 1 = .ok (.getfield 47, 3) := by decide +kernel
theorem dX11_answer_4 : decode cX11_answer 4 = .ok (.getfield 105, 3) := by decide +kernel
theorem dX11_answer_7 : decode cX11_answer 7 = .ok (.ifCond .eq 14, 3) := by decide +kernel
theorem dX11_answer_10 : decode cX11_answer 10 = .ok (.aload_n 0, 1) := by decide +kernel
theorem dX11_answer_11 : decode cX11_answer 11 = .ok (.getfield 47, 3) := by decide +kernel
theorem dX11_answer_14 : decode cX11_answer 14 = .ok (.getfield 119, 3) := by decide +kernel
theorem dX11_answer_17 : decode cX11_answer 17 = .ok (.iconst (-1), 1) := by decide +kernel
theorem dX11_answer_18 : decode cX11_answer 18 = .ok (.if_icmp .ne 6, 3) := by decide +kernel
theorem dX11_answer_21 : decode cX11_answer 21 = .ok (.bipush (-2), 2) := by decide +kernel
theorem dX11_answer_23 : decode cX11_answer 23 = .ok (.ireturn, 1) := by decide +kernel
theorem dX11_answer_24 : decode cX11_answer 24 = .ok (.aload_n 0, 1) := by decide +kernel
theorem dX11_answer_25 : decode cX11_answer 25 = .ok (.getfield 47, 3) := by decide +kernel
theorem dX11_answer_28 : decode cX11_answer 28 = .ok (.aload_n 0, 1) := by decide +kernel
theorem dX11_answer_29 : decode cX11_answer 29 = .ok (.getfield 47, 3) := by decide +kernel
theorem dX11_answer_32 : decode cX11_answer 32 = .ok (.getfield 119, 3) := by decide +kernel
theorem dX11_answer_35 : decode cX11_answer 35 = .ok (.iload_n 1, 1) := by decide +kernel
theorem dX11_answer_36 : decode cX11_answer 36 = .ok (.invokevirtual 122, 3) := by decide +kernel
theorem dX11_answer_39 : decode cX11_answer 39 = .ok (.ireturn, 1) := by decide +kernel
theorem dX11_back_0 : decode cX11_back 0 = .ok (.aload_n 0, 1) := by decide +kernel
theorem dX11_back_1 : decode cX11_back 1 = .ok (.getfield 47, 3) := by decide +kernel
theorem dX11_back_4 : decode cX11_back 4 = .ok (.getfield 105, 3) := by decide +kernel
theorem dX11_back_7 : decode cX11_back 7 = .ok (.ifCond .eq 13, 3) := by decide +kernel
theorem dX11_back_10 : decode cX11_back 10 = .ok (.aload_n 0, 1) := by decide +kernel
theorem dX11_back_11 : decode cX11_back 11 = .ok (.getfield 47, 3) := by decide +kernel
theorem dX11_back_14 : decode cX11_back 14 = .ok (.getfield 126, 3) := by decide +kernel
theorem dX11_back_17 : decode cX11_back 17 = .ok (.ifCond .ne 6, 3) := by decide +kernel
theorem dX11_back_20 : decode cX11_back 20 = .ok (.bipush (-2), 2) := by decide +kernel
theorem dX11_back_22 : decode cX11_back 22 = .ok (.ireturn, 1) := by decide +kernel
theorem dX11_back_23 : decode cX11_back 23 = .ok (.aload_n 0, 1) := by decide +kernel
theorem dX11_back_24 : decode cX11_back 24 = .ok (.getfield 47, 3) := by decide +kernel
theorem dX11_back_27 : decode cX11_back 27 = .ok (.invokevirtual 129, 3) := by decide +kernel
theorem dX11_back_30 : decode cX11_back 30 = .ok (.aload_n 0, 1) := by decide +kernel
theorem dX11_back_31 : decode cX11_back 31 = .ok (.dup, 1) := by decide +kernel
theorem dX11_back_32 : decode cX11_back 32 = .ok (.getfield 58, 3) := by decide +kernel
theorem dX11_back_35 : decode cX11_back 35 = .ok (.iconst 1, 1) := by decide +kernel
theorem dX11_back_36 : decode cX11_back 36 = .ok (.iadd, 1) := by decide +kernel
theorem dX11_back_37 : decode cX11_back 37 = .ok (.putfield 58, 3) := by decide +kernel
theorem dX11_back_40 : decode cX11_back 40 = .ok (.aload_n 0, 1) := by decide +kernel
theorem dX11_back_41 : decode cX11_back 41 = .ok (.getfield 47, 3) := by decide +kernel
theorem dX11_back_44 : decode cX11_back 44 = .ok (.getfield 126, 3) := by decide +kernel
theorem dX11_back_47 : decode cX11_back 47 = .ok (.ireturn, 1) := by decide +kernel
theorem dX11_left_0 : decode cX11_left 0 = .ok (.iload_n 1, 1) := by decide +kernel
theorem dX11_left_1 : decode cX11_left 1 = .ok (.invokestatic 132, 3) := by decide +kernel
theorem dX11_left_4 : decode cX11_left 4 = .ok (.ifCond .ne 6, 3) := by decide +kernel
theorem dX11_left_7 : decode cX11_left 7 = .ok (.bipush (-2), 2) := by decide +kernel
theorem dX11_left_9 : decode cX11_left 9 = .ok (.ireturn, 1) := by decide +kernel
theorem dX11_left_10 : decode cX11_left 10 = .ok (.aload_n 0, 1) := by decide +kernel
theorem dX11_left_11 : decode cX11_left 11 = .ok (.getfield 47, 3) := by decide +kernel
theorem dX11_left_14 : decode cX11_left 14 = .ok (.getfield 105, 3) := by decide +kernel
theorem dX11_left_17 : decode cX11_left 17 = .ok (.ifCond .ne 6, 3) := by decide +kernel
theorem dX11_left_20 : decode cX11_left 20 = .ok (.bipush (-3), 2) := by decide +kernel
theorem dX11_left_22 : decode cX11_left 22 = .ok (.ireturn, 1) := by decide +kernel
theorem dX11_left_23 : decode cX11_left 23 = .ok (.iload_n 1, 1) := by decide +kernel
theorem dX11_left_24 : decode cX11_left 24 = .ok (.aload_n 0, 1) := by decide +kernel
theorem dX11_left_25 : decode cX11_left 25 = .ok (.getfield 47, 3) := by decide +kernel
theorem dX11_left_28 : decode cX11_left 28 = .ok (.getfield 135, 3) := by decide +kernel
theorem dX11_left_31 : decode cX11_left 31 = .ok (.if_icmp .ge 14, 3) := by decide +kernel
theorem dX11_left_34 : decode cX11_left 34 = .ok (.aload_n 0, 1) := by decide +kernel
theorem dX11_left_35 : decode cX11_left 35 = .ok (.getfield 47, 3) := by decide +kernel
theorem dX11_left_38 : decode cX11_left 38 = .ok (.iload_n 1, 1) := by decide +kernel
theorem dX11_left_39 : decode cX11_left 39 = .ok (.invokevirtual 138, 3) := by decide +kernel
theorem dX11_left_42 : decode cX11_left 42 = .ok (.goto 5, 3) := by decide +kernel
theorem dX11_left_45 : decode cX11_left 45 = .ok (.bipush (-2), 2) := by decide +kernel
theorem dX11_left_47 : decode cX11_left 47 = .ok (.ireturn, 1) := by decide +kernel
theorem dX11_state_0 : decode cX11_state 0 = .ok (.iload_n 1, 1) := by decide +kernel
theorem dX11_state_1 : decode cX11_state 1 = .ok (.invokestatic 69, 3) := by decide +kernel
theorem dX11_state_4 : decode cX11_state 4 = .ok (.ifCond .ne 5, 3) := by decide +kernel
theorem dX11_state_7 : decode cX11_state 7 = .ok (.iconst (-1), 1) := by decide +kernel
theorem dX11_state_8 : decode cX11_state 8 = .ok (.ireturn, 1) := by decide +kernel
theorem dX11_state_9 : decode cX11_state 9 = .ok (.aload_n 0, 1) := by decide +kernel
theorem dX11_state_10 : decode cX11_state 10 = .ok (.getfield 47, 3) := by decide +kernel
theorem dX11_state_13 : decode cX11_state 13 = .ok (.getfield 105, 3) := by decide +kernel
theorem dX11_state_16 : decode cX11_state 16 = .ok (.ifCond .eq 14, 3) := by decide +kernel
theorem dX11_state_19 : decode cX11_state 19 = .ok (.aload_n 0, 1) := by decide +kernel
theorem dX11_state_20 : decode cX11_state 20 = .ok (.getfield 47, 3) := by decide +kernel
theorem dX11_state_23 : decode cX11_state 23 = .ok (.iload_n 1, 1) := by decide +kernel
theorem dX11_state_24 : decode cX11_state 24 = .ok (.invokevirtual 141, 3) := by decide +kernel
theorem dX11_state_27 : decode cX11_state 27 = .ok (.goto 5, 3) := by decide +kernel
theorem dX11_state_30 : decode cX11_state 30 = .ok (.bipush (-2), 2) := by decide +kernel
theorem dX11_state_32 : decode cX11_state 32 = .ok (.ireturn, 1) := by decide +kernel
theorem dX11_found_0 : decode cX11_found 0 = .ok (.aload_n 0, 1) := by decide +kernel
theorem dX11_found_1 : decode cX11_found 1 = .ok (.getfield 47, 3) := by decide +kernel
theorem dX11_found_4 : decode cX11_found 4 = .ok (.getfield 105, 3) := by decide +kernel
theorem dX11_found_7 : decode cX11_found 7 = .ok (.ifCond .ne 6, 3) := by decide +kernel
theorem dX11_found_10 : decode cX11_found 10 = .ok (.bipush (-2), 2) := by decide +kernel
theorem dX11_found_12 : decode cX11_found 12 = .ok (.ireturn, 1) := by decide +kernel
theorem dX11_found_13 : decode cX11_found 13 = .ok (.bipush (-9), 2) := by decide +kernel
theorem dX11_found_15 : decode cX11_found 15 = .ok (.istore_n 1, 1) := by decide +kernel
theorem dX11_found_16 : decode cX11_found 16 = .ok (.iconst 0, 1) := by decide +kernel
theorem dX11_found_17 : decode cX11_found 17 = .ok (.istore_n 2, 1) := by decide +kernel
theorem dX11_found_18 : decode cX11_found 18 = .ok (.iconst 0, 1) := by decide +kernel
theorem dX11_found_19 : decode cX11_found 19 = .ok (.istore_n 3, 1) := by decide +kernel
theorem dX11_found_20 : decode cX11_found 20 = .ok (.iload_n 3, 1) := by decide +kernel
theorem dX11_found_21 : decode cX11_found 21 = .ok (.aload_n 0, 1) := by decide +kernel
theorem dX11_found_22 : decode cX11_found 22 = .ok (.getfield 47, 3) := by decide +kernel
theorem dX11_found_25 : decode cX11_found 25 = .ok (.getfield 135, 3) := by decide +kernel
theorem dX11_found_28 : decode cX11_found 28 = .ok (.if_icmp .ge 26, 3) := by decide +kernel
theorem dX11_found_31 : decode cX11_found 31 = .ok (.aload_n 0, 1) := by decide +kernel
theorem dX11_found_32 : decode cX11_found 32 = .ok (.getfield 47, 3) := by decide +kernel
theorem dX11_found_35 : decode cX11_found 35 = .ok (.iload_n 3, 1) := by decide +kernel
theorem dX11_found_36 : decode cX11_found 36 = .ok (.invokevirtual 138, 3) := by decide +kernel
theorem dX11_found_39 : decode cX11_found 39 = .ok (.iconst (-1), 1) := by decide +kernel
theorem dX11_found_40 : decode cX11_found 40 = .ok (.if_icmp .eq 8, 3) := by decide +kernel
theorem dX11_found_43 : decode cX11_found 43 = .ok (.iload_n 3, 1) := by decide +kernel
theorem dX11_found_44 : decode cX11_found 44 = .ok (.istore_n 1, 1) := by decide +kernel
theorem dX11_found_45 : decode cX11_found 45 = .ok (.iinc 2 1, 3) := by decide +kernel
theorem dX11_found_48 : decode cX11_found 48 = .ok (.iinc 3 1, 3) := by decide +kernel
theorem dX11_found_51 : decode cX11_found 51 = .ok (.goto (-31), 3) := by decide +kernel
theorem dX11_found_54 : decode cX11_found 54 = .ok (.iload_n 2, 1) := by decide +kernel
theorem dX11_found_55 : decode cX11_found 55 = .ok (.iconst 1, 1) := by decide +kernel
theorem dX11_found_56 : decode cX11_found 56 = .ok (.if_icmp .ne 7, 3) := by decide +kernel
theorem dX11_found_59 : decode cX11_found 59 = .ok (.iload_n 1, 1) := by decide +kernel
theorem dX11_found_60 : decode cX11_found 60 = .ok (.goto 5, 3) := by decide +kernel
theorem dX11_found_63 : decode cX11_found 63 = .ok (.bipush (-9), 2) := by decide +kernel
theorem dX11_found_65 : decode cX11_found 65 = .ok (.ireturn, 1) := by decide +kernel
theorem dX11_fewest_0 : decode cX11_fewest 0 = .ok (.aload_n 0, 1) := by decide +kernel
theorem dX11_fewest_1 : decode cX11_fewest 1 = .ok (.getfield 47, 3) := by decide +kernel
theorem dX11_fewest_4 : decode cX11_fewest 4 = .ok (.getfield 105, 3) := by decide +kernel
theorem dX11_fewest_7 : decode cX11_fewest 7 = .ok (.ifCond .eq 13, 3) := by decide +kernel
theorem dX11_fewest_10 : decode cX11_fewest 10 = .ok (.aload_n 0, 1) := by decide +kernel
theorem dX11_fewest_11 : decode cX11_fewest 11 = .ok (.invokevirtual 91, 3) := by decide +kernel
theorem dX11_fewest_14 : decode cX11_fewest 14 = .ok (.invokestatic 95, 3) := by decide +kernel
theorem dX11_fewest_17 : decode cX11_fewest 17 = .ok (.goto 5, 3) := by decide +kernel
theorem dX11_fewest_20 : decode cX11_fewest 20 = .ok (.bipush (-2), 2) := by decide +kernel
theorem dX11_fewest_22 : decode cX11_fewest 22 = .ok (.ireturn, 1) := by decide +kernel
theorem dX11_spans_0 : decode cX11_spans 0 = .ok (.aload_n 0, 1) := by decide +kernel
theorem dX11_spans_1 : decode cX11_spans 1 = .ok (.getfield 47, 3) := by decide +kernel
theorem dX11_spans_4 : decode cX11_spans 4 = .ok (.getfield 105, 3) := by decide +kernel
theorem dX11_spans_7 : decode cX11_spans 7 = .ok (.ifCond .ne 6, 3) := by decide +kernel
theorem dX11_spans_10 : decode cX11_spans 10 = .ok (.bipush (-2), 2) := by decide +kernel
theorem dX11_spans_12 : decode cX11_spans 12 = .ok (.ireturn, 1) := by decide +kernel
theorem dX11_spans_13 : decode cX11_spans 13 = .ok (.aload_n 0, 1) := by decide +kernel
theorem dX11_spans_14 : decode cX11_spans 14 = .ok (.getfield 47, 3) := by decide +kernel
theorem dX11_spans_17 : decode cX11_spans 17 = .ok (.getfield 135, 3) := by decide +kernel
theorem dX11_spans_20 : decode cX11_spans 20 = .ok (.bipush 6, 2) := by decide +kernel
theorem dX11_spans_22 : decode cX11_spans 22 = .ok (.if_icmp .gt 14, 3) := by decide +kernel
theorem dX11_spans_25 : decode cX11_spans 25 = .ok (.aload_n 0, 1) := by decide +kernel
theorem dX11_spans_26 : decode cX11_spans 26 = .ok (.getfield 47, 3) := by decide +kernel
theorem dX11_spans_29 : decode cX11_spans 29 = .ok (.getfield 144, 3) := by decide +kernel
theorem dX11_spans_32 : decode cX11_spans 32 = .ok (.iconst 2, 1) := by decide +kernel
theorem dX11_spans_33 : decode cX11_spans 33 = .ok (.if_icmp .le 5, 3) := by decide +kernel
theorem dX11_spans_36 : decode cX11_spans 36 = .ok (.iconst (-1), 1) := by decide +kernel
theorem dX11_spans_37 : decode cX11_spans 37 = .ok (.ireturn, 1) := by decide +kernel
theorem dX11_spans_38 : decode cX11_spans 38 = .ok (.aload_n 0, 1) := by decide +kernel
theorem dX11_spans_39 : decode cX11_spans 39 = .ok (.aload_n 0, 1) := by decide +kernel
theorem dX11_spans_40 : decode cX11_spans 40 = .ok (.getfield 47, 3) := by decide +kernel
theorem dX11_spans_43 : decode cX11_spans 43 = .ok (.getfield 147, 3) := by decide +kernel
theorem dX11_spans_46 : decode cX11_spans 46 = .ok (.invokevirtual 150, 3) := by decide +kernel
theorem dX11_spans_49 : decode cX11_spans 49 = .ok (.aload_n 0, 1) := by decide +kernel
theorem dX11_spans_50 : decode cX11_spans 50 = .ok (.getfield 47, 3) := by decide +kernel
theorem dX11_spans_53 : decode cX11_spans 53 = .ok (.invokevirtual 154, 3) := by decide +kernel
theorem dX11_spans_56 : decode cX11_spans 56 = .ok (.invokevirtual 157, 3) := by decide +kernel
theorem dX11_spans_59 : decode cX11_spans 59 = .ok (.invokestatic 95, 3) := by decide +kernel
theorem dX11_spans_62 : decode cX11_spans 62 = .ok (.ireturn, 1) := by decide +kernel
theorem dX11_weight_0 : decode cX11_weight 0 = .ok (.iload_n 1, 1) := by decide +kernel
theorem dX11_weight_1 : decode cX11_weight 1 = .ok (.ifCond .lt 30, 3) := by decide +kernel
theorem dX11_weight_4 : decode cX11_weight 4 = .ok (.iload_n 1, 1) := by decide +kernel
theorem dX11_weight_5 : decode cX11_weight 5 = .ok (.bipush 20, 2) := by decide +kernel
theorem dX11_weight_7 : decode cX11_weight 7 = .ok (.if_icmp .gt 24, 3) := by decide +kernel
theorem dX11_weight_10 : decode cX11_weight 10 = .ok (.aload_n 0, 1) := by decide +kernel
theorem dX11_weight_11 : decode cX11_weight 11 = .ok (.getfield 47, 3) := by decide +kernel
theorem dX11_weight_14 : decode cX11_weight 14 = .ok (.getfield 105, 3) := by decide +kernel
theorem dX11_weight_17 : decode cX11_weight 17 = .ok (.ifCond .eq 14, 3) := by decide +kernel
theorem dX11_weight_20 : decode cX11_weight 20 = .ok (.aload_n 0, 1) := by decide +kernel
theorem dX11_weight_21 : decode cX11_weight 21 = .ok (.getfield 47, 3) := by decide +kernel
theorem dX11_weight_24 : decode cX11_weight 24 = .ok (.getfield 147, 3) := by decide +kernel
theorem dX11_weight_27 : decode cX11_weight 27 = .ok (.iconst 1, 1) := by decide +kernel
theorem dX11_weight_28 : decode cX11_weight 28 = .ok (.if_icmp .eq 7, 3) := by decide +kernel
theorem dX11_weight_31 : decode cX11_weight 31 = .ok (.ldc2_w 160, 3) := by decide +kernel
theorem dX11_weight_34 : decode cX11_weight 34 = .ok (.lreturn, 1) := by decide +kernel
theorem dX11_weight_35 : decode cX11_weight 35 = .ok (.lconst 0, 1) := by decide +kernel
theorem dX11_weight_36 : decode cX11_weight 36 = .ok (.lstore_n 2, 1) := by decide +kernel
theorem dX11_weight_37 : decode cX11_weight 37 = .ok (.iconst 0, 1) := by decide +kernel
theorem dX11_weight_38 : decode cX11_weight 38 = .ok (.istore 4, 2) := by decide +kernel
theorem dX11_weight_40 : decode cX11_weight 40 = .ok (.iload 4, 2) := by decide +kernel
theorem dX11_weight_42 : decode cX11_weight 42 = .ok (.aload_n 0, 1) := by decide +kernel
theorem dX11_weight_43 : decode cX11_weight 43 = .ok (.getfield 47, 3) := by decide +kernel
theorem dX11_weight_46 : decode cX11_weight 46 = .ok (.getfield 135, 3) := by decide +kernel
theorem dX11_weight_49 : decode cX11_weight 49 = .ok (.if_icmp .ge 25, 3) := by decide +kernel
theorem dX11_weight_52 : decode cX11_weight 52 = .ok (.lload_n 2, 1) := by decide +kernel
theorem dX11_weight_53 : decode cX11_weight 53 = .ok (.iload_n 1, 1) := by decide +kernel
theorem dX11_weight_54 : decode cX11_weight 54 = .ok (.aload_n 0, 1) := by decide +kernel
theorem dX11_weight_55 : decode cX11_weight 55 = .ok (.getfield 47, 3) := by decide +kernel
theorem dX11_weight_58 : decode cX11_weight 58 = .ok (.iload 4, 2) := by decide +kernel
theorem dX11_weight_60 : decode cX11_weight 60 = .ok (.invokevirtual 138, 3) := by decide +kernel
theorem dX11_weight_63 : decode cX11_weight 63 = .ok (.invokestatic 162, 3) := by decide +kernel
theorem dX11_weight_66 : decode cX11_weight 66 = .ok (.ladd, 1) := by decide +kernel
theorem dX11_weight_67 : decode cX11_weight 67 = .ok (.lstore_n 2, 1) := by decide +kernel
theorem dX11_weight_68 : decode cX11_weight 68 = .ok (.iinc 4 1, 3) := by decide +kernel
theorem dX11_weight_71 : decode cX11_weight 71 = .ok (.goto (-31), 3) := by decide +kernel
theorem dX11_weight_74 : decode cX11_weight 74 = .ok (.lload_n 2, 1) := by decide +kernel
theorem dX11_weight_75 : decode cX11_weight 75 = .ok (.lreturn, 1) := by decide +kernel
theorem dX11_best_0 : decode cX11_best 0 = .ok (.aload_n 0, 1) := by decide +kernel
theorem dX11_best_1 : decode cX11_best 1 = .ok (.getfield 47, 3) := by decide +kernel
theorem dX11_best_4 : decode cX11_best 4 = .ok (.getfield 105, 3) := by decide +kernel
theorem dX11_best_7 : decode cX11_best 7 = .ok (.ifCond .ne 6, 3) := by decide +kernel
theorem dX11_best_10 : decode cX11_best 10 = .ok (.bipush (-2), 2) := by decide +kernel
theorem dX11_best_12 : decode cX11_best 12 = .ok (.ireturn, 1) := by decide +kernel
theorem dX11_best_13 : decode cX11_best 13 = .ok (.aload_n 0, 1) := by decide +kernel
theorem dX11_best_14 : decode cX11_best 14 = .ok (.invokevirtual 91, 3) := by decide +kernel
theorem dX11_best_17 : decode cX11_best 17 = .ok (.istore_n 1, 1) := by decide +kernel
theorem dX11_best_18 : decode cX11_best 18 = .ok (.iload_n 1, 1) := by decide +kernel
theorem dX11_best_19 : decode cX11_best 19 = .ok (.ifCond .eq 9, 3) := by decide +kernel
theorem dX11_best_22 : decode cX11_best 22 = .ok (.iload_n 1, 1) := by decide +kernel
theorem dX11_best_23 : decode cX11_best 23 = .ok (.bipush 12, 2) := by decide +kernel
theorem dX11_best_25 : decode cX11_best 25 = .ok (.if_icmp .le 6, 3) := by decide +kernel
theorem dX11_best_28 : decode cX11_best 28 = .ok (.bipush (-2), 2) := by decide +kernel
theorem dX11_best_30 : decode cX11_best 30 = .ok (.ireturn, 1) := by decide +kernel
theorem dX11_best_31 : decode cX11_best 31 = .ok (.aload_n 0, 1) := by decide +kernel
theorem dX11_best_32 : decode cX11_best 32 = .ok (.aload_n 0, 1) := by decide +kernel
theorem dX11_best_33 : decode cX11_best 33 = .ok (.getfield 47, 3) := by decide +kernel
theorem dX11_best_36 : decode cX11_best 36 = .ok (.getfield 147, 3) := by decide +kernel
theorem dX11_best_39 : decode cX11_best 39 = .ok (.invokevirtual 83, 3) := by decide +kernel
theorem dX11_best_42 : decode cX11_best 42 = .ok (.aload_n 0, 1) := by decide +kernel
theorem dX11_best_43 : decode cX11_best 43 = .ok (.getfield 47, 3) := by decide +kernel
theorem dX11_best_46 : decode cX11_best 46 = .ok (.getfield 166, 3) := by decide +kernel
theorem dX11_best_49 : decode cX11_best 49 = .ok (.aload_n 0, 1) := by decide +kernel
theorem dX11_best_50 : decode cX11_best 50 = .ok (.getfield 47, 3) := by decide +kernel
theorem dX11_best_53 : decode cX11_best 53 = .ok (.invokevirtual 170, 3) := by decide +kernel
theorem dX11_best_56 : decode cX11_best 56 = .ok (.aload_n 0, 1) := by decide +kernel
theorem dX11_best_57 : decode cX11_best 57 = .ok (.getfield 47, 3) := by decide +kernel
theorem dX11_best_60 : decode cX11_best 60 = .ok (.getfield 135, 3) := by decide +kernel
theorem dX11_best_63 : decode cX11_best 63 = .ok (.invokevirtual 173, 3) := by decide +kernel
theorem dX11_best_66 : decode cX11_best 66 = .ok (.ireturn, 1) := by decide +kernel
theorem dX11_worse_0 : decode cX11_worse 0 = .ok (.aload_n 0, 1) := by decide +kernel
theorem dX11_worse_1 : decode cX11_worse 1 = .ok (.getfield 47, 3) := by decide +kernel
theorem dX11_worse_4 : decode cX11_worse 4 = .ok (.getfield 105, 3) := by decide +kernel
theorem dX11_worse_7 : decode cX11_worse 7 = .ok (.ifCond .eq 14, 3) := by decide +kernel
theorem dX11_worse_10 : decode cX11_worse 10 = .ok (.aload_n 0, 1) := by decide +kernel
theorem dX11_worse_11 : decode cX11_worse 11 = .ok (.getfield 47, 3) := by decide +kernel
theorem dX11_worse_14 : decode cX11_worse 14 = .ok (.getfield 119, 3) := by decide +kernel
theorem dX11_worse_17 : decode cX11_worse 17 = .ok (.iconst (-1), 1) := by decide +kernel
theorem dX11_worse_18 : decode cX11_worse 18 = .ok (.if_icmp .ne 6, 3) := by decide +kernel
theorem dX11_worse_21 : decode cX11_worse 21 = .ok (.bipush (-2), 2) := by decide +kernel
theorem dX11_worse_23 : decode cX11_worse 23 = .ok (.ireturn, 1) := by decide +kernel
theorem dX11_worse_24 : decode cX11_worse 24 = .ok (.aload_n 0, 1) := by decide +kernel
theorem dX11_worse_25 : decode cX11_worse 25 = .ok (.iconst 1, 1) := by decide +kernel
theorem dX11_worse_26 : decode cX11_worse 26 = .ok (.invokevirtual 177, 3) := by decide +kernel
theorem dX11_worse_29 : decode cX11_worse 29 = .ok (.istore_n 1, 1) := by decide +kernel
theorem dX11_worse_30 : decode cX11_worse 30 = .ok (.aload_n 0, 1) := by decide +kernel
theorem dX11_worse_31 : decode cX11_worse 31 = .ok (.iconst 0, 1) := by decide +kernel
theorem dX11_worse_32 : decode cX11_worse 32 = .ok (.invokevirtual 177, 3) := by decide +kernel
theorem dX11_worse_35 : decode cX11_worse 35 = .ok (.istore_n 2, 1) := by decide +kernel
theorem dX11_worse_36 : decode cX11_worse 36 = .ok (.iload_n 1, 1) := by decide +kernel
theorem dX11_worse_37 : decode cX11_worse 37 = .ok (.bipush 12, 2) := by decide +kernel
theorem dX11_worse_39 : decode cX11_worse 39 = .ok (.if_icmp .gt 9, 3) := by decide +kernel
theorem dX11_worse_42 : decode cX11_worse 42 = .ok (.iload_n 2, 1) := by decide +kernel
theorem dX11_worse_43 : decode cX11_worse 43 = .ok (.bipush 12, 2) := by decide +kernel
theorem dX11_worse_45 : decode cX11_worse 45 = .ok (.if_icmp .le 6, 3) := by decide +kernel
theorem dX11_worse_48 : decode cX11_worse 48 = .ok (.bipush (-2), 2) := by decide +kernel
theorem dX11_worse_50 : decode cX11_worse 50 = .ok (.ireturn, 1) := by decide +kernel
theorem dX11_worse_51 : decode cX11_worse 51 = .ok (.iload_n 1, 1) := by decide +kernel
theorem dX11_worse_52 : decode cX11_worse 52 = .ok (.iload_n 2, 1) := by decide +kernel
theorem dX11_worse_53 : decode cX11_worse 53 = .ok (.if_icmp .lt 7, 3) := by decide +kernel
theorem dX11_worse_56 : decode cX11_worse 56 = .ok (.iconst 1, 1) := by decide +kernel
theorem dX11_worse_57 : decode cX11_worse 57 = .ok (.goto 4, 3) := by decide +kernel
theorem dX11_worse_60 : decode cX11_worse 60 = .ok (.iconst 0, 1) := by decide +kernel
theorem dX11_worse_61 : decode cX11_worse 61 = .ok (.ireturn, 1) := by decide +kernel
theorem dX11_set_0 : decode cX11_set 0 = .ok (.iload_n 1, 1) := by decide +kernel
theorem dX11_set_1 : decode cX11_set 1 = .ok (.invokestatic 102, 3) := by decide +kernel
theorem dX11_set_4 : decode cX11_set 4 = .ok (.ifCond .ne 5, 3) := by decide +kernel
theorem dX11_set_7 : decode cX11_set 7 = .ok (.iconst (-1), 1) := by decide +kernel
theorem dX11_set_8 : decode cX11_set 8 = .ok (.ireturn, 1) := by decide +kernel
theorem dX11_set_9 : decode cX11_set 9 = .ok (.aload_n 0, 1) := by decide +kernel
theorem dX11_set_10 : decode cX11_set 10 = .ok (.getfield 54, 3) := by decide +kernel
theorem dX11_set_13 : decode cX11_set 13 = .ok (.iload_n 1, 1) := by decide +kernel
theorem dX11_set_14 : decode cX11_set 14 = .ok (.invokevirtual 181, 3) := by decide +kernel
theorem dX11_set_17 : decode cX11_set 17 = .ok (.ifCond .eq 13, 3) := by decide +kernel
theorem dX11_set_20 : decode cX11_set 20 = .ok (.aload_n 0, 1) := by decide +kernel
theorem dX11_set_21 : decode cX11_set 21 = .ok (.getfield 54, 3) := by decide +kernel
theorem dX11_set_24 : decode cX11_set 24 = .ok (.getfield 184, 3) := by decide +kernel
theorem dX11_set_27 : decode cX11_set 27 = .ok (.goto 5, 3) := by decide +kernel
theorem dX11_set_30 : decode cX11_set 30 = .ok (.bipush (-3), 2) := by decide +kernel
theorem dX11_set_32 : decode cX11_set 32 = .ok (.ireturn, 1) := by decide +kernel
theorem dX11_drop_0 : decode cX11_drop 0 = .ok (.aload_n 0, 1) := by decide +kernel
theorem dX11_drop_1 : decode cX11_drop 1 = .ok (.getfield 54, 3) := by decide +kernel
theorem dX11_drop_4 : decode cX11_drop 4 = .ok (.invokevirtual 187, 3) := by decide +kernel
theorem dX11_drop_7 : decode cX11_drop 7 = .ok (.ifCond .eq 13, 3) := by decide +kernel
theorem dX11_drop_10 : decode cX11_drop 10 = .ok (.aload_n 0, 1) := by decide +kernel
theorem dX11_drop_11 : decode cX11_drop 11 = .ok (.getfield 54, 3) := by decide +kernel
theorem dX11_drop_14 : decode cX11_drop 14 = .ok (.getfield 184, 3) := by decide +kernel
theorem dX11_drop_17 : decode cX11_drop 17 = .ok (.goto 5, 3) := by decide +kernel
theorem dX11_drop_20 : decode cX11_drop 20 = .ok (.bipush (-2), 2) := by decide +kernel
theorem dX11_drop_22 : decode cX11_drop 22 = .ok (.ireturn, 1) := by decide +kernel
theorem dX11_word_0 : decode cX11_word 0 = .ok (.iload_n 1, 1) := by decide +kernel
theorem dX11_word_1 : decode cX11_word 1 = .ok (.invokestatic 132, 3) := by decide +kernel
theorem dX11_word_4 : decode cX11_word 4 = .ok (.ifCond .eq 14, 3) := by decide +kernel
theorem dX11_word_7 : decode cX11_word 7 = .ok (.aload_n 0, 1) := by decide +kernel
theorem dX11_word_8 : decode cX11_word 8 = .ok (.getfield 54, 3) := by decide +kernel
theorem dX11_word_11 : decode cX11_word 11 = .ok (.iload_n 1, 1) := by decide +kernel
theorem dX11_word_12 : decode cX11_word 12 = .ok (.invokevirtual 191, 3) := by decide +kernel
theorem dX11_word_15 : decode cX11_word 15 = .ok (.goto 4, 3) := by decide +kernel
theorem dX11_word_18 : decode cX11_word 18 = .ok (.iconst (-1), 1) := by decide +kernel
theorem dX11_word_19 : decode cX11_word 19 = .ok (.ireturn, 1) := by decide +kernel
theorem dX11_apart_0 : decode cX11_apart 0 = .ok (.iload_n 1, 1) := by decide +kernel
theorem dX11_apart_1 : decode cX11_apart 1 = .ok (.invokestatic 132, 3) := by decide +kernel
theorem dX11_apart_4 : decode cX11_apart 4 = .ok (.ifCond .eq 10, 3) := by decide +kernel
theorem dX11_apart_7 : decode cX11_apart 7 = .ok (.iload_n 2, 1) := by decide +kernel
theorem dX11_apart_8 : decode cX11_apart 8 = .ok (.invokestatic 132, 3) := by decide +kernel
theorem dX11_apart_11 : decode cX11_apart 11 = .ok (.ifCond .ne 5, 3) := by decide +kernel
theorem dX11_apart_14 : decode cX11_apart 14 = .ok (.iconst (-1), 1) := by decide +kernel
theorem dX11_apart_15 : decode cX11_apart 15 = .ok (.ireturn, 1) := by decide +kernel
theorem dX11_apart_16 : decode cX11_apart 16 = .ok (.aload_n 0, 1) := by decide +kernel
theorem dX11_apart_17 : decode cX11_apart 17 = .ok (.getfield 54, 3) := by decide +kernel
theorem dX11_apart_20 : decode cX11_apart 20 = .ok (.iload_n 1, 1) := by decide +kernel
theorem dX11_apart_21 : decode cX11_apart 21 = .ok (.invokevirtual 191, 3) := by decide +kernel
theorem dX11_apart_24 : decode cX11_apart 24 = .ok (.aload_n 0, 1) := by decide +kernel
theorem dX11_apart_25 : decode cX11_apart 25 = .ok (.getfield 54, 3) := by decide +kernel
theorem dX11_apart_28 : decode cX11_apart 28 = .ok (.iload_n 2, 1) := by decide +kernel
theorem dX11_apart_29 : decode cX11_apart 29 = .ok (.invokevirtual 191, 3) := by decide +kernel
theorem dX11_apart_32 : decode cX11_apart 32 = .ok (.ixor, 1) := by decide +kernel
theorem dX11_apart_33 : decode cX11_apart 33 = .ok (.invokestatic 194, 3) := by decide +kernel
theorem dX11_apart_36 : decode cX11_apart 36 = .ok (.ireturn, 1) := by decide +kernel
theorem dX11_serves_0 : decode cX11_serves 0 = .ok (.iload_n 1, 1) := by decide +kernel
theorem dX11_serves_1 : decode cX11_serves 1 = .ok (.invokestatic 66, 3) := by decide +kernel
theorem dX11_serves_4 : decode cX11_serves 4 = .ok (.ifCond .eq 10, 3) := by decide +kernel
theorem dX11_serves_7 : decode cX11_serves 7 = .ok (.iload_n 2, 1) := by decide +kernel
theorem dX11_serves_8 : decode cX11_serves 8 = .ok (.invokestatic 69, 3) := by decide +kernel
theorem dX11_serves_11 : decode cX11_serves 11 = .ok (.ifCond .ne 5, 3) := by decide +kernel
theorem dX11_serves_14 : decode cX11_serves 14 = .ok (.iconst (-1), 1) := by decide +kernel
theorem dX11_serves_15 : decode cX11_serves 15 = .ok (.ireturn, 1) := by decide +kernel
theorem dX11_serves_16 : decode cX11_serves 16 = .ok (.aload_n 0, 1) := by decide +kernel
theorem dX11_serves_17 : decode cX11_serves 17 = .ok (.getfield 54, 3) := by decide +kernel
theorem dX11_serves_20 : decode cX11_serves 20 = .ok (.iload_n 1, 1) := by decide +kernel
theorem dX11_serves_21 : decode cX11_serves 21 = .ok (.iconst 2, 1) := by decide +kernel
theorem dX11_serves_22 : decode cX11_serves 22 = .ok (.iload_n 2, 1) := by decide +kernel
theorem dX11_serves_23 : decode cX11_serves 23 = .ok (.imul, 1) := by decide +kernel
theorem dX11_serves_24 : decode cX11_serves 24 = .ok (.invokevirtual 199, 3) := by decide +kernel
theorem dX11_serves_27 : decode cX11_serves 27 = .ok (.ifCond .eq 7, 3) := by decide +kernel
theorem dX11_serves_30 : decode cX11_serves 30 = .ok (.iconst 1, 1) := by decide +kernel
theorem dX11_serves_31 : decode cX11_serves 31 = .ok (.goto 4, 3) := by decide +kernel
theorem dX11_serves_34 : decode cX11_serves 34 = .ok (.iconst 0, 1) := by decide +kernel
theorem dX11_serves_35 : decode cX11_serves 35 = .ok (.ireturn, 1) := by decide +kernel
theorem dX11_read_0 : decode cX11_read 0 = .ok (.aload_n 0, 1) := by decide +kernel
theorem dX11_read_1 : decode cX11_read 1 = .ok (.getfield 54, 3) := by decide +kernel
theorem dX11_read_4 : decode cX11_read 4 = .ok (.iload_n 1, 1) := by decide +kernel
theorem dX11_read_5 : decode cX11_read 5 = .ok (.invokevirtual 203, 3) := by decide +kernel
theorem dX11_read_8 : decode cX11_read 8 = .ok (.ifCond .eq 17, 3) := by decide +kernel
theorem dX11_read_11 : decode cX11_read 11 = .ok (.iload_n 2, 1) := by decide +kernel
theorem dX11_read_12 : decode cX11_read 12 = .ok (.invokestatic 66, 3) := by decide +kernel
theorem dX11_read_15 : decode cX11_read 15 = .ok (.ifCond .eq 10, 3) := by decide +kernel
theorem dX11_read_18 : decode cX11_read 18 = .ok (.iload_n 3, 1) := by decide +kernel
theorem dX11_read_19 : decode cX11_read 19 = .ok (.invokestatic 69, 3) := by decide +kernel
theorem dX11_read_22 : decode cX11_read 22 = .ok (.ifCond .ne 5, 3) := by decide +kernel
theorem dX11_read_25 : decode cX11_read 25 = .ok (.iconst (-1), 1) := by decide +kernel
theorem dX11_read_26 : decode cX11_read 26 = .ok (.ireturn, 1) := by decide +kernel
theorem dX11_read_27 : decode cX11_read 27 = .ok (.aload_n 0, 1) := by decide +kernel
theorem dX11_read_28 : decode cX11_read 28 = .ok (.getfield 54, 3) := by decide +kernel
theorem dX11_read_31 : decode cX11_read 31 = .ok (.iload_n 1, 1) := by decide +kernel
theorem dX11_read_32 : decode cX11_read 32 = .ok (.iload_n 2, 1) := by decide +kernel
theorem dX11_read_33 : decode cX11_read 33 = .ok (.iload_n 3, 1) := by decide +kernel
theorem dX11_read_34 : decode cX11_read 34 = .ok (.invokevirtual 206, 3) := by decide +kernel
theorem dX11_read_37 : decode cX11_read 37 = .ok (.ireturn, 1) := by decide +kernel
theorem dX11_play_0 : decode cX11_play 0 = .ok (.aload_n 0, 1) := by decide +kernel
theorem dX11_play_1 : decode cX11_play 1 = .ok (.getfield 54, 3) := by decide +kernel
theorem dX11_play_4 : decode cX11_play 4 = .ok (.iload_n 1, 1) := by decide +kernel
theorem dX11_play_5 : decode cX11_play 5 = .ok (.invokevirtual 203, 3) := by decide +kernel
theorem dX11_play_8 : decode cX11_play 8 = .ok (.ifCond .ne 5, 3) := by decide +kernel
theorem dX11_play_11 : decode cX11_play 11 = .ok (.iconst (-1), 1) := by decide +kernel
theorem dX11_play_12 : decode cX11_play 12 = .ok (.ireturn, 1) := by decide +kernel
theorem dX11_play_13 : decode cX11_play 13 = .ok (.aload_n 0, 1) := by decide +kernel
theorem dX11_play_14 : decode cX11_play 14 = .ok (.getfield 47, 3) := by decide +kernel
theorem dX11_play_17 : decode cX11_play 17 = .ok (.getfield 105, 3) := by decide +kernel
theorem dX11_play_20 : decode cX11_play 20 = .ok (.ifCond .ne 6, 3) := by decide +kernel
theorem dX11_play_23 : decode cX11_play 23 = .ok (.bipush (-2), 2) := by decide +kernel
theorem dX11_play_25 : decode cX11_play 25 = .ok (.ireturn, 1) := by decide +kernel
theorem dX11_play_26 : decode cX11_play 26 = .ok (.aload_n 0, 1) := by decide +kernel
theorem dX11_play_27 : decode cX11_play 27 = .ok (.getfield 47, 3) := by decide +kernel
theorem dX11_play_30 : decode cX11_play 30 = .ok (.iconst (-1), 1) := by decide +kernel
theorem dX11_play_31 : decode cX11_play 31 = .ok (.invokevirtual 112, 3) := by decide +kernel
theorem dX11_play_34 : decode cX11_play 34 = .ok (.iconst 0, 1) := by decide +kernel
theorem dX11_play_35 : decode cX11_play 35 = .ok (.istore_n 2, 1) := by decide +kernel
theorem dX11_play_36 : decode cX11_play 36 = .ok (.iload_n 2, 1) := by decide +kernel
theorem dX11_play_37 : decode cX11_play 37 = .ok (.aload_n 0, 1) := by decide +kernel
theorem dX11_play_38 : decode cX11_play 38 = .ok (.getfield 54, 3) := by decide +kernel
theorem dX11_play_41 : decode cX11_play 41 = .ok (.getfield 184, 3) := by decide +kernel
theorem dX11_play_44 : decode cX11_play 44 = .ok (.if_icmp .ge 18, 3) := by decide +kernel
theorem dX11_play_47 : decode cX11_play 47 = .ok (.aload_n 0, 1) := by decide +kernel
theorem dX11_play_48 : decode cX11_play 48 = .ok (.iload_n 2, 1) := by decide +kernel
theorem dX11_play_49 : decode cX11_play 49 = .ok (.iload_n 1, 1) := by decide +kernel
theorem dX11_play_50 : decode cX11_play 50 = .ok (.invokevirtual 210, 3) := by decide +kernel
theorem dX11_play_53 : decode cX11_play 53 = .ok (.ifCond .eq 9, 3) := by decide +kernel
theorem dX11_play_56 : decode cX11_play 56 = .ok (.iinc 2 1, 3) := by decide +kernel
theorem dX11_play_59 : decode cX11_play 59 = .ok (.goto (-23), 3) := by decide +kernel
theorem dX11_play_62 : decode cX11_play 62 = .ok (.iload_n 2, 1) := by decide +kernel
theorem dX11_play_63 : decode cX11_play 63 = .ok (.ireturn, 1) := by decide +kernel
theorem dX11_told_0 : decode cX11_told 0 = .ok (.iload_n 1, 1) := by decide +kernel
theorem dX11_told_1 : decode cX11_told 1 = .ok (.tableswitch 116 0 7 #[47, 63, 71, 79, 87, 95, 103, 111], 47) := by decide +kernel
theorem dX11_told_48 : decode cX11_told 48 = .ok (.aload_n 0, 1) := by decide +kernel
theorem dX11_told_49 : decode cX11_told 49 = .ok (.getfield 47, 3) := by decide +kernel
theorem dX11_told_52 : decode cX11_told 52 = .ok (.getfield 105, 3) := by decide +kernel
theorem dX11_told_55 : decode cX11_told 55 = .ok (.ifCond .eq 7, 3) := by decide +kernel
theorem dX11_told_58 : decode cX11_told 58 = .ok (.iconst 1, 1) := by decide +kernel
theorem dX11_told_59 : decode cX11_told 59 = .ok (.goto 4, 3) := by decide +kernel
theorem dX11_told_62 : decode cX11_told 62 = .ok (.iconst 0, 1) := by decide +kernel
theorem dX11_told_63 : decode cX11_told 63 = .ok (.ireturn, 1) := by decide +kernel
theorem dX11_told_64 : decode cX11_told 64 = .ok (.aload_n 0, 1) := by decide +kernel
theorem dX11_told_65 : decode cX11_told 65 = .ok (.getfield 47, 3) := by decide +kernel
theorem dX11_told_68 : decode cX11_told 68 = .ok (.getfield 147, 3) := by decide +kernel
theorem dX11_told_71 : decode cX11_told 71 = .ok (.ireturn, 1) := by decide +kernel
theorem dX11_told_72 : decode cX11_told 72 = .ok (.aload_n 0, 1) := by decide +kernel
theorem dX11_told_73 : decode cX11_told 73 = .ok (.getfield 47, 3) := by decide +kernel
theorem dX11_told_76 : decode cX11_told 76 = .ok (.getfield 135, 3) := by decide +kernel
theorem dX11_told_79 : decode cX11_told 79 = .ok (.ireturn, 1) := by decide +kernel
theorem dX11_told_80 : decode cX11_told 80 = .ok (.aload_n 0, 1) := by decide +kernel
theorem dX11_told_81 : decode cX11_told 81 = .ok (.getfield 47, 3) := by decide +kernel
theorem dX11_told_84 : decode cX11_told 84 = .ok (.getfield 144, 3) := by decide +kernel
theorem dX11_told_87 : decode cX11_told 87 = .ok (.ireturn, 1) := by decide +kernel
theorem dX11_told_88 : decode cX11_told 88 = .ok (.aload_n 0, 1) := by decide +kernel
theorem dX11_told_89 : decode cX11_told 89 = .ok (.getfield 47, 3) := by decide +kernel
theorem dX11_told_92 : decode cX11_told 92 = .ok (.getfield 126, 3) := by decide +kernel
theorem dX11_told_95 : decode cX11_told 95 = .ok (.ireturn, 1) := by decide +kernel
theorem dX11_told_96 : decode cX11_told 96 = .ok (.aload_n 0, 1) := by decide +kernel
theorem dX11_told_97 : decode cX11_told 97 = .ok (.getfield 47, 3) := by decide +kernel
theorem dX11_told_100 : decode cX11_told 100 = .ok (.getfield 119, 3) := by decide +kernel
theorem dX11_told_103 : decode cX11_told 103 = .ok (.ireturn, 1) := by decide +kernel
theorem dX11_told_104 : decode cX11_told 104 = .ok (.aload_n 0, 1) := by decide +kernel
theorem dX11_told_105 : decode cX11_told 105 = .ok (.getfield 54, 3) := by decide +kernel
theorem dX11_told_108 : decode cX11_told 108 = .ok (.getfield 184, 3) := by decide +kernel
theorem dX11_told_111 : decode cX11_told 111 = .ok (.ireturn, 1) := by decide +kernel
theorem dX11_told_112 : decode cX11_told 112 = .ok (.aload_n 0, 1) := by decide +kernel
theorem dX11_told_113 : decode cX11_told 113 = .ok (.getfield 58, 3) := by decide +kernel
theorem dX11_told_116 : decode cX11_told 116 = .ok (.ireturn, 1) := by decide +kernel
theorem dX11_told_117 : decode cX11_told 117 = .ok (.bipush (-2), 2) := by decide +kernel
theorem dX11_told_119 : decode cX11_told 119 = .ok (.ireturn, 1) := by decide +kernel
theorem dX11_trace_0 : decode cX11_trace 0 = .ok (.aload_n 0, 1) := by decide +kernel
theorem dX11_trace_1 : decode cX11_trace 1 = .ok (.getfield 25, 3) := by decide +kernel
theorem dX11_trace_4 : decode cX11_trace 4 = .ok (.getfield 213, 3) := by decide +kernel
theorem dX11_trace_7 : decode cX11_trace 7 = .ok (.lreturn, 1) := by decide +kernel
theorem dX11_isKind_0 : decode cX11_isKind 0 = .ok (.iload_n 0, 1) := by decide +kernel
theorem dX11_isKind_1 : decode cX11_isKind 1 = .ok (.ifCond .lt 12, 3) := by decide +kernel
theorem dX11_isKind_4 : decode cX11_isKind 4 = .ok (.iload_n 0, 1) := by decide +kernel
theorem dX11_isKind_5 : decode cX11_isKind 5 = .ok (.iconst 3, 1) := by decide +kernel
theorem dX11_isKind_6 : decode cX11_isKind 6 = .ok (.if_icmp .ge 7, 3) := by decide +kernel
theorem dX11_isKind_9 : decode cX11_isKind 9 = .ok (.iconst 1, 1) := by decide +kernel
theorem dX11_isKind_10 : decode cX11_isKind 10 = .ok (.goto 4, 3) := by decide +kernel
theorem dX11_isKind_13 : decode cX11_isKind 13 = .ok (.iconst 0, 1) := by decide +kernel
theorem dX11_isKind_14 : decode cX11_isKind 14 = .ok (.ireturn, 1) := by decide +kernel
theorem dX11_isNumber_0 : decode cX11_isNumber 0 = .ok (.iload_n 0, 1) := by decide +kernel
theorem dX11_isNumber_1 : decode cX11_isNumber 1 = .ok (.ifCond .lt 13, 3) := by decide +kernel
theorem dX11_isNumber_4 : decode cX11_isNumber 4 = .ok (.iload_n 0, 1) := by decide +kernel
theorem dX11_isNumber_5 : decode cX11_isNumber 5 = .ok (.bipush 16, 2) := by decide +kernel
theorem dX11_isNumber_7 : decode cX11_isNumber 7 = .ok (.if_icmp .ge 7, 3) := by decide +kernel
theorem dX11_isNumber_10 : decode cX11_isNumber 10 = .ok (.iconst 1, 1) := by decide +kernel
theorem dX11_isNumber_11 : decode cX11_isNumber 11 = .ok (.goto 4, 3) := by decide +kernel
theorem dX11_isNumber_14 : decode cX11_isNumber 14 = .ok (.iconst 0, 1) := by decide +kernel
theorem dX11_isNumber_15 : decode cX11_isNumber 15 = .ok (.ireturn, 1) := by decide +kernel
theorem dX11_isCount_0 : decode cX11_isCount 0 = .ok (.iload_n 0, 1) := by decide +kernel
theorem dX11_isCount_1 : decode cX11_isCount 1 = .ok (.iconst 1, 1) := by decide +kernel
theorem dX11_isCount_2 : decode cX11_isCount 2 = .ok (.if_icmp .lt 13, 3) := by decide +kernel
theorem dX11_isCount_5 : decode cX11_isCount 5 = .ok (.iload_n 0, 1) := by decide +kernel
theorem dX11_isCount_6 : decode cX11_isCount 6 = .ok (.bipush 16, 2) := by decide +kernel
theorem dX11_isCount_8 : decode cX11_isCount 8 = .ok (.if_icmp .gt 7, 3) := by decide +kernel
theorem dX11_isCount_11 : decode cX11_isCount 11 = .ok (.iconst 1, 1) := by decide +kernel
theorem dX11_isCount_12 : decode cX11_isCount 12 = .ok (.goto 4, 3) := by decide +kernel
theorem dX11_isCount_15 : decode cX11_isCount 15 = .ok (.iconst 0, 1) := by decide +kernel
theorem dX11_isCount_16 : decode cX11_isCount 16 = .ok (.ireturn, 1) := by decide +kernel
theorem dX11_isLies_0 : decode cX11_isLies 0 = .ok (.iload_n 0, 1) := by decide +kernel
theorem dX11_isLies_1 : decode cX11_isLies 1 = .ok (.ifCond .lt 12, 3) := by decide +kernel
theorem dX11_isLies_4 : decode cX11_isLies 4 = .ok (.iload_n 0, 1) := by decide +kernel
theorem dX11_isLies_5 : decode cX11_isLies 5 = .ok (.iconst 3, 1) := by decide +kernel
theorem dX11_isLies_6 : decode cX11_isLies 6 = .ok (.if_icmp .gt 7, 3) := by decide +kernel
theorem dX11_isLies_9 : decode cX11_isLies 9 = .ok (.iconst 1, 1) := by decide +kernel
theorem dX11_isLies_10 : decode cX11_isLies 10 = .ok (.goto 4, 3) := by decide +kernel
theorem dX11_isLies_13 : decode cX11_isLies 13 = .ok (.iconst 0, 1) := by decide +kernel
theorem dX11_isLies_14 : decode cX11_isLies 14 = .ok (.ireturn, 1) := by decide +kernel
theorem dX11_isHeap_0 : decode cX11_isHeap 0 = .ok (.iload_n 0, 1) := by decide +kernel
theorem dX11_isHeap_1 : decode cX11_isHeap 1 = .ok (.ifCond .lt 13, 3) := by decide +kernel
theorem dX11_isHeap_4 : decode cX11_isHeap 4 = .ok (.iload_n 0, 1) := by decide +kernel
theorem dX11_isHeap_5 : decode cX11_isHeap 5 = .ok (.ldc 217, 2) := by decide +kernel
theorem dX11_isHeap_7 : decode cX11_isHeap 7 = .ok (.if_icmp .gt 7, 3) := by decide +kernel
theorem dX11_isHeap_10 : decode cX11_isHeap 10 = .ok (.iconst 1, 1) := by decide +kernel
theorem dX11_isHeap_11 : decode cX11_isHeap 11 = .ok (.goto 4, 3) := by decide +kernel
theorem dX11_isHeap_14 : decode cX11_isHeap 14 = .ok (.iconst 0, 1) := by decide +kernel
theorem dX11_isHeap_15 : decode cX11_isHeap 15 = .ok (.ireturn, 1) := by decide +kernel
theorem dX11_yesPrice_0 : decode cX11_yesPrice 0 = .ok (.aload_n 0, 1) := by decide +kernel
theorem dX11_yesPrice_1 : decode cX11_yesPrice 1 = .ok (.getfield 18, 3) := by decide +kernel
theorem dX11_yesPrice_4 : decode cX11_yesPrice 4 = .ok (.iload_n 1, 1) := by decide +kernel
theorem dX11_yesPrice_5 : decode cX11_yesPrice 5 = .ok (.aaload, 1) := by decide +kernel
theorem dX11_yesPrice_6 : decode cX11_yesPrice 6 = .ok (.iconst 1, 1) := by decide +kernel
theorem dX11_yesPrice_7 : decode cX11_yesPrice 7 = .ok (.iconst 0, 1) := by decide +kernel
theorem dX11_yesPrice_8 : decode cX11_yesPrice 8 = .ok (.aload_n 0, 1) := by decide +kernel
theorem dX11_yesPrice_9 : decode cX11_yesPrice 9 = .ok (.getfield 29, 3) := by decide +kernel
theorem dX11_yesPrice_12 : decode cX11_yesPrice 12 = .ok (.invokevirtual 98, 3) := by decide +kernel
theorem dX11_yesPrice_15 : decode cX11_yesPrice 15 = .ok (.ireturn, 1) := by decide +kernel
theorem dX11_noPrice_0 : decode cX11_noPrice 0 = .ok (.aload_n 0, 1) := by decide +kernel
theorem dX11_noPrice_1 : decode cX11_noPrice 1 = .ok (.getfield 18, 3) := by decide +kernel
theorem dX11_noPrice_4 : decode cX11_noPrice 4 = .ok (.iload_n 1, 1) := by decide +kernel
theorem dX11_noPrice_5 : decode cX11_noPrice 5 = .ok (.aaload, 1) := by decide +kernel
theorem dX11_noPrice_6 : decode cX11_noPrice 6 = .ok (.iconst 0, 1) := by decide +kernel
theorem dX11_noPrice_7 : decode cX11_noPrice 7 = .ok (.iconst 1, 1) := by decide +kernel
theorem dX11_noPrice_8 : decode cX11_noPrice 8 = .ok (.aload_n 0, 1) := by decide +kernel
theorem dX11_noPrice_9 : decode cX11_noPrice 9 = .ok (.getfield 29, 3) := by decide +kernel
theorem dX11_noPrice_12 : decode cX11_noPrice 12 = .ok (.invokevirtual 98, 3) := by decide +kernel
theorem dX11_noPrice_15 : decode cX11_noPrice 15 = .ok (.ireturn, 1) := by decide +kernel
theorem dX11_heapTable_0 : decode cX11_heapTable 0 = .ok (.aload_n 0, 1) := by decide +kernel
theorem dX11_heapTable_1 : decode cX11_heapTable 1 = .ok (.getfield 34, 3) := by decide +kernel
theorem dX11_heapTable_4 : decode cX11_heapTable 4 = .ok (.iload_n 1, 1) := by decide +kernel
theorem dX11_heapTable_5 : decode cX11_heapTable 5 = .ok (.aaload, 1) := by decide +kernel
theorem dX11_heapTable_6 : decode cX11_heapTable 6 = .ok (.astore_n 2, 1) := by decide +kernel
theorem dX11_heapTable_7 : decode cX11_heapTable 7 = .ok (.aload_n 2, 1) := by decide +kernel
theorem dX11_heapTable_8 : decode cX11_heapTable 8 = .ok (.ifnonnull 69, 3) := by decide +kernel
theorem dX11_heapTable_11 : decode cX11_heapTable 11 = .ok (.sipush 4845, 3) := by decide +kernel
theorem dX11_heapTable_14 : decode cX11_heapTable 14 = .ok (.newarray .int, 2) := by decide +kernel
theorem dX11_heapTable_16 : decode cX11_heapTable 16 = .ok (.astore_n 3, 1) := by decide +kernel
theorem dX11_heapTable_17 : decode cX11_heapTable 17 = .ok (.new 218, 3) := by decide +kernel
theorem dX11_heapTable_20 : decode cX11_heapTable 20 = .ok (.dup, 1) := by decide +kernel
theorem dX11_heapTable_21 : decode cX11_heapTable 21 = .ok (.aload_n 3, 1) := by decide +kernel
theorem dX11_heapTable_22 : decode cX11_heapTable 22 = .ok (.aload_n 0, 1) := by decide +kernel
theorem dX11_heapTable_23 : decode cX11_heapTable 23 = .ok (.iload_n 1, 1) := by decide +kernel
theorem dX11_heapTable_24 : decode cX11_heapTable 24 = .ok (.invokevirtual 72, 3) := by decide +kernel
theorem dX11_heapTable_27 : decode cX11_heapTable 27 = .ok (.aload_n 0, 1) := by decide +kernel
theorem dX11_heapTable_28 : decode cX11_heapTable 28 = .ok (.iload_n 1, 1) := by decide +kernel
theorem dX11_heapTable_29 : decode cX11_heapTable 29 = .ok (.invokevirtual 76, 3) := by decide +kernel
theorem dX11_heapTable_32 : decode cX11_heapTable 32 = .ok (.invokespecial 220, 3) := by decide +kernel
theorem dX11_heapTable_35 : decode cX11_heapTable 35 = .ok (.astore 4, 2) := by decide +kernel
theorem dX11_heapTable_37 : decode cX11_heapTable 37 = .ok (.new 223, 3) := by decide +kernel
theorem dX11_heapTable_40 : decode cX11_heapTable 40 = .ok (.dup, 1) := by decide +kernel
theorem dX11_heapTable_41 : decode cX11_heapTable 41 = .ok (.aload_n 3, 1) := by decide +kernel
theorem dX11_heapTable_42 : decode cX11_heapTable 42 = .ok (.aload_n 0, 1) := by decide +kernel
theorem dX11_heapTable_43 : decode cX11_heapTable 43 = .ok (.iload_n 1, 1) := by decide +kernel
theorem dX11_heapTable_44 : decode cX11_heapTable 44 = .ok (.invokevirtual 72, 3) := by decide +kernel
theorem dX11_heapTable_47 : decode cX11_heapTable 47 = .ok (.aload_n 0, 1) := by decide +kernel
theorem dX11_heapTable_48 : decode cX11_heapTable 48 = .ok (.iload_n 1, 1) := by decide +kernel
theorem dX11_heapTable_49 : decode cX11_heapTable 49 = .ok (.invokevirtual 76, 3) := by decide +kernel
theorem dX11_heapTable_52 : decode cX11_heapTable 52 = .ok (.invokespecial 225, 3) := by decide +kernel
theorem dX11_heapTable_55 : decode cX11_heapTable 55 = .ok (.astore 5, 2) := by decide +kernel
theorem dX11_heapTable_57 : decode cX11_heapTable 57 = .ok (.new 32, 3) := by decide +kernel
theorem dX11_heapTable_60 : decode cX11_heapTable 60 = .ok (.dup, 1) := by decide +kernel
theorem dX11_heapTable_61 : decode cX11_heapTable 61 = .ok (.aload_n 3, 1) := by decide +kernel
theorem dX11_heapTable_62 : decode cX11_heapTable 62 = .ok (.aload 4, 2) := by decide +kernel
theorem dX11_heapTable_64 : decode cX11_heapTable 64 = .ok (.aload 5, 2) := by decide +kernel
theorem dX11_heapTable_66 : decode cX11_heapTable 66 = .ok (.invokespecial 226, 3) := by decide +kernel
theorem dX11_heapTable_69 : decode cX11_heapTable 69 = .ok (.astore_n 2, 1) := by decide +kernel
theorem dX11_heapTable_70 : decode cX11_heapTable 70 = .ok (.aload_n 0, 1) := by decide +kernel
theorem dX11_heapTable_71 : decode cX11_heapTable 71 = .ok (.getfield 34, 3) := by decide +kernel
theorem dX11_heapTable_74 : decode cX11_heapTable 74 = .ok (.iload_n 1, 1) := by decide +kernel
theorem dX11_heapTable_75 : decode cX11_heapTable 75 = .ok (.aload_n 2, 1) := by decide +kernel
theorem dX11_heapTable_76 : decode cX11_heapTable 76 = .ok (.aastore, 1) := by decide +kernel
theorem dX11_heapTable_77 : decode cX11_heapTable 77 = .ok (.aload_n 2, 1) := by decide +kernel
theorem dX11_heapTable_78 : decode cX11_heapTable 78 = .ok (.areturn, 1) := by decide +kernel
theorem dX11_spanTable_0 : decode cX11_spanTable 0 = .ok (.aload_n 0, 1) := by decide +kernel
theorem dX11_spanTable_1 : decode cX11_spanTable 1 = .ok (.getfield 40, 3) := by decide +kernel
theorem dX11_spanTable_4 : decode cX11_spanTable 4 = .ok (.iload_n 1, 1) := by decide +kernel
theorem dX11_spanTable_5 : decode cX11_spanTable 5 = .ok (.aaload, 1) := by decide +kernel
theorem dX11_spanTable_6 : decode cX11_spanTable 6 = .ok (.astore_n 2, 1) := by decide +kernel
theorem dX11_spanTable_7 : decode cX11_spanTable 7 = .ok (.aload_n 2, 1) := by decide +kernel
theorem dX11_spanTable_8 : decode cX11_spanTable 8 = .ok (.ifnonnull 28, 3) := by decide +kernel
theorem dX11_spanTable_11 : decode cX11_spanTable 11 = .ok (.new 38, 3) := by decide +kernel
theorem dX11_spanTable_14 : decode cX11_spanTable 14 = .ok (.dup, 1) := by decide +kernel
theorem dX11_spanTable_15 : decode cX11_spanTable 15 = .ok (.aload_n 0, 1) := by decide +kernel
theorem dX11_spanTable_16 : decode cX11_spanTable 16 = .ok (.iload_n 1, 1) := by decide +kernel
theorem dX11_spanTable_17 : decode cX11_spanTable 17 = .ok (.invokevirtual 72, 3) := by decide +kernel
theorem dX11_spanTable_20 : decode cX11_spanTable 20 = .ok (.aload_n 0, 1) := by decide +kernel
theorem dX11_spanTable_21 : decode cX11_spanTable 21 = .ok (.iload_n 1, 1) := by decide +kernel
theorem dX11_spanTable_22 : decode cX11_spanTable 22 = .ok (.invokevirtual 76, 3) := by decide +kernel
theorem dX11_spanTable_25 : decode cX11_spanTable 25 = .ok (.invokespecial 229, 3) := by decide +kernel
theorem dX11_spanTable_28 : decode cX11_spanTable 28 = .ok (.astore_n 2, 1) := by decide +kernel
theorem dX11_spanTable_29 : decode cX11_spanTable 29 = .ok (.aload_n 0, 1) := by decide +kernel
theorem dX11_spanTable_30 : decode cX11_spanTable 30 = .ok (.getfield 40, 3) := by decide +kernel
theorem dX11_spanTable_33 : decode cX11_spanTable 33 = .ok (.iload_n 1, 1) := by decide +kernel
theorem dX11_spanTable_34 : decode cX11_spanTable 34 = .ok (.aload_n 2, 1) := by decide +kernel
theorem dX11_spanTable_35 : decode cX11_spanTable 35 = .ok (.aastore, 1) := by decide +kernel
theorem dX11_spanTable_36 : decode cX11_spanTable 36 = .ok (.aload_n 2, 1) := by decide +kernel
theorem dX11_spanTable_37 : decode cX11_spanTable 37 = .ok (.areturn, 1) := by decide +kernel
theorem dX11_fewestNow_0 : decode cX11_fewestNow 0 = .ok (.aload_n 0, 1) := by decide +kernel
theorem dX11_fewestNow_1 : decode cX11_fewestNow 1 = .ok (.aload_n 0, 1) := by decide +kernel
theorem dX11_fewestNow_2 : decode cX11_fewestNow 2 = .ok (.getfield 47, 3) := by decide +kernel
theorem dX11_fewestNow_5 : decode cX11_fewestNow 5 = .ok (.getfield 147, 3) := by decide +kernel
theorem dX11_fewestNow_8 : decode cX11_fewestNow 8 = .ok (.invokevirtual 83, 3) := by decide +kernel
theorem dX11_fewestNow_11 : decode cX11_fewestNow 11 = .ok (.aload_n 0, 1) := by decide +kernel
theorem dX11_fewestNow_12 : decode cX11_fewestNow 12 = .ok (.getfield 47, 3) := by decide +kernel
theorem dX11_fewestNow_15 : decode cX11_fewestNow 15 = .ok (.getfield 166, 3) := by decide +kernel
theorem dX11_fewestNow_18 : decode cX11_fewestNow 18 = .ok (.aload_n 0, 1) := by decide +kernel
theorem dX11_fewestNow_19 : decode cX11_fewestNow 19 = .ok (.getfield 47, 3) := by decide +kernel
theorem dX11_fewestNow_22 : decode cX11_fewestNow 22 = .ok (.invokevirtual 170, 3) := by decide +kernel
theorem dX11_fewestNow_25 : decode cX11_fewestNow 25 = .ok (.aload_n 0, 1) := by decide +kernel
theorem dX11_fewestNow_26 : decode cX11_fewestNow 26 = .ok (.getfield 47, 3) := by decide +kernel
theorem dX11_fewestNow_29 : decode cX11_fewestNow 29 = .ok (.getfield 135, 3) := by decide +kernel
theorem dX11_fewestNow_32 : decode cX11_fewestNow 32 = .ok (.invokevirtual 231, 3) := by decide +kernel
theorem dX11_fewestNow_35 : decode cX11_fewestNow 35 = .ok (.ireturn, 1) := by decide +kernel
theorem dX11_fewestBehind_0 : decode cX11_fewestBehind 0 = .ok (.aload_n 0, 1) := by decide +kernel
theorem dX11_fewestBehind_1 : decode cX11_fewestBehind 1 = .ok (.getfield 47, 3) := by decide +kernel
theorem dX11_fewestBehind_4 : decode cX11_fewestBehind 4 = .ok (.aload_n 0, 1) := by decide +kernel
theorem dX11_fewestBehind_5 : decode cX11_fewestBehind 5 = .ok (.getfield 47, 3) := by decide +kernel
theorem dX11_fewestBehind_8 : decode cX11_fewestBehind 8 = .ok (.getfield 119, 3) := by decide +kernel
theorem dX11_fewestBehind_11 : decode cX11_fewestBehind 11 = .ok (.iload_n 1, 1) := by decide +kernel
theorem dX11_fewestBehind_12 : decode cX11_fewestBehind 12 = .ok (.invokevirtual 233, 3) := by decide +kernel
theorem dX11_fewestBehind_15 : decode cX11_fewestBehind 15 = .ok (.ifCond .ne 5, 3) := by decide +kernel
theorem dX11_fewestBehind_18 : decode cX11_fewestBehind 18 = .ok (.iconst (-1), 1) := by decide +kernel
theorem dX11_fewestBehind_19 : decode cX11_fewestBehind 19 = .ok (.ireturn, 1) := by decide +kernel
theorem dX11_fewestBehind_20 : decode cX11_fewestBehind 20 = .ok (.aload_n 0, 1) := by decide +kernel
theorem dX11_fewestBehind_21 : decode cX11_fewestBehind 21 = .ok (.aload_n 0, 1) := by decide +kernel
theorem dX11_fewestBehind_22 : decode cX11_fewestBehind 22 = .ok (.getfield 47, 3) := by decide +kernel
theorem dX11_fewestBehind_25 : decode cX11_fewestBehind 25 = .ok (.getfield 147, 3) := by decide +kernel
theorem dX11_fewestBehind_28 : decode cX11_fewestBehind 28 = .ok (.invokevirtual 83, 3) := by decide +kernel
theorem dX11_fewestBehind_31 : decode cX11_fewestBehind 31 = .ok (.aload_n 0, 1) := by decide +kernel
theorem dX11_fewestBehind_32 : decode cX11_fewestBehind 32 = .ok (.getfield 47, 3) := by decide +kernel
theorem dX11_fewestBehind_35 : decode cX11_fewestBehind 35 = .ok (.getfield 166, 3) := by decide +kernel
theorem dX11_fewestBehind_38 : decode cX11_fewestBehind 38 = .ok (.aload_n 0, 1) := by decide +kernel
theorem dX11_fewestBehind_39 : decode cX11_fewestBehind 39 = .ok (.getfield 47, 3) := by decide +kernel
theorem dX11_fewestBehind_42 : decode cX11_fewestBehind 42 = .ok (.invokevirtual 236, 3) := by decide +kernel
theorem dX11_fewestBehind_45 : decode cX11_fewestBehind 45 = .ok (.aload_n 0, 1) := by decide +kernel
theorem dX11_fewestBehind_46 : decode cX11_fewestBehind 46 = .ok (.getfield 47, 3) := by decide +kernel
theorem dX11_fewestBehind_49 : decode cX11_fewestBehind 49 = .ok (.getfield 135, 3) := by decide +kernel
theorem dX11_fewestBehind_52 : decode cX11_fewestBehind 52 = .ok (.invokevirtual 231, 3) := by decide +kernel
theorem dX11_fewestBehind_55 : decode cX11_fewestBehind 55 = .ok (.ireturn, 1) := by decide +kernel
theorem dX11_toldOrNone_0 : decode cX11_toldOrNone 0 = .ok (.iload_n 0, 1) := by decide +kernel
theorem dX11_toldOrNone_1 : decode cX11_toldOrNone 1 = .ok (.bipush 12, 2) := by decide +kernel
theorem dX11_toldOrNone_3 : decode cX11_toldOrNone 3 = .ok (.if_icmp .le 8, 3) := by decide +kernel
theorem dX11_toldOrNone_6 : decode cX11_toldOrNone 6 = .ok (.bipush (-9), 2) := by decide +kernel
theorem dX11_toldOrNone_8 : decode cX11_toldOrNone 8 = .ok (.goto 4, 3) := by decide +kernel
theorem dX11_toldOrNone_11 : decode cX11_toldOrNone 11 = .ok (.iload_n 0, 1) := by decide +kernel
theorem dX11_toldOrNone_12 : decode cX11_toldOrNone 12 = .ok (.ireturn, 1) := by decide +kernel
theorem dX11_playOne_0 : decode cX11_playOne 0 = .ok (.iload_n 2, 1) := by decide +kernel
theorem dX11_playOne_1 : decode cX11_playOne 1 = .ok (.iload_n 1, 1) := by decide +kernel
theorem dX11_playOne_2 : decode cX11_playOne 2 = .ok (.ishr, 1) := by decide +kernel
theorem dX11_playOne_3 : decode cX11_playOne 3 = .ok (.iconst 1, 1) := by decide +kernel
theorem dX11_playOne_4 : decode cX11_playOne 4 = .ok (.iand, 1) := by decide +kernel
theorem dX11_playOne_5 : decode cX11_playOne 5 = .ok (.iconst 1, 1) := by decide +kernel
theorem dX11_playOne_6 : decode cX11_playOne 6 = .ok (.if_icmp .ne 7, 3) := by decide +kernel
theorem dX11_playOne_9 : decode cX11_playOne 9 = .ok (.iconst 1, 1) := by decide +kernel
theorem dX11_playOne_10 : decode cX11_playOne 10 = .ok (.goto 4, 3) := by decide +kernel
theorem dX11_playOne_13 : decode cX11_playOne 13 = .ok (.iconst 0, 1) := by decide +kernel
theorem dX11_playOne_14 : decode cX11_playOne 14 = .ok (.istore_n 3, 1) := by decide +kernel
theorem dX11_playOne_15 : decode cX11_playOne 15 = .ok (.aload_n 0, 1) := by decide +kernel
theorem dX11_playOne_16 : decode cX11_playOne 16 = .ok (.getfield 47, 3) := by decide +kernel
theorem dX11_playOne_19 : decode cX11_playOne 19 = .ok (.aload_n 0, 1) := by decide +kernel
theorem dX11_playOne_20 : decode cX11_playOne 20 = .ok (.getfield 47, 3) := by decide +kernel
theorem dX11_playOne_23 : decode cX11_playOne 23 = .ok (.aload_n 0, 1) := by decide +kernel
theorem dX11_playOne_24 : decode cX11_playOne 24 = .ok (.getfield 54, 3) := by decide +kernel
theorem dX11_playOne_27 : decode cX11_playOne 27 = .ok (.iload_n 1, 1) := by decide +kernel
theorem dX11_playOne_28 : decode cX11_playOne 28 = .ok (.invokevirtual 239, 3) := by decide +kernel
theorem dX11_playOne_31 : decode cX11_playOne 31 = .ok (.invokevirtual 109, 3) := by decide +kernel
theorem dX11_playOne_34 : decode cX11_playOne 34 = .ok (.iload_n 3, 1) := by decide +kernel
theorem dX11_playOne_35 : decode cX11_playOne 35 = .ok (.invokevirtual 122, 3) := by decide +kernel
theorem dX11_playOne_38 : decode cX11_playOne 38 = .ok (.ifCond .le 7, 3) := by decide +kernel
theorem dX11_playOne_41 : decode cX11_playOne 41 = .ok (.iconst 1, 1) := by decide +kernel
theorem dX11_playOne_42 : decode cX11_playOne 42 = .ok (.goto 4, 3) := by decide +kernel
theorem dX11_playOne_45 : decode cX11_playOne 45 = .ok (.iconst 0, 1) := by decide +kernel
theorem dX11_playOne_46 : decode cX11_playOne 46 = .ok (.ireturn, 1) := by decide +kernel
theorem dX11_waysToLie_0 : decode cX11_waysToLie 0 = .ok (.lconst 0, 1) := by decide +kernel
theorem dX11_waysToLie_1 : decode cX11_waysToLie 1 = .ok (.lstore_n 2, 1) := by decide +kernel
theorem dX11_waysToLie_2 : decode cX11_waysToLie 2 = .ok (.lconst 1, 1) := by decide +kernel
theorem dX11_waysToLie_3 : decode cX11_waysToLie 3 = .ok (.lstore 4, 2) := by decide +kernel
theorem dX11_waysToLie_5 : decode cX11_waysToLie 5 = .ok (.iconst 0, 1) := by decide +kernel
theorem dX11_waysToLie_6 : decode cX11_waysToLie 6 = .ok (.istore 6, 2) := by decide +kernel
theorem dX11_waysToLie_8 : decode cX11_waysToLie 8 = .ok (.iload 6, 2) := by decide +kernel
theorem dX11_waysToLie_10 : decode cX11_waysToLie 10 = .ok (.iload_n 1, 1) := by decide +kernel
theorem dX11_waysToLie_11 : decode cX11_waysToLie 11 = .ok (.if_icmp .gt 30, 3) := by decide +kernel
theorem dX11_waysToLie_14 : decode cX11_waysToLie 14 = .ok (.lload_n 2, 1) := by decide +kernel
theorem dX11_waysToLie_15 : decode cX11_waysToLie 15 = .ok (.lload 4, 2) := by decide +kernel
theorem dX11_waysToLie_17 : decode cX11_waysToLie 17 = .ok (.ladd, 1) := by decide +kernel
theorem dX11_waysToLie_18 : decode cX11_waysToLie 18 = .ok (.lstore_n 2, 1) := by decide +kernel
theorem dX11_waysToLie_19 : decode cX11_waysToLie 19 = .ok (.lload 4, 2) := by decide +kernel
theorem dX11_waysToLie_21 : decode cX11_waysToLie 21 = .ok (.iload_n 0, 1) := by decide +kernel
theorem dX11_waysToLie_22 : decode cX11_waysToLie 22 = .ok (.iload 6, 2) := by decide +kernel
theorem dX11_waysToLie_24 : decode cX11_waysToLie 24 = .ok (.isub, 1) := by decide +kernel
theorem dX11_waysToLie_25 : decode cX11_waysToLie 25 = .ok (.i2l, 1) := by decide +kernel
theorem dX11_waysToLie_26 : decode cX11_waysToLie 26 = .ok (.lmul, 1) := by decide +kernel
theorem dX11_waysToLie_27 : decode cX11_waysToLie 27 = .ok (.iload 6, 2) := by decide +kernel
theorem dX11_waysToLie_29 : decode cX11_waysToLie 29 = .ok (.iconst 1, 1) := by decide +kernel
theorem dX11_waysToLie_30 : decode cX11_waysToLie 30 = .ok (.iadd, 1) := by decide +kernel
theorem dX11_waysToLie_31 : decode cX11_waysToLie 31 = .ok (.i2l, 1) := by decide +kernel
theorem dX11_waysToLie_32 : decode cX11_waysToLie 32 = .ok (.ldiv, 1) := by decide +kernel
theorem dX11_waysToLie_33 : decode cX11_waysToLie 33 = .ok (.lstore 4, 2) := by decide +kernel
theorem dX11_waysToLie_35 : decode cX11_waysToLie 35 = .ok (.iinc 6 1, 3) := by decide +kernel
theorem dX11_waysToLie_38 : decode cX11_waysToLie 38 = .ok (.goto (-30), 3) := by decide +kernel
theorem dX11_waysToLie_41 : decode cX11_waysToLie 41 = .ok (.lload_n 2, 1) := by decide +kernel
theorem dX11_waysToLie_42 : decode cX11_waysToLie 42 = .ok (.lreturn, 1) := by decide +kernel
theorem dX11_placeOf_0 : decode cX11_placeOf 0 = .ok (.iload_n 0, 1) := by decide +kernel
theorem dX11_placeOf_1 : decode cX11_placeOf 1 = .ok (.bipush 17, 2) := by decide +kernel
theorem dX11_placeOf_3 : decode cX11_placeOf 3 = .ok (.imul, 1) := by decide +kernel
theorem dX11_placeOf_4 : decode cX11_placeOf 4 = .ok (.iload_n 1, 1) := by decide +kernel
theorem dX11_placeOf_5 : decode cX11_placeOf 5 = .ok (.iadd, 1) := by decide +kernel
theorem dX11_placeOf_6 : decode cX11_placeOf 6 = .ok (.istore_n 2, 1) := by decide +kernel
theorem dX11_placeOf_7 : decode cX11_placeOf 7 = .ok (.iload_n 2, 1) := by decide +kernel
theorem dX11_placeOf_8 : decode cX11_placeOf 8 = .ok (.ifCond .lt 19, 3) := by decide +kernel
theorem dX11_placeOf_11 : decode cX11_placeOf 11 = .ok (.iload_n 2, 1) := by decide +kernel
theorem dX11_placeOf_12 : decode cX11_placeOf 12 = .ok (.getstatic 242, 3) := by decide +kernel
theorem dX11_placeOf_15 : decode cX11_placeOf 15 = .ok (.arraylength, 1) := by decide +kernel
theorem dX11_placeOf_16 : decode cX11_placeOf 16 = .ok (.if_icmp .ge 11, 3) := by decide +kernel
theorem dX11_placeOf_19 : decode cX11_placeOf 19 = .ok (.getstatic 242, 3) := by decide +kernel
theorem dX11_placeOf_22 : decode cX11_placeOf 22 = .ok (.iload_n 2, 1) := by decide +kernel
theorem dX11_placeOf_23 : decode cX11_placeOf 23 = .ok (.iaload, 1) := by decide +kernel
theorem dX11_placeOf_24 : decode cX11_placeOf 24 = .ok (.goto 4, 3) := by decide +kernel
theorem dX11_placeOf_27 : decode cX11_placeOf 27 = .ok (.iconst 0, 1) := by decide +kernel
theorem dX11_placeOf_28 : decode cX11_placeOf 28 = .ok (.ireturn, 1) := by decide +kernel
theorem dX11_leftAt_0 : decode cX11_leftAt 0 = .ok (.iload_n 1, 1) := by decide +kernel
theorem dX11_leftAt_1 : decode cX11_leftAt 1 = .ok (.ifCond .lt 15, 3) := by decide +kernel
theorem dX11_leftAt_4 : decode cX11_leftAt 4 = .ok (.iload_n 1, 1) := by decide +kernel
theorem dX11_leftAt_5 : decode cX11_leftAt 5 = .ok (.aload_n 0, 1) := by decide +kernel
theorem dX11_leftAt_6 : decode cX11_leftAt 6 = .ok (.arraylength, 1) := by decide +kernel
theorem dX11_leftAt_7 : decode cX11_leftAt 7 = .ok (.if_icmp .ge 9, 3) := by decide +kernel
theorem dX11_leftAt_10 : decode cX11_leftAt 10 = .ok (.aload_n 0, 1) := by decide +kernel
theorem dX11_leftAt_11 : decode cX11_leftAt 11 = .ok (.iload_n 1, 1) := by decide +kernel
theorem dX11_leftAt_12 : decode cX11_leftAt 12 = .ok (.iaload, 1) := by decide +kernel
theorem dX11_leftAt_13 : decode cX11_leftAt 13 = .ok (.goto 4, 3) := by decide +kernel
theorem dX11_leftAt_16 : decode cX11_leftAt 16 = .ok (.iconst (-1), 1) := by decide +kernel
theorem dX11_leftAt_17 : decode cX11_leftAt 17 = .ok (.ireturn, 1) := by decide +kernel
theorem dX12_init_0 : decode cX12_init 0 = .ok (.aload_n 0, 1) := by decide +kernel
theorem dX12_init_1 : decode cX12_init 1 = .ok (.invokespecial 1, 3) := by decide +kernel
theorem dX12_init_4 : decode cX12_init 4 = .ok (.aload_n 0, 1) := by decide +kernel
theorem dX12_init_5 : decode cX12_init 5 = .ok (.iconst (-1), 1) := by decide +kernel
theorem dX12_init_6 : decode cX12_init 6 = .ok (.putfield 7, 3) := by decide +kernel
theorem dX12_init_9 : decode cX12_init 9 = .ok (.aload_n 0, 1) := by decide +kernel
theorem dX12_init_10 : decode cX12_init 10 = .ok (.bipush 16, 2) := by decide +kernel
theorem dX12_init_12 : decode cX12_init 12 = .ok (.newarray .int, 2) := by decide +kernel
theorem dX12_init_14 : decode cX12_init 14 = .ok (.putfield 13, 3) := by decide +kernel
theorem dX12_init_17 : decode cX12_init 17 = .ok (.aload_n 0, 1) := by decide +kernel
theorem dX12_init_18 : decode cX12_init 18 = .ok (.sipush 976, 3) := by decide +kernel
theorem dX12_init_21 : decode cX12_init 21 = .ok (.newarray .int, 2) := by decide +kernel
theorem dX12_init_23 : decode cX12_init 23 = .ok (.putfield 17, 3) := by decide +kernel
theorem dX12_init_26 : decode cX12_init 26 = .ok (.aload_n 0, 1) := by decide +kernel
theorem dX12_init_27 : decode cX12_init 27 = .ok (.bipush 12, 2) := by decide +kernel
theorem dX12_init_29 : decode cX12_init 29 = .ok (.newarray .int, 2) := by decide +kernel
theorem dX12_init_31 : decode cX12_init 31 = .ok (.putfield 20, 3) := by decide +kernel
theorem dX12_init_34 : decode cX12_init 34 = .ok (.aload_n 0, 1) := by decide +kernel
theorem dX12_init_35 : decode cX12_init 35 = .ok (.ldc 23, 2) := by decide +kernel
theorem dX12_init_37 : decode cX12_init 37 = .ok (.newarray .byte, 2) := by decide +kernel
theorem dX12_init_39 : decode cX12_init 39 = .ok (.putfield 24, 3) := by decide +kernel
theorem dX12_init_42 : decode cX12_init 42 = .ok (.aload_n 0, 1) := by decide +kernel
theorem dX12_init_43 : decode cX12_init 43 = .ok (.iconst (-1), 1) := by decide +kernel
theorem dX12_init_44 : decode cX12_init 44 = .ok (.putfield 28, 3) := by decide +kernel
theorem dX12_init_47 : decode cX12_init 47 = .ok (.aload_n 0, 1) := by decide +kernel
theorem dX12_init_48 : decode cX12_init 48 = .ok (.sipush 4096, 3) := by decide +kernel
theorem dX12_init_51 : decode cX12_init 51 = .ok (.newarray .int, 2) := by decide +kernel
theorem dX12_init_53 : decode cX12_init 53 = .ok (.putfield 31, 3) := by decide +kernel
theorem dX12_init_56 : decode cX12_init 56 = .ok (.aload_n 0, 1) := by decide +kernel
theorem dX12_init_57 : decode cX12_init 57 = .ok (.iconst 4, 1) := by decide +kernel
theorem dX12_init_58 : decode cX12_init 58 = .ok (.newarray .int, 2) := by decide +kernel
theorem dX12_init_60 : decode cX12_init 60 = .ok (.putfield 34, 3) := by decide +kernel
theorem dX12_init_63 : decode cX12_init 63 = .ok (.aload_n 0, 1) := by decide +kernel
theorem dX12_init_64 : decode cX12_init 64 = .ok (.iconst 4, 1) := by decide +kernel
theorem dX12_init_65 : decode cX12_init 65 = .ok (.newarray .int, 2) := by decide +kernel
theorem dX12_init_67 : decode cX12_init 67 = .ok (.putfield 37, 3) := by decide +kernel
theorem dX12_init_70 : decode cX12_init 70 = .ok (.aload_n 0, 1) := by decide +kernel
theorem dX12_init_71 : decode cX12_init 71 = .ok (.iconst 4, 1) := by decide +kernel
theorem dX12_init_72 : decode cX12_init 72 = .ok (.newarray .int, 2) := by decide +kernel
theorem dX12_init_74 : decode cX12_init 74 = .ok (.putfield 40, 3) := by decide +kernel
theorem dX12_init_77 : decode cX12_init 77 = .ok (.aload_n 0, 1) := by decide +kernel
theorem dX12_init_78 : decode cX12_init 78 = .ok (.iconst 4, 1) := by decide +kernel
theorem dX12_init_79 : decode cX12_init 79 = .ok (.newarray .int, 2) := by decide +kernel
theorem dX12_init_81 : decode cX12_init 81 = .ok (.putfield 43, 3) := by decide +kernel
theorem dX12_init_84 : decode cX12_init 84 = .ok (.aload_n 0, 1) := by decide +kernel
theorem dX12_init_85 : decode cX12_init 85 = .ok (.bipush 16, 2) := by decide +kernel
theorem dX12_init_87 : decode cX12_init 87 = .ok (.newarray .int, 2) := by decide +kernel
theorem dX12_init_89 : decode cX12_init 89 = .ok (.putfield 46, 3) := by decide +kernel
theorem dX12_init_92 : decode cX12_init 92 = .ok (.aload_n 0, 1) := by decide +kernel
theorem dX12_init_93 : decode cX12_init 93 = .ok (.iconst 0, 1) := by decide +kernel
theorem dX12_init_94 : decode cX12_init 94 = .ok (.putfield 49, 3) := by decide +kernel
theorem dX12_init_97 : decode cX12_init 97 = .ok (.return_, 1) := by decide +kernel
theorem dX12_in_0 : decode cX12_in 0 = .ok (.iload_n 0, 1) := by decide +kernel
theorem dX12_in_1 : decode cX12_in 1 = .ok (.iload_n 1, 1) := by decide +kernel
theorem dX12_in_2 : decode cX12_in 2 = .ok (.if_icmp .lt 12, 3) := by decide +kernel
theorem dX12_in_5 : decode cX12_in 5 = .ok (.iload_n 0, 1) := by decide +kernel
theorem dX12_in_6 : decode cX12_in 6 = .ok (.iload_n 2, 1) := by decide +kernel
theorem dX12_in_7 : decode cX12_in 7 = .ok (.if_icmp .gt 7, 3) := by decide +kernel
theorem dX12_in_10 : decode cX12_in 10 = .ok (.iconst 1, 1) := by decide +kernel
theorem dX12_in_11 : decode cX12_in 11 = .ok (.goto 4, 3) := by decide +kernel
theorem dX12_in_14 : decode cX12_in 14 = .ok (.iconst 0, 1) := by decide +kernel
theorem dX12_in_15 : decode cX12_in 15 = .ok (.ireturn, 1) := by decide +kernel
theorem dX12_costOf_0 : decode cX12_costOf 0 = .ok (.iload_n 1, 1) := by decide +kernel
theorem dX12_costOf_1 : decode cX12_costOf 1 = .ok (.iload_n 2, 1) := by decide +kernel
theorem dX12_costOf_2 : decode cX12_costOf 2 = .ok (.if_icmp .ne 7, 3) := by decide +kernel
theorem dX12_costOf_5 : decode cX12_costOf 5 = .ok (.iconst 1, 1) := by decide +kernel
theorem dX12_costOf_6 : decode cX12_costOf 6 = .ok (.goto 4, 3) := by decide +kernel
theorem dX12_costOf_9 : decode cX12_costOf 9 = .ok (.iconst 0, 1) := by decide +kernel
theorem dX12_costOf_10 : decode cX12_costOf 10 = .ok (.istore_n 3, 1) := by decide +kernel
theorem dX12_costOf_11 : decode cX12_costOf 11 = .ok (.iload_n 3, 1) := by decide +kernel
theorem dX12_costOf_12 : decode cX12_costOf 12 = .ok (.ifCond .eq 5, 3) := by decide +kernel
theorem dX12_costOf_15 : decode cX12_costOf 15 = .ok (.iconst 0, 1) := by decide +kernel
theorem dX12_costOf_16 : decode cX12_costOf 16 = .ok (.ireturn, 1) := by decide +kernel
theorem dX12_costOf_17 : decode cX12_costOf 17 = .ok (.iload_n 0, 1) := by decide +kernel
theorem dX12_costOf_18 : decode cX12_costOf 18 = .ok (.ifCond .eq 12, 3) := by decide +kernel
theorem dX12_costOf_21 : decode cX12_costOf 21 = .ok (.iload_n 0, 1) := by decide +kernel
theorem dX12_costOf_22 : decode cX12_costOf 22 = .ok (.iconst 2, 1) := by decide +kernel
theorem dX12_costOf_23 : decode cX12_costOf 23 = .ok (.if_icmp .ne 12, 3) := by decide +kernel
theorem dX12_costOf_26 : decode cX12_costOf 26 = .ok (.iload_n 1, 1) := by decide +kernel
theorem dX12_costOf_27 : decode cX12_costOf 27 = .ok (.ifCond .ne 8, 3) := by decide +kernel
theorem dX12_costOf_30 : decode cX12_costOf 30 = .ok (.bipush 9, 2) := by decide +kernel
theorem dX12_costOf_32 : decode cX12_costOf 32 = .ok (.goto 4, 3) := by decide +kernel
theorem dX12_costOf_35 : decode cX12_costOf 35 = .ok (.iconst 1, 1) := by decide +kernel
theorem dX12_costOf_36 : decode cX12_costOf 36 = .ok (.ireturn, 1) := by decide +kernel
theorem dX12_cost_0 : decode cX12_cost 0 = .ok (.iload_n 1, 1) := by decide +kernel
theorem dX12_cost_1 : decode cX12_cost 1 = .ok (.iconst 0, 1) := by decide +kernel
theorem dX12_cost_2 : decode cX12_cost 2 = .ok (.iconst 2, 1) := by decide +kernel
theorem dX12_cost_3 : decode cX12_cost 3 = .ok (.invokestatic 53, 3) := by decide +kernel
theorem dX12_cost_6 : decode cX12_cost 6 = .ok (.ifCond .ne 5, 3) := by decide +kernel
theorem dX12_cost_9 : decode cX12_cost 9 = .ok (.iconst (-1), 1) := by decide +kernel
theorem dX12_cost_10 : decode cX12_cost 10 = .ok (.ireturn, 1) := by decide +kernel
theorem dX12_cost_11 : decode cX12_cost 11 = .ok (.aload_n 0, 1) := by decide +kernel
theorem dX12_cost_12 : decode cX12_cost 12 = .ok (.dup, 1) := by decide +kernel
theorem dX12_cost_13 : decode cX12_cost 13 = .ok (.getfield 57, 3) := by decide +kernel
theorem dX12_cost_16 : decode cX12_cost 16 = .ok (.iload_n 1, 1) := by decide +kernel
theorem dX12_cost_17 : decode cX12_cost 17 = .ok (.ifCond .ne 7, 3) := by decide +kernel
theorem dX12_cost_20 : decode cX12_cost 20 = .ok (.lconst 1, 1) := by decide +kernel
theorem dX12_cost_21 : decode cX12_cost 21 = .ok (.goto 17, 3) := by decide +kernel
theorem dX12_cost_24 : decode cX12_cost 24 = .ok (.iload_n 1, 1) := by decide +kernel
theorem dX12_cost_25 : decode cX12_cost 25 = .ok (.iconst 1, 1) := by decide +kernel
theorem dX12_cost_26 : decode cX12_cost 26 = .ok (.if_icmp .ne 9, 3) := by decide +kernel
theorem dX12_cost_29 : decode cX12_cost 29 = .ok (.ldc2_w 61, 3) := by decide +kernel
theorem dX12_cost_32 : decode cX12_cost 32 = .ok (.goto 6, 3) := by decide +kernel
theorem dX12_cost_35 : decode cX12_cost 35 = .ok (.ldc2_w 63, 3) := by decide +kernel
theorem dX12_cost_38 : decode cX12_cost 38 = .ok (.ladd, 1) := by decide +kernel
theorem dX12_cost_39 : decode cX12_cost 39 = .ok (.putfield 57, 3) := by decide +kernel
theorem dX12_cost_42 : decode cX12_cost 42 = .ok (.iload_n 1, 1) := by decide +kernel
theorem dX12_cost_43 : decode cX12_cost 43 = .ok (.iload_n 2, 1) := by decide +kernel
theorem dX12_cost_44 : decode cX12_cost 44 = .ok (.iload_n 3, 1) := by decide +kernel
theorem dX12_cost_45 : decode cX12_cost 45 = .ok (.invokestatic 65, 3) := by decide +kernel
theorem dX12_cost_48 : decode cX12_cost 48 = .ok (.ireturn, 1) := by decide +kernel
theorem dX12_place_0 : decode cX12_place 0 = .ok (.iload_n 0, 1) := by decide +kernel
theorem dX12_place_1 : decode cX12_place 1 = .ok (.bipush 17, 2) := by decide +kernel
theorem dX12_place_3 : decode cX12_place 3 = .ok (.iload_n 1, 1) := by decide +kernel
theorem dX12_place_4 : decode cX12_place 4 = .ok (.bipush 17, 2) := by decide +kernel
theorem dX12_place_6 : decode cX12_place 6 = .ok (.iload_n 2, 1) := by decide +kernel
theorem dX12_place_7 : decode cX12_place 7 = .ok (.bipush 17, 2) := by decide +kernel
theorem dX12_place_9 : decode cX12_place 9 = .ok (.iload_n 3, 1) := by decide +kernel
theorem dX12_place_10 : decode cX12_place 10 = .ok (.imul, 1) := by decide +kernel
theorem dX12_place_11 : decode cX12_place 11 = .ok (.iadd, 1) := by decide +kernel
theorem dX12_place_12 : decode cX12_place 12 = .ok (.imul, 1) := by decide +kernel
theorem dX12_place_13 : decode cX12_place 13 = .ok (.iadd, 1) := by decide +kernel
theorem dX12_place_14 : decode cX12_place 14 = .ok (.imul, 1) := by decide +kernel
theorem dX12_place_15 : decode cX12_place 15 = .ok (.iadd, 1) := by decide +kernel
theorem dX12_place_16 : decode cX12_place 16 = .ok (.ireturn, 1) := by decide +kernel
theorem dX12_behind_0 : decode cX12_behind 0 = .ok (.iload_n 0, 1) := by decide +kernel
theorem dX12_behind_1 : decode cX12_behind 1 = .ok (.iload_n 1, 1) := by decide +kernel
theorem dX12_behind_2 : decode cX12_behind 2 = .ok (.iconst 1, 1) := by decide +kernel
theorem dX12_behind_3 : decode cX12_behind 3 = .ok (.invokestatic 65, 3) := by decide +kernel
theorem dX12_behind_6 : decode cX12_behind 6 = .ok (.istore 4, 2) := by decide +kernel
theorem dX12_behind_8 : decode cX12_behind 8 = .ok (.iload_n 0, 1) := by decide +kernel
theorem dX12_behind_9 : decode cX12_behind 9 = .ok (.iload_n 1, 1) := by decide +kernel
theorem dX12_behind_10 : decode cX12_behind 10 = .ok (.iconst 0, 1) := by decide +kernel
theorem dX12_behind_11 : decode cX12_behind 11 = .ok (.invokestatic 65, 3) := by decide +kernel
theorem dX12_behind_14 : decode cX12_behind 14 = .ok (.istore 5, 2) := by decide +kernel
theorem dX12_behind_16 : decode cX12_behind 16 = .ok (.iconst 0, 1) := by decide +kernel
theorem dX12_behind_17 : decode cX12_behind 17 = .ok (.istore 6, 2) := by decide +kernel
theorem dX12_behind_19 : decode cX12_behind 19 = .ok (.iconst 0, 1) := by decide +kernel
theorem dX12_behind_20 : decode cX12_behind 20 = .ok (.istore 7, 2) := by decide +kernel
theorem dX12_behind_22 : decode cX12_behind 22 = .ok (.iload 7, 2) := by decide +kernel
theorem dX12_behind_24 : decode cX12_behind 24 = .ok (.iconst 4, 1) := by decide +kernel
theorem dX12_behind_25 : decode cX12_behind 25 = .ok (.if_icmp .ge 99, 3) := by decide +kernel
theorem dX12_behind_28 : decode cX12_behind 28 = .ok (.iload 7, 2) := by decide +kernel
theorem dX12_behind_30 : decode cX12_behind 30 = .ok (.iload 4, 2) := by decide +kernel
theorem dX12_behind_32 : decode cX12_behind 32 = .ok (.iadd, 1) := by decide +kernel
theorem dX12_behind_33 : decode cX12_behind 33 = .ok (.iconst 4, 1) := by decide +kernel
theorem dX12_behind_34 : decode cX12_behind 34 = .ok (.if_icmp .ge 13, 3) := by decide +kernel
theorem dX12_behind_37 : decode cX12_behind 37 = .ok (.aload_n 2, 1) := by decide +kernel
theorem dX12_behind_38 : decode cX12_behind 38 = .ok (.iload 7, 2) := by decide +kernel
theorem dX12_behind_40 : decode cX12_behind 40 = .ok (.iload 4, 2) := by decide +kernel
theorem dX12_behind_42 : decode cX12_behind 42 = .ok (.iadd, 1) := by decide +kernel
theorem dX12_behind_43 : decode cX12_behind 43 = .ok (.iaload, 1) := by decide +kernel
theorem dX12_behind_44 : decode cX12_behind 44 = .ok (.goto 4, 3) := by decide +kernel
theorem dX12_behind_47 : decode cX12_behind 47 = .ok (.iconst 0, 1) := by decide +kernel
theorem dX12_behind_48 : decode cX12_behind 48 = .ok (.istore 8, 2) := by decide +kernel
theorem dX12_behind_50 : decode cX12_behind 50 = .ok (.iload 8, 2) := by decide +kernel
theorem dX12_behind_52 : decode cX12_behind 52 = .ok (.iload 7, 2) := by decide +kernel
theorem dX12_behind_54 : decode cX12_behind 54 = .ok (.iload 5, 2) := by decide +kernel
theorem dX12_behind_56 : decode cX12_behind 56 = .ok (.iadd, 1) := by decide +kernel
theorem dX12_behind_57 : decode cX12_behind 57 = .ok (.iconst 4, 1) := by decide +kernel
theorem dX12_behind_58 : decode cX12_behind 58 = .ok (.if_icmp .ge 13, 3) := by decide +kernel
theorem dX12_behind_61 : decode cX12_behind 61 = .ok (.aload_n 3, 1) := by decide +kernel
theorem dX12_behind_62 : decode cX12_behind 62 = .ok (.iload 7, 2) := by decide +kernel
theorem dX12_behind_64 : decode cX12_behind 64 = .ok (.iload 5, 2) := by decide +kernel
theorem dX12_behind_66 : decode cX12_behind 66 = .ok (.iadd, 1) := by decide +kernel
theorem dX12_behind_67 : decode cX12_behind 67 = .ok (.iaload, 1) := by decide +kernel
theorem dX12_behind_68 : decode cX12_behind 68 = .ok (.goto 4, 3) := by decide +kernel
theorem dX12_behind_71 : decode cX12_behind 71 = .ok (.iconst 0, 1) := by decide +kernel
theorem dX12_behind_72 : decode cX12_behind 72 = .ok (.iadd, 1) := by decide +kernel
theorem dX12_behind_73 : decode cX12_behind 73 = .ok (.istore 8, 2) := by decide +kernel
theorem dX12_behind_75 : decode cX12_behind 75 = .ok (.iload 6, 2) := by decide +kernel
theorem dX12_behind_77 : decode cX12_behind 77 = .ok (.iload 8, 2) := by decide +kernel
theorem dX12_behind_79 : decode cX12_behind 79 = .ok (.iload 7, 2) := by decide +kernel
theorem dX12_behind_81 : decode cX12_behind 81 = .ok (.ifCond .ne 7, 3) := by decide +kernel
theorem dX12_behind_84 : decode cX12_behind 84 = .ok (.iconst 1, 1) := by decide +kernel
theorem dX12_behind_85 : decode cX12_behind 85 = .ok (.goto 29, 3) := by decide +kernel
theorem dX12_behind_88 : decode cX12_behind 88 = .ok (.iload 7, 2) := by decide +kernel
theorem dX12_behind_90 : decode cX12_behind 90 = .ok (.iconst 1, 1) := by decide +kernel
theorem dX12_behind_91 : decode cX12_behind 91 = .ok (.if_icmp .ne 8, 3) := by decide +kernel
theorem dX12_behind_94 : decode cX12_behind 94 = .ok (.bipush 17, 2) := by decide +kernel
theorem dX12_behind_96 : decode cX12_behind 96 = .ok (.goto 18, 3) := by decide +kernel
theorem dX12_behind_99 : decode cX12_behind 99 = .ok (.iload 7, 2) := by decide +kernel
theorem dX12_behind_101 : decode cX12_behind 101 = .ok (.iconst 2, 1) := by decide +kernel
theorem dX12_behind_102 : decode cX12_behind 102 = .ok (.if_icmp .ne 9, 3) := by decide +kernel
theorem dX12_behind_105 : decode cX12_behind 105 = .ok (.sipush 289, 3) := by decide +kernel
theorem dX12_behind_108 : decode cX12_behind 108 = .ok (.goto 6, 3) := by decide +kernel
theorem dX12_behind_111 : decode cX12_behind 111 = .ok (.sipush 4913, 3) := by decide +kernel
theorem dX12_behind_114 : decode cX12_behind 114 = .ok (.imul, 1) := by decide +kernel
theorem dX12_behind_115 : decode cX12_behind 115 = .ok (.iadd, 1) := by decide +kernel
theorem dX12_behind_116 : decode cX12_behind 116 = .ok (.istore 6, 2) := by decide +kernel
theorem dX12_behind_118 : decode cX12_behind 118 = .ok (.iinc 7 1, 3) := by decide +kernel
theorem dX12_behind_121 : decode cX12_behind 121 = .ok (.goto (-99), 3) := by decide +kernel
theorem dX12_behind_124 : decode cX12_behind 124 = .ok (.iload 6, 2) := by decide +kernel
theorem dX12_behind_126 : decode cX12_behind 126 = .ok (.ireturn, 1) := by decide +kernel
theorem dX12_canDo_0 : decode cX12_canDo 0 = .ok (.iconst 1, 1) := by decide +kernel
theorem dX12_canDo_1 : decode cX12_canDo 1 = .ok (.istore_n 3, 1) := by decide +kernel
theorem dX12_canDo_2 : decode cX12_canDo 2 = .ok (.iconst 0, 1) := by decide +kernel
theorem dX12_canDo_3 : decode cX12_canDo 3 = .ok (.istore 4, 2) := by decide +kernel
theorem dX12_canDo_5 : decode cX12_canDo 5 = .ok (.iload 4, 2) := by decide +kernel
theorem dX12_canDo_7 : decode cX12_canDo 7 = .ok (.iconst 4, 1) := by decide +kernel
theorem dX12_canDo_8 : decode cX12_canDo 8 = .ok (.if_icmp .ge 21, 3) := by decide +kernel
theorem dX12_canDo_11 : decode cX12_canDo 11 = .ok (.iload_n 3, 1) := by decide +kernel
theorem dX12_canDo_12 : decode cX12_canDo 12 = .ok (.aload_n 0, 1) := by decide +kernel
theorem dX12_canDo_13 : decode cX12_canDo 13 = .ok (.getfield 40, 3) := by decide +kernel
theorem dX12_canDo_16 : decode cX12_canDo 16 = .ok (.iload 4, 2) := by decide +kernel
theorem dX12_canDo_18 : decode cX12_canDo 18 = .ok (.iaload, 1) := by decide +kernel
theorem dX12_canDo_19 : decode cX12_canDo 19 = .ok (.iconst 1, 1) := by decide +kernel
theorem dX12_canDo_20 : decode cX12_canDo 20 = .ok (.iadd, 1) := by decide +kernel
theorem dX12_canDo_21 : decode cX12_canDo 21 = .ok (.imul, 1) := by decide +kernel
theorem dX12_canDo_22 : decode cX12_canDo 22 = .ok (.istore_n 3, 1) := by decide +kernel
theorem dX12_canDo_23 : decode cX12_canDo 23 = .ok (.iinc 4 1, 3) := by decide +kernel
theorem dX12_canDo_26 : decode cX12_canDo 26 = .ok (.goto (-21), 3) := by decide +kernel
theorem dX12_canDo_29 : decode cX12_canDo 29 = .ok (.iconst 0, 1) := by decide +kernel
theorem dX12_canDo_30 : decode cX12_canDo 30 = .ok (.istore 4, 2) := by decide +kernel
theorem dX12_canDo_32 : decode cX12_canDo 32 = .ok (.iload 4, 2) := by decide +kernel
theorem dX12_canDo_34 : decode cX12_canDo 34 = .ok (.iload_n 3, 1) := by decide +kernel
theorem dX12_canDo_35 : decode cX12_canDo 35 = .ok (.if_icmp .ge 137, 3) := by decide +kernel
theorem dX12_canDo_38 : decode cX12_canDo 38 = .ok (.iload 4, 2) := by decide +kernel
theorem dX12_canDo_40 : decode cX12_canDo 40 = .ok (.istore 5, 2) := by decide +kernel
theorem dX12_canDo_42 : decode cX12_canDo 42 = .ok (.iconst 0, 1) := by decide +kernel
theorem dX12_canDo_43 : decode cX12_canDo 43 = .ok (.istore 6, 2) := by decide +kernel
theorem dX12_canDo_45 : decode cX12_canDo 45 = .ok (.iload 6, 2) := by decide +kernel
theorem dX12_canDo_47 : decode cX12_canDo 47 = .ok (.iconst 4, 1) := by decide +kernel
theorem dX12_canDo_48 : decode cX12_canDo 48 = .ok (.if_icmp .ge 64, 3) := by decide +kernel
theorem dX12_canDo_51 : decode cX12_canDo 51 = .ok (.aload_n 0, 1) := by decide +kernel
theorem dX12_canDo_52 : decode cX12_canDo 52 = .ok (.getfield 34, 3) := by decide +kernel
theorem dX12_canDo_55 : decode cX12_canDo 55 = .ok (.iload 6, 2) := by decide +kernel
theorem dX12_canDo_57 : decode cX12_canDo 57 = .ok (.iload 5, 2) := by decide +kernel
theorem dX12_canDo_59 : decode cX12_canDo 59 = .ok (.aload_n 0, 1) := by decide +kernel
theorem dX12_canDo_60 : decode cX12_canDo 60 = .ok (.getfield 40, 3) := by decide +kernel
theorem dX12_canDo_63 : decode cX12_canDo 63 = .ok (.iload 6, 2) := by decide +kernel
theorem dX12_canDo_65 : decode cX12_canDo 65 = .ok (.iaload, 1) := by decide +kernel
theorem dX12_canDo_66 : decode cX12_canDo 66 = .ok (.iconst 1, 1) := by decide +kernel
theorem dX12_canDo_67 : decode cX12_canDo 67 = .ok (.iadd, 1) := by decide +kernel
theorem dX12_canDo_68 : decode cX12_canDo 68 = .ok (.irem, 1) := by decide +kernel
theorem dX12_canDo_69 : decode cX12_canDo 69 = .ok (.iastore, 1) := by decide +kernel
theorem dX12_canDo_70 : decode cX12_canDo 70 = .ok (.aload_n 0, 1) := by decide +kernel
theorem dX12_canDo_71 : decode cX12_canDo 71 = .ok (.getfield 37, 3) := by decide +kernel
theorem dX12_canDo_74 : decode cX12_canDo 74 = .ok (.iload 6, 2) := by decide +kernel
theorem dX12_canDo_76 : decode cX12_canDo 76 = .ok (.aload_n 0, 1) := by decide +kernel
theorem dX12_canDo_77 : decode cX12_canDo 77 = .ok (.getfield 40, 3) := by decide +kernel
theorem dX12_canDo_80 : decode cX12_canDo 80 = .ok (.iload 6, 2) := by decide +kernel
theorem dX12_canDo_82 : decode cX12_canDo 82 = .ok (.iaload, 1) := by decide +kernel
theorem dX12_canDo_83 : decode cX12_canDo 83 = .ok (.aload_n 0, 1) := by decide +kernel
theorem dX12_canDo_84 : decode cX12_canDo 84 = .ok (.getfield 34, 3) := by decide +kernel
theorem dX12_canDo_87 : decode cX12_canDo 87 = .ok (.iload 6, 2) := by decide +kernel
theorem dX12_canDo_89 : decode cX12_canDo 89 = .ok (.iaload, 1) := by decide +kernel
theorem dX12_canDo_90 : decode cX12_canDo 90 = .ok (.isub, 1) := by decide +kernel
theorem dX12_canDo_91 : decode cX12_canDo 91 = .ok (.iastore, 1) := by decide +kernel
theorem dX12_canDo_92 : decode cX12_canDo 92 = .ok (.iload 5, 2) := by decide +kernel
theorem dX12_canDo_94 : decode cX12_canDo 94 = .ok (.aload_n 0, 1) := by decide +kernel
theorem dX12_canDo_95 : decode cX12_canDo 95 = .ok (.getfield 40, 3) := by decide +kernel
theorem dX12_canDo_98 : decode cX12_canDo 98 = .ok (.iload 6, 2) := by decide +kernel
theorem dX12_canDo_100 : decode cX12_canDo 100 = .ok (.iaload, 1) := by decide +kernel
theorem dX12_canDo_101 : decode cX12_canDo 101 = .ok (.iconst 1, 1) := by decide +kernel
theorem dX12_canDo_102 : decode cX12_canDo 102 = .ok (.iadd, 1) := by decide +kernel
theorem dX12_canDo_103 : decode cX12_canDo 103 = .ok (.idiv, 1) := by decide +kernel
theorem dX12_canDo_104 : decode cX12_canDo 104 = .ok (.istore 5, 2) := by decide +kernel
theorem dX12_canDo_106 : decode cX12_canDo 106 = .ok (.iinc 6 1, 3) := by decide +kernel
theorem dX12_canDo_109 : decode cX12_canDo 109 = .ok (.goto (-64), 3) := by decide +kernel
theorem dX12_canDo_112 : decode cX12_canDo 112 = .ok (.iload_n 1, 1) := by decide +kernel
theorem dX12_canDo_113 : decode cX12_canDo 113 = .ok (.iconst 1, 1) := by decide +kernel
theorem dX12_canDo_114 : decode cX12_canDo 114 = .ok (.aload_n 0, 1) := by decide +kernel
theorem dX12_canDo_115 : decode cX12_canDo 115 = .ok (.getfield 34, 3) := by decide +kernel
theorem dX12_canDo_118 : decode cX12_canDo 118 = .ok (.aload_n 0, 1) := by decide +kernel
theorem dX12_canDo_119 : decode cX12_canDo 119 = .ok (.getfield 37, 3) := by decide +kernel
theorem dX12_canDo_122 : decode cX12_canDo 122 = .ok (.invokestatic 69, 3) := by decide +kernel
theorem dX12_canDo_125 : decode cX12_canDo 125 = .ok (.istore 6, 2) := by decide +kernel
theorem dX12_canDo_127 : decode cX12_canDo 127 = .ok (.iload_n 1, 1) := by decide +kernel
theorem dX12_canDo_128 : decode cX12_canDo 128 = .ok (.iconst 0, 1) := by decide +kernel
theorem dX12_canDo_129 : decode cX12_canDo 129 = .ok (.aload_n 0, 1) := by decide +kernel
theorem dX12_canDo_130 : decode cX12_canDo 130 = .ok (.getfield 34, 3) := by decide +kernel
theorem dX12_canDo_133 : decode cX12_canDo 133 = .ok (.aload_n 0, 1) := by decide +kernel
theorem dX12_canDo_134 : decode cX12_canDo 134 = .ok (.getfield 37, 3) := by decide +kernel
theorem dX12_canDo_137 : decode cX12_canDo 137 = .ok (.invokestatic 69, 3) := by decide +kernel
theorem dX12_canDo_140 : decode cX12_canDo 140 = .ok (.istore 7, 2) := by decide +kernel
theorem dX12_canDo_142 : decode cX12_canDo 142 = .ok (.aload_n 0, 1) := by decide +kernel
theorem dX12_canDo_143 : decode cX12_canDo 143 = .ok (.iload_n 1, 1) := by decide +kernel
theorem dX12_canDo_144 : decode cX12_canDo 144 = .ok (.iload 6, 2) := by decide +kernel
theorem dX12_canDo_146 : decode cX12_canDo 146 = .ok (.iload_n 2, 1) := by decide +kernel
theorem dX12_canDo_147 : decode cX12_canDo 147 = .ok (.invokevirtual 73, 3) := by decide +kernel
theorem dX12_canDo_150 : decode cX12_canDo 150 = .ok (.ifCond .eq 16, 3) := by decide +kernel
theorem dX12_canDo_153 : decode cX12_canDo 153 = .ok (.aload_n 0, 1) := by decide +kernel
theorem dX12_canDo_154 : decode cX12_canDo 154 = .ok (.iload_n 1, 1) := by decide +kernel
theorem dX12_canDo_155 : decode cX12_canDo 155 = .ok (.iload 7, 2) := by decide +kernel
theorem dX12_canDo_157 : decode cX12_canDo 157 = .ok (.iload_n 2, 1) := by decide +kernel
theorem dX12_canDo_158 : decode cX12_canDo 158 = .ok (.invokevirtual 73, 3) := by decide +kernel
theorem dX12_canDo_161 : decode cX12_canDo 161 = .ok (.ifCond .eq 5, 3) := by decide +kernel
theorem dX12_canDo_164 : decode cX12_canDo 164 = .ok (.iconst 1, 1) := by decide +kernel
theorem dX12_canDo_165 : decode cX12_canDo 165 = .ok (.ireturn, 1) := by decide +kernel
theorem dX12_canDo_166 : decode cX12_canDo 166 = .ok (.iinc 4 1, 3) := by decide +kernel
theorem dX12_canDo_169 : decode cX12_canDo 169 = .ok (.goto (-137), 3) := by decide +kernel
theorem dX12_canDo_172 : decode cX12_canDo 172 = .ok (.iconst 0, 1) := by decide +kernel
theorem dX12_canDo_173 : decode cX12_canDo 173 = .ok (.ireturn, 1) := by decide +kernel
theorem dX12_isWithin_0 : decode cX12_isWithin 0 = .ok (.ldc 76, 2) := by decide +kernel
theorem dX12_isWithin_2 : decode cX12_isWithin 2 = .ok (.iload_n 1, 1) := by decide +kernel
theorem dX12_isWithin_3 : decode cX12_isWithin 3 = .ok (.imul, 1) := by decide +kernel
theorem dX12_isWithin_4 : decode cX12_isWithin 4 = .ok (.iload_n 2, 1) := by decide +kernel
theorem dX12_isWithin_5 : decode cX12_isWithin 5 = .ok (.iadd, 1) := by decide +kernel
theorem dX12_isWithin_6 : decode cX12_isWithin 6 = .ok (.istore 4, 2) := by decide +kernel
theorem dX12_isWithin_8 : decode cX12_isWithin 8 = .ok (.iload_n 2, 1) := by decide +kernel
theorem dX12_isWithin_9 : decode cX12_isWithin 9 = .ok (.ifCond .eq 24, 3) := by decide +kernel
theorem dX12_isWithin_12 : decode cX12_isWithin 12 = .ok (.aload_n 0, 1) := by decide +kernel
theorem dX12_isWithin_13 : decode cX12_isWithin 13 = .ok (.getfield 24, 3) := by decide +kernel
theorem dX12_isWithin_16 : decode cX12_isWithin 16 = .ok (.iload 4, 2) := by decide +kernel
theorem dX12_isWithin_18 : decode cX12_isWithin 18 = .ok (.baload, 1) := by decide +kernel
theorem dX12_isWithin_19 : decode cX12_isWithin 19 = .ok (.ifCond .le 18, 3) := by decide +kernel
theorem dX12_isWithin_22 : decode cX12_isWithin 22 = .ok (.aload_n 0, 1) := by decide +kernel
theorem dX12_isWithin_23 : decode cX12_isWithin 23 = .ok (.getfield 24, 3) := by decide +kernel
theorem dX12_isWithin_26 : decode cX12_isWithin 26 = .ok (.iload 4, 2) := by decide +kernel
theorem dX12_isWithin_28 : decode cX12_isWithin 28 = .ok (.baload, 1) := by decide +kernel
theorem dX12_isWithin_29 : decode cX12_isWithin 29 = .ok (.iload_n 3, 1) := by decide +kernel
theorem dX12_isWithin_30 : decode cX12_isWithin 30 = .ok (.if_icmp .gt 7, 3) := by decide +kernel
theorem dX12_isWithin_33 : decode cX12_isWithin 33 = .ok (.iconst 1, 1) := by decide +kernel
theorem dX12_isWithin_34 : decode cX12_isWithin 34 = .ok (.goto 4, 3) := by decide +kernel
theorem dX12_isWithin_37 : decode cX12_isWithin 37 = .ok (.iconst 0, 1) := by decide +kernel
theorem dX12_isWithin_38 : decode cX12_isWithin 38 = .ok (.ireturn, 1) := by decide +kernel
theorem dX12_mayDo_0 : decode cX12_mayDo 0 = .ok (.iconst 1, 1) := by decide +kernel
theorem dX12_mayDo_1 : decode cX12_mayDo 1 = .ok (.istore_n 3, 1) := by decide +kernel
theorem dX12_mayDo_2 : decode cX12_mayDo 2 = .ok (.iconst 0, 1) := by decide +kernel
theorem dX12_mayDo_3 : decode cX12_mayDo 3 = .ok (.istore 4, 2) := by decide +kernel
theorem dX12_mayDo_5 : decode cX12_mayDo 5 = .ok (.iload 4, 2) := by decide +kernel
theorem dX12_mayDo_7 : decode cX12_mayDo 7 = .ok (.iconst 4, 1) := by decide +kernel
theorem dX12_mayDo_8 : decode cX12_mayDo 8 = .ok (.if_icmp .ge 91, 3) := by decide +kernel
theorem dX12_mayDo_11 : decode cX12_mayDo 11 = .ok (.iload_n 1, 1) := by decide +kernel
theorem dX12_mayDo_12 : decode cX12_mayDo 12 = .ok (.iload 4, 2) := by decide +kernel
theorem dX12_mayDo_14 : decode cX12_mayDo 14 = .ok (.ifCond .ne 7, 3) := by decide +kernel
theorem dX12_mayDo_17 : decode cX12_mayDo 17 = .ok (.iconst 1, 1) := by decide +kernel
theorem dX12_mayDo_18 : decode cX12_mayDo 18 = .ok (.goto 29, 3) := by decide +kernel
theorem dX12_mayDo_21 : decode cX12_mayDo 21 = .ok (.iload 4, 2) := by decide +kernel
theorem dX12_mayDo_23 : decode cX12_mayDo 23 = .ok (.iconst 1, 1) := by decide +kernel
theorem dX12_mayDo_24 : decode cX12_mayDo 24 = .ok (.if_icmp .ne 8, 3) := by decide +kernel
theorem dX12_mayDo_27 : decode cX12_mayDo 27 = .ok (.bipush 17, 2) := by decide +kernel
theorem dX12_mayDo_29 : decode cX12_mayDo 29 = .ok (.goto 18, 3) := by decide +kernel
theorem dX12_mayDo_32 : decode cX12_mayDo 32 = .ok (.iload 4, 2) := by decide +kernel
theorem dX12_mayDo_34 : decode cX12_mayDo 34 = .ok (.iconst 2, 1) := by decide +kernel
theorem dX12_mayDo_35 : decode cX12_mayDo 35 = .ok (.if_icmp .ne 9, 3) := by decide +kernel
theorem dX12_mayDo_38 : decode cX12_mayDo 38 = .ok (.sipush 289, 3) := by decide +kernel
theorem dX12_mayDo_41 : decode cX12_mayDo 41 = .ok (.goto 6, 3) := by decide +kernel
theorem dX12_mayDo_44 : decode cX12_mayDo 44 = .ok (.sipush 4913, 3) := by decide +kernel
theorem dX12_mayDo_47 : decode cX12_mayDo 47 = .ok (.isub, 1) := by decide +kernel
theorem dX12_mayDo_48 : decode cX12_mayDo 48 = .ok (.istore 5, 2) := by decide +kernel
theorem dX12_mayDo_50 : decode cX12_mayDo 50 = .ok (.iload_n 3, 1) := by decide +kernel
theorem dX12_mayDo_51 : decode cX12_mayDo 51 = .ok (.ifCond .eq 40, 3) := by decide +kernel
theorem dX12_mayDo_54 : decode cX12_mayDo 54 = .ok (.aload_n 0, 1) := by decide +kernel
theorem dX12_mayDo_55 : decode cX12_mayDo 55 = .ok (.getfield 40, 3) := by decide +kernel
theorem dX12_mayDo_58 : decode cX12_mayDo 58 = .ok (.iload 4, 2) := by decide +kernel
theorem dX12_mayDo_60 : decode cX12_mayDo 60 = .ok (.iaload, 1) := by decide +kernel
theorem dX12_mayDo_61 : decode cX12_mayDo 61 = .ok (.ifCond .eq 26, 3) := by decide +kernel
theorem dX12_mayDo_64 : decode cX12_mayDo 64 = .ok (.aload_n 0, 1) := by decide +kernel
theorem dX12_mayDo_65 : decode cX12_mayDo 65 = .ok (.getfield 24, 3) := by decide +kernel
theorem dX12_mayDo_68 : decode cX12_mayDo 68 = .ok (.iload 5, 2) := by decide +kernel
theorem dX12_mayDo_70 : decode cX12_mayDo 70 = .ok (.baload, 1) := by decide +kernel
theorem dX12_mayDo_71 : decode cX12_mayDo 71 = .ok (.ifCond .le 20, 3) := by decide +kernel
theorem dX12_mayDo_74 : decode cX12_mayDo 74 = .ok (.aload_n 0, 1) := by decide +kernel
theorem dX12_mayDo_75 : decode cX12_mayDo 75 = .ok (.getfield 24, 3) := by decide +kernel
theorem dX12_mayDo_78 : decode cX12_mayDo 78 = .ok (.iload 5, 2) := by decide +kernel
theorem dX12_mayDo_80 : decode cX12_mayDo 80 = .ok (.baload, 1) := by decide +kernel
theorem dX12_mayDo_81 : decode cX12_mayDo 81 = .ok (.iload_n 2, 1) := by decide +kernel
theorem dX12_mayDo_82 : decode cX12_mayDo 82 = .ok (.iconst 1, 1) := by decide +kernel
theorem dX12_mayDo_83 : decode cX12_mayDo 83 = .ok (.iadd, 1) := by decide +kernel
theorem dX12_mayDo_84 : decode cX12_mayDo 84 = .ok (.if_icmp .gt 7, 3) := by decide +kernel
theorem dX12_mayDo_87 : decode cX12_mayDo 87 = .ok (.iconst 1, 1) := by decide +kernel
theorem dX12_mayDo_88 : decode cX12_mayDo 88 = .ok (.goto 4, 3) := by decide +kernel
theorem dX12_mayDo_91 : decode cX12_mayDo 91 = .ok (.iconst 0, 1) := by decide +kernel
theorem dX12_mayDo_92 : decode cX12_mayDo 92 = .ok (.istore_n 3, 1) := by decide +kernel
theorem dX12_mayDo_93 : decode cX12_mayDo 93 = .ok (.iinc 4 1, 3) := by decide +kernel
theorem dX12_mayDo_96 : decode cX12_mayDo 96 = .ok (.goto (-91), 3) := by decide +kernel
theorem dX12_mayDo_99 : decode cX12_mayDo 99 = .ok (.iload_n 3, 1) := by decide +kernel
theorem dX12_mayDo_100 : decode cX12_mayDo 100 = .ok (.ireturn, 1) := by decide +kernel
theorem dX12_levels_0 : decode cX12_levels 0 = .ok (.iconst 0, 1) := by decide +kernel
theorem dX12_levels_1 : decode cX12_levels 1 = .ok (.istore_n 3, 1) := by decide +kernel
theorem dX12_levels_2 : decode cX12_levels 2 = .ok (.iload_n 3, 1) := by decide +kernel
theorem dX12_levels_3 : decode cX12_levels 3 = .ok (.aload_n 0, 1) := by decide +kernel
theorem dX12_levels_4 : decode cX12_levels 4 = .ok (.getfield 43, 3) := by decide +kernel
theorem dX12_levels_7 : decode cX12_levels 7 = .ok (.iconst 3, 1) := by decide +kernel
theorem dX12_levels_8 : decode cX12_levels 8 = .ok (.iaload, 1) := by decide +kernel
theorem dX12_levels_9 : decode cX12_levels 9 = .ok (.if_icmp .gt 219, 3) := by decide +kernel
theorem dX12_levels_12 : decode cX12_levels 12 = .ok (.iconst 0, 1) := by decide +kernel
theorem dX12_levels_13 : decode cX12_levels 13 = .ok (.istore 4, 2) := by decide +kernel
theorem dX12_levels_15 : decode cX12_levels 15 = .ok (.iload 4, 2) := by decide +kernel
theorem dX12_levels_17 : decode cX12_levels 17 = .ok (.iload_n 3, 1) := by decide +kernel
theorem dX12_levels_18 : decode cX12_levels 18 = .ok (.iadd, 1) := by decide +kernel
theorem dX12_levels_19 : decode cX12_levels 19 = .ok (.aload_n 0, 1) := by decide +kernel
theorem dX12_levels_20 : decode cX12_levels 20 = .ok (.getfield 43, 3) := by decide +kernel
theorem dX12_levels_23 : decode cX12_levels 23 = .ok (.iconst 2, 1) := by decide +kernel
theorem dX12_levels_24 : decode cX12_levels 24 = .ok (.iaload, 1) := by decide +kernel
theorem dX12_levels_25 : decode cX12_levels 25 = .ok (.if_icmp .gt 197, 3) := by decide +kernel
theorem dX12_levels_28 : decode cX12_levels 28 = .ok (.iconst 0, 1) := by decide +kernel
theorem dX12_levels_29 : decode cX12_levels 29 = .ok (.istore 5, 2) := by decide +kernel
theorem dX12_levels_31 : decode cX12_levels 31 = .ok (.iload 5, 2) := by decide +kernel
theorem dX12_levels_33 : decode cX12_levels 33 = .ok (.iload 4, 2) := by decide +kernel
theorem dX12_levels_35 : decode cX12_levels 35 = .ok (.iadd, 1) := by decide +kernel
theorem dX12_levels_36 : decode cX12_levels 36 = .ok (.iload_n 3, 1) := by decide +kernel
theorem dX12_levels_37 : decode cX12_levels 37 = .ok (.iadd, 1) := by decide +kernel
theorem dX12_levels_38 : decode cX12_levels 38 = .ok (.aload_n 0, 1) := by decide +kernel
theorem dX12_levels_39 : decode cX12_levels 39 = .ok (.getfield 43, 3) := by decide +kernel
theorem dX12_levels_42 : decode cX12_levels 42 = .ok (.iconst 1, 1) := by decide +kernel
theorem dX12_levels_43 : decode cX12_levels 43 = .ok (.iaload, 1) := by decide +kernel
theorem dX12_levels_44 : decode cX12_levels 44 = .ok (.if_icmp .gt 172, 3) := by decide +kernel
theorem dX12_levels_47 : decode cX12_levels 47 = .ok (.iconst 0, 1) := by decide +kernel
theorem dX12_levels_48 : decode cX12_levels 48 = .ok (.istore 6, 2) := by decide +kernel
theorem dX12_levels_50 : decode cX12_levels 50 = .ok (.iload 6, 2) := by decide +kernel
theorem dX12_levels_52 : decode cX12_levels 52 = .ok (.iload 5, 2) := by decide +kernel
theorem dX12_levels_54 : decode cX12_levels 54 = .ok (.iadd, 1) := by decide +kernel
theorem dX12_levels_55 : decode cX12_levels 55 = .ok (.iload 4, 2) := by decide +kernel
theorem dX12_levels_57 : decode cX12_levels 57 = .ok (.iadd, 1) := by decide +kernel
theorem dX12_levels_58 : decode cX12_levels 58 = .ok (.iload_n 3, 1) := by decide +kernel
theorem dX12_levels_59 : decode cX12_levels 59 = .ok (.iadd, 1) := by decide +kernel
theorem dX12_levels_60 : decode cX12_levels 60 = .ok (.aload_n 0, 1) := by decide +kernel
theorem dX12_levels_61 : decode cX12_levels 61 = .ok (.getfield 43, 3) := by decide +kernel
theorem dX12_levels_64 : decode cX12_levels 64 = .ok (.iconst 0, 1) := by decide +kernel
theorem dX12_levels_65 : decode cX12_levels 65 = .ok (.iaload, 1) := by decide +kernel
theorem dX12_levels_66 : decode cX12_levels 66 = .ok (.if_icmp .gt 144, 3) := by decide +kernel
theorem dX12_levels_69 : decode cX12_levels 69 = .ok (.ldc 76, 2) := by decide +kernel
theorem dX12_levels_71 : decode cX12_levels 71 = .ok (.iload_n 1, 1) := by decide +kernel
theorem dX12_levels_72 : decode cX12_levels 72 = .ok (.imul, 1) := by decide +kernel
theorem dX12_levels_73 : decode cX12_levels 73 = .ok (.iload 6, 2) := by decide +kernel
theorem dX12_levels_75 : decode cX12_levels 75 = .ok (.iload 5, 2) := by decide +kernel
theorem dX12_levels_77 : decode cX12_levels 77 = .ok (.iload 4, 2) := by decide +kernel
theorem dX12_levels_79 : decode cX12_levels 79 = .ok (.iload_n 3, 1) := by decide +kernel
theorem dX12_levels_80 : decode cX12_levels 80 = .ok (.invokestatic 77, 3) := by decide +kernel
theorem dX12_levels_83 : decode cX12_levels 83 = .ok (.iadd, 1) := by decide +kernel
theorem dX12_levels_84 : decode cX12_levels 84 = .ok (.istore 7, 2) := by decide +kernel
theorem dX12_levels_86 : decode cX12_levels 86 = .ok (.aload_n 0, 1) := by decide +kernel
theorem dX12_levels_87 : decode cX12_levels 87 = .ok (.getfield 24, 3) := by decide +kernel
theorem dX12_levels_90 : decode cX12_levels 90 = .ok (.iload 7, 2) := by decide +kernel
theorem dX12_levels_92 : decode cX12_levels 92 = .ok (.baload, 1) := by decide +kernel
theorem dX12_levels_93 : decode cX12_levels 93 = .ok (.ifCond .ne 111, 3) := by decide +kernel
theorem dX12_levels_96 : decode cX12_levels 96 = .ok (.iload 6, 2) := by decide +kernel
theorem dX12_levels_98 : decode cX12_levels 98 = .ok (.iload 5, 2) := by decide +kernel
theorem dX12_levels_100 : decode cX12_levels 100 = .ok (.iadd, 1) := by decide +kernel
theorem dX12_levels_101 : decode cX12_levels 101 = .ok (.iload 4, 2) := by decide +kernel
theorem dX12_levels_103 : decode cX12_levels 103 = .ok (.iadd, 1) := by decide +kernel
theorem dX12_levels_104 : decode cX12_levels 104 = .ok (.iload_n 3, 1) := by decide +kernel
theorem dX12_levels_105 : decode cX12_levels 105 = .ok (.iadd, 1) := by decide +kernel
theorem dX12_levels_106 : decode cX12_levels 106 = .ok (.iconst 1, 1) := by decide +kernel
theorem dX12_levels_107 : decode cX12_levels 107 = .ok (.if_icmp .le 97, 3) := by decide +kernel
theorem dX12_levels_110 : decode cX12_levels 110 = .ok (.aload_n 0, 1) := by decide +kernel
theorem dX12_levels_111 : decode cX12_levels 111 = .ok (.getfield 40, 3) := by decide +kernel
theorem dX12_levels_114 : decode cX12_levels 114 = .ok (.iconst 0, 1) := by decide +kernel
theorem dX12_levels_115 : decode cX12_levels 115 = .ok (.iload 6, 2) := by decide +kernel
theorem dX12_levels_117 : decode cX12_levels 117 = .ok (.iastore, 1) := by decide +kernel
theorem dX12_levels_118 : decode cX12_levels 118 = .ok (.aload_n 0, 1) := by decide +kernel
theorem dX12_levels_119 : decode cX12_levels 119 = .ok (.getfield 40, 3) := by decide +kernel
theorem dX12_levels_122 : decode cX12_levels 122 = .ok (.iconst 1, 1) := by decide +kernel
theorem dX12_levels_123 : decode cX12_levels 123 = .ok (.iload 5, 2) := by decide +kernel
theorem dX12_levels_125 : decode cX12_levels 125 = .ok (.iastore, 1) := by decide +kernel
theorem dX12_levels_126 : decode cX12_levels 126 = .ok (.aload_n 0, 1) := by decide +kernel
theorem dX12_levels_127 : decode cX12_levels 127 = .ok (.getfield 40, 3) := by decide +kernel
theorem dX12_levels_130 : decode cX12_levels 130 = .ok (.iconst 2, 1) := by decide +kernel
theorem dX12_levels_131 : decode cX12_levels 131 = .ok (.iload 4, 2) := by decide +kernel
theorem dX12_levels_133 : decode cX12_levels 133 = .ok (.iastore, 1) := by decide +kernel
theorem dX12_levels_134 : decode cX12_levels 134 = .ok (.aload_n 0, 1) := by decide +kernel
theorem dX12_levels_135 : decode cX12_levels 135 = .ok (.getfield 40, 3) := by decide +kernel
theorem dX12_levels_138 : decode cX12_levels 138 = .ok (.iconst 3, 1) := by decide +kernel
theorem dX12_levels_139 : decode cX12_levels 139 = .ok (.iload_n 3, 1) := by decide +kernel
theorem dX12_levels_140 : decode cX12_levels 140 = .ok (.iastore, 1) := by decide +kernel
theorem dX12_levels_141 : decode cX12_levels 141 = .ok (.iload_n 2, 1) := by decide +kernel
theorem dX12_levels_142 : decode cX12_levels 142 = .ok (.bipush 12, 2) := by decide +kernel
theorem dX12_levels_144 : decode cX12_levels 144 = .ok (.if_icmp .gt 26, 3) := by decide +kernel
theorem dX12_levels_147 : decode cX12_levels 147 = .ok (.aload_n 0, 1) := by decide +kernel
theorem dX12_levels_148 : decode cX12_levels 148 = .ok (.iload 7, 2) := by decide +kernel
theorem dX12_levels_150 : decode cX12_levels 150 = .ok (.iload_n 2, 1) := by decide +kernel
theorem dX12_levels_151 : decode cX12_levels 151 = .ok (.invokevirtual 81, 3) := by decide +kernel
theorem dX12_levels_154 : decode cX12_levels 154 = .ok (.ifCond .eq 16, 3) := by decide +kernel
theorem dX12_levels_157 : decode cX12_levels 157 = .ok (.aload_n 0, 1) := by decide +kernel
theorem dX12_levels_158 : decode cX12_levels 158 = .ok (.iload_n 1, 1) := by decide +kernel
theorem dX12_levels_159 : decode cX12_levels 159 = .ok (.iload_n 2, 1) := by decide +kernel
theorem dX12_levels_160 : decode cX12_levels 160 = .ok (.invokevirtual 85, 3) := by decide +kernel
theorem dX12_levels_163 : decode cX12_levels 163 = .ok (.ifCond .eq 7, 3) := by decide +kernel
theorem dX12_levels_166 : decode cX12_levels 166 = .ok (.iconst 1, 1) := by decide +kernel
theorem dX12_levels_167 : decode cX12_levels 167 = .ok (.goto 4, 3) := by decide +kernel
theorem dX12_levels_170 : decode cX12_levels 170 = .ok (.iconst 0, 1) := by decide +kernel
theorem dX12_levels_171 : decode cX12_levels 171 = .ok (.istore 8, 2) := by decide +kernel
theorem dX12_levels_173 : decode cX12_levels 173 = .ok (.aload_n 0, 1) := by decide +kernel
theorem dX12_levels_174 : decode cX12_levels 174 = .ok (.getfield 24, 3) := by decide +kernel
theorem dX12_levels_177 : decode cX12_levels 177 = .ok (.iload 7, 2) := by decide +kernel
theorem dX12_levels_179 : decode cX12_levels 179 = .ok (.iload 8, 2) := by decide +kernel
theorem dX12_levels_181 : decode cX12_levels 181 = .ok (.ifCond .eq 10, 3) := by decide +kernel
theorem dX12_levels_184 : decode cX12_levels 184 = .ok (.iload_n 2, 1) := by decide +kernel
theorem dX12_levels_185 : decode cX12_levels 185 = .ok (.iconst 1, 1) := by decide +kernel
theorem dX12_levels_186 : decode cX12_levels 186 = .ok (.iadd, 1) := by decide +kernel
theorem dX12_levels_187 : decode cX12_levels 187 = .ok (.i2b, 1) := by decide +kernel
theorem dX12_levels_188 : decode cX12_levels 188 = .ok (.goto 15, 3) := by decide +kernel
theorem dX12_levels_191 : decode cX12_levels 191 = .ok (.iload_n 2, 1) := by decide +kernel
theorem dX12_levels_192 : decode cX12_levels 192 = .ok (.bipush 12, 2) := by decide +kernel
theorem dX12_levels_194 : decode cX12_levels 194 = .ok (.if_icmp .le 8, 3) := by decide +kernel
theorem dX12_levels_197 : decode cX12_levels 197 = .ok (.bipush 14, 2) := by decide +kernel
theorem dX12_levels_199 : decode cX12_levels 199 = .ok (.goto 4, 3) := by decide +kernel
theorem dX12_levels_202 : decode cX12_levels 202 = .ok (.iconst 0, 1) := by decide +kernel
theorem dX12_levels_203 : decode cX12_levels 203 = .ok (.bastore, 1) := by decide +kernel
theorem dX12_levels_204 : decode cX12_levels 204 = .ok (.iinc 6 1, 3) := by decide +kernel
theorem dX12_levels_207 : decode cX12_levels 207 = .ok (.goto (-157), 3) := by decide +kernel
theorem dX12_levels_210 : decode cX12_levels 210 = .ok (.iinc 5 1, 3) := by decide +kernel
theorem dX12_levels_213 : decode cX12_levels 213 = .ok (.goto (-182), 3) := by decide +kernel
theorem dX12_levels_216 : decode cX12_levels 216 = .ok (.iinc 4 1, 3) := by decide +kernel
theorem dX12_levels_219 : decode cX12_levels 219 = .ok (.goto (-204), 3) := by decide +kernel
theorem dX12_levels_222 : decode cX12_levels 222 = .ok (.iinc 3 1, 3) := by decide +kernel
theorem dX12_levels_225 : decode cX12_levels 225 = .ok (.goto (-223), 3) := by decide +kernel
theorem dX12_levels_228 : decode cX12_levels 228 = .ok (.return_, 1) := by decide +kernel
theorem dX12_worthOf_0 : decode cX12_worthOf 0 = .ok (.ldc 76, 2) := by decide +kernel
theorem dX12_worthOf_2 : decode cX12_worthOf 2 = .ok (.aload_n 0, 1) := by decide +kernel
theorem dX12_worthOf_3 : decode cX12_worthOf 3 = .ok (.getfield 88, 3) := by decide +kernel
theorem dX12_worthOf_6 : decode cX12_worthOf 6 = .ok (.imul, 1) := by decide +kernel
theorem dX12_worthOf_7 : decode cX12_worthOf 7 = .ok (.istore_n 2, 1) := by decide +kernel
theorem dX12_worthOf_8 : decode cX12_worthOf 8 = .ok (.aload_n 0, 1) := by decide +kernel
theorem dX12_worthOf_9 : decode cX12_worthOf 9 = .ok (.getfield 24, 3) := by decide +kernel
theorem dX12_worthOf_12 : decode cX12_worthOf 12 = .ok (.iload_n 2, 1) := by decide +kernel
theorem dX12_worthOf_13 : decode cX12_worthOf 13 = .ok (.iconst 1, 1) := by decide +kernel
theorem dX12_worthOf_14 : decode cX12_worthOf 14 = .ok (.iadd, 1) := by decide +kernel
theorem dX12_worthOf_15 : decode cX12_worthOf 15 = .ok (.iconst 1, 1) := by decide +kernel
theorem dX12_worthOf_16 : decode cX12_worthOf 16 = .ok (.bastore, 1) := by decide +kernel
theorem dX12_worthOf_17 : decode cX12_worthOf 17 = .ok (.aload_n 0, 1) := by decide +kernel
theorem dX12_worthOf_18 : decode cX12_worthOf 18 = .ok (.getfield 24, 3) := by decide +kernel
theorem dX12_worthOf_21 : decode cX12_worthOf 21 = .ok (.iload_n 2, 1) := by decide +kernel
theorem dX12_worthOf_22 : decode cX12_worthOf 22 = .ok (.bipush 17, 2) := by decide +kernel
theorem dX12_worthOf_24 : decode cX12_worthOf 24 = .ok (.iadd, 1) := by decide +kernel
theorem dX12_worthOf_25 : decode cX12_worthOf 25 = .ok (.iconst 1, 1) := by decide +kernel
theorem dX12_worthOf_26 : decode cX12_worthOf 26 = .ok (.bastore, 1) := by decide +kernel
theorem dX12_worthOf_27 : decode cX12_worthOf 27 = .ok (.aload_n 0, 1) := by decide +kernel
theorem dX12_worthOf_28 : decode cX12_worthOf 28 = .ok (.getfield 24, 3) := by decide +kernel
theorem dX12_worthOf_31 : decode cX12_worthOf 31 = .ok (.iload_n 2, 1) := by decide +kernel
theorem dX12_worthOf_32 : decode cX12_worthOf 32 = .ok (.sipush 289, 3) := by decide +kernel
theorem dX12_worthOf_35 : decode cX12_worthOf 35 = .ok (.iadd, 1) := by decide +kernel
theorem dX12_worthOf_36 : decode cX12_worthOf 36 = .ok (.iconst 1, 1) := by decide +kernel
theorem dX12_worthOf_37 : decode cX12_worthOf 37 = .ok (.bastore, 1) := by decide +kernel
theorem dX12_worthOf_38 : decode cX12_worthOf 38 = .ok (.aload_n 0, 1) := by decide +kernel
theorem dX12_worthOf_39 : decode cX12_worthOf 39 = .ok (.getfield 24, 3) := by decide +kernel
theorem dX12_worthOf_42 : decode cX12_worthOf 42 = .ok (.iload_n 2, 1) := by decide +kernel
theorem dX12_worthOf_43 : decode cX12_worthOf 43 = .ok (.sipush 4913, 3) := by decide +kernel
theorem dX12_worthOf_46 : decode cX12_worthOf 46 = .ok (.iadd, 1) := by decide +kernel
theorem dX12_worthOf_47 : decode cX12_worthOf 47 = .ok (.iconst 1, 1) := by decide +kernel
theorem dX12_worthOf_48 : decode cX12_worthOf 48 = .ok (.bastore, 1) := by decide +kernel
theorem dX12_worthOf_49 : decode cX12_worthOf 49 = .ok (.iconst 0, 1) := by decide +kernel
theorem dX12_worthOf_50 : decode cX12_worthOf 50 = .ok (.istore_n 3, 1) := by decide +kernel
theorem dX12_worthOf_51 : decode cX12_worthOf 51 = .ok (.iload_n 3, 1) := by decide +kernel
theorem dX12_worthOf_52 : decode cX12_worthOf 52 = .ok (.iconst 4, 1) := by decide +kernel
theorem dX12_worthOf_53 : decode cX12_worthOf 53 = .ok (.if_icmp .ge 16, 3) := by decide +kernel
theorem dX12_worthOf_56 : decode cX12_worthOf 56 = .ok (.aload_n 0, 1) := by decide +kernel
theorem dX12_worthOf_57 : decode cX12_worthOf 57 = .ok (.getfield 43, 3) := by decide +kernel
theorem dX12_worthOf_60 : decode cX12_worthOf 60 = .ok (.iload_n 3, 1) := by decide +kernel
theorem dX12_worthOf_61 : decode cX12_worthOf 61 = .ok (.iconst 0, 1) := by decide +kernel
theorem dX12_worthOf_62 : decode cX12_worthOf 62 = .ok (.iastore, 1) := by decide +kernel
theorem dX12_worthOf_63 : decode cX12_worthOf 63 = .ok (.iinc 3 1, 3) := by decide +kernel
theorem dX12_worthOf_66 : decode cX12_worthOf 66 = .ok (.goto (-15), 3) := by decide +kernel
theorem dX12_worthOf_69 : decode cX12_worthOf 69 = .ok (.iconst 0, 1) := by decide +kernel
theorem dX12_worthOf_70 : decode cX12_worthOf 70 = .ok (.istore_n 3, 1) := by decide +kernel
theorem dX12_worthOf_71 : decode cX12_worthOf 71 = .ok (.iload_n 3, 1) := by decide +kernel
theorem dX12_worthOf_72 : decode cX12_worthOf 72 = .ok (.aload_n 0, 1) := by decide +kernel
theorem dX12_worthOf_73 : decode cX12_worthOf 73 = .ok (.getfield 91, 3) := by decide +kernel
theorem dX12_worthOf_76 : decode cX12_worthOf 76 = .ok (.if_icmp .ge 88, 3) := by decide +kernel
theorem dX12_worthOf_79 : decode cX12_worthOf 79 = .ok (.iload_n 2, 1) := by decide +kernel
theorem dX12_worthOf_80 : decode cX12_worthOf 80 = .ok (.aload_n 1, 1) := by decide +kernel
theorem dX12_worthOf_81 : decode cX12_worthOf 81 = .ok (.iload_n 3, 1) := by decide +kernel
theorem dX12_worthOf_82 : decode cX12_worthOf 82 = .ok (.iaload, 1) := by decide +kernel
theorem dX12_worthOf_83 : decode cX12_worthOf 83 = .ok (.ifCond .ge 7, 3) := by decide +kernel
theorem dX12_worthOf_86 : decode cX12_worthOf 86 = .ok (.iconst 0, 1) := by decide +kernel
theorem dX12_worthOf_87 : decode cX12_worthOf 87 = .ok (.goto 41, 3) := by decide +kernel
theorem dX12_worthOf_90 : decode cX12_worthOf 90 = .ok (.aload_n 1, 1) := by decide +kernel
theorem dX12_worthOf_91 : decode cX12_worthOf 91 = .ok (.iload_n 3, 1) := by decide +kernel
theorem dX12_worthOf_92 : decode cX12_worthOf 92 = .ok (.iaload, 1) := by decide +kernel
theorem dX12_worthOf_93 : decode cX12_worthOf 93 = .ok (.ifCond .ne 7, 3) := by decide +kernel
theorem dX12_worthOf_96 : decode cX12_worthOf 96 = .ok (.iconst 1, 1) := by decide +kernel
theorem dX12_worthOf_97 : decode cX12_worthOf 97 = .ok (.goto 31, 3) := by decide +kernel
theorem dX12_worthOf_100 : decode cX12_worthOf 100 = .ok (.aload_n 1, 1) := by decide +kernel
theorem dX12_worthOf_101 : decode cX12_worthOf 101 = .ok (.iload_n 3, 1) := by decide +kernel
theorem dX12_worthOf_102 : decode cX12_worthOf 102 = .ok (.iaload, 1) := by decide +kernel
theorem dX12_worthOf_103 : decode cX12_worthOf 103 = .ok (.iconst 1, 1) := by decide +kernel
theorem dX12_worthOf_104 : decode cX12_worthOf 104 = .ok (.if_icmp .ne 8, 3) := by decide +kernel
theorem dX12_worthOf_107 : decode cX12_worthOf 107 = .ok (.bipush 17, 2) := by decide +kernel
theorem dX12_worthOf_109 : decode cX12_worthOf 109 = .ok (.goto 19, 3) := by decide +kernel
theorem dX12_worthOf_112 : decode cX12_worthOf 112 = .ok (.aload_n 1, 1) := by decide +kernel
theorem dX12_worthOf_113 : decode cX12_worthOf 113 = .ok (.iload_n 3, 1) := by decide +kernel
theorem dX12_worthOf_114 : decode cX12_worthOf 114 = .ok (.iaload, 1) := by decide +kernel
theorem dX12_worthOf_115 : decode cX12_worthOf 115 = .ok (.iconst 2, 1) := by decide +kernel
theorem dX12_worthOf_116 : decode cX12_worthOf 116 = .ok (.if_icmp .ne 9, 3) := by decide +kernel
theorem dX12_worthOf_119 : decode cX12_worthOf 119 = .ok (.sipush 289, 3) := by decide +kernel
theorem dX12_worthOf_122 : decode cX12_worthOf 122 = .ok (.goto 6, 3) := by decide +kernel
theorem dX12_worthOf_125 : decode cX12_worthOf 125 = .ok (.sipush 4913, 3) := by decide +kernel
theorem dX12_worthOf_128 : decode cX12_worthOf 128 = .ok (.iadd, 1) := by decide +kernel
theorem dX12_worthOf_129 : decode cX12_worthOf 129 = .ok (.istore_n 2, 1) := by decide +kernel
theorem dX12_worthOf_130 : decode cX12_worthOf 130 = .ok (.iconst 0, 1) := by decide +kernel
theorem dX12_worthOf_131 : decode cX12_worthOf 131 = .ok (.istore 4, 2) := by decide +kernel
theorem dX12_worthOf_133 : decode cX12_worthOf 133 = .ok (.iload 4, 2) := by decide +kernel
theorem dX12_worthOf_135 : decode cX12_worthOf 135 = .ok (.aload_n 1, 1) := by decide +kernel
theorem dX12_worthOf_136 : decode cX12_worthOf 136 = .ok (.iload_n 3, 1) := by decide +kernel
theorem dX12_worthOf_137 : decode cX12_worthOf 137 = .ok (.iaload, 1) := by decide +kernel
theorem dX12_worthOf_138 : decode cX12_worthOf 138 = .ok (.if_icmp .gt 20, 3) := by decide +kernel
theorem dX12_worthOf_141 : decode cX12_worthOf 141 = .ok (.aload_n 0, 1) := by decide +kernel
theorem dX12_worthOf_142 : decode cX12_worthOf 142 = .ok (.getfield 43, 3) := by decide +kernel
theorem dX12_worthOf_145 : decode cX12_worthOf 145 = .ok (.iload 4, 2) := by decide +kernel
theorem dX12_worthOf_147 : decode cX12_worthOf 147 = .ok (.dup2, 1) := by decide +kernel
theorem dX12_worthOf_148 : decode cX12_worthOf 148 = .ok (.iaload, 1) := by decide +kernel
theorem dX12_worthOf_149 : decode cX12_worthOf 149 = .ok (.iconst 1, 1) := by decide +kernel
theorem dX12_worthOf_150 : decode cX12_worthOf 150 = .ok (.iadd, 1) := by decide +kernel
theorem dX12_worthOf_151 : decode cX12_worthOf 151 = .ok (.iastore, 1) := by decide +kernel
theorem dX12_worthOf_152 : decode cX12_worthOf 152 = .ok (.iinc 4 1, 3) := by decide +kernel
theorem dX12_worthOf_155 : decode cX12_worthOf 155 = .ok (.goto (-22), 3) := by decide +kernel
theorem dX12_worthOf_158 : decode cX12_worthOf 158 = .ok (.iinc 3 1, 3) := by decide +kernel
theorem dX12_worthOf_161 : decode cX12_worthOf 161 = .ok (.goto (-90), 3) := by decide +kernel
theorem dX12_worthOf_164 : decode cX12_worthOf 164 = .ok (.iconst 1, 1) := by decide +kernel
theorem dX12_worthOf_165 : decode cX12_worthOf 165 = .ok (.istore_n 3, 1) := by decide +kernel
theorem dX12_worthOf_166 : decode cX12_worthOf 166 = .ok (.iload_n 3, 1) := by decide +kernel
theorem dX12_worthOf_167 : decode cX12_worthOf 167 = .ok (.bipush 13, 2) := by decide +kernel
theorem dX12_worthOf_169 : decode cX12_worthOf 169 = .ok (.if_icmp .gt 27, 3) := by decide +kernel
theorem dX12_worthOf_172 : decode cX12_worthOf 172 = .ok (.aload_n 0, 1) := by decide +kernel
theorem dX12_worthOf_173 : decode cX12_worthOf 173 = .ok (.getfield 24, 3) := by decide +kernel
theorem dX12_worthOf_176 : decode cX12_worthOf 176 = .ok (.iload_n 2, 1) := by decide +kernel
theorem dX12_worthOf_177 : decode cX12_worthOf 177 = .ok (.baload, 1) := by decide +kernel
theorem dX12_worthOf_178 : decode cX12_worthOf 178 = .ok (.ifCond .ne 18, 3) := by decide +kernel
theorem dX12_worthOf_181 : decode cX12_worthOf 181 = .ok (.aload_n 0, 1) := by decide +kernel
theorem dX12_worthOf_182 : decode cX12_worthOf 182 = .ok (.aload_n 0, 1) := by decide +kernel
theorem dX12_worthOf_183 : decode cX12_worthOf 183 = .ok (.getfield 88, 3) := by decide +kernel
theorem dX12_worthOf_186 : decode cX12_worthOf 186 = .ok (.iload_n 3, 1) := by decide +kernel
theorem dX12_worthOf_187 : decode cX12_worthOf 187 = .ok (.invokevirtual 94, 3) := by decide +kernel
theorem dX12_worthOf_190 : decode cX12_worthOf 190 = .ok (.iinc 3 1, 3) := by decide +kernel
theorem dX12_worthOf_193 : decode cX12_worthOf 193 = .ok (.goto (-27), 3) := by decide +kernel
theorem dX12_worthOf_196 : decode cX12_worthOf 196 = .ok (.aload_n 0, 1) := by decide +kernel
theorem dX12_worthOf_197 : decode cX12_worthOf 197 = .ok (.getfield 24, 3) := by decide +kernel
theorem dX12_worthOf_200 : decode cX12_worthOf 200 = .ok (.iload_n 2, 1) := by decide +kernel
theorem dX12_worthOf_201 : decode cX12_worthOf 201 = .ok (.baload, 1) := by decide +kernel
theorem dX12_worthOf_202 : decode cX12_worthOf 202 = .ok (.iconst 1, 1) := by decide +kernel
theorem dX12_worthOf_203 : decode cX12_worthOf 203 = .ok (.isub, 1) := by decide +kernel
theorem dX12_worthOf_204 : decode cX12_worthOf 204 = .ok (.ireturn, 1) := by decide +kernel
theorem dX12_shown_0 : decode cX12_shown 0 = .ok (.iload_n 0, 1) := by decide +kernel
theorem dX12_shown_1 : decode cX12_shown 1 = .ok (.bipush 13, 2) := by decide +kernel
theorem dX12_shown_3 : decode cX12_shown 3 = .ok (.if_icmp .ne 8, 3) := by decide +kernel
theorem dX12_shown_6 : decode cX12_shown 6 = .ok (.bipush (-9), 2) := by decide +kernel
theorem dX12_shown_8 : decode cX12_shown 8 = .ok (.goto 4, 3) := by decide +kernel
theorem dX12_shown_11 : decode cX12_shown 11 = .ok (.iload_n 0, 1) := by decide +kernel
theorem dX12_shown_12 : decode cX12_shown 12 = .ok (.ireturn, 1) := by decide +kernel
theorem dX12_begin_0 : decode cX12_begin 0 = .ok (.iload_n 1, 1) := by decide +kernel
theorem dX12_begin_1 : decode cX12_begin 1 = .ok (.iconst 0, 1) := by decide +kernel
theorem dX12_begin_2 : decode cX12_begin 2 = .ok (.iconst 2, 1) := by decide +kernel
theorem dX12_begin_3 : decode cX12_begin 3 = .ok (.invokestatic 53, 3) := by decide +kernel
theorem dX12_begin_6 : decode cX12_begin 6 = .ok (.ifCond .eq 26, 3) := by decide +kernel
theorem dX12_begin_9 : decode cX12_begin 9 = .ok (.iload_n 2, 1) := by decide +kernel
theorem dX12_begin_10 : decode cX12_begin 10 = .ok (.iconst 1, 1) := by decide +kernel
theorem dX12_begin_11 : decode cX12_begin 11 = .ok (.bipush 16, 2) := by decide +kernel
theorem dX12_begin_13 : decode cX12_begin 13 = .ok (.invokestatic 53, 3) := by decide +kernel
theorem dX12_begin_16 : decode cX12_begin 16 = .ok (.ifCond .eq 16, 3) := by decide +kernel
theorem dX12_begin_19 : decode cX12_begin 19 = .ok (.iload_n 1, 1) := by decide +kernel
theorem dX12_begin_20 : decode cX12_begin 20 = .ok (.ifCond .eq 14, 3) := by decide +kernel
theorem dX12_begin_23 : decode cX12_begin 23 = .ok (.iload_n 3, 1) := by decide +kernel
theorem dX12_begin_24 : decode cX12_begin 24 = .ok (.iconst 0, 1) := by decide +kernel
theorem dX12_begin_25 : decode cX12_begin 25 = .ok (.iconst 3, 1) := by decide +kernel
theorem dX12_begin_26 : decode cX12_begin 26 = .ok (.invokestatic 53, 3) := by decide +kernel
theorem dX12_begin_29 : decode cX12_begin 29 = .ok (.ifCond .ne 5, 3) := by decide +kernel
theorem dX12_begin_32 : decode cX12_begin 32 = .ok (.iconst (-1), 1) := by decide +kernel
theorem dX12_begin_33 : decode cX12_begin 33 = .ok (.ireturn, 1) := by decide +kernel
theorem dX12_begin_34 : decode cX12_begin 34 = .ok (.aload_n 0, 1) := by decide +kernel
theorem dX12_begin_35 : decode cX12_begin 35 = .ok (.iconst 1, 1) := by decide +kernel
theorem dX12_begin_36 : decode cX12_begin 36 = .ok (.putfield 49, 3) := by decide +kernel
theorem dX12_begin_39 : decode cX12_begin 39 = .ok (.aload_n 0, 1) := by decide +kernel
theorem dX12_begin_40 : decode cX12_begin 40 = .ok (.iload_n 1, 1) := by decide +kernel
theorem dX12_begin_41 : decode cX12_begin 41 = .ok (.putfield 88, 3) := by decide +kernel
theorem dX12_begin_44 : decode cX12_begin 44 = .ok (.aload_n 0, 1) := by decide +kernel
theorem dX12_begin_45 : decode cX12_begin 45 = .ok (.iload_n 2, 1) := by decide +kernel
theorem dX12_begin_46 : decode cX12_begin 46 = .ok (.putfield 91, 3) := by decide +kernel
theorem dX12_begin_49 : decode cX12_begin 49 = .ok (.aload_n 0, 1) := by decide +kernel
theorem dX12_begin_50 : decode cX12_begin 50 = .ok (.iload_n 1, 1) := by decide +kernel
theorem dX12_begin_51 : decode cX12_begin 51 = .ok (.ifCond .ne 7, 3) := by decide +kernel
theorem dX12_begin_54 : decode cX12_begin 54 = .ok (.iconst 0, 1) := by decide +kernel
theorem dX12_begin_55 : decode cX12_begin 55 = .ok (.goto 4, 3) := by decide +kernel
theorem dX12_begin_58 : decode cX12_begin 58 = .ok (.iload_n 3, 1) := by decide +kernel
theorem dX12_begin_59 : decode cX12_begin 59 = .ok (.putfield 98, 3) := by decide +kernel
theorem dX12_begin_62 : decode cX12_begin 62 = .ok (.aload_n 0, 1) := by decide +kernel
theorem dX12_begin_63 : decode cX12_begin 63 = .ok (.iconst 0, 1) := by decide +kernel
theorem dX12_begin_64 : decode cX12_begin 64 = .ok (.putfield 101, 3) := by decide +kernel
theorem dX12_begin_67 : decode cX12_begin 67 = .ok (.aload_n 0, 1) := by decide +kernel
theorem dX12_begin_68 : decode cX12_begin 68 = .ok (.iconst (-1), 1) := by decide +kernel
theorem dX12_begin_69 : decode cX12_begin 69 = .ok (.putfield 7, 3) := by decide +kernel
theorem dX12_begin_72 : decode cX12_begin 72 = .ok (.iconst 0, 1) := by decide +kernel
theorem dX12_begin_73 : decode cX12_begin 73 = .ok (.istore 4, 2) := by decide +kernel
theorem dX12_begin_75 : decode cX12_begin 75 = .ok (.iload 4, 2) := by decide +kernel
theorem dX12_begin_77 : decode cX12_begin 77 = .ok (.bipush 16, 2) := by decide +kernel
theorem dX12_begin_79 : decode cX12_begin 79 = .ok (.if_icmp .ge 33, 3) := by decide +kernel
theorem dX12_begin_82 : decode cX12_begin 82 = .ok (.aload_n 0, 1) := by decide +kernel
theorem dX12_begin_83 : decode cX12_begin 83 = .ok (.getfield 13, 3) := by decide +kernel
theorem dX12_begin_86 : decode cX12_begin 86 = .ok (.iload 4, 2) := by decide +kernel
theorem dX12_begin_88 : decode cX12_begin 88 = .ok (.iload 4, 2) := by decide +kernel
theorem dX12_begin_90 : decode cX12_begin 90 = .ok (.aload_n 0, 1) := by decide +kernel
theorem dX12_begin_91 : decode cX12_begin 91 = .ok (.getfield 91, 3) := by decide +kernel
theorem dX12_begin_94 : decode cX12_begin 94 = .ok (.if_icmp .ge 10, 3) := by decide +kernel
theorem dX12_begin_97 : decode cX12_begin 97 = .ok (.aload_n 0, 1) := by decide +kernel
theorem dX12_begin_98 : decode cX12_begin 98 = .ok (.getfield 98, 3) := by decide +kernel
theorem dX12_begin_101 : decode cX12_begin 101 = .ok (.goto 4, 3) := by decide +kernel
theorem dX12_begin_104 : decode cX12_begin 104 = .ok (.iconst (-1), 1) := by decide +kernel
theorem dX12_begin_105 : decode cX12_begin 105 = .ok (.iastore, 1) := by decide +kernel
theorem dX12_begin_106 : decode cX12_begin 106 = .ok (.iinc 4 1, 3) := by decide +kernel
theorem dX12_begin_109 : decode cX12_begin 109 = .ok (.goto (-34), 3) := by decide +kernel
theorem dX12_begin_112 : decode cX12_begin 112 = .ok (.aload_n 0, 1) := by decide +kernel
theorem dX12_begin_113 : decode cX12_begin 113 = .ok (.aload_n 0, 1) := by decide +kernel
theorem dX12_begin_114 : decode cX12_begin 114 = .ok (.getfield 13, 3) := by decide +kernel
theorem dX12_begin_117 : decode cX12_begin 117 = .ok (.invokevirtual 104, 3) := by decide +kernel
theorem dX12_begin_120 : decode cX12_begin 120 = .ok (.invokestatic 108, 3) := by decide +kernel
theorem dX12_begin_123 : decode cX12_begin 123 = .ok (.ireturn, 1) := by decide +kernel
theorem dX12_many_0 : decode cX12_many 0 = .ok (.iconst 0, 1) := by decide +kernel
theorem dX12_many_1 : decode cX12_many 1 = .ok (.istore_n 1, 1) := by decide +kernel
theorem dX12_many_2 : decode cX12_many 2 = .ok (.iconst 0, 1) := by decide +kernel
theorem dX12_many_3 : decode cX12_many 3 = .ok (.istore_n 2, 1) := by decide +kernel
theorem dX12_many_4 : decode cX12_many 4 = .ok (.iload_n 2, 1) := by decide +kernel
theorem dX12_many_5 : decode cX12_many 5 = .ok (.aload_n 0, 1) := by decide +kernel
theorem dX12_many_6 : decode cX12_many 6 = .ok (.getfield 91, 3) := by decide +kernel
theorem dX12_many_9 : decode cX12_many 9 = .ok (.if_icmp .ge 26, 3) := by decide +kernel
theorem dX12_many_12 : decode cX12_many 12 = .ok (.iload_n 1, 1) := by decide +kernel
theorem dX12_many_13 : decode cX12_many 13 = .ok (.aload_n 0, 1) := by decide +kernel
theorem dX12_many_14 : decode cX12_many 14 = .ok (.getfield 13, 3) := by decide +kernel
theorem dX12_many_17 : decode cX12_many 17 = .ok (.iload_n 2, 1) := by decide +kernel
theorem dX12_many_18 : decode cX12_many 18 = .ok (.iaload, 1) := by decide +kernel
theorem dX12_many_19 : decode cX12_many 19 = .ok (.ifCond .lt 7, 3) := by decide +kernel
theorem dX12_many_22 : decode cX12_many 22 = .ok (.iconst 1, 1) := by decide +kernel
theorem dX12_many_23 : decode cX12_many 23 = .ok (.goto 4, 3) := by decide +kernel
theorem dX12_many_26 : decode cX12_many 26 = .ok (.iconst 0, 1) := by decide +kernel
theorem dX12_many_27 : decode cX12_many 27 = .ok (.iadd, 1) := by decide +kernel
theorem dX12_many_28 : decode cX12_many 28 = .ok (.istore_n 1, 1) := by decide +kernel
theorem dX12_many_29 : decode cX12_many 29 = .ok (.iinc 2 1, 3) := by decide +kernel
theorem dX12_many_32 : decode cX12_many 32 = .ok (.goto (-28), 3) := by decide +kernel
theorem dX12_many_35 : decode cX12_many 35 = .ok (.iload_n 1, 1) := by decide +kernel
theorem dX12_many_36 : decode cX12_many 36 = .ok (.ireturn, 1) := by decide +kernel
theorem dX12_ask_0 : decode cX12_ask 0 = .ok (.aload_n 0, 1) := by decide +kernel
theorem dX12_ask_1 : decode cX12_ask 1 = .ok (.getfield 49, 3) := by decide +kernel
theorem dX12_ask_4 : decode cX12_ask 4 = .ok (.ifCond .ne 20, 3) := by decide +kernel
theorem dX12_ask_7 : decode cX12_ask 7 = .ok (.iload_n 1, 1) := by decide +kernel
theorem dX12_ask_8 : decode cX12_ask 8 = .ok (.iconst 0, 1) := by decide +kernel
theorem dX12_ask_9 : decode cX12_ask 9 = .ok (.ldc 112, 2) := by decide +kernel
theorem dX12_ask_11 : decode cX12_ask 11 = .ok (.invokestatic 53, 3) := by decide +kernel
theorem dX12_ask_14 : decode cX12_ask 14 = .ok (.ifCond .eq 8, 3) := by decide +kernel
theorem dX12_ask_17 : decode cX12_ask 17 = .ok (.bipush (-2), 2) := by decide +kernel
theorem dX12_ask_19 : decode cX12_ask 19 = .ok (.goto 4, 3) := by decide +kernel
theorem dX12_ask_22 : decode cX12_ask 22 = .ok (.iconst (-1), 1) := by decide +kernel
theorem dX12_ask_23 : decode cX12_ask 23 = .ok (.ireturn, 1) := by decide +kernel
theorem dX12_ask_24 : decode cX12_ask 24 = .ok (.iload_n 1, 1) := by decide +kernel
theorem dX12_ask_25 : decode cX12_ask 25 = .ok (.iconst 0, 1) := by decide +kernel
theorem dX12_ask_26 : decode cX12_ask 26 = .ok (.iconst 1, 1) := by decide +kernel
theorem dX12_ask_27 : decode cX12_ask 27 = .ok (.aload_n 0, 1) := by decide +kernel
theorem dX12_ask_28 : decode cX12_ask 28 = .ok (.getfield 91, 3) := by decide +kernel
theorem dX12_ask_31 : decode cX12_ask 31 = .ok (.ishl, 1) := by decide +kernel
theorem dX12_ask_32 : decode cX12_ask 32 = .ok (.iconst 1, 1) := by decide +kernel
theorem dX12_ask_33 : decode cX12_ask 33 = .ok (.isub, 1) := by decide +kernel
theorem dX12_ask_34 : decode cX12_ask 34 = .ok (.invokestatic 53, 3) := by decide +kernel
theorem dX12_ask_37 : decode cX12_ask 37 = .ok (.ifCond .ne 5, 3) := by decide +kernel
theorem dX12_ask_40 : decode cX12_ask 40 = .ok (.iconst (-1), 1) := by decide +kernel
theorem dX12_ask_41 : decode cX12_ask 41 = .ok (.ireturn, 1) := by decide +kernel
theorem dX12_ask_42 : decode cX12_ask 42 = .ok (.aload_n 0, 1) := by decide +kernel
theorem dX12_ask_43 : decode cX12_ask 43 = .ok (.iload_n 1, 1) := by decide +kernel
theorem dX12_ask_44 : decode cX12_ask 44 = .ok (.putfield 7, 3) := by decide +kernel
theorem dX12_ask_47 : decode cX12_ask 47 = .ok (.iconst 0, 1) := by decide +kernel
theorem dX12_ask_48 : decode cX12_ask 48 = .ok (.istore_n 2, 1) := by decide +kernel
theorem dX12_ask_49 : decode cX12_ask 49 = .ok (.iconst 0, 1) := by decide +kernel
theorem dX12_ask_50 : decode cX12_ask 50 = .ok (.istore_n 3, 1) := by decide +kernel
theorem dX12_ask_51 : decode cX12_ask 51 = .ok (.iload_n 3, 1) := by decide +kernel
theorem dX12_ask_52 : decode cX12_ask 52 = .ok (.aload_n 0, 1) := by decide +kernel
theorem dX12_ask_53 : decode cX12_ask 53 = .ok (.getfield 91, 3) := by decide +kernel
theorem dX12_ask_56 : decode cX12_ask 56 = .ok (.if_icmp .ge 35, 3) := by decide +kernel
theorem dX12_ask_59 : decode cX12_ask 59 = .ok (.iload_n 2, 1) := by decide +kernel
theorem dX12_ask_60 : decode cX12_ask 60 = .ok (.aload_n 0, 1) := by decide +kernel
theorem dX12_ask_61 : decode cX12_ask 61 = .ok (.getfield 13, 3) := by decide +kernel
theorem dX12_ask_64 : decode cX12_ask 64 = .ok (.iload_n 3, 1) := by decide +kernel
theorem dX12_ask_65 : decode cX12_ask 65 = .ok (.iaload, 1) := by decide +kernel
theorem dX12_ask_66 : decode cX12_ask 66 = .ok (.ifCond .lt 16, 3) := by decide +kernel
theorem dX12_ask_69 : decode cX12_ask 69 = .ok (.iload_n 1, 1) := by decide +kernel
theorem dX12_ask_70 : decode cX12_ask 70 = .ok (.iload_n 3, 1) := by decide +kernel
theorem dX12_ask_71 : decode cX12_ask 71 = .ok (.ishr, 1) := by decide +kernel
theorem dX12_ask_72 : decode cX12_ask 72 = .ok (.iconst 1, 1) := by decide +kernel
theorem dX12_ask_73 : decode cX12_ask 73 = .ok (.iand, 1) := by decide +kernel
theorem dX12_ask_74 : decode cX12_ask 74 = .ok (.iconst 1, 1) := by decide +kernel
theorem dX12_ask_75 : decode cX12_ask 75 = .ok (.if_icmp .ne 7, 3) := by decide +kernel
theorem dX12_ask_78 : decode cX12_ask 78 = .ok (.iconst 1, 1) := by decide +kernel
theorem dX12_ask_79 : decode cX12_ask 79 = .ok (.goto 4, 3) := by decide +kernel
theorem dX12_ask_82 : decode cX12_ask 82 = .ok (.iconst 0, 1) := by decide +kernel
theorem dX12_ask_83 : decode cX12_ask 83 = .ok (.iadd, 1) := by decide +kernel
theorem dX12_ask_84 : decode cX12_ask 84 = .ok (.istore_n 2, 1) := by decide +kernel
theorem dX12_ask_85 : decode cX12_ask 85 = .ok (.iinc 3 1, 3) := by decide +kernel
theorem dX12_ask_88 : decode cX12_ask 88 = .ok (.goto (-37), 3) := by decide +kernel
theorem dX12_ask_91 : decode cX12_ask 91 = .ok (.iload_n 2, 1) := by decide +kernel
theorem dX12_ask_92 : decode cX12_ask 92 = .ok (.ireturn, 1) := by decide +kernel
theorem dX12_tries_0 : decode cX12_tries 0 = .ok (.iconst 0, 1) := by decide +kernel
theorem dX12_tries_1 : decode cX12_tries 1 = .ok (.istore_n 3, 1) := by decide +kernel
theorem dX12_tries_2 : decode cX12_tries 2 = .ok (.iconst 0, 1) := by decide +kernel
theorem dX12_tries_3 : decode cX12_tries 3 = .ok (.istore 4, 2) := by decide +kernel
theorem dX12_tries_5 : decode cX12_tries 5 = .ok (.iload 4, 2) := by decide +kernel
theorem dX12_tries_7 : decode cX12_tries 7 = .ok (.aload_n 0, 1) := by decide +kernel
theorem dX12_tries_8 : decode cX12_tries 8 = .ok (.getfield 91, 3) := by decide +kernel
theorem dX12_tries_11 : decode cX12_tries 11 = .ok (.if_icmp .ge 87, 3) := by decide +kernel
theorem dX12_tries_14 : decode cX12_tries 14 = .ok (.aload_n 0, 1) := by decide +kernel
theorem dX12_tries_15 : decode cX12_tries 15 = .ok (.getfield 13, 3) := by decide +kernel
theorem dX12_tries_18 : decode cX12_tries 18 = .ok (.iload 4, 2) := by decide +kernel
theorem dX12_tries_20 : decode cX12_tries 20 = .ok (.iaload, 1) := by decide +kernel
theorem dX12_tries_21 : decode cX12_tries 21 = .ok (.ifCond .ge 7, 3) := by decide +kernel
theorem dX12_tries_24 : decode cX12_tries 24 = .ok (.iconst (-1), 1) := by decide +kernel
theorem dX12_tries_25 : decode cX12_tries 25 = .ok (.goto 34, 3) := by decide +kernel
theorem dX12_tries_28 : decode cX12_tries 28 = .ok (.aload_n 0, 1) := by decide +kernel
theorem dX12_tries_29 : decode cX12_tries 29 = .ok (.getfield 13, 3) := by decide +kernel
theorem dX12_tries_32 : decode cX12_tries 32 = .ok (.iload 4, 2) := by decide +kernel
theorem dX12_tries_34 : decode cX12_tries 34 = .ok (.iaload, 1) := by decide +kernel
theorem dX12_tries_35 : decode cX12_tries 35 = .ok (.aload_n 0, 1) := by decide +kernel
theorem dX12_tries_36 : decode cX12_tries 36 = .ok (.getfield 88, 3) := by decide +kernel
theorem dX12_tries_39 : decode cX12_tries 39 = .ok (.iload_n 2, 1) := by decide +kernel
theorem dX12_tries_40 : decode cX12_tries 40 = .ok (.iload_n 1, 1) := by decide +kernel
theorem dX12_tries_41 : decode cX12_tries 41 = .ok (.iload 4, 2) := by decide +kernel
theorem dX12_tries_43 : decode cX12_tries 43 = .ok (.ishr, 1) := by decide +kernel
theorem dX12_tries_44 : decode cX12_tries 44 = .ok (.iconst 1, 1) := by decide +kernel
theorem dX12_tries_45 : decode cX12_tries 45 = .ok (.iand, 1) := by decide +kernel
theorem dX12_tries_46 : decode cX12_tries 46 = .ok (.iconst 1, 1) := by decide +kernel
theorem dX12_tries_47 : decode cX12_tries 47 = .ok (.if_icmp .ne 7, 3) := by decide +kernel
theorem dX12_tries_50 : decode cX12_tries 50 = .ok (.iconst 1, 1) := by decide +kernel
theorem dX12_tries_51 : decode cX12_tries 51 = .ok (.goto 4, 3) := by decide +kernel
theorem dX12_tries_54 : decode cX12_tries 54 = .ok (.iconst 0, 1) := by decide +kernel
theorem dX12_tries_55 : decode cX12_tries 55 = .ok (.invokestatic 65, 3) := by decide +kernel
theorem dX12_tries_58 : decode cX12_tries 58 = .ok (.isub, 1) := by decide +kernel
theorem dX12_tries_59 : decode cX12_tries 59 = .ok (.istore 5, 2) := by decide +kernel
theorem dX12_tries_61 : decode cX12_tries 61 = .ok (.aload_n 0, 1) := by decide +kernel
theorem dX12_tries_62 : decode cX12_tries 62 = .ok (.getfield 46, 3) := by decide +kernel
theorem dX12_tries_65 : decode cX12_tries 65 = .ok (.iload 4, 2) := by decide +kernel
theorem dX12_tries_67 : decode cX12_tries 67 = .ok (.iload 5, 2) := by decide +kernel
theorem dX12_tries_69 : decode cX12_tries 69 = .ok (.ifCond .ge 7, 3) := by decide +kernel
theorem dX12_tries_72 : decode cX12_tries 72 = .ok (.iconst (-1), 1) := by decide +kernel
theorem dX12_tries_73 : decode cX12_tries 73 = .ok (.goto 5, 3) := by decide +kernel
theorem dX12_tries_76 : decode cX12_tries 76 = .ok (.iload 5, 2) := by decide +kernel
theorem dX12_tries_78 : decode cX12_tries 78 = .ok (.iastore, 1) := by decide +kernel
theorem dX12_tries_79 : decode cX12_tries 79 = .ok (.iload_n 3, 1) := by decide +kernel
theorem dX12_tries_80 : decode cX12_tries 80 = .ok (.iload 5, 2) := by decide +kernel
theorem dX12_tries_82 : decode cX12_tries 82 = .ok (.ifCond .ge 7, 3) := by decide +kernel
theorem dX12_tries_85 : decode cX12_tries 85 = .ok (.iconst 0, 1) := by decide +kernel
theorem dX12_tries_86 : decode cX12_tries 86 = .ok (.goto 4, 3) := by decide +kernel
theorem dX12_tries_89 : decode cX12_tries 89 = .ok (.iconst 1, 1) := by decide +kernel
theorem dX12_tries_90 : decode cX12_tries 90 = .ok (.iadd, 1) := by decide +kernel
theorem dX12_tries_91 : decode cX12_tries 91 = .ok (.istore_n 3, 1) := by decide +kernel
theorem dX12_tries_92 : decode cX12_tries 92 = .ok (.iinc 4 1, 3) := by decide +kernel
theorem dX12_tries_95 : decode cX12_tries 95 = .ok (.goto (-90), 3) := by decide +kernel
theorem dX12_tries_98 : decode cX12_tries 98 = .ok (.iload_n 3, 1) := by decide +kernel
theorem dX12_tries_99 : decode cX12_tries 99 = .ok (.ireturn, 1) := by decide +kernel
theorem dX12_answer_0 : decode cX12_answer 0 = .ok (.aload_n 0, 1) := by decide +kernel
theorem dX12_answer_1 : decode cX12_answer 1 = .ok (.getfield 49, 3) := by decide +kernel
theorem dX12_answer_4 : decode cX12_answer 4 = .ok (.ifCond .eq 10, 3) := by decide +kernel
theorem dX12_answer_7 : decode cX12_answer 7 = .ok (.aload_n 0, 1) := by decide +kernel
theorem dX12_answer_8 : decode cX12_answer 8 = .ok (.getfield 7, 3) := by decide +kernel
theorem dX12_answer_11 : decode cX12_answer 11 = .ok (.ifCond .ge 6, 3) := by decide +kernel
theorem dX12_answer_14 : decode cX12_answer 14 = .ok (.bipush (-2), 2) := by decide +kernel
theorem dX12_answer_16 : decode cX12_answer 16 = .ok (.ireturn, 1) := by decide +kernel
theorem dX12_answer_17 : decode cX12_answer 17 = .ok (.aload_n 0, 1) := by decide +kernel
theorem dX12_answer_18 : decode cX12_answer 18 = .ok (.aload_n 0, 1) := by decide +kernel
theorem dX12_answer_19 : decode cX12_answer 19 = .ok (.getfield 7, 3) := by decide +kernel
theorem dX12_answer_22 : decode cX12_answer 22 = .ok (.iload_n 1, 1) := by decide +kernel
theorem dX12_answer_23 : decode cX12_answer 23 = .ok (.invokevirtual 113, 3) := by decide +kernel
theorem dX12_answer_26 : decode cX12_answer 26 = .ok (.istore_n 2, 1) := by decide +kernel
theorem dX12_answer_27 : decode cX12_answer 27 = .ok (.iload_n 2, 1) := by decide +kernel
theorem dX12_answer_28 : decode cX12_answer 28 = .ok (.ifCond .ne 6, 3) := by decide +kernel
theorem dX12_answer_31 : decode cX12_answer 31 = .ok (.bipush (-2), 2) := by decide +kernel
theorem dX12_answer_33 : decode cX12_answer 33 = .ok (.ireturn, 1) := by decide +kernel
theorem dX12_answer_34 : decode cX12_answer 34 = .ok (.aload_n 0, 1) := by decide +kernel
theorem dX12_answer_35 : decode cX12_answer 35 = .ok (.getfield 101, 3) := by decide +kernel
theorem dX12_answer_38 : decode cX12_answer 38 = .ok (.bipush 60, 2) := by decide +kernel
theorem dX12_answer_40 : decode cX12_answer 40 = .ok (.if_icmp .ne 6, 3) := by decide +kernel
theorem dX12_answer_43 : decode cX12_answer 43 = .ok (.bipush (-3), 2) := by decide +kernel
theorem dX12_answer_45 : decode cX12_answer 45 = .ok (.ireturn, 1) := by decide +kernel
theorem dX12_answer_46 : decode cX12_answer 46 = .ok (.iconst 0, 1) := by decide +kernel
theorem dX12_answer_47 : decode cX12_answer 47 = .ok (.istore_n 3, 1) := by decide +kernel
theorem dX12_answer_48 : decode cX12_answer 48 = .ok (.iload_n 3, 1) := by decide +kernel
theorem dX12_answer_49 : decode cX12_answer 49 = .ok (.aload_n 0, 1) := by decide +kernel
theorem dX12_answer_50 : decode cX12_answer 50 = .ok (.getfield 91, 3) := by decide +kernel
theorem dX12_answer_53 : decode cX12_answer 53 = .ok (.if_icmp .ge 41, 3) := by decide +kernel
theorem dX12_answer_56 : decode cX12_answer 56 = .ok (.aload_n 0, 1) := by decide +kernel
theorem dX12_answer_57 : decode cX12_answer 57 = .ok (.getfield 17, 3) := by decide +kernel
theorem dX12_answer_60 : decode cX12_answer 60 = .ok (.bipush 16, 2) := by decide +kernel
theorem dX12_answer_62 : decode cX12_answer 62 = .ok (.aload_n 0, 1) := by decide +kernel
theorem dX12_answer_63 : decode cX12_answer 63 = .ok (.getfield 101, 3) := by decide +kernel
theorem dX12_answer_66 : decode cX12_answer 66 = .ok (.imul, 1) := by decide +kernel
theorem dX12_answer_67 : decode cX12_answer 67 = .ok (.iload_n 3, 1) := by decide +kernel
theorem dX12_answer_68 : decode cX12_answer 68 = .ok (.iadd, 1) := by decide +kernel
theorem dX12_answer_69 : decode cX12_answer 69 = .ok (.aload_n 0, 1) := by decide +kernel
theorem dX12_answer_70 : decode cX12_answer 70 = .ok (.getfield 13, 3) := by decide +kernel
theorem dX12_answer_73 : decode cX12_answer 73 = .ok (.iload_n 3, 1) := by decide +kernel
theorem dX12_answer_74 : decode cX12_answer 74 = .ok (.iaload, 1) := by decide +kernel
theorem dX12_answer_75 : decode cX12_answer 75 = .ok (.iastore, 1) := by decide +kernel
theorem dX12_answer_76 : decode cX12_answer 76 = .ok (.aload_n 0, 1) := by decide +kernel
theorem dX12_answer_77 : decode cX12_answer 77 = .ok (.getfield 13, 3) := by decide +kernel
theorem dX12_answer_80 : decode cX12_answer 80 = .ok (.iload_n 3, 1) := by decide +kernel
theorem dX12_answer_81 : decode cX12_answer 81 = .ok (.aload_n 0, 1) := by decide +kernel
theorem dX12_answer_82 : decode cX12_answer 82 = .ok (.getfield 46, 3) := by decide +kernel
theorem dX12_answer_85 : decode cX12_answer 85 = .ok (.iload_n 3, 1) := by decide +kernel
theorem dX12_answer_86 : decode cX12_answer 86 = .ok (.iaload, 1) := by decide +kernel
theorem dX12_answer_87 : decode cX12_answer 87 = .ok (.iastore, 1) := by decide +kernel
theorem dX12_answer_88 : decode cX12_answer 88 = .ok (.iinc 3 1, 3) := by decide +kernel
theorem dX12_answer_91 : decode cX12_answer 91 = .ok (.goto (-43), 3) := by decide +kernel
theorem dX12_answer_94 : decode cX12_answer 94 = .ok (.aload_n 0, 1) := by decide +kernel
theorem dX12_answer_95 : decode cX12_answer 95 = .ok (.dup, 1) := by decide +kernel
theorem dX12_answer_96 : decode cX12_answer 96 = .ok (.getfield 101, 3) := by decide +kernel
theorem dX12_answer_99 : decode cX12_answer 99 = .ok (.iconst 1, 1) := by decide +kernel
theorem dX12_answer_100 : decode cX12_answer 100 = .ok (.iadd, 1) := by decide +kernel
theorem dX12_answer_101 : decode cX12_answer 101 = .ok (.putfield 101, 3) := by decide +kernel
theorem dX12_answer_104 : decode cX12_answer 104 = .ok (.aload_n 0, 1) := by decide +kernel
theorem dX12_answer_105 : decode cX12_answer 105 = .ok (.iconst (-1), 1) := by decide +kernel
theorem dX12_answer_106 : decode cX12_answer 106 = .ok (.putfield 7, 3) := by decide +kernel
theorem dX12_answer_109 : decode cX12_answer 109 = .ok (.iload_n 2, 1) := by decide +kernel
theorem dX12_answer_110 : decode cX12_answer 110 = .ok (.ireturn, 1) := by decide +kernel
theorem dX12_back_0 : decode cX12_back 0 = .ok (.aload_n 0, 1) := by decide +kernel
theorem dX12_back_1 : decode cX12_back 1 = .ok (.getfield 49, 3) := by decide +kernel
theorem dX12_back_4 : decode cX12_back 4 = .ok (.ifCond .eq 10, 3) := by decide +kernel
theorem dX12_back_7 : decode cX12_back 7 = .ok (.aload_n 0, 1) := by decide +kernel
theorem dX12_back_8 : decode cX12_back 8 = .ok (.getfield 101, 3) := by decide +kernel
theorem dX12_back_11 : decode cX12_back 11 = .ok (.ifCond .ne 6, 3) := by decide +kernel
theorem dX12_back_14 : decode cX12_back 14 = .ok (.bipush (-2), 2) := by decide +kernel
theorem dX12_back_16 : decode cX12_back 16 = .ok (.ireturn, 1) := by decide +kernel
theorem dX12_back_17 : decode cX12_back 17 = .ok (.aload_n 0, 1) := by decide +kernel
theorem dX12_back_18 : decode cX12_back 18 = .ok (.dup, 1) := by decide +kernel
theorem dX12_back_19 : decode cX12_back 19 = .ok (.getfield 101, 3) := by decide +kernel
theorem dX12_back_22 : decode cX12_back 22 = .ok (.iconst 1, 1) := by decide +kernel
theorem dX12_back_23 : decode cX12_back 23 = .ok (.isub, 1) := by decide +kernel
theorem dX12_back_24 : decode cX12_back 24 = .ok (.putfield 101, 3) := by decide +kernel
theorem dX12_back_27 : decode cX12_back 27 = .ok (.iconst 0, 1) := by decide +kernel
theorem dX12_back_28 : decode cX12_back 28 = .ok (.istore_n 1, 1) := by decide +kernel
theorem dX12_back_29 : decode cX12_back 29 = .ok (.iload_n 1, 1) := by decide +kernel
theorem dX12_back_30 : decode cX12_back 30 = .ok (.aload_n 0, 1) := by decide +kernel
theorem dX12_back_31 : decode cX12_back 31 = .ok (.getfield 91, 3) := by decide +kernel
theorem dX12_back_34 : decode cX12_back 34 = .ok (.if_icmp .ge 29, 3) := by decide +kernel
theorem dX12_back_37 : decode cX12_back 37 = .ok (.aload_n 0, 1) := by decide +kernel
theorem dX12_back_38 : decode cX12_back 38 = .ok (.getfield 13, 3) := by decide +kernel
theorem dX12_back_41 : decode cX12_back 41 = .ok (.iload_n 1, 1) := by decide +kernel
theorem dX12_back_42 : decode cX12_back 42 = .ok (.aload_n 0, 1) := by decide +kernel
theorem dX12_back_43 : decode cX12_back 43 = .ok (.getfield 17, 3) := by decide +kernel
theorem dX12_back_46 : decode cX12_back 46 = .ok (.bipush 16, 2) := by decide +kernel
theorem dX12_back_48 : decode cX12_back 48 = .ok (.aload_n 0, 1) := by decide +kernel
theorem dX12_back_49 : decode cX12_back 49 = .ok (.getfield 101, 3) := by decide +kernel
theorem dX12_back_52 : decode cX12_back 52 = .ok (.imul, 1) := by decide +kernel
theorem dX12_back_53 : decode cX12_back 53 = .ok (.iload_n 1, 1) := by decide +kernel
theorem dX12_back_54 : decode cX12_back 54 = .ok (.iadd, 1) := by decide +kernel
theorem dX12_back_55 : decode cX12_back 55 = .ok (.iaload, 1) := by decide +kernel
theorem dX12_back_56 : decode cX12_back 56 = .ok (.iastore, 1) := by decide +kernel
theorem dX12_back_57 : decode cX12_back 57 = .ok (.iinc 1 1, 3) := by decide +kernel
theorem dX12_back_60 : decode cX12_back 60 = .ok (.goto (-31), 3) := by decide +kernel
theorem dX12_back_63 : decode cX12_back 63 = .ok (.aload_n 0, 1) := by decide +kernel
theorem dX12_back_64 : decode cX12_back 64 = .ok (.iconst (-1), 1) := by decide +kernel
theorem dX12_back_65 : decode cX12_back 65 = .ok (.putfield 7, 3) := by decide +kernel
theorem dX12_back_68 : decode cX12_back 68 = .ok (.aload_n 0, 1) := by decide +kernel
theorem dX12_back_69 : decode cX12_back 69 = .ok (.dup, 1) := by decide +kernel
theorem dX12_back_70 : decode cX12_back 70 = .ok (.getfield 117, 3) := by decide +kernel
theorem dX12_back_73 : decode cX12_back 73 = .ok (.iconst 1, 1) := by decide +kernel
theorem dX12_back_74 : decode cX12_back 74 = .ok (.iadd, 1) := by decide +kernel
theorem dX12_back_75 : decode cX12_back 75 = .ok (.putfield 117, 3) := by decide +kernel
theorem dX12_back_78 : decode cX12_back 78 = .ok (.aload_n 0, 1) := by decide +kernel
theorem dX12_back_79 : decode cX12_back 79 = .ok (.getfield 101, 3) := by decide +kernel
theorem dX12_back_82 : decode cX12_back 82 = .ok (.ireturn, 1) := by decide +kernel
theorem dX12_left_0 : decode cX12_left 0 = .ok (.aload_n 0, 1) := by decide +kernel
theorem dX12_left_1 : decode cX12_left 1 = .ok (.getfield 49, 3) := by decide +kernel
theorem dX12_left_4 : decode cX12_left 4 = .ok (.ifCond .ne 21, 3) := by decide +kernel
theorem dX12_left_7 : decode cX12_left 7 = .ok (.iload_n 1, 1) := by decide +kernel
theorem dX12_left_8 : decode cX12_left 8 = .ok (.iconst 0, 1) := by decide +kernel
theorem dX12_left_9 : decode cX12_left 9 = .ok (.bipush 15, 2) := by decide +kernel
theorem dX12_left_11 : decode cX12_left 11 = .ok (.invokestatic 53, 3) := by decide +kernel
theorem dX12_left_14 : decode cX12_left 14 = .ok (.ifCond .eq 8, 3) := by decide +kernel
theorem dX12_left_17 : decode cX12_left 17 = .ok (.bipush (-3), 2) := by decide +kernel
theorem dX12_left_19 : decode cX12_left 19 = .ok (.goto 5, 3) := by decide +kernel
theorem dX12_left_22 : decode cX12_left 22 = .ok (.bipush (-2), 2) := by decide +kernel
theorem dX12_left_24 : decode cX12_left 24 = .ok (.ireturn, 1) := by decide +kernel
theorem dX12_left_25 : decode cX12_left 25 = .ok (.iload_n 1, 1) := by decide +kernel
theorem dX12_left_26 : decode cX12_left 26 = .ok (.iconst 0, 1) := by decide +kernel
theorem dX12_left_27 : decode cX12_left 27 = .ok (.aload_n 0, 1) := by decide +kernel
theorem dX12_left_28 : decode cX12_left 28 = .ok (.getfield 91, 3) := by decide +kernel
theorem dX12_left_31 : decode cX12_left 31 = .ok (.iconst 1, 1) := by decide +kernel
theorem dX12_left_32 : decode cX12_left 32 = .ok (.isub, 1) := by decide +kernel
theorem dX12_left_33 : decode cX12_left 33 = .ok (.invokestatic 53, 3) := by decide +kernel
theorem dX12_left_36 : decode cX12_left 36 = .ok (.ifCond .eq 12, 3) := by decide +kernel
theorem dX12_left_39 : decode cX12_left 39 = .ok (.aload_n 0, 1) := by decide +kernel
theorem dX12_left_40 : decode cX12_left 40 = .ok (.getfield 13, 3) := by decide +kernel
theorem dX12_left_43 : decode cX12_left 43 = .ok (.iload_n 1, 1) := by decide +kernel
theorem dX12_left_44 : decode cX12_left 44 = .ok (.iaload, 1) := by decide +kernel
theorem dX12_left_45 : decode cX12_left 45 = .ok (.goto 5, 3) := by decide +kernel
theorem dX12_left_48 : decode cX12_left 48 = .ok (.bipush (-2), 2) := by decide +kernel
theorem dX12_left_50 : decode cX12_left 50 = .ok (.ireturn, 1) := by decide +kernel
theorem dX12_state_0 : decode cX12_state 0 = .ok (.iload_n 1, 1) := by decide +kernel
theorem dX12_state_1 : decode cX12_state 1 = .ok (.iconst 0, 1) := by decide +kernel
theorem dX12_state_2 : decode cX12_state 2 = .ok (.iconst 3, 1) := by decide +kernel
theorem dX12_state_3 : decode cX12_state 3 = .ok (.invokestatic 53, 3) := by decide +kernel
theorem dX12_state_6 : decode cX12_state 6 = .ok (.ifCond .ne 5, 3) := by decide +kernel
theorem dX12_state_9 : decode cX12_state 9 = .ok (.iconst (-1), 1) := by decide +kernel
theorem dX12_state_10 : decode cX12_state 10 = .ok (.ireturn, 1) := by decide +kernel
theorem dX12_state_11 : decode cX12_state 11 = .ok (.aload_n 0, 1) := by decide +kernel
theorem dX12_state_12 : decode cX12_state 12 = .ok (.getfield 49, 3) := by decide +kernel
theorem dX12_state_15 : decode cX12_state 15 = .ok (.ifCond .ne 6, 3) := by decide +kernel
theorem dX12_state_18 : decode cX12_state 18 = .ok (.bipush (-2), 2) := by decide +kernel
theorem dX12_state_20 : decode cX12_state 20 = .ok (.ireturn, 1) := by decide +kernel
theorem dX12_state_21 : decode cX12_state 21 = .ok (.iconst 0, 1) := by decide +kernel
theorem dX12_state_22 : decode cX12_state 22 = .ok (.istore_n 2, 1) := by decide +kernel
theorem dX12_state_23 : decode cX12_state 23 = .ok (.iconst 0, 1) := by decide +kernel
theorem dX12_state_24 : decode cX12_state 24 = .ok (.istore_n 3, 1) := by decide +kernel
theorem dX12_state_25 : decode cX12_state 25 = .ok (.iload_n 3, 1) := by decide +kernel
theorem dX12_state_26 : decode cX12_state 26 = .ok (.aload_n 0, 1) := by decide +kernel
theorem dX12_state_27 : decode cX12_state 27 = .ok (.getfield 91, 3) := by decide +kernel
theorem dX12_state_30 : decode cX12_state 30 = .ok (.if_icmp .ge 27, 3) := by decide +kernel
theorem dX12_state_33 : decode cX12_state 33 = .ok (.iload_n 2, 1) := by decide +kernel
theorem dX12_state_34 : decode cX12_state 34 = .ok (.aload_n 0, 1) := by decide +kernel
theorem dX12_state_35 : decode cX12_state 35 = .ok (.getfield 13, 3) := by decide +kernel
theorem dX12_state_38 : decode cX12_state 38 = .ok (.iload_n 3, 1) := by decide +kernel
theorem dX12_state_39 : decode cX12_state 39 = .ok (.iaload, 1) := by decide +kernel
theorem dX12_state_40 : decode cX12_state 40 = .ok (.iload_n 1, 1) := by decide +kernel
theorem dX12_state_41 : decode cX12_state 41 = .ok (.if_icmp .ne 7, 3) := by decide +kernel
theorem dX12_state_44 : decode cX12_state 44 = .ok (.iconst 1, 1) := by decide +kernel
theorem dX12_state_45 : decode cX12_state 45 = .ok (.goto 4, 3) := by decide +kernel
theorem dX12_state_48 : decode cX12_state 48 = .ok (.iconst 0, 1) := by decide +kernel
theorem dX12_state_49 : decode cX12_state 49 = .ok (.iadd, 1) := by decide +kernel
theorem dX12_state_50 : decode cX12_state 50 = .ok (.istore_n 2, 1) := by decide +kernel
theorem dX12_state_51 : decode cX12_state 51 = .ok (.iinc 3 1, 3) := by decide +kernel
theorem dX12_state_54 : decode cX12_state 54 = .ok (.goto (-29), 3) := by decide +kernel
theorem dX12_state_57 : decode cX12_state 57 = .ok (.iload_n 2, 1) := by decide +kernel
theorem dX12_state_58 : decode cX12_state 58 = .ok (.ireturn, 1) := by decide +kernel
theorem dX12_found_0 : decode cX12_found 0 = .ok (.aload_n 0, 1) := by decide +kernel
theorem dX12_found_1 : decode cX12_found 1 = .ok (.getfield 49, 3) := by decide +kernel
theorem dX12_found_4 : decode cX12_found 4 = .ok (.ifCond .ne 6, 3) := by decide +kernel
theorem dX12_found_7 : decode cX12_found 7 = .ok (.bipush (-2), 2) := by decide +kernel
theorem dX12_found_9 : decode cX12_found 9 = .ok (.ireturn, 1) := by decide +kernel
theorem dX12_found_10 : decode cX12_found 10 = .ok (.aload_n 0, 1) := by decide +kernel
theorem dX12_found_11 : decode cX12_found 11 = .ok (.invokevirtual 120, 3) := by decide +kernel
theorem dX12_found_14 : decode cX12_found 14 = .ok (.iconst 1, 1) := by decide +kernel
theorem dX12_found_15 : decode cX12_found 15 = .ok (.if_icmp .eq 6, 3) := by decide +kernel
theorem dX12_found_18 : decode cX12_found 18 = .ok (.bipush (-9), 2) := by decide +kernel
theorem dX12_found_20 : decode cX12_found 20 = .ok (.ireturn, 1) := by decide +kernel
theorem dX12_found_21 : decode cX12_found 21 = .ok (.iconst 0, 1) := by decide +kernel
theorem dX12_found_22 : decode cX12_found 22 = .ok (.istore_n 1, 1) := by decide +kernel
theorem dX12_found_23 : decode cX12_found 23 = .ok (.aload_n 0, 1) := by decide +kernel
theorem dX12_found_24 : decode cX12_found 24 = .ok (.getfield 13, 3) := by decide +kernel
theorem dX12_found_27 : decode cX12_found 27 = .ok (.iload_n 1, 1) := by decide +kernel
theorem dX12_found_28 : decode cX12_found 28 = .ok (.iaload, 1) := by decide +kernel
theorem dX12_found_29 : decode cX12_found 29 = .ok (.ifCond .ge 9, 3) := by decide +kernel
theorem dX12_found_32 : decode cX12_found 32 = .ok (.iinc 1 1, 3) := by decide +kernel
theorem dX12_found_35 : decode cX12_found 35 = .ok (.goto (-12), 3) := by decide +kernel
theorem dX12_found_38 : decode cX12_found 38 = .ok (.iload_n 1, 1) := by decide +kernel
theorem dX12_found_39 : decode cX12_found 39 = .ok (.ireturn, 1) := by decide +kernel
theorem dX12_fewest_0 : decode cX12_fewest 0 = .ok (.aload_n 0, 1) := by decide +kernel
theorem dX12_fewest_1 : decode cX12_fewest 1 = .ok (.getfield 49, 3) := by decide +kernel
theorem dX12_fewest_4 : decode cX12_fewest 4 = .ok (.ifCond .eq 17, 3) := by decide +kernel
theorem dX12_fewest_7 : decode cX12_fewest 7 = .ok (.aload_n 0, 1) := by decide +kernel
theorem dX12_fewest_8 : decode cX12_fewest 8 = .ok (.aload_n 0, 1) := by decide +kernel
theorem dX12_fewest_9 : decode cX12_fewest 9 = .ok (.getfield 13, 3) := by decide +kernel
theorem dX12_fewest_12 : decode cX12_fewest 12 = .ok (.invokevirtual 104, 3) := by decide +kernel
theorem dX12_fewest_15 : decode cX12_fewest 15 = .ok (.invokestatic 108, 3) := by decide +kernel
theorem dX12_fewest_18 : decode cX12_fewest 18 = .ok (.goto 5, 3) := by decide +kernel
theorem dX12_fewest_21 : decode cX12_fewest 21 = .ok (.bipush (-2), 2) := by decide +kernel
theorem dX12_fewest_23 : decode cX12_fewest 23 = .ok (.ireturn, 1) := by decide +kernel
theorem dX12_spanBehind_0 : decode cX12_spanBehind 0 = .ok (.iconst 0, 1) := by decide +kernel
theorem dX12_spanBehind_1 : decode cX12_spanBehind 1 = .ok (.istore 5, 2) := by decide +kernel
theorem dX12_spanBehind_3 : decode cX12_spanBehind 3 = .ok (.iconst 0, 1) := by decide +kernel
theorem dX12_spanBehind_4 : decode cX12_spanBehind 4 = .ok (.istore 6, 2) := by decide +kernel
theorem dX12_spanBehind_6 : decode cX12_spanBehind 6 = .ok (.iload 6, 2) := by decide +kernel
theorem dX12_spanBehind_8 : decode cX12_spanBehind 8 = .ok (.aload_n 0, 1) := by decide +kernel
theorem dX12_spanBehind_9 : decode cX12_spanBehind 9 = .ok (.getfield 91, 3) := by decide +kernel
theorem dX12_spanBehind_12 : decode cX12_spanBehind 12 = .ok (.if_icmp .ge 74, 3) := by decide +kernel
theorem dX12_spanBehind_15 : decode cX12_spanBehind 15 = .ok (.iload_n 1, 1) := by decide +kernel
theorem dX12_spanBehind_16 : decode cX12_spanBehind 16 = .ok (.iconst 2, 1) := by decide +kernel
theorem dX12_spanBehind_17 : decode cX12_spanBehind 17 = .ok (.iload 6, 2) := by decide +kernel
theorem dX12_spanBehind_19 : decode cX12_spanBehind 19 = .ok (.imul, 1) := by decide +kernel
theorem dX12_spanBehind_20 : decode cX12_spanBehind 20 = .ok (.ishr, 1) := by decide +kernel
theorem dX12_spanBehind_21 : decode cX12_spanBehind 21 = .ok (.iconst 3, 1) := by decide +kernel
theorem dX12_spanBehind_22 : decode cX12_spanBehind 22 = .ok (.iand, 1) := by decide +kernel
theorem dX12_spanBehind_23 : decode cX12_spanBehind 23 = .ok (.iconst 1, 1) := by decide +kernel
theorem dX12_spanBehind_24 : decode cX12_spanBehind 24 = .ok (.isub, 1) := by decide +kernel
theorem dX12_spanBehind_25 : decode cX12_spanBehind 25 = .ok (.istore 7, 2) := by decide +kernel
theorem dX12_spanBehind_27 : decode cX12_spanBehind 27 = .ok (.iload 7, 2) := by decide +kernel
theorem dX12_spanBehind_29 : decode cX12_spanBehind 29 = .ok (.iload 7, 2) := by decide +kernel
theorem dX12_spanBehind_31 : decode cX12_spanBehind 31 = .ok (.ifCond .ge 7, 3) := by decide +kernel
theorem dX12_spanBehind_34 : decode cX12_spanBehind 34 = .ok (.iconst 0, 1) := by decide +kernel
theorem dX12_spanBehind_35 : decode cX12_spanBehind 35 = .ok (.goto 19, 3) := by decide +kernel
theorem dX12_spanBehind_38 : decode cX12_spanBehind 38 = .ok (.aload_n 0, 1) := by decide +kernel
theorem dX12_spanBehind_39 : decode cX12_spanBehind 39 = .ok (.getfield 88, 3) := by decide +kernel
theorem dX12_spanBehind_42 : decode cX12_spanBehind 42 = .ok (.iload 4, 2) := by decide +kernel
theorem dX12_spanBehind_44 : decode cX12_spanBehind 44 = .ok (.iload 6, 2) := by decide +kernel
theorem dX12_spanBehind_46 : decode cX12_spanBehind 46 = .ok (.iload_n 2, 1) := by decide +kernel
theorem dX12_spanBehind_47 : decode cX12_spanBehind 47 = .ok (.iload_n 3, 1) := by decide +kernel
theorem dX12_spanBehind_48 : decode cX12_spanBehind 48 = .ok (.invokestatic 53, 3) := by decide +kernel
theorem dX12_spanBehind_51 : decode cX12_spanBehind 51 = .ok (.invokestatic 65, 3) := by decide +kernel
theorem dX12_spanBehind_54 : decode cX12_spanBehind 54 = .ok (.isub, 1) := by decide +kernel
theorem dX12_spanBehind_55 : decode cX12_spanBehind 55 = .ok (.istore 7, 2) := by decide +kernel
theorem dX12_spanBehind_57 : decode cX12_spanBehind 57 = .ok (.iload 5, 2) := by decide +kernel
theorem dX12_spanBehind_59 : decode cX12_spanBehind 59 = .ok (.iload 7, 2) := by decide +kernel
theorem dX12_spanBehind_61 : decode cX12_spanBehind 61 = .ok (.ifCond .ge 7, 3) := by decide +kernel
theorem dX12_spanBehind_64 : decode cX12_spanBehind 64 = .ok (.iconst 0, 1) := by decide +kernel
theorem dX12_spanBehind_65 : decode cX12_spanBehind 65 = .ok (.goto 7, 3) := by decide +kernel
theorem dX12_spanBehind_68 : decode cX12_spanBehind 68 = .ok (.iload 7, 2) := by decide +kernel
theorem dX12_spanBehind_70 : decode cX12_spanBehind 70 = .ok (.iconst 1, 1) := by decide +kernel
theorem dX12_spanBehind_71 : decode cX12_spanBehind 71 = .ok (.iadd, 1) := by decide +kernel
theorem dX12_spanBehind_72 : decode cX12_spanBehind 72 = .ok (.iconst 2, 1) := by decide +kernel
theorem dX12_spanBehind_73 : decode cX12_spanBehind 73 = .ok (.iload 6, 2) := by decide +kernel
theorem dX12_spanBehind_75 : decode cX12_spanBehind 75 = .ok (.imul, 1) := by decide +kernel
theorem dX12_spanBehind_76 : decode cX12_spanBehind 76 = .ok (.ishl, 1) := by decide +kernel
theorem dX12_spanBehind_77 : decode cX12_spanBehind 77 = .ok (.ior, 1) := by decide +kernel
theorem dX12_spanBehind_78 : decode cX12_spanBehind 78 = .ok (.istore 5, 2) := by decide +kernel
theorem dX12_spanBehind_80 : decode cX12_spanBehind 80 = .ok (.iinc 6 1, 3) := by decide +kernel
theorem dX12_spanBehind_83 : decode cX12_spanBehind 83 = .ok (.goto (-77), 3) := by decide +kernel
theorem dX12_spanBehind_86 : decode cX12_spanBehind 86 = .ok (.iload 5, 2) := by decide +kernel
theorem dX12_spanBehind_88 : decode cX12_spanBehind 88 = .ok (.ireturn, 1) := by decide +kernel
theorem dX12_canSpan_0 : decode cX12_canSpan 0 = .ok (.iconst 0, 1) := by decide +kernel
theorem dX12_canSpan_1 : decode cX12_canSpan 1 = .ok (.istore_n 3, 1) := by decide +kernel
theorem dX12_canSpan_2 : decode cX12_canSpan 2 = .ok (.iload_n 3, 1) := by decide +kernel
theorem dX12_canSpan_3 : decode cX12_canSpan 3 = .ok (.aload_n 0, 1) := by decide +kernel
theorem dX12_canSpan_4 : decode cX12_canSpan 4 = .ok (.getfield 91, 3) := by decide +kernel
theorem dX12_canSpan_7 : decode cX12_canSpan 7 = .ok (.if_icmp .ge 73, 3) := by decide +kernel
theorem dX12_canSpan_10 : decode cX12_canSpan 10 = .ok (.iload_n 3, 1) := by decide +kernel
theorem dX12_canSpan_11 : decode cX12_canSpan 11 = .ok (.istore 4, 2) := by decide +kernel
theorem dX12_canSpan_13 : decode cX12_canSpan 13 = .ok (.iload 4, 2) := by decide +kernel
theorem dX12_canSpan_15 : decode cX12_canSpan 15 = .ok (.aload_n 0, 1) := by decide +kernel
theorem dX12_canSpan_16 : decode cX12_canSpan 16 = .ok (.getfield 91, 3) := by decide +kernel
theorem dX12_canSpan_19 : decode cX12_canSpan 19 = .ok (.if_icmp .ge 55, 3) := by decide +kernel
theorem dX12_canSpan_22 : decode cX12_canSpan 22 = .ok (.aload_n 0, 1) := by decide +kernel
theorem dX12_canSpan_23 : decode cX12_canSpan 23 = .ok (.getfield 31, 3) := by decide +kernel
theorem dX12_canSpan_26 : decode cX12_canSpan 26 = .ok (.aload_n 0, 1) := by decide +kernel
theorem dX12_canSpan_27 : decode cX12_canSpan 27 = .ok (.iload_n 1, 1) := by decide +kernel
theorem dX12_canSpan_28 : decode cX12_canSpan 28 = .ok (.iload_n 3, 1) := by decide +kernel
theorem dX12_canSpan_29 : decode cX12_canSpan 29 = .ok (.iload 4, 2) := by decide +kernel
theorem dX12_canSpan_31 : decode cX12_canSpan 31 = .ok (.iconst 1, 1) := by decide +kernel
theorem dX12_canSpan_32 : decode cX12_canSpan 32 = .ok (.invokevirtual 124, 3) := by decide +kernel
theorem dX12_canSpan_35 : decode cX12_canSpan 35 = .ok (.iaload, 1) := by decide +kernel
theorem dX12_canSpan_36 : decode cX12_canSpan 36 = .ok (.istore 5, 2) := by decide +kernel
theorem dX12_canSpan_38 : decode cX12_canSpan 38 = .ok (.aload_n 0, 1) := by decide +kernel
theorem dX12_canSpan_39 : decode cX12_canSpan 39 = .ok (.getfield 31, 3) := by decide +kernel
theorem dX12_canSpan_42 : decode cX12_canSpan 42 = .ok (.aload_n 0, 1) := by decide +kernel
theorem dX12_canSpan_43 : decode cX12_canSpan 43 = .ok (.iload_n 1, 1) := by decide +kernel
theorem dX12_canSpan_44 : decode cX12_canSpan 44 = .ok (.iload_n 3, 1) := by decide +kernel
theorem dX12_canSpan_45 : decode cX12_canSpan 45 = .ok (.iload 4, 2) := by decide +kernel
theorem dX12_canSpan_47 : decode cX12_canSpan 47 = .ok (.iconst 0, 1) := by decide +kernel
theorem dX12_canSpan_48 : decode cX12_canSpan 48 = .ok (.invokevirtual 124, 3) := by decide +kernel
theorem dX12_canSpan_51 : decode cX12_canSpan 51 = .ok (.iaload, 1) := by decide +kernel
theorem dX12_canSpan_52 : decode cX12_canSpan 52 = .ok (.istore 6, 2) := by decide +kernel
theorem dX12_canSpan_54 : decode cX12_canSpan 54 = .ok (.iload 5, 2) := by decide +kernel
theorem dX12_canSpan_56 : decode cX12_canSpan 56 = .ok (.iload_n 2, 1) := by decide +kernel
theorem dX12_canSpan_57 : decode cX12_canSpan 57 = .ok (.if_icmp .gt 11, 3) := by decide +kernel
theorem dX12_canSpan_60 : decode cX12_canSpan 60 = .ok (.iload 6, 2) := by decide +kernel
theorem dX12_canSpan_62 : decode cX12_canSpan 62 = .ok (.iload_n 2, 1) := by decide +kernel
theorem dX12_canSpan_63 : decode cX12_canSpan 63 = .ok (.if_icmp .gt 5, 3) := by decide +kernel
theorem dX12_canSpan_66 : decode cX12_canSpan 66 = .ok (.iconst 1, 1) := by decide +kernel
theorem dX12_canSpan_67 : decode cX12_canSpan 67 = .ok (.ireturn, 1) := by decide +kernel
theorem dX12_canSpan_68 : decode cX12_canSpan 68 = .ok (.iinc 4 1, 3) := by decide +kernel
theorem dX12_canSpan_71 : decode cX12_canSpan 71 = .ok (.goto (-58), 3) := by decide +kernel
theorem dX12_canSpan_74 : decode cX12_canSpan 74 = .ok (.iinc 3 1, 3) := by decide +kernel
theorem dX12_canSpan_77 : decode cX12_canSpan 77 = .ok (.goto (-75), 3) := by decide +kernel
theorem dX12_canSpan_80 : decode cX12_canSpan 80 = .ok (.iconst 0, 1) := by decide +kernel
theorem dX12_canSpan_81 : decode cX12_canSpan 81 = .ok (.ireturn, 1) := by decide +kernel
theorem dX12_knowSpans_0 : decode cX12_knowSpans 0 = .ok (.aload_n 0, 1) := by decide +kernel
theorem dX12_knowSpans_1 : decode cX12_knowSpans 1 = .ok (.getfield 28, 3) := by decide +kernel
theorem dX12_knowSpans_4 : decode cX12_knowSpans 4 = .ok (.aload_n 0, 1) := by decide +kernel
theorem dX12_knowSpans_5 : decode cX12_knowSpans 5 = .ok (.getfield 88, 3) := by decide +kernel
theorem dX12_knowSpans_8 : decode cX12_knowSpans 8 = .ok (.if_icmp .ne 15, 3) := by decide +kernel
theorem dX12_knowSpans_11 : decode cX12_knowSpans 11 = .ok (.aload_n 0, 1) := by decide +kernel
theorem dX12_knowSpans_12 : decode cX12_knowSpans 12 = .ok (.getfield 128, 3) := by decide +kernel
theorem dX12_knowSpans_15 : decode cX12_knowSpans 15 = .ok (.aload_n 0, 1) := by decide +kernel
theorem dX12_knowSpans_16 : decode cX12_knowSpans 16 = .ok (.getfield 91, 3) := by decide +kernel
theorem dX12_knowSpans_19 : decode cX12_knowSpans 19 = .ok (.if_icmp .ne 4, 3) := by decide +kernel
theorem dX12_knowSpans_22 : decode cX12_knowSpans 22 = .ok (.return_, 1) := by decide +kernel
theorem dX12_knowSpans_23 : decode cX12_knowSpans 23 = .ok (.aload_n 0, 1) := by decide +kernel
theorem dX12_knowSpans_24 : decode cX12_knowSpans 24 = .ok (.aload_n 0, 1) := by decide +kernel
theorem dX12_knowSpans_25 : decode cX12_knowSpans 25 = .ok (.getfield 88, 3) := by decide +kernel
theorem dX12_knowSpans_28 : decode cX12_knowSpans 28 = .ok (.putfield 28, 3) := by decide +kernel
theorem dX12_knowSpans_31 : decode cX12_knowSpans 31 = .ok (.aload_n 0, 1) := by decide +kernel
theorem dX12_knowSpans_32 : decode cX12_knowSpans 32 = .ok (.aload_n 0, 1) := by decide +kernel
theorem dX12_knowSpans_33 : decode cX12_knowSpans 33 = .ok (.getfield 91, 3) := by decide +kernel
theorem dX12_knowSpans_36 : decode cX12_knowSpans 36 = .ok (.putfield 128, 3) := by decide +kernel
theorem dX12_knowSpans_39 : decode cX12_knowSpans 39 = .ok (.iconst 1, 1) := by decide +kernel
theorem dX12_knowSpans_40 : decode cX12_knowSpans 40 = .ok (.iconst 2, 1) := by decide +kernel
theorem dX12_knowSpans_41 : decode cX12_knowSpans 41 = .ok (.aload_n 0, 1) := by decide +kernel
theorem dX12_knowSpans_42 : decode cX12_knowSpans 42 = .ok (.getfield 91, 3) := by decide +kernel
theorem dX12_knowSpans_45 : decode cX12_knowSpans 45 = .ok (.imul, 1) := by decide +kernel
theorem dX12_knowSpans_46 : decode cX12_knowSpans 46 = .ok (.ishl, 1) := by decide +kernel
theorem dX12_knowSpans_47 : decode cX12_knowSpans 47 = .ok (.istore_n 1, 1) := by decide +kernel
theorem dX12_knowSpans_48 : decode cX12_knowSpans 48 = .ok (.iconst 0, 1) := by decide +kernel
theorem dX12_knowSpans_49 : decode cX12_knowSpans 49 = .ok (.istore_n 2, 1) := by decide +kernel
theorem dX12_knowSpans_50 : decode cX12_knowSpans 50 = .ok (.iload_n 2, 1) := by decide +kernel
theorem dX12_knowSpans_51 : decode cX12_knowSpans 51 = .ok (.iload_n 1, 1) := by decide +kernel
theorem dX12_knowSpans_52 : decode cX12_knowSpans 52 = .ok (.if_icmp .ge 73, 3) := by decide +kernel
theorem dX12_knowSpans_55 : decode cX12_knowSpans 55 = .ok (.iconst 0, 1) := by decide +kernel
theorem dX12_knowSpans_56 : decode cX12_knowSpans 56 = .ok (.istore_n 3, 1) := by decide +kernel
theorem dX12_knowSpans_57 : decode cX12_knowSpans 57 = .ok (.iconst 0, 1) := by decide +kernel
theorem dX12_knowSpans_58 : decode cX12_knowSpans 58 = .ok (.istore 4, 2) := by decide +kernel
theorem dX12_knowSpans_60 : decode cX12_knowSpans 60 = .ok (.iload 4, 2) := by decide +kernel
theorem dX12_knowSpans_62 : decode cX12_knowSpans 62 = .ok (.aload_n 0, 1) := by decide +kernel
theorem dX12_knowSpans_63 : decode cX12_knowSpans 63 = .ok (.getfield 91, 3) := by decide +kernel
theorem dX12_knowSpans_66 : decode cX12_knowSpans 66 = .ok (.if_icmp .ge 28, 3) := by decide +kernel
theorem dX12_knowSpans_69 : decode cX12_knowSpans 69 = .ok (.iload_n 3, 1) := by decide +kernel
theorem dX12_knowSpans_70 : decode cX12_knowSpans 70 = .ok (.iload_n 2, 1) := by decide +kernel
theorem dX12_knowSpans_71 : decode cX12_knowSpans 71 = .ok (.iconst 2, 1) := by decide +kernel
theorem dX12_knowSpans_72 : decode cX12_knowSpans 72 = .ok (.iload 4, 2) := by decide +kernel
theorem dX12_knowSpans_74 : decode cX12_knowSpans 74 = .ok (.imul, 1) := by decide +kernel
theorem dX12_knowSpans_75 : decode cX12_knowSpans 75 = .ok (.ishr, 1) := by decide +kernel
theorem dX12_knowSpans_76 : decode cX12_knowSpans 76 = .ok (.iconst 3, 1) := by decide +kernel
theorem dX12_knowSpans_77 : decode cX12_knowSpans 77 = .ok (.iand, 1) := by decide +kernel
theorem dX12_knowSpans_78 : decode cX12_knowSpans 78 = .ok (.ifCond .le 7, 3) := by decide +kernel
theorem dX12_knowSpans_81 : decode cX12_knowSpans 81 = .ok (.iconst 1, 1) := by decide +kernel
theorem dX12_knowSpans_82 : decode cX12_knowSpans 82 = .ok (.goto 4, 3) := by decide +kernel
theorem dX12_knowSpans_85 : decode cX12_knowSpans 85 = .ok (.iconst 0, 1) := by decide +kernel
theorem dX12_knowSpans_86 : decode cX12_knowSpans 86 = .ok (.iadd, 1) := by decide +kernel
theorem dX12_knowSpans_87 : decode cX12_knowSpans 87 = .ok (.istore_n 3, 1) := by decide +kernel
theorem dX12_knowSpans_88 : decode cX12_knowSpans 88 = .ok (.iinc 4 1, 3) := by decide +kernel
theorem dX12_knowSpans_91 : decode cX12_knowSpans 91 = .ok (.goto (-31), 3) := by decide +kernel
theorem dX12_knowSpans_94 : decode cX12_knowSpans 94 = .ok (.aload_n 0, 1) := by decide +kernel
theorem dX12_knowSpans_95 : decode cX12_knowSpans 95 = .ok (.getfield 31, 3) := by decide +kernel
theorem dX12_knowSpans_98 : decode cX12_knowSpans 98 = .ok (.iload_n 2, 1) := by decide +kernel
theorem dX12_knowSpans_99 : decode cX12_knowSpans 99 = .ok (.iload_n 3, 1) := by decide +kernel
theorem dX12_knowSpans_100 : decode cX12_knowSpans 100 = .ok (.ifCond .ne 7, 3) := by decide +kernel
theorem dX12_knowSpans_103 : decode cX12_knowSpans 103 = .ok (.iconst (-1), 1) := by decide +kernel
theorem dX12_knowSpans_104 : decode cX12_knowSpans 104 = .ok (.goto 14, 3) := by decide +kernel
theorem dX12_knowSpans_107 : decode cX12_knowSpans 107 = .ok (.iload_n 3, 1) := by decide +kernel
theorem dX12_knowSpans_108 : decode cX12_knowSpans 108 = .ok (.iconst 1, 1) := by decide +kernel
theorem dX12_knowSpans_109 : decode cX12_knowSpans 109 = .ok (.if_icmp .ne 7, 3) := by decide +kernel
theorem dX12_knowSpans_112 : decode cX12_knowSpans 112 = .ok (.iconst 0, 1) := by decide +kernel
theorem dX12_knowSpans_113 : decode cX12_knowSpans 113 = .ok (.goto 5, 3) := by decide +kernel
theorem dX12_knowSpans_116 : decode cX12_knowSpans 116 = .ok (.bipush 13, 2) := by decide +kernel
theorem dX12_knowSpans_118 : decode cX12_knowSpans 118 = .ok (.iastore, 1) := by decide +kernel
theorem dX12_knowSpans_119 : decode cX12_knowSpans 119 = .ok (.iinc 2 1, 3) := by decide +kernel
theorem dX12_knowSpans_122 : decode cX12_knowSpans 122 = .ok (.goto (-72), 3) := by decide +kernel
theorem dX12_knowSpans_125 : decode cX12_knowSpans 125 = .ok (.iconst 0, 1) := by decide +kernel
theorem dX12_knowSpans_126 : decode cX12_knowSpans 126 = .ok (.istore_n 2, 1) := by decide +kernel
theorem dX12_knowSpans_127 : decode cX12_knowSpans 127 = .ok (.iload_n 2, 1) := by decide +kernel
theorem dX12_knowSpans_128 : decode cX12_knowSpans 128 = .ok (.bipush 12, 2) := by decide +kernel
theorem dX12_knowSpans_130 : decode cX12_knowSpans 130 = .ok (.if_icmp .ge 51, 3) := by decide +kernel
theorem dX12_knowSpans_133 : decode cX12_knowSpans 133 = .ok (.iconst 0, 1) := by decide +kernel
theorem dX12_knowSpans_134 : decode cX12_knowSpans 134 = .ok (.istore_n 3, 1) := by decide +kernel
theorem dX12_knowSpans_135 : decode cX12_knowSpans 135 = .ok (.iload_n 3, 1) := by decide +kernel
theorem dX12_knowSpans_136 : decode cX12_knowSpans 136 = .ok (.iload_n 1, 1) := by decide +kernel
theorem dX12_knowSpans_137 : decode cX12_knowSpans 137 = .ok (.if_icmp .ge 38, 3) := by decide +kernel
theorem dX12_knowSpans_140 : decode cX12_knowSpans 140 = .ok (.aload_n 0, 1) := by decide +kernel
theorem dX12_knowSpans_141 : decode cX12_knowSpans 141 = .ok (.getfield 31, 3) := by decide +kernel
theorem dX12_knowSpans_144 : decode cX12_knowSpans 144 = .ok (.iload_n 3, 1) := by decide +kernel
theorem dX12_knowSpans_145 : decode cX12_knowSpans 145 = .ok (.iaload, 1) := by decide +kernel
theorem dX12_knowSpans_146 : decode cX12_knowSpans 146 = .ok (.bipush 13, 2) := by decide +kernel
theorem dX12_knowSpans_148 : decode cX12_knowSpans 148 = .ok (.if_icmp .ne 21, 3) := by decide +kernel
theorem dX12_knowSpans_151 : decode cX12_knowSpans 151 = .ok (.aload_n 0, 1) := by decide +kernel
theorem dX12_knowSpans_152 : decode cX12_knowSpans 152 = .ok (.iload_n 3, 1) := by decide +kernel
theorem dX12_knowSpans_153 : decode cX12_knowSpans 153 = .ok (.iload_n 2, 1) := by decide +kernel
theorem dX12_knowSpans_154 : decode cX12_knowSpans 154 = .ok (.invokevirtual 131, 3) := by decide +kernel
theorem dX12_knowSpans_157 : decode cX12_knowSpans 157 = .ok (.ifCond .eq 12, 3) := by decide +kernel
theorem dX12_knowSpans_160 : decode cX12_knowSpans 160 = .ok (.aload_n 0, 1) := by decide +kernel
theorem dX12_knowSpans_161 : decode cX12_knowSpans 161 = .ok (.getfield 31, 3) := by decide +kernel
theorem dX12_knowSpans_164 : decode cX12_knowSpans 164 = .ok (.iload_n 3, 1) := by decide +kernel
theorem dX12_knowSpans_165 : decode cX12_knowSpans 165 = .ok (.iload_n 2, 1) := by decide +kernel
theorem dX12_knowSpans_166 : decode cX12_knowSpans 166 = .ok (.iconst 1, 1) := by decide +kernel
theorem dX12_knowSpans_167 : decode cX12_knowSpans 167 = .ok (.iadd, 1) := by decide +kernel
theorem dX12_knowSpans_168 : decode cX12_knowSpans 168 = .ok (.iastore, 1) := by decide +kernel
theorem dX12_knowSpans_169 : decode cX12_knowSpans 169 = .ok (.iinc 3 1, 3) := by decide +kernel
theorem dX12_knowSpans_172 : decode cX12_knowSpans 172 = .ok (.goto (-37), 3) := by decide +kernel
theorem dX12_knowSpans_175 : decode cX12_knowSpans 175 = .ok (.iinc 2 1, 3) := by decide +kernel
theorem dX12_knowSpans_178 : decode cX12_knowSpans 178 = .ok (.goto (-51), 3) := by decide +kernel
theorem dX12_knowSpans_181 : decode cX12_knowSpans 181 = .ok (.return_, 1) := by decide +kernel
theorem dX12_spans_0 : decode cX12_spans 0 = .ok (.aload_n 0, 1) := by decide +kernel
theorem dX12_spans_1 : decode cX12_spans 1 = .ok (.getfield 49, 3) := by decide +kernel
theorem dX12_spans_4 : decode cX12_spans 4 = .ok (.ifCond .ne 6, 3) := by decide +kernel
theorem dX12_spans_7 : decode cX12_spans 7 = .ok (.bipush (-2), 2) := by decide +kernel
theorem dX12_spans_9 : decode cX12_spans 9 = .ok (.ireturn, 1) := by decide +kernel
theorem dX12_spans_10 : decode cX12_spans 10 = .ok (.aload_n 0, 1) := by decide +kernel
theorem dX12_spans_11 : decode cX12_spans 11 = .ok (.getfield 91, 3) := by decide +kernel
theorem dX12_spans_14 : decode cX12_spans 14 = .ok (.bipush 6, 2) := by decide +kernel
theorem dX12_spans_16 : decode cX12_spans 16 = .ok (.if_icmp .gt 11, 3) := by decide +kernel
theorem dX12_spans_19 : decode cX12_spans 19 = .ok (.aload_n 0, 1) := by decide +kernel
theorem dX12_spans_20 : decode cX12_spans 20 = .ok (.getfield 98, 3) := by decide +kernel
theorem dX12_spans_23 : decode cX12_spans 23 = .ok (.iconst 2, 1) := by decide +kernel
theorem dX12_spans_24 : decode cX12_spans 24 = .ok (.if_icmp .le 5, 3) := by decide +kernel
theorem dX12_spans_27 : decode cX12_spans 27 = .ok (.iconst (-1), 1) := by decide +kernel
theorem dX12_spans_28 : decode cX12_spans 28 = .ok (.ireturn, 1) := by decide +kernel
theorem dX12_spans_29 : decode cX12_spans 29 = .ok (.aload_n 0, 1) := by decide +kernel
theorem dX12_spans_30 : decode cX12_spans 30 = .ok (.invokevirtual 134, 3) := by decide +kernel
theorem dX12_spans_33 : decode cX12_spans 33 = .ok (.iconst 0, 1) := by decide +kernel
theorem dX12_spans_34 : decode cX12_spans 34 = .ok (.istore_n 1, 1) := by decide +kernel
theorem dX12_spans_35 : decode cX12_spans 35 = .ok (.iconst 0, 1) := by decide +kernel
theorem dX12_spans_36 : decode cX12_spans 36 = .ok (.istore_n 2, 1) := by decide +kernel
theorem dX12_spans_37 : decode cX12_spans 37 = .ok (.iload_n 2, 1) := by decide +kernel
theorem dX12_spans_38 : decode cX12_spans 38 = .ok (.aload_n 0, 1) := by decide +kernel
theorem dX12_spans_39 : decode cX12_spans 39 = .ok (.getfield 91, 3) := by decide +kernel
theorem dX12_spans_42 : decode cX12_spans 42 = .ok (.if_icmp .ge 24, 3) := by decide +kernel
theorem dX12_spans_45 : decode cX12_spans 45 = .ok (.iload_n 1, 1) := by decide +kernel
theorem dX12_spans_46 : decode cX12_spans 46 = .ok (.aload_n 0, 1) := by decide +kernel
theorem dX12_spans_47 : decode cX12_spans 47 = .ok (.getfield 13, 3) := by decide +kernel
theorem dX12_spans_50 : decode cX12_spans 50 = .ok (.iload_n 2, 1) := by decide +kernel
theorem dX12_spans_51 : decode cX12_spans 51 = .ok (.iaload, 1) := by decide +kernel
theorem dX12_spans_52 : decode cX12_spans 52 = .ok (.iconst 1, 1) := by decide +kernel
theorem dX12_spans_53 : decode cX12_spans 53 = .ok (.iadd, 1) := by decide +kernel
theorem dX12_spans_54 : decode cX12_spans 54 = .ok (.iconst 2, 1) := by decide +kernel
theorem dX12_spans_55 : decode cX12_spans 55 = .ok (.iload_n 2, 1) := by decide +kernel
theorem dX12_spans_56 : decode cX12_spans 56 = .ok (.imul, 1) := by decide +kernel
theorem dX12_spans_57 : decode cX12_spans 57 = .ok (.ishl, 1) := by decide +kernel
theorem dX12_spans_58 : decode cX12_spans 58 = .ok (.ior, 1) := by decide +kernel
theorem dX12_spans_59 : decode cX12_spans 59 = .ok (.istore_n 1, 1) := by decide +kernel
theorem dX12_spans_60 : decode cX12_spans 60 = .ok (.iinc 2 1, 3) := by decide +kernel
theorem dX12_spans_63 : decode cX12_spans 63 = .ok (.goto (-26), 3) := by decide +kernel
theorem dX12_spans_66 : decode cX12_spans 66 = .ok (.aload_n 0, 1) := by decide +kernel
theorem dX12_spans_67 : decode cX12_spans 67 = .ok (.getfield 31, 3) := by decide +kernel
theorem dX12_spans_70 : decode cX12_spans 70 = .ok (.iload_n 1, 1) := by decide +kernel
theorem dX12_spans_71 : decode cX12_spans 71 = .ok (.iaload, 1) := by decide +kernel
theorem dX12_spans_72 : decode cX12_spans 72 = .ok (.invokestatic 108, 3) := by decide +kernel
theorem dX12_spans_75 : decode cX12_spans 75 = .ok (.ireturn, 1) := by decide +kernel
theorem dX12_choose_0 : decode cX12_choose 0 = .ok (.lconst 1, 1) := by decide +kernel
theorem dX12_choose_1 : decode cX12_choose 1 = .ok (.lstore_n 2, 1) := by decide +kernel
theorem dX12_choose_2 : decode cX12_choose 2 = .ok (.iconst 1, 1) := by decide +kernel
theorem dX12_choose_3 : decode cX12_choose 3 = .ok (.istore 4, 2) := by decide +kernel
theorem dX12_choose_5 : decode cX12_choose 5 = .ok (.iload 4, 2) := by decide +kernel
theorem dX12_choose_7 : decode cX12_choose 7 = .ok (.iload_n 1, 1) := by decide +kernel
theorem dX12_choose_8 : decode cX12_choose 8 = .ok (.if_icmp .gt 23, 3) := by decide +kernel
theorem dX12_choose_11 : decode cX12_choose 11 = .ok (.lload_n 2, 1) := by decide +kernel
theorem dX12_choose_12 : decode cX12_choose 12 = .ok (.iload_n 0, 1) := by decide +kernel
theorem dX12_choose_13 : decode cX12_choose 13 = .ok (.iconst 1, 1) := by decide +kernel
theorem dX12_choose_14 : decode cX12_choose 14 = .ok (.iadd, 1) := by decide +kernel
theorem dX12_choose_15 : decode cX12_choose 15 = .ok (.iload 4, 2) := by decide +kernel
theorem dX12_choose_17 : decode cX12_choose 17 = .ok (.isub, 1) := by decide +kernel
theorem dX12_choose_18 : decode cX12_choose 18 = .ok (.i2l, 1) := by decide +kernel
theorem dX12_choose_19 : decode cX12_choose 19 = .ok (.lmul, 1) := by decide +kernel
theorem dX12_choose_20 : decode cX12_choose 20 = .ok (.iload 4, 2) := by decide +kernel
theorem dX12_choose_22 : decode cX12_choose 22 = .ok (.i2l, 1) := by decide +kernel
theorem dX12_choose_23 : decode cX12_choose 23 = .ok (.ldiv, 1) := by decide +kernel
theorem dX12_choose_24 : decode cX12_choose 24 = .ok (.lstore_n 2, 1) := by decide +kernel
theorem dX12_choose_25 : decode cX12_choose 25 = .ok (.iinc 4 1, 3) := by decide +kernel
theorem dX12_choose_28 : decode cX12_choose 28 = .ok (.goto (-23), 3) := by decide +kernel
theorem dX12_choose_31 : decode cX12_choose 31 = .ok (.iload_n 1, 1) := by decide +kernel
theorem dX12_choose_32 : decode cX12_choose 32 = .ok (.iload_n 0, 1) := by decide +kernel
theorem dX12_choose_33 : decode cX12_choose 33 = .ok (.if_icmp .le 7, 3) := by decide +kernel
theorem dX12_choose_36 : decode cX12_choose 36 = .ok (.lconst 0, 1) := by decide +kernel
theorem dX12_choose_37 : decode cX12_choose 37 = .ok (.goto 4, 3) := by decide +kernel
theorem dX12_choose_40 : decode cX12_choose 40 = .ok (.lload_n 2, 1) := by decide +kernel
theorem dX12_choose_41 : decode cX12_choose 41 = .ok (.lreturn, 1) := by decide +kernel
theorem dX12_weight_0 : decode cX12_weight 0 = .ok (.iload_n 1, 1) := by decide +kernel
theorem dX12_weight_1 : decode cX12_weight 1 = .ok (.iconst 0, 1) := by decide +kernel
theorem dX12_weight_2 : decode cX12_weight 2 = .ok (.bipush 20, 2) := by decide +kernel
theorem dX12_weight_4 : decode cX12_weight 4 = .ok (.invokestatic 53, 3) := by decide +kernel
theorem dX12_weight_7 : decode cX12_weight 7 = .ok (.ifCond .eq 18, 3) := by decide +kernel
theorem dX12_weight_10 : decode cX12_weight 10 = .ok (.aload_n 0, 1) := by decide +kernel
theorem dX12_weight_11 : decode cX12_weight 11 = .ok (.getfield 49, 3) := by decide +kernel
theorem dX12_weight_14 : decode cX12_weight 14 = .ok (.ifCond .eq 11, 3) := by decide +kernel
theorem dX12_weight_17 : decode cX12_weight 17 = .ok (.aload_n 0, 1) := by decide +kernel
theorem dX12_weight_18 : decode cX12_weight 18 = .ok (.getfield 88, 3) := by decide +kernel
theorem dX12_weight_21 : decode cX12_weight 21 = .ok (.iconst 1, 1) := by decide +kernel
theorem dX12_weight_22 : decode cX12_weight 22 = .ok (.if_icmp .eq 7, 3) := by decide +kernel
theorem dX12_weight_25 : decode cX12_weight 25 = .ok (.ldc2_w 137, 3) := by decide +kernel
theorem dX12_weight_28 : decode cX12_weight 28 = .ok (.lreturn, 1) := by decide +kernel
theorem dX12_weight_29 : decode cX12_weight 29 = .ok (.lconst 0, 1) := by decide +kernel
theorem dX12_weight_30 : decode cX12_weight 30 = .ok (.lstore_n 2, 1) := by decide +kernel
theorem dX12_weight_31 : decode cX12_weight 31 = .ok (.iconst 0, 1) := by decide +kernel
theorem dX12_weight_32 : decode cX12_weight 32 = .ok (.istore 4, 2) := by decide +kernel
theorem dX12_weight_34 : decode cX12_weight 34 = .ok (.iload 4, 2) := by decide +kernel
theorem dX12_weight_36 : decode cX12_weight 36 = .ok (.aload_n 0, 1) := by decide +kernel
theorem dX12_weight_37 : decode cX12_weight 37 = .ok (.getfield 91, 3) := by decide +kernel
theorem dX12_weight_40 : decode cX12_weight 40 = .ok (.if_icmp .ge 39, 3) := by decide +kernel
theorem dX12_weight_43 : decode cX12_weight 43 = .ok (.iconst 0, 1) := by decide +kernel
theorem dX12_weight_44 : decode cX12_weight 44 = .ok (.istore 5, 2) := by decide +kernel
theorem dX12_weight_46 : decode cX12_weight 46 = .ok (.iload 5, 2) := by decide +kernel
theorem dX12_weight_48 : decode cX12_weight 48 = .ok (.aload_n 0, 1) := by decide +kernel
theorem dX12_weight_49 : decode cX12_weight 49 = .ok (.getfield 13, 3) := by decide +kernel
theorem dX12_weight_52 : decode cX12_weight 52 = .ok (.iload 4, 2) := by decide +kernel
theorem dX12_weight_54 : decode cX12_weight 54 = .ok (.iaload, 1) := by decide +kernel
theorem dX12_weight_55 : decode cX12_weight 55 = .ok (.if_icmp .gt 18, 3) := by decide +kernel
theorem dX12_weight_58 : decode cX12_weight 58 = .ok (.lload_n 2, 1) := by decide +kernel
theorem dX12_weight_59 : decode cX12_weight 59 = .ok (.iload_n 1, 1) := by decide +kernel
theorem dX12_weight_60 : decode cX12_weight 60 = .ok (.iload 5, 2) := by decide +kernel
theorem dX12_weight_62 : decode cX12_weight 62 = .ok (.invokestatic 139, 3) := by decide +kernel
theorem dX12_weight_65 : decode cX12_weight 65 = .ok (.ladd, 1) := by decide +kernel
theorem dX12_weight_66 : decode cX12_weight 66 = .ok (.lstore_n 2, 1) := by decide +kernel
theorem dX12_weight_67 : decode cX12_weight 67 = .ok (.iinc 5 1, 3) := by decide +kernel
theorem dX12_weight_70 : decode cX12_weight 70 = .ok (.goto (-24), 3) := by decide +kernel
theorem dX12_weight_73 : decode cX12_weight 73 = .ok (.iinc 4 1, 3) := by decide +kernel
theorem dX12_weight_76 : decode cX12_weight 76 = .ok (.goto (-42), 3) := by decide +kernel
theorem dX12_weight_79 : decode cX12_weight 79 = .ok (.lload_n 2, 1) := by decide +kernel
theorem dX12_weight_80 : decode cX12_weight 80 = .ok (.lreturn, 1) := by decide +kernel
theorem dX12_greater_0 : decode cX12_greater 0 = .ok (.aload_n 0, 1) := by decide +kernel
theorem dX12_greater_1 : decode cX12_greater 1 = .ok (.iload_n 1, 1) := by decide +kernel
theorem dX12_greater_2 : decode cX12_greater 2 = .ok (.iconst 1, 1) := by decide +kernel
theorem dX12_greater_3 : decode cX12_greater 3 = .ok (.invokevirtual 113, 3) := by decide +kernel
theorem dX12_greater_6 : decode cX12_greater 6 = .ok (.ifCond .ne 7, 3) := by decide +kernel
theorem dX12_greater_9 : decode cX12_greater 9 = .ok (.iconst (-1), 1) := by decide +kernel
theorem dX12_greater_10 : decode cX12_greater 10 = .ok (.goto 11, 3) := by decide +kernel
theorem dX12_greater_13 : decode cX12_greater 13 = .ok (.aload_n 0, 1) := by decide +kernel
theorem dX12_greater_14 : decode cX12_greater 14 = .ok (.aload_n 0, 1) := by decide +kernel
theorem dX12_greater_15 : decode cX12_greater 15 = .ok (.getfield 46, 3) := by decide +kernel
theorem dX12_greater_18 : decode cX12_greater 18 = .ok (.invokevirtual 104, 3) := by decide +kernel
theorem dX12_greater_21 : decode cX12_greater 21 = .ok (.istore_n 2, 1) := by decide +kernel
theorem dX12_greater_22 : decode cX12_greater 22 = .ok (.aload_n 0, 1) := by decide +kernel
theorem dX12_greater_23 : decode cX12_greater 23 = .ok (.iload_n 1, 1) := by decide +kernel
theorem dX12_greater_24 : decode cX12_greater 24 = .ok (.iconst 0, 1) := by decide +kernel
theorem dX12_greater_25 : decode cX12_greater 25 = .ok (.invokevirtual 113, 3) := by decide +kernel
theorem dX12_greater_28 : decode cX12_greater 28 = .ok (.ifCond .ne 7, 3) := by decide +kernel
theorem dX12_greater_31 : decode cX12_greater 31 = .ok (.iconst (-1), 1) := by decide +kernel
theorem dX12_greater_32 : decode cX12_greater 32 = .ok (.goto 11, 3) := by decide +kernel
theorem dX12_greater_35 : decode cX12_greater 35 = .ok (.aload_n 0, 1) := by decide +kernel
theorem dX12_greater_36 : decode cX12_greater 36 = .ok (.aload_n 0, 1) := by decide +kernel
theorem dX12_greater_37 : decode cX12_greater 37 = .ok (.getfield 46, 3) := by decide +kernel
theorem dX12_greater_40 : decode cX12_greater 40 = .ok (.invokevirtual 104, 3) := by decide +kernel
theorem dX12_greater_43 : decode cX12_greater 43 = .ok (.istore_n 3, 1) := by decide +kernel
theorem dX12_greater_44 : decode cX12_greater 44 = .ok (.iload_n 2, 1) := by decide +kernel
theorem dX12_greater_45 : decode cX12_greater 45 = .ok (.iload_n 3, 1) := by decide +kernel
theorem dX12_greater_46 : decode cX12_greater 46 = .ok (.if_icmp .le 7, 3) := by decide +kernel
theorem dX12_greater_49 : decode cX12_greater 49 = .ok (.iload_n 2, 1) := by decide +kernel
theorem dX12_greater_50 : decode cX12_greater 50 = .ok (.goto 4, 3) := by decide +kernel
theorem dX12_greater_53 : decode cX12_greater 53 = .ok (.iload_n 3, 1) := by decide +kernel
theorem dX12_greater_54 : decode cX12_greater 54 = .ok (.ireturn, 1) := by decide +kernel
theorem dX12_best_0 : decode cX12_best 0 = .ok (.aload_n 0, 1) := by decide +kernel
theorem dX12_best_1 : decode cX12_best 1 = .ok (.getfield 49, 3) := by decide +kernel
theorem dX12_best_4 : decode cX12_best 4 = .ok (.ifCond .eq 27, 3) := by decide +kernel
theorem dX12_best_7 : decode cX12_best 7 = .ok (.aload_n 0, 1) := by decide +kernel
theorem dX12_best_8 : decode cX12_best 8 = .ok (.aload_n 0, 1) := by decide +kernel
theorem dX12_best_9 : decode cX12_best 9 = .ok (.getfield 13, 3) := by decide +kernel
theorem dX12_best_12 : decode cX12_best 12 = .ok (.invokevirtual 104, 3) := by decide +kernel
theorem dX12_best_15 : decode cX12_best 15 = .ok (.ifCond .eq 16, 3) := by decide +kernel
theorem dX12_best_18 : decode cX12_best 18 = .ok (.aload_n 0, 1) := by decide +kernel
theorem dX12_best_19 : decode cX12_best 19 = .ok (.aload_n 0, 1) := by decide +kernel
theorem dX12_best_20 : decode cX12_best 20 = .ok (.getfield 13, 3) := by decide +kernel
theorem dX12_best_23 : decode cX12_best 23 = .ok (.invokevirtual 104, 3) := by decide +kernel
theorem dX12_best_26 : decode cX12_best 26 = .ok (.bipush 13, 2) := by decide +kernel
theorem dX12_best_28 : decode cX12_best 28 = .ok (.if_icmp .ne 6, 3) := by decide +kernel
theorem dX12_best_31 : decode cX12_best 31 = .ok (.bipush (-2), 2) := by decide +kernel
theorem dX12_best_33 : decode cX12_best 33 = .ok (.ireturn, 1) := by decide +kernel
theorem dX12_best_34 : decode cX12_best 34 = .ok (.aload_n 0, 1) := by decide +kernel
theorem dX12_best_35 : decode cX12_best 35 = .ok (.aload_n 0, 1) := by decide +kernel
theorem dX12_best_36 : decode cX12_best 36 = .ok (.getfield 13, 3) := by decide +kernel
theorem dX12_best_39 : decode cX12_best 39 = .ok (.invokevirtual 104, 3) := by decide +kernel
theorem dX12_best_42 : decode cX12_best 42 = .ok (.istore_n 1, 1) := by decide +kernel
theorem dX12_best_43 : decode cX12_best 43 = .ok (.iconst 1, 1) := by decide +kernel
theorem dX12_best_44 : decode cX12_best 44 = .ok (.istore_n 2, 1) := by decide +kernel
theorem dX12_best_45 : decode cX12_best 45 = .ok (.iload_n 2, 1) := by decide +kernel
theorem dX12_best_46 : decode cX12_best 46 = .ok (.bipush 13, 2) := by decide +kernel
theorem dX12_best_48 : decode cX12_best 48 = .ok (.if_icmp .gt 18, 3) := by decide +kernel
theorem dX12_best_51 : decode cX12_best 51 = .ok (.aload_n 0, 1) := by decide +kernel
theorem dX12_best_52 : decode cX12_best 52 = .ok (.aload_n 0, 1) := by decide +kernel
theorem dX12_best_53 : decode cX12_best 53 = .ok (.getfield 88, 3) := by decide +kernel
theorem dX12_best_56 : decode cX12_best 56 = .ok (.iload_n 2, 1) := by decide +kernel
theorem dX12_best_57 : decode cX12_best 57 = .ok (.invokevirtual 94, 3) := by decide +kernel
theorem dX12_best_60 : decode cX12_best 60 = .ok (.iinc 2 1, 3) := by decide +kernel
theorem dX12_best_63 : decode cX12_best 63 = .ok (.goto (-18), 3) := by decide +kernel
theorem dX12_best_66 : decode cX12_best 66 = .ok (.iconst 0, 1) := by decide +kernel
theorem dX12_best_67 : decode cX12_best 67 = .ok (.istore_n 2, 1) := by decide +kernel
theorem dX12_best_68 : decode cX12_best 68 = .ok (.aload_n 0, 1) := by decide +kernel
theorem dX12_best_69 : decode cX12_best 69 = .ok (.iconst 0, 1) := by decide +kernel
theorem dX12_best_70 : decode cX12_best 70 = .ok (.invokevirtual 143, 3) := by decide +kernel
theorem dX12_best_73 : decode cX12_best 73 = .ok (.istore_n 3, 1) := by decide +kernel
theorem dX12_best_74 : decode cX12_best 74 = .ok (.iconst 1, 1) := by decide +kernel
theorem dX12_best_75 : decode cX12_best 75 = .ok (.istore 4, 2) := by decide +kernel
theorem dX12_best_77 : decode cX12_best 77 = .ok (.iload 4, 2) := by decide +kernel
theorem dX12_best_79 : decode cX12_best 79 = .ok (.iconst 1, 1) := by decide +kernel
theorem dX12_best_80 : decode cX12_best 80 = .ok (.aload_n 0, 1) := by decide +kernel
theorem dX12_best_81 : decode cX12_best 81 = .ok (.getfield 91, 3) := by decide +kernel
theorem dX12_best_84 : decode cX12_best 84 = .ok (.ishl, 1) := by decide +kernel
theorem dX12_best_85 : decode cX12_best 85 = .ok (.if_icmp .ge 29, 3) := by decide +kernel
theorem dX12_best_88 : decode cX12_best 88 = .ok (.aload_n 0, 1) := by decide +kernel
theorem dX12_best_89 : decode cX12_best 89 = .ok (.iload 4, 2) := by decide +kernel
theorem dX12_best_91 : decode cX12_best 91 = .ok (.invokevirtual 143, 3) := by decide +kernel
theorem dX12_best_94 : decode cX12_best 94 = .ok (.istore 5, 2) := by decide +kernel
theorem dX12_best_96 : decode cX12_best 96 = .ok (.iload 5, 2) := by decide +kernel
theorem dX12_best_98 : decode cX12_best 98 = .ok (.iload_n 3, 1) := by decide +kernel
theorem dX12_best_99 : decode cX12_best 99 = .ok (.if_icmp .ge 9, 3) := by decide +kernel
theorem dX12_best_102 : decode cX12_best 102 = .ok (.iload 4, 2) := by decide +kernel
theorem dX12_best_104 : decode cX12_best 104 = .ok (.istore_n 2, 1) := by decide +kernel
theorem dX12_best_105 : decode cX12_best 105 = .ok (.iload 5, 2) := by decide +kernel
theorem dX12_best_107 : decode cX12_best 107 = .ok (.istore_n 3, 1) := by decide +kernel
theorem dX12_best_108 : decode cX12_best 108 = .ok (.iinc 4 1, 3) := by decide +kernel
theorem dX12_best_111 : decode cX12_best 111 = .ok (.goto (-34), 3) := by decide +kernel
theorem dX12_best_114 : decode cX12_best 114 = .ok (.iload_n 2, 1) := by decide +kernel
theorem dX12_best_115 : decode cX12_best 115 = .ok (.ireturn, 1) := by decide +kernel
theorem dX12_worse_0 : decode cX12_worse 0 = .ok (.aload_n 0, 1) := by decide +kernel
theorem dX12_worse_1 : decode cX12_worse 1 = .ok (.getfield 49, 3) := by decide +kernel
theorem dX12_worse_4 : decode cX12_worse 4 = .ok (.ifCond .eq 10, 3) := by decide +kernel
theorem dX12_worse_7 : decode cX12_worse 7 = .ok (.aload_n 0, 1) := by decide +kernel
theorem dX12_worse_8 : decode cX12_worse 8 = .ok (.getfield 7, 3) := by decide +kernel
theorem dX12_worse_11 : decode cX12_worse 11 = .ok (.ifCond .ge 6, 3) := by decide +kernel
theorem dX12_worse_14 : decode cX12_worse 14 = .ok (.bipush (-2), 2) := by decide +kernel
theorem dX12_worse_16 : decode cX12_worse 16 = .ok (.ireturn, 1) := by decide +kernel
theorem dX12_worse_17 : decode cX12_worse 17 = .ok (.aload_n 0, 1) := by decide +kernel
theorem dX12_worse_18 : decode cX12_worse 18 = .ok (.aload_n 0, 1) := by decide +kernel
theorem dX12_worse_19 : decode cX12_worse 19 = .ok (.getfield 7, 3) := by decide +kernel
theorem dX12_worse_22 : decode cX12_worse 22 = .ok (.iconst 1, 1) := by decide +kernel
theorem dX12_worse_23 : decode cX12_worse 23 = .ok (.invokevirtual 113, 3) := by decide +kernel
theorem dX12_worse_26 : decode cX12_worse 26 = .ok (.ifCond .ne 7, 3) := by decide +kernel
theorem dX12_worse_29 : decode cX12_worse 29 = .ok (.iconst (-1), 1) := by decide +kernel
theorem dX12_worse_30 : decode cX12_worse 30 = .ok (.goto 11, 3) := by decide +kernel
theorem dX12_worse_33 : decode cX12_worse 33 = .ok (.aload_n 0, 1) := by decide +kernel
theorem dX12_worse_34 : decode cX12_worse 34 = .ok (.aload_n 0, 1) := by decide +kernel
theorem dX12_worse_35 : decode cX12_worse 35 = .ok (.getfield 46, 3) := by decide +kernel
theorem dX12_worse_38 : decode cX12_worse 38 = .ok (.invokevirtual 104, 3) := by decide +kernel
theorem dX12_worse_41 : decode cX12_worse 41 = .ok (.istore_n 1, 1) := by decide +kernel
theorem dX12_worse_42 : decode cX12_worse 42 = .ok (.aload_n 0, 1) := by decide +kernel
theorem dX12_worse_43 : decode cX12_worse 43 = .ok (.aload_n 0, 1) := by decide +kernel
theorem dX12_worse_44 : decode cX12_worse 44 = .ok (.getfield 7, 3) := by decide +kernel
theorem dX12_worse_47 : decode cX12_worse 47 = .ok (.iconst 0, 1) := by decide +kernel
theorem dX12_worse_48 : decode cX12_worse 48 = .ok (.invokevirtual 113, 3) := by decide +kernel
theorem dX12_worse_51 : decode cX12_worse 51 = .ok (.ifCond .ne 7, 3) := by decide +kernel
theorem dX12_worse_54 : decode cX12_worse 54 = .ok (.iconst (-1), 1) := by decide +kernel
theorem dX12_worse_55 : decode cX12_worse 55 = .ok (.goto 11, 3) := by decide +kernel
theorem dX12_worse_58 : decode cX12_worse 58 = .ok (.aload_n 0, 1) := by decide +kernel
theorem dX12_worse_59 : decode cX12_worse 59 = .ok (.aload_n 0, 1) := by decide +kernel
theorem dX12_worse_60 : decode cX12_worse 60 = .ok (.getfield 46, 3) := by decide +kernel
theorem dX12_worse_63 : decode cX12_worse 63 = .ok (.invokevirtual 104, 3) := by decide +kernel
theorem dX12_worse_66 : decode cX12_worse 66 = .ok (.istore_n 2, 1) := by decide +kernel
theorem dX12_worse_67 : decode cX12_worse 67 = .ok (.iload_n 1, 1) := by decide +kernel
theorem dX12_worse_68 : decode cX12_worse 68 = .ok (.bipush 13, 2) := by decide +kernel
theorem dX12_worse_70 : decode cX12_worse 70 = .ok (.if_icmp .eq 9, 3) := by decide +kernel
theorem dX12_worse_73 : decode cX12_worse 73 = .ok (.iload_n 2, 1) := by decide +kernel
theorem dX12_worse_74 : decode cX12_worse 74 = .ok (.bipush 13, 2) := by decide +kernel
theorem dX12_worse_76 : decode cX12_worse 76 = .ok (.if_icmp .ne 8, 3) := by decide +kernel
theorem dX12_worse_79 : decode cX12_worse 79 = .ok (.bipush (-2), 2) := by decide +kernel
theorem dX12_worse_81 : decode cX12_worse 81 = .ok (.goto 13, 3) := by decide +kernel
theorem dX12_worse_84 : decode cX12_worse 84 = .ok (.iload_n 1, 1) := by decide +kernel
theorem dX12_worse_85 : decode cX12_worse 85 = .ok (.iload_n 2, 1) := by decide +kernel
theorem dX12_worse_86 : decode cX12_worse 86 = .ok (.if_icmp .lt 7, 3) := by decide +kernel
theorem dX12_worse_89 : decode cX12_worse 89 = .ok (.iconst 1, 1) := by decide +kernel
theorem dX12_worse_90 : decode cX12_worse 90 = .ok (.goto 4, 3) := by decide +kernel
theorem dX12_worse_93 : decode cX12_worse 93 = .ok (.iconst 0, 1) := by decide +kernel
theorem dX12_worse_94 : decode cX12_worse 94 = .ok (.ireturn, 1) := by decide +kernel
theorem dX12_set_0 : decode cX12_set 0 = .ok (.iload_n 1, 1) := by decide +kernel
theorem dX12_set_1 : decode cX12_set 1 = .ok (.iconst 0, 1) := by decide +kernel
theorem dX12_set_2 : decode cX12_set 2 = .ok (.ldc 112, 2) := by decide +kernel
theorem dX12_set_4 : decode cX12_set 4 = .ok (.invokestatic 53, 3) := by decide +kernel
theorem dX12_set_7 : decode cX12_set 7 = .ok (.ifCond .ne 5, 3) := by decide +kernel
theorem dX12_set_10 : decode cX12_set 10 = .ok (.iconst (-1), 1) := by decide +kernel
theorem dX12_set_11 : decode cX12_set 11 = .ok (.ireturn, 1) := by decide +kernel
theorem dX12_set_12 : decode cX12_set 12 = .ok (.aload_n 0, 1) := by decide +kernel
theorem dX12_set_13 : decode cX12_set 13 = .ok (.getfield 146, 3) := by decide +kernel
theorem dX12_set_16 : decode cX12_set 16 = .ok (.bipush 12, 2) := by decide +kernel
theorem dX12_set_18 : decode cX12_set 18 = .ok (.if_icmp .ne 6, 3) := by decide +kernel
theorem dX12_set_21 : decode cX12_set 21 = .ok (.bipush (-3), 2) := by decide +kernel
theorem dX12_set_23 : decode cX12_set 23 = .ok (.ireturn, 1) := by decide +kernel
theorem dX12_set_24 : decode cX12_set 24 = .ok (.aload_n 0, 1) := by decide +kernel
theorem dX12_set_25 : decode cX12_set 25 = .ok (.getfield 20, 3) := by decide +kernel
theorem dX12_set_28 : decode cX12_set 28 = .ok (.aload_n 0, 1) := by decide +kernel
theorem dX12_set_29 : decode cX12_set 29 = .ok (.getfield 146, 3) := by decide +kernel
theorem dX12_set_32 : decode cX12_set 32 = .ok (.iload_n 1, 1) := by decide +kernel
theorem dX12_set_33 : decode cX12_set 33 = .ok (.iastore, 1) := by decide +kernel
theorem dX12_set_34 : decode cX12_set 34 = .ok (.aload_n 0, 1) := by decide +kernel
theorem dX12_set_35 : decode cX12_set 35 = .ok (.dup, 1) := by decide +kernel
theorem dX12_set_36 : decode cX12_set 36 = .ok (.getfield 146, 3) := by decide +kernel
theorem dX12_set_39 : decode cX12_set 39 = .ok (.iconst 1, 1) := by decide +kernel
theorem dX12_set_40 : decode cX12_set 40 = .ok (.iadd, 1) := by decide +kernel
theorem dX12_set_41 : decode cX12_set 41 = .ok (.putfield 146, 3) := by decide +kernel
theorem dX12_set_44 : decode cX12_set 44 = .ok (.aload_n 0, 1) := by decide +kernel
theorem dX12_set_45 : decode cX12_set 45 = .ok (.getfield 146, 3) := by decide +kernel
theorem dX12_set_48 : decode cX12_set 48 = .ok (.ireturn, 1) := by decide +kernel
theorem dX12_drop_0 : decode cX12_drop 0 = .ok (.aload_n 0, 1) := by decide +kernel
theorem dX12_drop_1 : decode cX12_drop 1 = .ok (.getfield 146, 3) := by decide +kernel
theorem dX12_drop_4 : decode cX12_drop 4 = .ok (.ifCond .ne 6, 3) := by decide +kernel
theorem dX12_drop_7 : decode cX12_drop 7 = .ok (.bipush (-2), 2) := by decide +kernel
theorem dX12_drop_9 : decode cX12_drop 9 = .ok (.ireturn, 1) := by decide +kernel
theorem dX12_drop_10 : decode cX12_drop 10 = .ok (.aload_n 0, 1) := by decide +kernel
theorem dX12_drop_11 : decode cX12_drop 11 = .ok (.dup, 1) := by decide +kernel
theorem dX12_drop_12 : decode cX12_drop 12 = .ok (.getfield 146, 3) := by decide +kernel
theorem dX12_drop_15 : decode cX12_drop 15 = .ok (.iconst 1, 1) := by decide +kernel
theorem dX12_drop_16 : decode cX12_drop 16 = .ok (.isub, 1) := by decide +kernel
theorem dX12_drop_17 : decode cX12_drop 17 = .ok (.putfield 146, 3) := by decide +kernel
theorem dX12_drop_20 : decode cX12_drop 20 = .ok (.aload_n 0, 1) := by decide +kernel
theorem dX12_drop_21 : decode cX12_drop 21 = .ok (.getfield 146, 3) := by decide +kernel
theorem dX12_drop_24 : decode cX12_drop 24 = .ok (.ireturn, 1) := by decide +kernel
theorem dX12_wordOf_0 : decode cX12_wordOf 0 = .ok (.iconst 0, 1) := by decide +kernel
theorem dX12_wordOf_1 : decode cX12_wordOf 1 = .ok (.istore_n 2, 1) := by decide +kernel
theorem dX12_wordOf_2 : decode cX12_wordOf 2 = .ok (.iconst 0, 1) := by decide +kernel
theorem dX12_wordOf_3 : decode cX12_wordOf 3 = .ok (.istore_n 3, 1) := by decide +kernel
theorem dX12_wordOf_4 : decode cX12_wordOf 4 = .ok (.iload_n 3, 1) := by decide +kernel
theorem dX12_wordOf_5 : decode cX12_wordOf 5 = .ok (.aload_n 0, 1) := by decide +kernel
theorem dX12_wordOf_6 : decode cX12_wordOf 6 = .ok (.getfield 146, 3) := by decide +kernel
theorem dX12_wordOf_9 : decode cX12_wordOf 9 = .ok (.if_icmp .ge 24, 3) := by decide +kernel
theorem dX12_wordOf_12 : decode cX12_wordOf 12 = .ok (.iload_n 2, 1) := by decide +kernel
theorem dX12_wordOf_13 : decode cX12_wordOf 13 = .ok (.aload_n 0, 1) := by decide +kernel
theorem dX12_wordOf_14 : decode cX12_wordOf 14 = .ok (.getfield 20, 3) := by decide +kernel
theorem dX12_wordOf_17 : decode cX12_wordOf 17 = .ok (.iload_n 3, 1) := by decide +kernel
theorem dX12_wordOf_18 : decode cX12_wordOf 18 = .ok (.iaload, 1) := by decide +kernel
theorem dX12_wordOf_19 : decode cX12_wordOf 19 = .ok (.iload_n 1, 1) := by decide +kernel
theorem dX12_wordOf_20 : decode cX12_wordOf 20 = .ok (.ishr, 1) := by decide +kernel
theorem dX12_wordOf_21 : decode cX12_wordOf 21 = .ok (.iconst 1, 1) := by decide +kernel
theorem dX12_wordOf_22 : decode cX12_wordOf 22 = .ok (.iand, 1) := by decide +kernel
theorem dX12_wordOf_23 : decode cX12_wordOf 23 = .ok (.iload_n 3, 1) := by decide +kernel
theorem dX12_wordOf_24 : decode cX12_wordOf 24 = .ok (.ishl, 1) := by decide +kernel
theorem dX12_wordOf_25 : decode cX12_wordOf 25 = .ok (.ior, 1) := by decide +kernel
theorem dX12_wordOf_26 : decode cX12_wordOf 26 = .ok (.istore_n 2, 1) := by decide +kernel
theorem dX12_wordOf_27 : decode cX12_wordOf 27 = .ok (.iinc 3 1, 3) := by decide +kernel
theorem dX12_wordOf_30 : decode cX12_wordOf 30 = .ok (.goto (-26), 3) := by decide +kernel
theorem dX12_wordOf_33 : decode cX12_wordOf 33 = .ok (.iload_n 2, 1) := by decide +kernel
theorem dX12_wordOf_34 : decode cX12_wordOf 34 = .ok (.ireturn, 1) := by decide +kernel
theorem dX12_isNumber_0 : decode cX12_isNumber 0 = .ok (.iload_n 0, 1) := by decide +kernel
theorem dX12_isNumber_1 : decode cX12_isNumber 1 = .ok (.iconst 0, 1) := by decide +kernel
theorem dX12_isNumber_2 : decode cX12_isNumber 2 = .ok (.bipush 15, 2) := by decide +kernel
theorem dX12_isNumber_4 : decode cX12_isNumber 4 = .ok (.invokestatic 53, 3) := by decide +kernel
theorem dX12_isNumber_7 : decode cX12_isNumber 7 = .ok (.ireturn, 1) := by decide +kernel
theorem dX12_word_0 : decode cX12_word 0 = .ok (.iload_n 1, 1) := by decide +kernel
theorem dX12_word_1 : decode cX12_word 1 = .ok (.invokestatic 149, 3) := by decide +kernel
theorem dX12_word_4 : decode cX12_word 4 = .ok (.ifCond .eq 11, 3) := by decide +kernel
theorem dX12_word_7 : decode cX12_word 7 = .ok (.aload_n 0, 1) := by decide +kernel
theorem dX12_word_8 : decode cX12_word 8 = .ok (.iload_n 1, 1) := by decide +kernel
theorem dX12_word_9 : decode cX12_word 9 = .ok (.invokevirtual 153, 3) := by decide +kernel
theorem dX12_word_12 : decode cX12_word 12 = .ok (.goto 4, 3) := by decide +kernel
theorem dX12_word_15 : decode cX12_word 15 = .ok (.iconst (-1), 1) := by decide +kernel
theorem dX12_word_16 : decode cX12_word 16 = .ok (.ireturn, 1) := by decide +kernel
theorem dX12_ones_0 : decode cX12_ones 0 = .ok (.iconst 0, 1) := by decide +kernel
theorem dX12_ones_1 : decode cX12_ones 1 = .ok (.istore_n 1, 1) := by decide +kernel
theorem dX12_ones_2 : decode cX12_ones 2 = .ok (.iload_n 0, 1) := by decide +kernel
theorem dX12_ones_3 : decode cX12_ones 3 = .ok (.istore_n 2, 1) := by decide +kernel
theorem dX12_ones_4 : decode cX12_ones 4 = .ok (.iload_n 2, 1) := by decide +kernel
theorem dX12_ones_5 : decode cX12_ones 5 = .ok (.ifCond .eq 15, 3) := by decide +kernel
theorem dX12_ones_8 : decode cX12_ones 8 = .ok (.iinc 1 1, 3) := by decide +kernel
theorem dX12_ones_11 : decode cX12_ones 11 = .ok (.iload_n 2, 1) := by decide +kernel
theorem dX12_ones_12 : decode cX12_ones 12 = .ok (.iload_n 2, 1) := by decide +kernel
theorem dX12_ones_13 : decode cX12_ones 13 = .ok (.iconst 1, 1) := by decide +kernel
theorem dX12_ones_14 : decode cX12_ones 14 = .ok (.isub, 1) := by decide +kernel
theorem dX12_ones_15 : decode cX12_ones 15 = .ok (.iand, 1) := by decide +kernel
theorem dX12_ones_16 : decode cX12_ones 16 = .ok (.istore_n 2, 1) := by decide +kernel
theorem dX12_ones_17 : decode cX12_ones 17 = .ok (.goto (-13), 3) := by decide +kernel
theorem dX12_ones_20 : decode cX12_ones 20 = .ok (.iload_n 1, 1) := by decide +kernel
theorem dX12_ones_21 : decode cX12_ones 21 = .ok (.ireturn, 1) := by decide +kernel
theorem dX12_apart_0 : decode cX12_apart 0 = .ok (.iload_n 1, 1) := by decide +kernel
theorem dX12_apart_1 : decode cX12_apart 1 = .ok (.invokestatic 149, 3) := by decide +kernel
theorem dX12_apart_4 : decode cX12_apart 4 = .ok (.ifCond .eq 27, 3) := by decide +kernel
theorem dX12_apart_7 : decode cX12_apart 7 = .ok (.iload_n 2, 1) := by decide +kernel
theorem dX12_apart_8 : decode cX12_apart 8 = .ok (.invokestatic 149, 3) := by decide +kernel
theorem dX12_apart_11 : decode cX12_apart 11 = .ok (.ifCond .eq 20, 3) := by decide +kernel
theorem dX12_apart_14 : decode cX12_apart 14 = .ok (.aload_n 0, 1) := by decide +kernel
theorem dX12_apart_15 : decode cX12_apart 15 = .ok (.iload_n 1, 1) := by decide +kernel
theorem dX12_apart_16 : decode cX12_apart 16 = .ok (.invokevirtual 153, 3) := by decide +kernel
theorem dX12_apart_19 : decode cX12_apart 19 = .ok (.aload_n 0, 1) := by decide +kernel
theorem dX12_apart_20 : decode cX12_apart 20 = .ok (.iload_n 2, 1) := by decide +kernel
theorem dX12_apart_21 : decode cX12_apart 21 = .ok (.invokevirtual 153, 3) := by decide +kernel
theorem dX12_apart_24 : decode cX12_apart 24 = .ok (.ixor, 1) := by decide +kernel
theorem dX12_apart_25 : decode cX12_apart 25 = .ok (.invokestatic 156, 3) := by decide +kernel
theorem dX12_apart_28 : decode cX12_apart 28 = .ok (.goto 4, 3) := by decide +kernel
theorem dX12_apart_31 : decode cX12_apart 31 = .ok (.iconst (-1), 1) := by decide +kernel
theorem dX12_apart_32 : decode cX12_apart 32 = .ok (.ireturn, 1) := by decide +kernel
theorem dX12_serves_0 : decode cX12_serves 0 = .ok (.iload_n 1, 1) := by decide +kernel
theorem dX12_serves_1 : decode cX12_serves 1 = .ok (.iconst 1, 1) := by decide +kernel
theorem dX12_serves_2 : decode cX12_serves 2 = .ok (.bipush 16, 2) := by decide +kernel
theorem dX12_serves_4 : decode cX12_serves 4 = .ok (.invokestatic 53, 3) := by decide +kernel
theorem dX12_serves_7 : decode cX12_serves 7 = .ok (.ifCond .eq 12, 3) := by decide +kernel
theorem dX12_serves_10 : decode cX12_serves 10 = .ok (.iload_n 2, 1) := by decide +kernel
theorem dX12_serves_11 : decode cX12_serves 11 = .ok (.iconst 0, 1) := by decide +kernel
theorem dX12_serves_12 : decode cX12_serves 12 = .ok (.iconst 3, 1) := by decide +kernel
theorem dX12_serves_13 : decode cX12_serves 13 = .ok (.invokestatic 53, 3) := by decide +kernel
theorem dX12_serves_16 : decode cX12_serves 16 = .ok (.ifCond .ne 5, 3) := by decide +kernel
theorem dX12_serves_19 : decode cX12_serves 19 = .ok (.iconst (-1), 1) := by decide +kernel
theorem dX12_serves_20 : decode cX12_serves 20 = .ok (.ireturn, 1) := by decide +kernel
theorem dX12_serves_21 : decode cX12_serves 21 = .ok (.iconst 1, 1) := by decide +kernel
theorem dX12_serves_22 : decode cX12_serves 22 = .ok (.istore_n 3, 1) := by decide +kernel
theorem dX12_serves_23 : decode cX12_serves 23 = .ok (.iconst 0, 1) := by decide +kernel
theorem dX12_serves_24 : decode cX12_serves 24 = .ok (.istore 4, 2) := by decide +kernel
theorem dX12_serves_26 : decode cX12_serves 26 = .ok (.iload 4, 2) := by decide +kernel
theorem dX12_serves_28 : decode cX12_serves 28 = .ok (.iload_n 1, 1) := by decide +kernel
theorem dX12_serves_29 : decode cX12_serves 29 = .ok (.if_icmp .ge 59, 3) := by decide +kernel
theorem dX12_serves_32 : decode cX12_serves 32 = .ok (.iload 4, 2) := by decide +kernel
theorem dX12_serves_34 : decode cX12_serves 34 = .ok (.iconst 1, 1) := by decide +kernel
theorem dX12_serves_35 : decode cX12_serves 35 = .ok (.iadd, 1) := by decide +kernel
theorem dX12_serves_36 : decode cX12_serves 36 = .ok (.istore 5, 2) := by decide +kernel
theorem dX12_serves_38 : decode cX12_serves 38 = .ok (.iload 5, 2) := by decide +kernel
theorem dX12_serves_40 : decode cX12_serves 40 = .ok (.iload_n 1, 1) := by decide +kernel
theorem dX12_serves_41 : decode cX12_serves 41 = .ok (.if_icmp .ge 41, 3) := by decide +kernel
theorem dX12_serves_44 : decode cX12_serves 44 = .ok (.iload_n 3, 1) := by decide +kernel
theorem dX12_serves_45 : decode cX12_serves 45 = .ok (.ifCond .eq 29, 3) := by decide +kernel
theorem dX12_serves_48 : decode cX12_serves 48 = .ok (.aload_n 0, 1) := by decide +kernel
theorem dX12_serves_49 : decode cX12_serves 49 = .ok (.iload 4, 2) := by decide +kernel
theorem dX12_serves_51 : decode cX12_serves 51 = .ok (.invokevirtual 153, 3) := by decide +kernel
theorem dX12_serves_54 : decode cX12_serves 54 = .ok (.aload_n 0, 1) := by decide +kernel
theorem dX12_serves_55 : decode cX12_serves 55 = .ok (.iload 5, 2) := by decide +kernel
theorem dX12_serves_57 : decode cX12_serves 57 = .ok (.invokevirtual 153, 3) := by decide +kernel
theorem dX12_serves_60 : decode cX12_serves 60 = .ok (.ixor, 1) := by decide +kernel
theorem dX12_serves_61 : decode cX12_serves 61 = .ok (.invokestatic 156, 3) := by decide +kernel
theorem dX12_serves_64 : decode cX12_serves 64 = .ok (.iconst 2, 1) := by decide +kernel
theorem dX12_serves_65 : decode cX12_serves 65 = .ok (.iload_n 2, 1) := by decide +kernel
theorem dX12_serves_66 : decode cX12_serves 66 = .ok (.imul, 1) := by decide +kernel
theorem dX12_serves_67 : decode cX12_serves 67 = .ok (.if_icmp .le 7, 3) := by decide +kernel
theorem dX12_serves_70 : decode cX12_serves 70 = .ok (.iconst 1, 1) := by decide +kernel
theorem dX12_serves_71 : decode cX12_serves 71 = .ok (.goto 4, 3) := by decide +kernel
theorem dX12_serves_74 : decode cX12_serves 74 = .ok (.iconst 0, 1) := by decide +kernel
theorem dX12_serves_75 : decode cX12_serves 75 = .ok (.istore_n 3, 1) := by decide +kernel
theorem dX12_serves_76 : decode cX12_serves 76 = .ok (.iinc 5 1, 3) := by decide +kernel
theorem dX12_serves_79 : decode cX12_serves 79 = .ok (.goto (-41), 3) := by decide +kernel
theorem dX12_serves_82 : decode cX12_serves 82 = .ok (.iinc 4 1, 3) := by decide +kernel
theorem dX12_serves_85 : decode cX12_serves 85 = .ok (.goto (-59), 3) := by decide +kernel
theorem dX12_serves_88 : decode cX12_serves 88 = .ok (.iload_n 3, 1) := by decide +kernel
theorem dX12_serves_89 : decode cX12_serves 89 = .ok (.ifCond .eq 7, 3) := by decide +kernel
theorem dX12_serves_92 : decode cX12_serves 92 = .ok (.iconst 1, 1) := by decide +kernel
theorem dX12_serves_93 : decode cX12_serves 93 = .ok (.goto 4, 3) := by decide +kernel
theorem dX12_serves_96 : decode cX12_serves 96 = .ok (.iconst 0, 1) := by decide +kernel
theorem dX12_serves_97 : decode cX12_serves 97 = .ok (.ireturn, 1) := by decide +kernel
theorem dX12_isWord_0 : decode cX12_isWord 0 = .ok (.iload_n 1, 1) := by decide +kernel
theorem dX12_isWord_1 : decode cX12_isWord 1 = .ok (.iconst 0, 1) := by decide +kernel
theorem dX12_isWord_2 : decode cX12_isWord 2 = .ok (.iconst 1, 1) := by decide +kernel
theorem dX12_isWord_3 : decode cX12_isWord 3 = .ok (.aload_n 0, 1) := by decide +kernel
theorem dX12_isWord_4 : decode cX12_isWord 4 = .ok (.getfield 146, 3) := by decide +kernel
theorem dX12_isWord_7 : decode cX12_isWord 7 = .ok (.ishl, 1) := by decide +kernel
theorem dX12_isWord_8 : decode cX12_isWord 8 = .ok (.iconst 1, 1) := by decide +kernel
theorem dX12_isWord_9 : decode cX12_isWord 9 = .ok (.isub, 1) := by decide +kernel
theorem dX12_isWord_10 : decode cX12_isWord 10 = .ok (.invokestatic 53, 3) := by decide +kernel
theorem dX12_isWord_13 : decode cX12_isWord 13 = .ok (.ireturn, 1) := by decide +kernel
theorem dX12_read_0 : decode cX12_read 0 = .ok (.aload_n 0, 1) := by decide +kernel
theorem dX12_read_1 : decode cX12_read 1 = .ok (.iload_n 1, 1) := by decide +kernel
theorem dX12_read_2 : decode cX12_read 2 = .ok (.invokevirtual 159, 3) := by decide +kernel
theorem dX12_read_5 : decode cX12_read 5 = .ok (.ifCond .eq 22, 3) := by decide +kernel
theorem dX12_read_8 : decode cX12_read 8 = .ok (.iload_n 2, 1) := by decide +kernel
theorem dX12_read_9 : decode cX12_read 9 = .ok (.iconst 1, 1) := by decide +kernel
theorem dX12_read_10 : decode cX12_read 10 = .ok (.bipush 16, 2) := by decide +kernel
theorem dX12_read_12 : decode cX12_read 12 = .ok (.invokestatic 53, 3) := by decide +kernel
theorem dX12_read_15 : decode cX12_read 15 = .ok (.ifCond .eq 12, 3) := by decide +kernel
theorem dX12_read_18 : decode cX12_read 18 = .ok (.iload_n 3, 1) := by decide +kernel
theorem dX12_read_19 : decode cX12_read 19 = .ok (.iconst 0, 1) := by decide +kernel
theorem dX12_read_20 : decode cX12_read 20 = .ok (.iconst 3, 1) := by decide +kernel
theorem dX12_read_21 : decode cX12_read 21 = .ok (.invokestatic 53, 3) := by decide +kernel
theorem dX12_read_24 : decode cX12_read 24 = .ok (.ifCond .ne 5, 3) := by decide +kernel
theorem dX12_read_27 : decode cX12_read 27 = .ok (.iconst (-1), 1) := by decide +kernel
theorem dX12_read_28 : decode cX12_read 28 = .ok (.ireturn, 1) := by decide +kernel
theorem dX12_read_29 : decode cX12_read 29 = .ok (.bipush (-9), 2) := by decide +kernel
theorem dX12_read_31 : decode cX12_read 31 = .ok (.istore 4, 2) := by decide +kernel
theorem dX12_read_33 : decode cX12_read 33 = .ok (.iconst 0, 1) := by decide +kernel
theorem dX12_read_34 : decode cX12_read 34 = .ok (.istore 5, 2) := by decide +kernel
theorem dX12_read_36 : decode cX12_read 36 = .ok (.iload 5, 2) := by decide +kernel
theorem dX12_read_38 : decode cX12_read 38 = .ok (.iload_n 2, 1) := by decide +kernel
theorem dX12_read_39 : decode cX12_read 39 = .ok (.if_icmp .ge 38, 3) := by decide +kernel
theorem dX12_read_42 : decode cX12_read 42 = .ok (.aload_n 0, 1) := by decide +kernel
theorem dX12_read_43 : decode cX12_read 43 = .ok (.iload 5, 2) := by decide +kernel
theorem dX12_read_45 : decode cX12_read 45 = .ok (.invokevirtual 153, 3) := by decide +kernel
theorem dX12_read_48 : decode cX12_read 48 = .ok (.iload_n 1, 1) := by decide +kernel
theorem dX12_read_49 : decode cX12_read 49 = .ok (.ixor, 1) := by decide +kernel
theorem dX12_read_50 : decode cX12_read 50 = .ok (.invokestatic 156, 3) := by decide +kernel
theorem dX12_read_53 : decode cX12_read 53 = .ok (.iload_n 3, 1) := by decide +kernel
theorem dX12_read_54 : decode cX12_read 54 = .ok (.if_icmp .gt 17, 3) := by decide +kernel
theorem dX12_read_57 : decode cX12_read 57 = .ok (.iload 4, 2) := by decide +kernel
theorem dX12_read_59 : decode cX12_read 59 = .ok (.bipush (-9), 2) := by decide +kernel
theorem dX12_read_61 : decode cX12_read 61 = .ok (.if_icmp .eq 6, 3) := by decide +kernel
theorem dX12_read_64 : decode cX12_read 64 = .ok (.bipush (-9), 2) := by decide +kernel
theorem dX12_read_66 : decode cX12_read 66 = .ok (.ireturn, 1) := by decide +kernel
theorem dX12_read_67 : decode cX12_read 67 = .ok (.iload 5, 2) := by decide +kernel
theorem dX12_read_69 : decode cX12_read 69 = .ok (.istore 4, 2) := by decide +kernel
theorem dX12_read_71 : decode cX12_read 71 = .ok (.iinc 5 1, 3) := by decide +kernel
theorem dX12_read_74 : decode cX12_read 74 = .ok (.goto (-38), 3) := by decide +kernel
theorem dX12_read_77 : decode cX12_read 77 = .ok (.iload 4, 2) := by decide +kernel
theorem dX12_read_79 : decode cX12_read 79 = .ok (.ireturn, 1) := by decide +kernel
theorem dX12_play_0 : decode cX12_play 0 = .ok (.aload_n 0, 1) := by decide +kernel
theorem dX12_play_1 : decode cX12_play 1 = .ok (.iload_n 1, 1) := by decide +kernel
theorem dX12_play_2 : decode cX12_play 2 = .ok (.invokevirtual 159, 3) := by decide +kernel
theorem dX12_play_5 : decode cX12_play 5 = .ok (.ifCond .ne 5, 3) := by decide +kernel
theorem dX12_play_8 : decode cX12_play 8 = .ok (.iconst (-1), 1) := by decide +kernel
theorem dX12_play_9 : decode cX12_play 9 = .ok (.ireturn, 1) := by decide +kernel
theorem dX12_play_10 : decode cX12_play 10 = .ok (.aload_n 0, 1) := by decide +kernel
theorem dX12_play_11 : decode cX12_play 11 = .ok (.getfield 49, 3) := by decide +kernel
theorem dX12_play_14 : decode cX12_play 14 = .ok (.ifCond .ne 6, 3) := by decide +kernel
theorem dX12_play_17 : decode cX12_play 17 = .ok (.bipush (-2), 2) := by decide +kernel
theorem dX12_play_19 : decode cX12_play 19 = .ok (.ireturn, 1) := by decide +kernel
theorem dX12_play_20 : decode cX12_play 20 = .ok (.iconst 0, 1) := by decide +kernel
theorem dX12_play_21 : decode cX12_play 21 = .ok (.istore_n 2, 1) := by decide +kernel
theorem dX12_play_22 : decode cX12_play 22 = .ok (.iconst 1, 1) := by decide +kernel
theorem dX12_play_23 : decode cX12_play 23 = .ok (.istore_n 3, 1) := by decide +kernel
theorem dX12_play_24 : decode cX12_play 24 = .ok (.iload_n 3, 1) := by decide +kernel
theorem dX12_play_25 : decode cX12_play 25 = .ok (.ifCond .eq 72, 3) := by decide +kernel
theorem dX12_play_28 : decode cX12_play 28 = .ok (.iload_n 2, 1) := by decide +kernel
theorem dX12_play_29 : decode cX12_play 29 = .ok (.aload_n 0, 1) := by decide +kernel
theorem dX12_play_30 : decode cX12_play 30 = .ok (.getfield 146, 3) := by decide +kernel
theorem dX12_play_33 : decode cX12_play 33 = .ok (.if_icmp .ge 64, 3) := by decide +kernel
theorem dX12_play_36 : decode cX12_play 36 = .ok (.aload_n 0, 1) := by decide +kernel
theorem dX12_play_37 : decode cX12_play 37 = .ok (.aload_n 0, 1) := by decide +kernel
theorem dX12_play_38 : decode cX12_play 38 = .ok (.getfield 20, 3) := by decide +kernel
theorem dX12_play_41 : decode cX12_play 41 = .ok (.iload_n 2, 1) := by decide +kernel
theorem dX12_play_42 : decode cX12_play 42 = .ok (.iaload, 1) := by decide +kernel
theorem dX12_play_43 : decode cX12_play 43 = .ok (.iconst 1, 1) := by decide +kernel
theorem dX12_play_44 : decode cX12_play 44 = .ok (.aload_n 0, 1) := by decide +kernel
theorem dX12_play_45 : decode cX12_play 45 = .ok (.getfield 91, 3) := by decide +kernel
theorem dX12_play_48 : decode cX12_play 48 = .ok (.ishl, 1) := by decide +kernel
theorem dX12_play_49 : decode cX12_play 49 = .ok (.iconst 1, 1) := by decide +kernel
theorem dX12_play_50 : decode cX12_play 50 = .ok (.isub, 1) := by decide +kernel
theorem dX12_play_51 : decode cX12_play 51 = .ok (.iand, 1) := by decide +kernel
theorem dX12_play_52 : decode cX12_play 52 = .ok (.putfield 7, 3) := by decide +kernel
theorem dX12_play_55 : decode cX12_play 55 = .ok (.aload_n 0, 1) := by decide +kernel
theorem dX12_play_56 : decode cX12_play 56 = .ok (.iload_n 1, 1) := by decide +kernel
theorem dX12_play_57 : decode cX12_play 57 = .ok (.iload_n 2, 1) := by decide +kernel
theorem dX12_play_58 : decode cX12_play 58 = .ok (.ishr, 1) := by decide +kernel
theorem dX12_play_59 : decode cX12_play 59 = .ok (.iconst 1, 1) := by decide +kernel
theorem dX12_play_60 : decode cX12_play 60 = .ok (.iand, 1) := by decide +kernel
theorem dX12_play_61 : decode cX12_play 61 = .ok (.iconst 1, 1) := by decide +kernel
theorem dX12_play_62 : decode cX12_play 62 = .ok (.if_icmp .ne 7, 3) := by decide +kernel
theorem dX12_play_65 : decode cX12_play 65 = .ok (.iconst 1, 1) := by decide +kernel
theorem dX12_play_66 : decode cX12_play 66 = .ok (.goto 4, 3) := by decide +kernel
theorem dX12_play_69 : decode cX12_play 69 = .ok (.iconst 0, 1) := by decide +kernel
theorem dX12_play_70 : decode cX12_play 70 = .ok (.invokevirtual 162, 3) := by decide +kernel
theorem dX12_play_73 : decode cX12_play 73 = .ok (.ifCond .le 7, 3) := by decide +kernel
theorem dX12_play_76 : decode cX12_play 76 = .ok (.iconst 1, 1) := by decide +kernel
theorem dX12_play_77 : decode cX12_play 77 = .ok (.goto 4, 3) := by decide +kernel
theorem dX12_play_80 : decode cX12_play 80 = .ok (.iconst 0, 1) := by decide +kernel
theorem dX12_play_81 : decode cX12_play 81 = .ok (.istore_n 3, 1) := by decide +kernel
theorem dX12_play_82 : decode cX12_play 82 = .ok (.iload_n 2, 1) := by decide +kernel
theorem dX12_play_83 : decode cX12_play 83 = .ok (.iload_n 3, 1) := by decide +kernel
theorem dX12_play_84 : decode cX12_play 84 = .ok (.ifCond .eq 7, 3) := by decide +kernel
theorem dX12_play_87 : decode cX12_play 87 = .ok (.iconst 1, 1) := by decide +kernel
theorem dX12_play_88 : decode cX12_play 88 = .ok (.goto 4, 3) := by decide +kernel
theorem dX12_play_91 : decode cX12_play 91 = .ok (.iconst 0, 1) := by decide +kernel
theorem dX12_play_92 : decode cX12_play 92 = .ok (.iadd, 1) := by decide +kernel
theorem dX12_play_93 : decode cX12_play 93 = .ok (.istore_n 2, 1) := by decide +kernel
theorem dX12_play_94 : decode cX12_play 94 = .ok (.goto (-70), 3) := by decide +kernel
theorem dX12_play_97 : decode cX12_play 97 = .ok (.aload_n 0, 1) := by decide +kernel
theorem dX12_play_98 : decode cX12_play 98 = .ok (.iconst (-1), 1) := by decide +kernel
theorem dX12_play_99 : decode cX12_play 99 = .ok (.putfield 7, 3) := by decide +kernel
theorem dX12_play_102 : decode cX12_play 102 = .ok (.iload_n 2, 1) := by decide +kernel
theorem dX12_play_103 : decode cX12_play 103 = .ok (.ireturn, 1) := by decide +kernel
theorem dX12_told_0 : decode cX12_told 0 = .ok (.iload_n 1, 1) := by decide +kernel
theorem dX12_told_1 : decode cX12_told 1 = .ok (.tableswitch 95 0 7 #[47, 60, 65, 70, 75, 80, 85, 90], 47) := by decide +kernel
theorem dX12_told_48 : decode cX12_told 48 = .ok (.aload_n 0, 1) := by decide +kernel
theorem dX12_told_49 : decode cX12_told 49 = .ok (.getfield 49, 3) := by decide +kernel
theorem dX12_told_52 : decode cX12_told 52 = .ok (.ifCond .eq 7, 3) := by decide +kernel
theorem dX12_told_55 : decode cX12_told 55 = .ok (.iconst 1, 1) := by decide +kernel
theorem dX12_told_56 : decode cX12_told 56 = .ok (.goto 4, 3) := by decide +kernel
theorem dX12_told_59 : decode cX12_told 59 = .ok (.iconst 0, 1) := by decide +kernel
theorem dX12_told_60 : decode cX12_told 60 = .ok (.ireturn, 1) := by decide +kernel
theorem dX12_told_61 : decode cX12_told 61 = .ok (.aload_n 0, 1) := by decide +kernel
theorem dX12_told_62 : decode cX12_told 62 = .ok (.getfield 88, 3) := by decide +kernel
theorem dX12_told_65 : decode cX12_told 65 = .ok (.ireturn, 1) := by decide +kernel
theorem dX12_told_66 : decode cX12_told 66 = .ok (.aload_n 0, 1) := by decide +kernel
theorem dX12_told_67 : decode cX12_told 67 = .ok (.getfield 91, 3) := by decide +kernel
theorem dX12_told_70 : decode cX12_told 70 = .ok (.ireturn, 1) := by decide +kernel
theorem dX12_told_71 : decode cX12_told 71 = .ok (.aload_n 0, 1) := by decide +kernel
theorem dX12_told_72 : decode cX12_told 72 = .ok (.getfield 98, 3) := by decide +kernel
theorem dX12_told_75 : decode cX12_told 75 = .ok (.ireturn, 1) := by decide +kernel
theorem dX12_told_76 : decode cX12_told 76 = .ok (.aload_n 0, 1) := by decide +kernel
theorem dX12_told_77 : decode cX12_told 77 = .ok (.getfield 101, 3) := by decide +kernel
theorem dX12_told_80 : decode cX12_told 80 = .ok (.ireturn, 1) := by decide +kernel
theorem dX12_told_81 : decode cX12_told 81 = .ok (.aload_n 0, 1) := by decide +kernel
theorem dX12_told_82 : decode cX12_told 82 = .ok (.getfield 7, 3) := by decide +kernel
theorem dX12_told_85 : decode cX12_told 85 = .ok (.ireturn, 1) := by decide +kernel
theorem dX12_told_86 : decode cX12_told 86 = .ok (.aload_n 0, 1) := by decide +kernel
theorem dX12_told_87 : decode cX12_told 87 = .ok (.getfield 146, 3) := by decide +kernel
theorem dX12_told_90 : decode cX12_told 90 = .ok (.ireturn, 1) := by decide +kernel
theorem dX12_told_91 : decode cX12_told 91 = .ok (.aload_n 0, 1) := by decide +kernel
theorem dX12_told_92 : decode cX12_told 92 = .ok (.getfield 117, 3) := by decide +kernel
theorem dX12_told_95 : decode cX12_told 95 = .ok (.ireturn, 1) := by decide +kernel
theorem dX12_told_96 : decode cX12_told 96 = .ok (.bipush (-2), 2) := by decide +kernel
theorem dX12_told_98 : decode cX12_told 98 = .ok (.ireturn, 1) := by decide +kernel
theorem dX12_trace_0 : decode cX12_trace 0 = .ok (.aload_n 0, 1) := by decide +kernel
theorem dX12_trace_1 : decode cX12_trace 1 = .ok (.getfield 57, 3) := by decide +kernel
theorem dX12_trace_4 : decode cX12_trace 4 = .ok (.lreturn, 1) := by decide +kernel
theorem dJ6_bitCount_0f7a4_0 : decode cJ6_bitCount_0f7a4 0 = .ok (.iload_n 0, 1) := by decide +kernel
theorem dJ6_bitCount_0f7a4_1 : decode cJ6_bitCount_0f7a4 1 = .ok (.iload_n 0, 1) := by decide +kernel
theorem dJ6_bitCount_0f7a4_2 : decode cJ6_bitCount_0f7a4 2 = .ok (.iconst 1, 1) := by decide +kernel
theorem dJ6_bitCount_0f7a4_3 : decode cJ6_bitCount_0f7a4 3 = .ok (.iushr, 1) := by decide +kernel
theorem dJ6_bitCount_0f7a4_4 : decode cJ6_bitCount_0f7a4 4 = .ok (.ldc_w 265, 3) := by decide +kernel
theorem dJ6_bitCount_0f7a4_7 : decode cJ6_bitCount_0f7a4 7 = .ok (.iand, 1) := by decide +kernel
theorem dJ6_bitCount_0f7a4_8 : decode cJ6_bitCount_0f7a4 8 = .ok (.isub, 1) := by decide +kernel
theorem dJ6_bitCount_0f7a4_9 : decode cJ6_bitCount_0f7a4 9 = .ok (.istore_n 0, 1) := by decide +kernel
theorem dJ6_bitCount_0f7a4_10 : decode cJ6_bitCount_0f7a4 10 = .ok (.iload_n 0, 1) := by decide +kernel
theorem dJ6_bitCount_0f7a4_11 : decode cJ6_bitCount_0f7a4 11 = .ok (.ldc_w 266, 3) := by decide +kernel
theorem dJ6_bitCount_0f7a4_14 : decode cJ6_bitCount_0f7a4 14 = .ok (.iand, 1) := by decide +kernel
theorem dJ6_bitCount_0f7a4_15 : decode cJ6_bitCount_0f7a4 15 = .ok (.iload_n 0, 1) := by decide +kernel
theorem dJ6_bitCount_0f7a4_16 : decode cJ6_bitCount_0f7a4 16 = .ok (.iconst 2, 1) := by decide +kernel
theorem dJ6_bitCount_0f7a4_17 : decode cJ6_bitCount_0f7a4 17 = .ok (.iushr, 1) := by decide +kernel
theorem dJ6_bitCount_0f7a4_18 : decode cJ6_bitCount_0f7a4 18 = .ok (.ldc_w 266, 3) := by decide +kernel
theorem dJ6_bitCount_0f7a4_21 : decode cJ6_bitCount_0f7a4 21 = .ok (.iand, 1) := by decide +kernel
theorem dJ6_bitCount_0f7a4_22 : decode cJ6_bitCount_0f7a4 22 = .ok (.iadd, 1) := by decide +kernel
theorem dJ6_bitCount_0f7a4_23 : decode cJ6_bitCount_0f7a4 23 = .ok (.istore_n 0, 1) := by decide +kernel
theorem dJ6_bitCount_0f7a4_24 : decode cJ6_bitCount_0f7a4 24 = .ok (.iload_n 0, 1) := by decide +kernel
theorem dJ6_bitCount_0f7a4_25 : decode cJ6_bitCount_0f7a4 25 = .ok (.iload_n 0, 1) := by decide +kernel
theorem dJ6_bitCount_0f7a4_26 : decode cJ6_bitCount_0f7a4 26 = .ok (.iconst 4, 1) := by decide +kernel
theorem dJ6_bitCount_0f7a4_27 : decode cJ6_bitCount_0f7a4 27 = .ok (.iushr, 1) := by decide +kernel
theorem dJ6_bitCount_0f7a4_28 : decode cJ6_bitCount_0f7a4 28 = .ok (.iadd, 1) := by decide +kernel
theorem dJ6_bitCount_0f7a4_29 : decode cJ6_bitCount_0f7a4 29 = .ok (.ldc_w 267, 3) := by decide +kernel
theorem dJ6_bitCount_0f7a4_32 : decode cJ6_bitCount_0f7a4 32 = .ok (.iand, 1) := by decide +kernel
theorem dJ6_bitCount_0f7a4_33 : decode cJ6_bitCount_0f7a4 33 = .ok (.istore_n 0, 1) := by decide +kernel
theorem dJ6_bitCount_0f7a4_34 : decode cJ6_bitCount_0f7a4 34 = .ok (.iload_n 0, 1) := by decide +kernel
theorem dJ6_bitCount_0f7a4_35 : decode cJ6_bitCount_0f7a4 35 = .ok (.iload_n 0, 1) := by decide +kernel
theorem dJ6_bitCount_0f7a4_36 : decode cJ6_bitCount_0f7a4 36 = .ok (.bipush 8, 2) := by decide +kernel
theorem dJ6_bitCount_0f7a4_38 : decode cJ6_bitCount_0f7a4 38 = .ok (.iushr, 1) := by decide +kernel
theorem dJ6_bitCount_0f7a4_39 : decode cJ6_bitCount_0f7a4 39 = .ok (.iadd, 1) := by decide +kernel
theorem dJ6_bitCount_0f7a4_40 : decode cJ6_bitCount_0f7a4 40 = .ok (.istore_n 0, 1) := by decide +kernel
theorem dJ6_bitCount_0f7a4_41 : decode cJ6_bitCount_0f7a4 41 = .ok (.iload_n 0, 1) := by decide +kernel
theorem dJ6_bitCount_0f7a4_42 : decode cJ6_bitCount_0f7a4 42 = .ok (.iload_n 0, 1) := by decide +kernel
theorem dJ6_bitCount_0f7a4_43 : decode cJ6_bitCount_0f7a4 43 = .ok (.bipush 16, 2) := by decide +kernel
theorem dJ6_bitCount_0f7a4_45 : decode cJ6_bitCount_0f7a4 45 = .ok (.iushr, 1) := by decide +kernel
theorem dJ6_bitCount_0f7a4_46 : decode cJ6_bitCount_0f7a4 46 = .ok (.iadd, 1) := by decide +kernel
theorem dJ6_bitCount_0f7a4_47 : decode cJ6_bitCount_0f7a4 47 = .ok (.istore_n 0, 1) := by decide +kernel
theorem dJ6_bitCount_0f7a4_48 : decode cJ6_bitCount_0f7a4 48 = .ok (.iload_n 0, 1) := by decide +kernel
theorem dJ6_bitCount_0f7a4_49 : decode cJ6_bitCount_0f7a4 49 = .ok (.bipush 63, 2) := by decide +kernel
theorem dJ6_bitCount_0f7a4_51 : decode cJ6_bitCount_0f7a4 51 = .ok (.iand, 1) := by decide +kernel
theorem dJ6_bitCount_0f7a4_52 : decode cJ6_bitCount_0f7a4 52 = .ok (.ireturn, 1) := by decide +kernel
theorem dJ9_max_7cf53_0 : decode cJ9_max_7cf53 0 = .ok (.iload_n 0, 1) := by decide +kernel
theorem dJ9_max_7cf53_1 : decode cJ9_max_7cf53 1 = .ok (.iload_n 1, 1) := by decide +kernel
theorem dJ9_max_7cf53_2 : decode cJ9_max_7cf53 2 = .ok (.if_icmp .lt 7, 3) := by decide +kernel
theorem dJ9_max_7cf53_5 : decode cJ9_max_7cf53 5 = .ok (.iload_n 0, 1) := by decide +kernel
theorem dJ9_max_7cf53_6 : decode cJ9_max_7cf53 6 = .ok (.goto 4, 3) := by decide +kernel
theorem dJ9_max_7cf53_9 : decode cJ9_max_7cf53 9 = .ok (.iload_n 1, 1) := by decide +kernel
theorem dJ9_max_7cf53_10 : decode cJ9_max_7cf53 10 = .ok (.ireturn, 1) := by decide +kernel
theorem dJ9_min_7cf53_0 : decode cJ9_min_7cf53 0 = .ok (.iload_n 0, 1) := by decide +kernel
theorem dJ9_min_7cf53_1 : decode cJ9_min_7cf53 1 = .ok (.iload_n 1, 1) := by decide +kernel
theorem dJ9_min_7cf53_2 : decode cJ9_min_7cf53 2 = .ok (.if_icmp .gt 7, 3) := by decide +kernel
theorem dJ9_min_7cf53_5 : decode cJ9_min_7cf53 5 = .ok (.iload_n 0, 1) := by decide +kernel
theorem dJ9_min_7cf53_6 : decode cJ9_min_7cf53 6 = .ok (.goto 4, 3) := by decide +kernel
theorem dJ9_min_7cf53_9 : decode cJ9_min_7cf53 9 = .ok (.iload_n 1, 1) := by decide +kernel
theorem dJ9_min_7cf53_10 : decode cJ9_min_7cf53 10 = .ok (.ireturn, 1) := by decide +kernel
theorem dL_law_0 : decode cL_law 0 = .ok (.new 7, 3) := by decide +kernel
theorem dL_law_3 : decode cL_law 3 = .ok (.dup, 1) := by decide +kernel
theorem dL_law_4 : decode cL_law 4 = .ok (.invokespecial 9, 3) := by decide +kernel
theorem dL_law_7 : decode cL_law 7 = .ok (.astore_n 1, 1) := by decide +kernel
theorem dL_law_8 : decode cL_law 8 = .ok (.new 10, 3) := by decide +kernel
theorem dL_law_11 : decode cL_law 11 = .ok (.dup, 1) := by decide +kernel
theorem dL_law_12 : decode cL_law 12 = .ok (.invokespecial 12, 3) := by decide +kernel
theorem dL_law_15 : decode cL_law 15 = .ok (.astore_n 2, 1) := by decide +kernel
theorem dL_law_16 : decode cL_law 16 = .ok (.iconst 0, 1) := by decide +kernel
theorem dL_law_17 : decode cL_law 17 = .ok (.istore_n 3, 1) := by decide +kernel
theorem dL_law_18 : decode cL_law 18 = .ok (.iload_n 3, 1) := by decide +kernel
theorem dL_law_19 : decode cL_law 19 = .ok (.aload_n 0, 1) := by decide +kernel
theorem dL_law_20 : decode cL_law 20 = .ok (.arraylength, 1) := by decide +kernel
theorem dL_law_21 : decode cL_law 21 = .ok (.iconst 4, 1) := by decide +kernel
theorem dL_law_22 : decode cL_law 22 = .ok (.isub, 1) := by decide +kernel
theorem dL_law_23 : decode cL_law 23 = .ok (.if_icmp .gt 675, 3) := by decide +kernel
theorem dL_law_26 : decode cL_law 26 = .ok (.aload_n 0, 1) := by decide +kernel
theorem dL_law_27 : decode cL_law 27 = .ok (.iload_n 3, 1) := by decide +kernel
theorem dL_law_28 : decode cL_law 28 = .ok (.iaload, 1) := by decide +kernel
theorem dL_law_29 : decode cL_law 29 = .ok (.bipush 31, 2) := by decide +kernel
theorem dL_law_31 : decode cL_law 31 = .ok (.iand, 1) := by decide +kernel
theorem dL_law_32 : decode cL_law 32 = .ok (.tableswitch 660 0 21 #[104, 147, 222, 245, 284, 297, 320, 343, 356, 369, 382, 406, 419, 432, 455, 468, 491, 524, 557, 600, 623, 646], 104) := by decide +kernel
theorem dL_law_136 : decode cL_law 136 = .ok (.aload_n 1, 1) := by decide +kernel
theorem dL_law_137 : decode cL_law 137 = .ok (.aload_n 0, 1) := by decide +kernel
theorem dL_law_138 : decode cL_law 138 = .ok (.iload_n 3, 1) := by decide +kernel
theorem dL_law_139 : decode cL_law 139 = .ok (.iconst 1, 1) := by decide +kernel
theorem dL_law_140 : decode cL_law 140 = .ok (.iadd, 1) := by decide +kernel
theorem dL_law_141 : decode cL_law 141 = .ok (.iaload, 1) := by decide +kernel
theorem dL_law_142 : decode cL_law 142 = .ok (.aload_n 0, 1) := by decide +kernel
theorem dL_law_143 : decode cL_law 143 = .ok (.iload_n 3, 1) := by decide +kernel
theorem dL_law_144 : decode cL_law 144 = .ok (.iconst 2, 1) := by decide +kernel
theorem dL_law_145 : decode cL_law 145 = .ok (.iadd, 1) := by decide +kernel
theorem dL_law_146 : decode cL_law 146 = .ok (.iaload, 1) := by decide +kernel
theorem dL_law_147 : decode cL_law 147 = .ok (.aload_n 0, 1) := by decide +kernel
theorem dL_law_148 : decode cL_law 148 = .ok (.iload_n 3, 1) := by decide +kernel
theorem dL_law_149 : decode cL_law 149 = .ok (.iconst 3, 1) := by decide +kernel
theorem dL_law_150 : decode cL_law 150 = .ok (.iadd, 1) := by decide +kernel
theorem dL_law_151 : decode cL_law 151 = .ok (.iaload, 1) := by decide +kernel
theorem dL_law_152 : decode cL_law 152 = .ok (.invokevirtual 13, 3) := by decide +kernel
theorem dL_law_155 : decode cL_law 155 = .ok (.aload_n 2, 1) := by decide +kernel
theorem dL_law_156 : decode cL_law 156 = .ok (.aload_n 0, 1) := by decide +kernel
theorem dL_law_157 : decode cL_law 157 = .ok (.iload_n 3, 1) := by decide +kernel
theorem dL_law_158 : decode cL_law 158 = .ok (.iconst 1, 1) := by decide +kernel
theorem dL_law_159 : decode cL_law 159 = .ok (.iadd, 1) := by decide +kernel
theorem dL_law_160 : decode cL_law 160 = .ok (.iaload, 1) := by decide +kernel
theorem dL_law_161 : decode cL_law 161 = .ok (.aload_n 0, 1) := by decide +kernel
theorem dL_law_162 : decode cL_law 162 = .ok (.iload_n 3, 1) := by decide +kernel
theorem dL_law_163 : decode cL_law 163 = .ok (.iconst 2, 1) := by decide +kernel
theorem dL_law_164 : decode cL_law 164 = .ok (.iadd, 1) := by decide +kernel
theorem dL_law_165 : decode cL_law 165 = .ok (.iaload, 1) := by decide +kernel
theorem dL_law_166 : decode cL_law 166 = .ok (.aload_n 0, 1) := by decide +kernel
theorem dL_law_167 : decode cL_law 167 = .ok (.iload_n 3, 1) := by decide +kernel
theorem dL_law_168 : decode cL_law 168 = .ok (.iconst 3, 1) := by decide +kernel
theorem dL_law_169 : decode cL_law 169 = .ok (.iadd, 1) := by decide +kernel
theorem dL_law_170 : decode cL_law 170 = .ok (.iaload, 1) := by decide +kernel
theorem dL_law_171 : decode cL_law 171 = .ok (.invokevirtual 17, 3) := by decide +kernel
theorem dL_law_174 : decode cL_law 174 = .ok (.if_icmp .eq 518, 3) := by decide +kernel
theorem dL_law_177 : decode cL_law 177 = .ok (.iconst 0, 1) := by decide +kernel
theorem dL_law_178 : decode cL_law 178 = .ok (.ireturn, 1) := by decide +kernel
theorem dL_law_179 : decode cL_law 179 = .ok (.aload_n 1, 1) := by decide +kernel
theorem dL_law_180 : decode cL_law 180 = .ok (.aload_n 0, 1) := by decide +kernel
theorem dL_law_181 : decode cL_law 181 = .ok (.iload_n 3, 1) := by decide +kernel
theorem dL_law_182 : decode cL_law 182 = .ok (.iconst 1, 1) := by decide +kernel
theorem dL_law_183 : decode cL_law 183 = .ok (.iadd, 1) := by decide +kernel
theorem dL_law_184 : decode cL_law 184 = .ok (.iaload, 1) := by decide +kernel
theorem dL_law_185 : decode cL_law 185 = .ok (.aload_n 0, 1) := by decide +kernel
theorem dL_law_186 : decode cL_law 186 = .ok (.iload_n 3, 1) := by decide +kernel
theorem dL_law_187 : decode cL_law 187 = .ok (.iconst 2, 1) := by decide +kernel
theorem dL_law_188 : decode cL_law 188 = .ok (.iadd, 1) := by decide +kernel
theorem dL_law_189 : decode cL_law 189 = .ok (.iaload, 1) := by decide +kernel
theorem dL_law_190 : decode cL_law 190 = .ok (.ifCond .eq 7, 3) := by decide +kernel
theorem dL_law_193 : decode cL_law 193 = .ok (.iconst 1, 1) := by decide +kernel
theorem dL_law_194 : decode cL_law 194 = .ok (.goto 4, 3) := by decide +kernel
theorem dL_law_197 : decode cL_law 197 = .ok (.iconst 0, 1) := by decide +kernel
theorem dL_law_198 : decode cL_law 198 = .ok (.aload_n 0, 1) := by decide +kernel
theorem dL_law_199 : decode cL_law 199 = .ok (.iload_n 3, 1) := by decide +kernel
theorem dL_law_200 : decode cL_law 200 = .ok (.iconst 3, 1) := by decide +kernel
theorem dL_law_201 : decode cL_law 201 = .ok (.iadd, 1) := by decide +kernel
theorem dL_law_202 : decode cL_law 202 = .ok (.iaload, 1) := by decide +kernel
theorem dL_law_203 : decode cL_law 203 = .ok (.ifCond .eq 7, 3) := by decide +kernel
theorem dL_law_206 : decode cL_law 206 = .ok (.iconst 1, 1) := by decide +kernel
theorem dL_law_207 : decode cL_law 207 = .ok (.goto 4, 3) := by decide +kernel
theorem dL_law_210 : decode cL_law 210 = .ok (.iconst 0, 1) := by decide +kernel
theorem dL_law_211 : decode cL_law 211 = .ok (.invokevirtual 18, 3) := by decide +kernel
theorem dL_law_214 : decode cL_law 214 = .ok (.aload_n 2, 1) := by decide +kernel
theorem dL_law_215 : decode cL_law 215 = .ok (.aload_n 0, 1) := by decide +kernel
theorem dL_law_216 : decode cL_law 216 = .ok (.iload_n 3, 1) := by decide +kernel
theorem dL_law_217 : decode cL_law 217 = .ok (.iconst 1, 1) := by decide +kernel
theorem dL_law_218 : decode cL_law 218 = .ok (.iadd, 1) := by decide +kernel
theorem dL_law_219 : decode cL_law 219 = .ok (.iaload, 1) := by decide +kernel
theorem dL_law_220 : decode cL_law 220 = .ok (.aload_n 0, 1) := by decide +kernel
theorem dL_law_221 : decode cL_law 221 = .ok (.iload_n 3, 1) := by decide +kernel
theorem dL_law_222 : decode cL_law 222 = .ok (.iconst 2, 1) := by decide +kernel
theorem dL_law_223 : decode cL_law 223 = .ok (.iadd, 1) := by decide +kernel
theorem dL_law_224 : decode cL_law 224 = .ok (.iaload, 1) := by decide +kernel
theorem dL_law_225 : decode cL_law 225 = .ok (.ifCond .eq 7, 3) := by decide +kernel
theorem dL_law_228 : decode cL_law 228 = .ok (.iconst 1, 1) := by decide +kernel
theorem dL_law_229 : decode cL_law 229 = .ok (.goto 4, 3) := by decide +kernel
theorem dL_law_232 : decode cL_law 232 = .ok (.iconst 0, 1) := by decide +kernel
theorem dL_law_233 : decode cL_law 233 = .ok (.aload_n 0, 1) := by decide +kernel
theorem dL_law_234 : decode cL_law 234 = .ok (.iload_n 3, 1) := by decide +kernel
theorem dL_law_235 : decode cL_law 235 = .ok (.iconst 3, 1) := by decide +kernel
theorem dL_law_236 : decode cL_law 236 = .ok (.iadd, 1) := by decide +kernel
theorem dL_law_237 : decode cL_law 237 = .ok (.iaload, 1) := by decide +kernel
theorem dL_law_238 : decode cL_law 238 = .ok (.ifCond .eq 7, 3) := by decide +kernel
theorem dL_law_241 : decode cL_law 241 = .ok (.iconst 1, 1) := by decide +kernel
theorem dL_law_242 : decode cL_law 242 = .ok (.goto 4, 3) := by decide +kernel
theorem dL_law_245 : decode cL_law 245 = .ok (.iconst 0, 1) := by decide +kernel
theorem dL_law_246 : decode cL_law 246 = .ok (.invokevirtual 22, 3) := by decide +kernel
theorem dL_law_249 : decode cL_law 249 = .ok (.if_icmp .eq 443, 3) := by decide +kernel
theorem dL_law_252 : decode cL_law 252 = .ok (.iconst 0, 1) := by decide +kernel
theorem dL_law_253 : decode cL_law 253 = .ok (.ireturn, 1) := by decide +kernel
theorem dL_law_254 : decode cL_law 254 = .ok (.aload_n 1, 1) := by decide +kernel
theorem dL_law_255 : decode cL_law 255 = .ok (.aload_n 0, 1) := by decide +kernel
theorem dL_law_256 : decode cL_law 256 = .ok (.iload_n 3, 1) := by decide +kernel
theorem dL_law_257 : decode cL_law 257 = .ok (.iconst 1, 1) := by decide +kernel
theorem dL_law_258 : decode cL_law 258 = .ok (.iadd, 1) := by decide +kernel
theorem dL_law_259 : decode cL_law 259 = .ok (.iaload, 1) := by decide +kernel
theorem dL_law_260 : decode cL_law 260 = .ok (.invokevirtual 23, 3) := by decide +kernel
theorem dL_law_263 : decode cL_law 263 = .ok (.aload_n 2, 1) := by decide +kernel
theorem dL_law_264 : decode cL_law 264 = .ok (.aload_n 0, 1) := by decide +kernel
theorem dL_law_265 : decode cL_law 265 = .ok (.iload_n 3, 1) := by decide +kernel
theorem dL_law_266 : decode cL_law 266 = .ok (.iconst 1, 1) := by decide +kernel
theorem dL_law_267 : decode cL_law 267 = .ok (.iadd, 1) := by decide +kernel
theorem dL_law_268 : decode cL_law 268 = .ok (.iaload, 1) := by decide +kernel
theorem dL_law_269 : decode cL_law 269 = .ok (.invokevirtual 27, 3) := by decide +kernel
theorem dL_law_272 : decode cL_law 272 = .ok (.if_icmp .eq 420, 3) := by decide +kernel
theorem dL_law_275 : decode cL_law 275 = .ok (.iconst 0, 1) := by decide +kernel
theorem dL_law_276 : decode cL_law 276 = .ok (.ireturn, 1) := by decide +kernel
theorem dL_law_277 : decode cL_law 277 = .ok (.aload_n 1, 1) := by decide +kernel
theorem dL_law_278 : decode cL_law 278 = .ok (.aload_n 0, 1) := by decide +kernel
theorem dL_law_279 : decode cL_law 279 = .ok (.iload_n 3, 1) := by decide +kernel
theorem dL_law_280 : decode cL_law 280 = .ok (.iconst 1, 1) := by decide +kernel
theorem dL_law_281 : decode cL_law 281 = .ok (.iadd, 1) := by decide +kernel
theorem dL_law_282 : decode cL_law 282 = .ok (.iaload, 1) := by decide +kernel
theorem dL_law_283 : decode cL_law 283 = .ok (.ifCond .eq 7, 3) := by decide +kernel
theorem dL_law_286 : decode cL_law 286 = .ok (.iconst 1, 1) := by decide +kernel
theorem dL_law_287 : decode cL_law 287 = .ok (.goto 4, 3) := by decide +kernel
theorem dL_law_290 : decode cL_law 290 = .ok (.iconst 0, 1) := by decide +kernel
theorem dL_law_291 : decode cL_law 291 = .ok (.invokevirtual 28, 3) := by decide +kernel
theorem dL_law_294 : decode cL_law 294 = .ok (.aload_n 2, 1) := by decide +kernel
theorem dL_law_295 : decode cL_law 295 = .ok (.aload_n 0, 1) := by decide +kernel
theorem dL_law_296 : decode cL_law 296 = .ok (.iload_n 3, 1) := by decide +kernel
theorem dL_law_297 : decode cL_law 297 = .ok (.iconst 1, 1) := by decide +kernel
theorem dL_law_298 : decode cL_law 298 = .ok (.iadd, 1) := by decide +kernel
theorem dL_law_299 : decode cL_law 299 = .ok (.iaload, 1) := by decide +kernel
theorem dL_law_300 : decode cL_law 300 = .ok (.ifCond .eq 7, 3) := by decide +kernel
theorem dL_law_303 : decode cL_law 303 = .ok (.iconst 1, 1) := by decide +kernel
theorem dL_law_304 : decode cL_law 304 = .ok (.goto 4, 3) := by decide +kernel
theorem dL_law_307 : decode cL_law 307 = .ok (.iconst 0, 1) := by decide +kernel
theorem dL_law_308 : decode cL_law 308 = .ok (.invokevirtual 32, 3) := by decide +kernel
theorem dL_law_311 : decode cL_law 311 = .ok (.if_icmp .eq 381, 3) := by decide +kernel
theorem dL_law_314 : decode cL_law 314 = .ok (.iconst 0, 1) := by decide +kernel
theorem dL_law_315 : decode cL_law 315 = .ok (.ireturn, 1) := by decide +kernel
theorem dL_law_316 : decode cL_law 316 = .ok (.aload_n 1, 1) := by decide +kernel
theorem dL_law_317 : decode cL_law 317 = .ok (.invokevirtual 33, 3) := by decide +kernel
theorem dL_law_320 : decode cL_law 320 = .ok (.aload_n 2, 1) := by decide +kernel
theorem dL_law_321 : decode cL_law 321 = .ok (.invokevirtual 37, 3) := by decide +kernel
theorem dL_law_324 : decode cL_law 324 = .ok (.if_icmp .eq 368, 3) := by decide +kernel
theorem dL_law_327 : decode cL_law 327 = .ok (.iconst 0, 1) := by decide +kernel
theorem dL_law_328 : decode cL_law 328 = .ok (.ireturn, 1) := by decide +kernel
theorem dL_law_329 : decode cL_law 329 = .ok (.aload_n 1, 1) := by decide +kernel
theorem dL_law_330 : decode cL_law 330 = .ok (.aload_n 0, 1) := by decide +kernel
theorem dL_law_331 : decode cL_law 331 = .ok (.iload_n 3, 1) := by decide +kernel
theorem dL_law_332 : decode cL_law 332 = .ok (.iconst 1, 1) := by decide +kernel
theorem dL_law_333 : decode cL_law 333 = .ok (.iadd, 1) := by decide +kernel
theorem dL_law_334 : decode cL_law 334 = .ok (.iaload, 1) := by decide +kernel
theorem dL_law_335 : decode cL_law 335 = .ok (.invokevirtual 38, 3) := by decide +kernel
theorem dL_law_338 : decode cL_law 338 = .ok (.aload_n 2, 1) := by decide +kernel
theorem dL_law_339 : decode cL_law 339 = .ok (.aload_n 0, 1) := by decide +kernel
theorem dL_law_340 : decode cL_law 340 = .ok (.iload_n 3, 1) := by decide +kernel
theorem dL_law_341 : decode cL_law 341 = .ok (.iconst 1, 1) := by decide +kernel
theorem dL_law_342 : decode cL_law 342 = .ok (.iadd, 1) := by decide +kernel
theorem dL_law_343 : decode cL_law 343 = .ok (.iaload, 1) := by decide +kernel
theorem dL_law_344 : decode cL_law 344 = .ok (.invokevirtual 41, 3) := by decide +kernel
theorem dL_law_347 : decode cL_law 347 = .ok (.if_icmp .eq 345, 3) := by decide +kernel
theorem dL_law_350 : decode cL_law 350 = .ok (.iconst 0, 1) := by decide +kernel
theorem dL_law_351 : decode cL_law 351 = .ok (.ireturn, 1) := by decide +kernel
theorem dL_law_352 : decode cL_law 352 = .ok (.aload_n 1, 1) := by decide +kernel
theorem dL_law_353 : decode cL_law 353 = .ok (.aload_n 0, 1) := by decide +kernel
theorem dL_law_354 : decode cL_law 354 = .ok (.iload_n 3, 1) := by decide +kernel
theorem dL_law_355 : decode cL_law 355 = .ok (.iconst 1, 1) := by decide +kernel
theorem dL_law_356 : decode cL_law 356 = .ok (.iadd, 1) := by decide +kernel
theorem dL_law_357 : decode cL_law 357 = .ok (.iaload, 1) := by decide +kernel
theorem dL_law_358 : decode cL_law 358 = .ok (.invokevirtual 42, 3) := by decide +kernel
theorem dL_law_361 : decode cL_law 361 = .ok (.aload_n 2, 1) := by decide +kernel
theorem dL_law_362 : decode cL_law 362 = .ok (.aload_n 0, 1) := by decide +kernel
theorem dL_law_363 : decode cL_law 363 = .ok (.iload_n 3, 1) := by decide +kernel
theorem dL_law_364 : decode cL_law 364 = .ok (.iconst 1, 1) := by decide +kernel
theorem dL_law_365 : decode cL_law 365 = .ok (.iadd, 1) := by decide +kernel
theorem dL_law_366 : decode cL_law 366 = .ok (.iaload, 1) := by decide +kernel
theorem dL_law_367 : decode cL_law 367 = .ok (.invokevirtual 45, 3) := by decide +kernel
theorem dL_law_370 : decode cL_law 370 = .ok (.if_icmp .eq 322, 3) := by decide +kernel
theorem dL_law_373 : decode cL_law 373 = .ok (.iconst 0, 1) := by decide +kernel
theorem dL_law_374 : decode cL_law 374 = .ok (.ireturn, 1) := by decide +kernel
theorem dL_law_375 : decode cL_law 375 = .ok (.aload_n 1, 1) := by decide +kernel
theorem dL_law_376 : decode cL_law 376 = .ok (.invokevirtual 46, 3) := by decide +kernel
theorem dL_law_379 : decode cL_law 379 = .ok (.aload_n 2, 1) := by decide +kernel
theorem dL_law_380 : decode cL_law 380 = .ok (.invokevirtual 49, 3) := by decide +kernel
theorem dL_law_383 : decode cL_law 383 = .ok (.if_icmp .eq 309, 3) := by decide +kernel
theorem dL_law_386 : decode cL_law 386 = .ok (.iconst 0, 1) := by decide +kernel
theorem dL_law_387 : decode cL_law 387 = .ok (.ireturn, 1) := by decide +kernel
theorem dL_law_388 : decode cL_law 388 = .ok (.aload_n 1, 1) := by decide +kernel
theorem dL_law_389 : decode cL_law 389 = .ok (.invokevirtual 50, 3) := by decide +kernel
theorem dL_law_392 : decode cL_law 392 = .ok (.aload_n 2, 1) := by decide +kernel
theorem dL_law_393 : decode cL_law 393 = .ok (.invokevirtual 53, 3) := by decide +kernel
theorem dL_law_396 : decode cL_law 396 = .ok (.if_icmp .eq 296, 3) := by decide +kernel
theorem dL_law_399 : decode cL_law 399 = .ok (.iconst 0, 1) := by decide +kernel
theorem dL_law_400 : decode cL_law 400 = .ok (.ireturn, 1) := by decide +kernel
theorem dL_law_401 : decode cL_law 401 = .ok (.aload_n 1, 1) := by decide +kernel
theorem dL_law_402 : decode cL_law 402 = .ok (.invokevirtual 54, 3) := by decide +kernel
theorem dL_law_405 : decode cL_law 405 = .ok (.aload_n 2, 1) := by decide +kernel
theorem dL_law_406 : decode cL_law 406 = .ok (.invokevirtual 57, 3) := by decide +kernel
theorem dL_law_409 : decode cL_law 409 = .ok (.if_icmp .eq 283, 3) := by decide +kernel
theorem dL_law_412 : decode cL_law 412 = .ok (.iconst 0, 1) := by decide +kernel
theorem dL_law_413 : decode cL_law 413 = .ok (.ireturn, 1) := by decide +kernel
theorem dL_law_414 : decode cL_law 414 = .ok (.aload_n 1, 1) := by decide +kernel
theorem dL_law_415 : decode cL_law 415 = .ok (.aload_n 0, 1) := by decide +kernel
theorem dL_law_416 : decode cL_law 416 = .ok (.iload_n 3, 1) := by decide +kernel
theorem dL_law_417 : decode cL_law 417 = .ok (.iconst 1, 1) := by decide +kernel
theorem dL_law_418 : decode cL_law 418 = .ok (.iadd, 1) := by decide +kernel
theorem dL_law_419 : decode cL_law 419 = .ok (.iaload, 1) := by decide +kernel
theorem dL_law_420 : decode cL_law 420 = .ok (.invokevirtual 58, 3) := by decide +kernel
theorem dL_law_423 : decode cL_law 423 = .ok (.aload_n 2, 1) := by decide +kernel
theorem dL_law_424 : decode cL_law 424 = .ok (.aload_n 0, 1) := by decide +kernel
theorem dL_law_425 : decode cL_law 425 = .ok (.iload_n 3, 1) := by decide +kernel
theorem dL_law_426 : decode cL_law 426 = .ok (.iconst 1, 1) := by decide +kernel
theorem dL_law_427 : decode cL_law 427 = .ok (.iadd, 1) := by decide +kernel
theorem dL_law_428 : decode cL_law 428 = .ok (.iaload, 1) := by decide +kernel
theorem dL_law_429 : decode cL_law 429 = .ok (.invokevirtual 62, 3) := by decide +kernel
theorem dL_law_432 : decode cL_law 432 = .ok (.lcmp, 1) := by decide +kernel
theorem dL_law_433 : decode cL_law 433 = .ok (.ifCond .eq 259, 3) := by decide +kernel
theorem dL_law_436 : decode cL_law 436 = .ok (.iconst 0, 1) := by decide +kernel
theorem dL_law_437 : decode cL_law 437 = .ok (.ireturn, 1) := by decide +kernel
theorem dL_law_438 : decode cL_law 438 = .ok (.aload_n 1, 1) := by decide +kernel
theorem dL_law_439 : decode cL_law 439 = .ok (.invokevirtual 63, 3) := by decide +kernel
theorem dL_law_442 : decode cL_law 442 = .ok (.aload_n 2, 1) := by decide +kernel
theorem dL_law_443 : decode cL_law 443 = .ok (.invokevirtual 66, 3) := by decide +kernel
theorem dL_law_446 : decode cL_law 446 = .ok (.if_icmp .eq 246, 3) := by decide +kernel
theorem dL_law_449 : decode cL_law 449 = .ok (.iconst 0, 1) := by decide +kernel
theorem dL_law_450 : decode cL_law 450 = .ok (.ireturn, 1) := by decide +kernel
theorem dL_law_451 : decode cL_law 451 = .ok (.aload_n 1, 1) := by decide +kernel
theorem dL_law_452 : decode cL_law 452 = .ok (.invokevirtual 67, 3) := by decide +kernel
theorem dL_law_455 : decode cL_law 455 = .ok (.aload_n 2, 1) := by decide +kernel
theorem dL_law_456 : decode cL_law 456 = .ok (.invokevirtual 70, 3) := by decide +kernel
theorem dL_law_459 : decode cL_law 459 = .ok (.if_icmp .eq 233, 3) := by decide +kernel
theorem dL_law_462 : decode cL_law 462 = .ok (.iconst 0, 1) := by decide +kernel
theorem dL_law_463 : decode cL_law 463 = .ok (.ireturn, 1) := by decide +kernel
theorem dL_law_464 : decode cL_law 464 = .ok (.aload_n 1, 1) := by decide +kernel
theorem dL_law_465 : decode cL_law 465 = .ok (.aload_n 0, 1) := by decide +kernel
theorem dL_law_466 : decode cL_law 466 = .ok (.iload_n 3, 1) := by decide +kernel
theorem dL_law_467 : decode cL_law 467 = .ok (.iconst 1, 1) := by decide +kernel
theorem dL_law_468 : decode cL_law 468 = .ok (.iadd, 1) := by decide +kernel
theorem dL_law_469 : decode cL_law 469 = .ok (.iaload, 1) := by decide +kernel
theorem dL_law_470 : decode cL_law 470 = .ok (.invokevirtual 71, 3) := by decide +kernel
theorem dL_law_473 : decode cL_law 473 = .ok (.aload_n 2, 1) := by decide +kernel
theorem dL_law_474 : decode cL_law 474 = .ok (.aload_n 0, 1) := by decide +kernel
theorem dL_law_475 : decode cL_law 475 = .ok (.iload_n 3, 1) := by decide +kernel
theorem dL_law_476 : decode cL_law 476 = .ok (.iconst 1, 1) := by decide +kernel
theorem dL_law_477 : decode cL_law 477 = .ok (.iadd, 1) := by decide +kernel
theorem dL_law_478 : decode cL_law 478 = .ok (.iaload, 1) := by decide +kernel
theorem dL_law_479 : decode cL_law 479 = .ok (.invokevirtual 74, 3) := by decide +kernel
theorem dL_law_482 : decode cL_law 482 = .ok (.if_icmp .eq 210, 3) := by decide +kernel
theorem dL_law_485 : decode cL_law 485 = .ok (.iconst 0, 1) := by decide +kernel
theorem dL_law_486 : decode cL_law 486 = .ok (.ireturn, 1) := by decide +kernel
theorem dL_law_487 : decode cL_law 487 = .ok (.aload_n 1, 1) := by decide +kernel
theorem dL_law_488 : decode cL_law 488 = .ok (.invokevirtual 75, 3) := by decide +kernel
theorem dL_law_491 : decode cL_law 491 = .ok (.aload_n 2, 1) := by decide +kernel
theorem dL_law_492 : decode cL_law 492 = .ok (.invokevirtual 78, 3) := by decide +kernel
theorem dL_law_495 : decode cL_law 495 = .ok (.if_icmp .eq 197, 3) := by decide +kernel
theorem dL_law_498 : decode cL_law 498 = .ok (.iconst 0, 1) := by decide +kernel
theorem dL_law_499 : decode cL_law 499 = .ok (.ireturn, 1) := by decide +kernel
theorem dL_law_500 : decode cL_law 500 = .ok (.aload_n 1, 1) := by decide +kernel
theorem dL_law_501 : decode cL_law 501 = .ok (.aload_n 0, 1) := by decide +kernel
theorem dL_law_502 : decode cL_law 502 = .ok (.iload_n 3, 1) := by decide +kernel
theorem dL_law_503 : decode cL_law 503 = .ok (.iconst 1, 1) := by decide +kernel
theorem dL_law_504 : decode cL_law 504 = .ok (.iadd, 1) := by decide +kernel
theorem dL_law_505 : decode cL_law 505 = .ok (.iaload, 1) := by decide +kernel
theorem dL_law_506 : decode cL_law 506 = .ok (.invokevirtual 79, 3) := by decide +kernel
theorem dL_law_509 : decode cL_law 509 = .ok (.aload_n 2, 1) := by decide +kernel
theorem dL_law_510 : decode cL_law 510 = .ok (.aload_n 0, 1) := by decide +kernel
theorem dL_law_511 : decode cL_law 511 = .ok (.iload_n 3, 1) := by decide +kernel
theorem dL_law_512 : decode cL_law 512 = .ok (.iconst 1, 1) := by decide +kernel
theorem dL_law_513 : decode cL_law 513 = .ok (.iadd, 1) := by decide +kernel
theorem dL_law_514 : decode cL_law 514 = .ok (.iaload, 1) := by decide +kernel
theorem dL_law_515 : decode cL_law 515 = .ok (.invokevirtual 82, 3) := by decide +kernel
theorem dL_law_518 : decode cL_law 518 = .ok (.if_icmp .eq 174, 3) := by decide +kernel
theorem dL_law_521 : decode cL_law 521 = .ok (.iconst 0, 1) := by decide +kernel
theorem dL_law_522 : decode cL_law 522 = .ok (.ireturn, 1) := by decide +kernel
theorem dL_law_523 : decode cL_law 523 = .ok (.aload_n 1, 1) := by decide +kernel
theorem dL_law_524 : decode cL_law 524 = .ok (.aload_n 0, 1) := by decide +kernel
theorem dL_law_525 : decode cL_law 525 = .ok (.iload_n 3, 1) := by decide +kernel
theorem dL_law_526 : decode cL_law 526 = .ok (.iconst 1, 1) := by decide +kernel
theorem dL_law_527 : decode cL_law 527 = .ok (.iadd, 1) := by decide +kernel
theorem dL_law_528 : decode cL_law 528 = .ok (.iaload, 1) := by decide +kernel
theorem dL_law_529 : decode cL_law 529 = .ok (.aload_n 0, 1) := by decide +kernel
theorem dL_law_530 : decode cL_law 530 = .ok (.iload_n 3, 1) := by decide +kernel
theorem dL_law_531 : decode cL_law 531 = .ok (.iconst 2, 1) := by decide +kernel
theorem dL_law_532 : decode cL_law 532 = .ok (.iadd, 1) := by decide +kernel
theorem dL_law_533 : decode cL_law 533 = .ok (.iaload, 1) := by decide +kernel
theorem dL_law_534 : decode cL_law 534 = .ok (.invokevirtual 83, 3) := by decide +kernel
theorem dL_law_537 : decode cL_law 537 = .ok (.aload_n 2, 1) := by decide +kernel
theorem dL_law_538 : decode cL_law 538 = .ok (.aload_n 0, 1) := by decide +kernel
theorem dL_law_539 : decode cL_law 539 = .ok (.iload_n 3, 1) := by decide +kernel
theorem dL_law_540 : decode cL_law 540 = .ok (.iconst 1, 1) := by decide +kernel
theorem dL_law_541 : decode cL_law 541 = .ok (.iadd, 1) := by decide +kernel
theorem dL_law_542 : decode cL_law 542 = .ok (.iaload, 1) := by decide +kernel
theorem dL_law_543 : decode cL_law 543 = .ok (.aload_n 0, 1) := by decide +kernel
theorem dL_law_544 : decode cL_law 544 = .ok (.iload_n 3, 1) := by decide +kernel
theorem dL_law_545 : decode cL_law 545 = .ok (.iconst 2, 1) := by decide +kernel
theorem dL_law_546 : decode cL_law 546 = .ok (.iadd, 1) := by decide +kernel
theorem dL_law_547 : decode cL_law 547 = .ok (.iaload, 1) := by decide +kernel
theorem dL_law_548 : decode cL_law 548 = .ok (.invokevirtual 87, 3) := by decide +kernel
theorem dL_law_551 : decode cL_law 551 = .ok (.if_icmp .eq 141, 3) := by decide +kernel
theorem dL_law_554 : decode cL_law 554 = .ok (.iconst 0, 1) := by decide +kernel
theorem dL_law_555 : decode cL_law 555 = .ok (.ireturn, 1) := by decide +kernel
theorem dL_law_556 : decode cL_law 556 = .ok (.aload_n 1, 1) := by decide +kernel
theorem dL_law_557 : decode cL_law 557 = .ok (.aload_n 0, 1) := by decide +kernel
theorem dL_law_558 : decode cL_law 558 = .ok (.iload_n 3, 1) := by decide +kernel
theorem dL_law_559 : decode cL_law 559 = .ok (.iconst 1, 1) := by decide +kernel
theorem dL_law_560 : decode cL_law 560 = .ok (.iadd, 1) := by decide +kernel
theorem dL_law_561 : decode cL_law 561 = .ok (.iaload, 1) := by decide +kernel
theorem dL_law_562 : decode cL_law 562 = .ok (.aload_n 0, 1) := by decide +kernel
theorem dL_law_563 : decode cL_law 563 = .ok (.iload_n 3, 1) := by decide +kernel
theorem dL_law_564 : decode cL_law 564 = .ok (.iconst 2, 1) := by decide +kernel
theorem dL_law_565 : decode cL_law 565 = .ok (.iadd, 1) := by decide +kernel
theorem dL_law_566 : decode cL_law 566 = .ok (.iaload, 1) := by decide +kernel
theorem dL_law_567 : decode cL_law 567 = .ok (.invokevirtual 88, 3) := by decide +kernel
theorem dL_law_570 : decode cL_law 570 = .ok (.aload_n 2, 1) := by decide +kernel
theorem dL_law_571 : decode cL_law 571 = .ok (.aload_n 0, 1) := by decide +kernel
theorem dL_law_572 : decode cL_law 572 = .ok (.iload_n 3, 1) := by decide +kernel
theorem dL_law_573 : decode cL_law 573 = .ok (.iconst 1, 1) := by decide +kernel
theorem dL_law_574 : decode cL_law 574 = .ok (.iadd, 1) := by decide +kernel
theorem dL_law_575 : decode cL_law 575 = .ok (.iaload, 1) := by decide +kernel
theorem dL_law_576 : decode cL_law 576 = .ok (.aload_n 0, 1) := by decide +kernel
theorem dL_law_577 : decode cL_law 577 = .ok (.iload_n 3, 1) := by decide +kernel
theorem dL_law_578 : decode cL_law 578 = .ok (.iconst 2, 1) := by decide +kernel
theorem dL_law_579 : decode cL_law 579 = .ok (.iadd, 1) := by decide +kernel
theorem dL_law_580 : decode cL_law 580 = .ok (.iaload, 1) := by decide +kernel
theorem dL_law_581 : decode cL_law 581 = .ok (.invokevirtual 91, 3) := by decide +kernel
theorem dL_law_584 : decode cL_law 584 = .ok (.if_icmp .eq 108, 3) := by decide +kernel
theorem dL_law_587 : decode cL_law 587 = .ok (.iconst 0, 1) := by decide +kernel
theorem dL_law_588 : decode cL_law 588 = .ok (.ireturn, 1) := by decide +kernel
theorem dL_law_589 : decode cL_law 589 = .ok (.aload_n 1, 1) := by decide +kernel
theorem dL_law_590 : decode cL_law 590 = .ok (.aload_n 0, 1) := by decide +kernel
theorem dL_law_591 : decode cL_law 591 = .ok (.iload_n 3, 1) := by decide +kernel
theorem dL_law_592 : decode cL_law 592 = .ok (.iconst 1, 1) := by decide +kernel
theorem dL_law_593 : decode cL_law 593 = .ok (.iadd, 1) := by decide +kernel
theorem dL_law_594 : decode cL_law 594 = .ok (.iaload, 1) := by decide +kernel
theorem dL_law_595 : decode cL_law 595 = .ok (.aload_n 0, 1) := by decide +kernel
theorem dL_law_596 : decode cL_law 596 = .ok (.iload_n 3, 1) := by decide +kernel
theorem dL_law_597 : decode cL_law 597 = .ok (.iconst 2, 1) := by decide +kernel
theorem dL_law_598 : decode cL_law 598 = .ok (.iadd, 1) := by decide +kernel
theorem dL_law_599 : decode cL_law 599 = .ok (.iaload, 1) := by decide +kernel
theorem dL_law_600 : decode cL_law 600 = .ok (.aload_n 0, 1) := by decide +kernel
theorem dL_law_601 : decode cL_law 601 = .ok (.iload_n 3, 1) := by decide +kernel
theorem dL_law_602 : decode cL_law 602 = .ok (.iconst 3, 1) := by decide +kernel
theorem dL_law_603 : decode cL_law 603 = .ok (.iadd, 1) := by decide +kernel
theorem dL_law_604 : decode cL_law 604 = .ok (.iaload, 1) := by decide +kernel
theorem dL_law_605 : decode cL_law 605 = .ok (.invokevirtual 92, 3) := by decide +kernel
theorem dL_law_608 : decode cL_law 608 = .ok (.aload_n 2, 1) := by decide +kernel
theorem dL_law_609 : decode cL_law 609 = .ok (.aload_n 0, 1) := by decide +kernel
theorem dL_law_610 : decode cL_law 610 = .ok (.iload_n 3, 1) := by decide +kernel
theorem dL_law_611 : decode cL_law 611 = .ok (.iconst 1, 1) := by decide +kernel
theorem dL_law_612 : decode cL_law 612 = .ok (.iadd, 1) := by decide +kernel
theorem dL_law_613 : decode cL_law 613 = .ok (.iaload, 1) := by decide +kernel
theorem dL_law_614 : decode cL_law 614 = .ok (.aload_n 0, 1) := by decide +kernel
theorem dL_law_615 : decode cL_law 615 = .ok (.iload_n 3, 1) := by decide +kernel
theorem dL_law_616 : decode cL_law 616 = .ok (.iconst 2, 1) := by decide +kernel
theorem dL_law_617 : decode cL_law 617 = .ok (.iadd, 1) := by decide +kernel
theorem dL_law_618 : decode cL_law 618 = .ok (.iaload, 1) := by decide +kernel
theorem dL_law_619 : decode cL_law 619 = .ok (.aload_n 0, 1) := by decide +kernel
theorem dL_law_620 : decode cL_law 620 = .ok (.iload_n 3, 1) := by decide +kernel
theorem dL_law_621 : decode cL_law 621 = .ok (.iconst 3, 1) := by decide +kernel
theorem dL_law_622 : decode cL_law 622 = .ok (.iadd, 1) := by decide +kernel
theorem dL_law_623 : decode cL_law 623 = .ok (.iaload, 1) := by decide +kernel
theorem dL_law_624 : decode cL_law 624 = .ok (.invokevirtual 95, 3) := by decide +kernel
theorem dL_law_627 : decode cL_law 627 = .ok (.if_icmp .eq 65, 3) := by decide +kernel
theorem dL_law_630 : decode cL_law 630 = .ok (.iconst 0, 1) := by decide +kernel
theorem dL_law_631 : decode cL_law 631 = .ok (.ireturn, 1) := by decide +kernel
theorem dL_law_632 : decode cL_law 632 = .ok (.aload_n 1, 1) := by decide +kernel
theorem dL_law_633 : decode cL_law 633 = .ok (.aload_n 0, 1) := by decide +kernel
theorem dL_law_634 : decode cL_law 634 = .ok (.iload_n 3, 1) := by decide +kernel
theorem dL_law_635 : decode cL_law 635 = .ok (.iconst 1, 1) := by decide +kernel
theorem dL_law_636 : decode cL_law 636 = .ok (.iadd, 1) := by decide +kernel
theorem dL_law_637 : decode cL_law 637 = .ok (.iaload, 1) := by decide +kernel
theorem dL_law_638 : decode cL_law 638 = .ok (.invokevirtual 96, 3) := by decide +kernel
theorem dL_law_641 : decode cL_law 641 = .ok (.aload_n 2, 1) := by decide +kernel
theorem dL_law_642 : decode cL_law 642 = .ok (.aload_n 0, 1) := by decide +kernel
theorem dL_law_643 : decode cL_law 643 = .ok (.iload_n 3, 1) := by decide +kernel
theorem dL_law_644 : decode cL_law 644 = .ok (.iconst 1, 1) := by decide +kernel
theorem dL_law_645 : decode cL_law 645 = .ok (.iadd, 1) := by decide +kernel
theorem dL_law_646 : decode cL_law 646 = .ok (.iaload, 1) := by decide +kernel
theorem dL_law_647 : decode cL_law 647 = .ok (.invokevirtual 99, 3) := by decide +kernel
theorem dL_law_650 : decode cL_law 650 = .ok (.if_icmp .eq 42, 3) := by decide +kernel
theorem dL_law_653 : decode cL_law 653 = .ok (.iconst 0, 1) := by decide +kernel
theorem dL_law_654 : decode cL_law 654 = .ok (.ireturn, 1) := by decide +kernel
theorem dL_law_655 : decode cL_law 655 = .ok (.aload_n 1, 1) := by decide +kernel
theorem dL_law_656 : decode cL_law 656 = .ok (.aload_n 0, 1) := by decide +kernel
theorem dL_law_657 : decode cL_law 657 = .ok (.iload_n 3, 1) := by decide +kernel
theorem dL_law_658 : decode cL_law 658 = .ok (.iconst 1, 1) := by decide +kernel
theorem dL_law_659 : decode cL_law 659 = .ok (.iadd, 1) := by decide +kernel
theorem dL_law_660 : decode cL_law 660 = .ok (.iaload, 1) := by decide +kernel
theorem dL_law_661 : decode cL_law 661 = .ok (.invokevirtual 100, 3) := by decide +kernel
theorem dL_law_664 : decode cL_law 664 = .ok (.aload_n 2, 1) := by decide +kernel
theorem dL_law_665 : decode cL_law 665 = .ok (.aload_n 0, 1) := by decide +kernel
theorem dL_law_666 : decode cL_law 666 = .ok (.iload_n 3, 1) := by decide +kernel
theorem dL_law_667 : decode cL_law 667 = .ok (.iconst 1, 1) := by decide +kernel
theorem dL_law_668 : decode cL_law 668 = .ok (.iadd, 1) := by decide +kernel
theorem dL_law_669 : decode cL_law 669 = .ok (.iaload, 1) := by decide +kernel
theorem dL_law_670 : decode cL_law 670 = .ok (.invokevirtual 103, 3) := by decide +kernel
theorem dL_law_673 : decode cL_law 673 = .ok (.if_icmp .eq 19, 3) := by decide +kernel
theorem dL_law_676 : decode cL_law 676 = .ok (.iconst 0, 1) := by decide +kernel
theorem dL_law_677 : decode cL_law 677 = .ok (.ireturn, 1) := by decide +kernel
theorem dL_law_678 : decode cL_law 678 = .ok (.aload_n 1, 1) := by decide +kernel
theorem dL_law_679 : decode cL_law 679 = .ok (.invokevirtual 104, 3) := by decide +kernel
theorem dL_law_682 : decode cL_law 682 = .ok (.aload_n 2, 1) := by decide +kernel
theorem dL_law_683 : decode cL_law 683 = .ok (.invokevirtual 108, 3) := by decide +kernel
theorem dL_law_686 : decode cL_law 686 = .ok (.lcmp, 1) := by decide +kernel
theorem dL_law_687 : decode cL_law 687 = .ok (.ifCond .eq 5, 3) := by decide +kernel
theorem dL_law_690 : decode cL_law 690 = .ok (.iconst 0, 1) := by decide +kernel
theorem dL_law_691 : decode cL_law 691 = .ok (.ireturn, 1) := by decide +kernel
theorem dL_law_692 : decode cL_law 692 = .ok (.iinc 3 4, 3) := by decide +kernel
theorem dL_law_695 : decode cL_law 695 = .ok (.goto (-677), 3) := by decide +kernel
theorem dL_law_698 : decode cL_law 698 = .ok (.iconst 1, 1) := by decide +kernel
theorem dL_law_699 : decode cL_law 699 = .ok (.ireturn, 1) := by decide +kernel
abbrev vwCl : List vw_C := [(RX0, TX0, 6), (RX1, TX1, 0), (RX2, TX2, 3), (RX3, TX3, 9), (RX4, TX4, 4), (RX6, TX6, 8), (RX7, TX7, 0), (RX8, TX8, 4), (RX9, TX9, 1), (RX10, TX10, 0), (RX11, TX11, 8), (RX12, TX12, 21)]
end
section
/-! the store, the context, the judgement V: "the machine, at this pc with these locals, this stack and this store, comes to Q" -/
def iZ (z : Int) : Int32 := Int32.ofInt z
def lZ (z : Int) : Int64 := Int64.ofInt z
def zR (a : Int) : Prop := -2147483648 ≤ a ∧ a ≤ 2147483647
theorem iZ_add (a b : Int) : iZ a + iZ b = iZ (a + b) := (Int32.ofInt_add a b).symm
theorem iZ_sub (a b : Int) : iZ a - iZ b = iZ (a - b) := (Int32.ofInt_sub a b).symm
theorem iZ_mul (a b : Int) : iZ a * iZ b = iZ (a * b) := (Int32.ofInt_mul a b).symm
theorem iZ_neg (a : Int) : -iZ a = iZ (-a) := (Int32.ofInt_neg a).symm
theorem lZ_add (a b : Int) : lZ a + lZ b = lZ (a + b) := (Int64.ofInt_add a b).symm
theorem lZ_mul (a b : Int) : lZ a * lZ b = lZ (a * b) := (Int64.ofInt_mul a b).symm
theorem iZ_toInt {a : Int} (h : zR a) : (iZ a).toInt = a := Int32.toInt_ofInt_of_le (by have := h.1; simpa using this) (by have := h.2; omega)
theorem iZ_of (x : Int32) : x = iZ x.toInt := (Int32.ofInt_toInt x).symm
theorem zR_of (x : Int32) : zR x.toInt := ⟨Int32.le_toInt x, by have := Int32.toInt_lt x; omega⟩
theorem iZ_lt {a b : Int} (ha : zR a) (hb : zR b) : iZ a < iZ b ↔ a < b := by rw [Int32.lt_iff_toInt_lt, iZ_toInt ha, iZ_toInt hb]
theorem iZ_le {a b : Int} (ha : zR a) (hb : zR b) : iZ a ≤ iZ b ↔ a ≤ b := by rw [Int32.le_iff_toInt_le, iZ_toInt ha, iZ_toInt hb]
theorem iZ_inj {a b : Int} (ha : zR a) (hb : zR b) : iZ a = iZ b ↔ a = b := ⟨fun h => by rw [← iZ_toInt ha, ← iZ_toInt hb, h], fun h => by rw [h]⟩
theorem iZ_clamp {i : Int} (h0 : 0 ≤ i) (h1 : i ≤ 2147483647) : (iZ i).toNatClampNeg = i.toNat := by
  have e : (iZ i).toInt = i := iZ_toInt ⟨by omega, h1⟩
  show (iZ i).toInt.toNat = i.toNat
  rw [e]
theorem iZ_in {i : Int} {n : Nat} (h0 : 0 ≤ i) (h1 : i < n) (hn : n ≤ 2147483647) : vp_in (iZ i) n := by
  rintro (h | h)
  · rw [Int32.lt_iff_toInt_lt, iZ_toInt ⟨by omega, by omega⟩] at h
    simp at h
    omega
  · rw [iZ_clamp h0 (by omega)] at h
    omega
theorem iZ_nn {i : Int} (h0 : 0 ≤ i) (h1 : i ≤ 2147483647) : ¬ iZ i < 0 := by
  intro h
  rw [Int32.lt_iff_toInt_lt, iZ_toInt ⟨by omega, h1⟩] at h
  simp at h
  omega
theorem iZ_0 : iZ 0 = 0 := by decide
/-- stores -/
abbrev St : Type := Nat × (Nat → Option va_E)
def sUp (σ : St) (a : Nat) (e : va_E) : St := (σ.1, fun x => if x = a then some e else σ.2 x)
def sNew (σ : St) (e : va_E) : St := (σ.1 + 1, fun x => if x = σ.1 then some e else σ.2 x)
theorem sUp_1 (σ : St) (a : Nat) (e : va_E) : (sUp σ a e).1 = σ.1 := rfl
theorem sNew_1 (σ : St) (e : va_E) : (sNew σ e).1 = σ.1 + 1 := rfl
theorem sUp_same {σ : St} {a : Nat} {e : va_E} : (sUp σ a e).2 a = some e := if_pos rfl
theorem sUp_ne {σ : St} {a b : Nat} {e : va_E} {x : Option va_E} (h : b ≠ a) (hb : σ.2 b = x) : (sUp σ a e).2 b = x := (if_neg h).trans hb
theorem sNew_same {σ : St} {e : va_E} : (sNew σ e).2 σ.1 = some e := if_pos rfl
theorem sNew_ne {σ : St} {b : Nat} {e : va_E} {x : Option va_E} (h : b ≠ σ.1) (hb : σ.2 b = x) : (sNew σ e).2 b = x := (if_neg h).trans hb
/-- context: class numbers; the base; the script (address, length, ints); the address of PLACES; the array classes int, byte, Liar, HeapTable, SpanTable -/
abbrev Cx : Type := va_G × Nat × (Nat × Nat × (Nat → Int)) × Nat × (ClassId × ClassId × ClassId × ClassId × ClassId)
def cD (k : Cx) : va_G := k.1
def cBase (k : Cx) : Nat := k.2.1
def cScr (k : Cx) : Nat := k.2.2.1.1
def cLen (k : Cx) : Nat := k.2.2.1.2.1
def cXs (k : Cx) : Nat → Int := k.2.2.1.2.2
def cPl (k : Cx) : Nat := k.2.2.2.1
def cI (k : Cx) : ClassId := k.2.2.2.2.1
def cB (k : Cx) : ClassId := k.2.2.2.2.2.1
def cQL (k : Cx) : ClassId := k.2.2.2.2.2.2.1
def cQH (k : Cx) : ClassId := k.2.2.2.2.2.2.2.1
def cQS (k : Cx) : ClassId := k.2.2.2.2.2.2.2.2
def cTys (k : Cx) : List (ClassId × FieldType) := [(cI k, .int), (cB k, .byte), (cQL k, .object "LiarsAnswers$Liar"), (cQH k, .object "LiarsAnswers$HeapTable"), (cQS k, .object "LiarsAnswers$SpanTable")]
def cA (k : Cx) : Nat → Prop := fun q => cBase k ≤ q
/-- cells -/
abbrev eO (ci : Nat) (fs : List Value) : va_E := .inr (ci, fs)
def eI (k : Cx) (n : Nat) (f : Nat → Int) : va_E := .inl (cI k, n, .inl (fun j => iZ (f j)))
def eB (k : Cx) (n : Nat) (f : Nat → Int) : va_E := .inl (cB k, n, .inl (fun j => iZ (f j)))
def eQ (c : ClassId) (n : Nat) (f : Nat → Option Nat) : va_E := .inl (c, n, .inr (.inr (.inr (.inr f))))
def uZ (f : Nat → Int) (i : Nat) (x : Int) : Nat → Int := fun j => if j = i then x else f j
def uQ (f : Nat → Option Nat) (i : Nat) (x : Nat) : Nat → Option Nat := fun j => if j = i then some x else f j
def plL : List Int := [0, 1, 2, 3, 4, 5, 6, 7, 8, 9, 10, 11, 12, 13, 14, 15, 16, 0, 16, 31, 45, 58, 70, 81, 91, 100, 108, 115, 121, 126, 130, 133, 135, 136, 0, 136, 256, 361, 452, 530, 596, 651, 696, 732, 760, 781, 796, 806, 812, 815, 816, 0, 816, 1496, 2056, 2511, 2875, 3161, 3381, 3546, 3666, 3750, 3806, 3841, 3861, 3871, 3875, 3876]
def plF (j : Nat) : Int := plL.getD j 0
/-- the heap holds the store -/
def Rep (k : Cx) (σ : St) (H : Heap) : Prop := H.size = σ.1 ∧ ∀ (a : Nat) (e : va_E), σ.2 a = some e → va_at (cD k) vwCl (a, e) H ∧ cBase k ≤ a
/-- words that hold at a warmer state too, though they are no good words -/
def isNw : Cond → Bool
  | .methodLinkNest _ _ _ _ => true
  | .castable _ _ => true
  | .declares _ => true
  | .arrayOver (.object _) => true
  | _ => false
theorem nw_warm {s U : State} (hW : s.WarmedH U.vm) {w : Cond} (h : isNw w = true) (hZ : va_Nw w s) : va_Nw w U := by
  unfold isNw at h
  split at h
  · exact va_Nw.warmM hW hZ
  · exact va_Nw.warmC hW hZ
  · exact va_Nw.warmD hW hZ
  · exact va_AO.moved hW.alike hZ
  · cases h
/-- what was there before: the tables, the script, PLACES -/
def Old (k : Cx) (U : State) : Prop := va_K (cD k) vwCl (cTys k) U ∧ cBase k ≤ U.heap.size ∧ va_X (cScr k) (cLen k) (fun j => iZ (cXs k j)) U U.heap ∧ cScr k < cBase k ∧ va_Z "LiarsAnswers" "PLACES" "[I" (.ref (cPl k)) (cA k) U U.heap ∧ va_T .int (cPl k) 68 (fun j => .int (iZ (plF j))) (cA k) U U.heap ∧ ∀ w ∈ lw_tbl, isNw w = true → va_Nw w U
theorem Old.moved {k : Cx} {u U : State} (hW : u.WarmedH U.vm) (hz : u.heap.size ≤ U.heap.size) (hq : ∀ q : Nat, q < u.heap.size → ¬ cA k q → U.heap[q]? = u.heap[q]?) (h : Old k u) : Old k U := by
  have hvm := hW.alike
  obtain ⟨h1, h2, h3, h4, h5, h6, h7⟩ := h
  refine ⟨va_K.moved hvm h1, Nat.le_trans h2 hz, ?_, h4, ?_, ?_, fun w hw hn => nw_warm hW hn (h7 w hw hn)⟩
  · exact (va_X.moved hvm h3).kept (hq _ (Nat.lt_of_lt_of_le h4 h2) (Nat.not_le.mpr h4))
  · exact (va_Z.moved hvm h5).kept hq
  · exact (va_T.moved hvm h6).kept hq
/-- the machine at a method: program, launch, environment, room, entry state, method, arguments, frames below, method, code -/
abbrev Kx : Type := Program × Launch × Env × Room × State × MethodId × Array Value × List Frame × Method × Code
def lvl : Nat → List (Option Value) → List (Nat × Value)
  | _, [] => []
  | i, none :: r => lvl (i + 1) r
  | i, some v :: r => (i, v) :: lvl (i + 1) r
def V (κ : Kx) (k : Cx) (nL cs ss : Nat) (Q : State → Prop) (pc : Nat) (lv : List (Option Value)) (st : List Value) (σ : St) : Prop :=
  ∀ (H : Heap) (locs : List Loc) (ls : Array Slot), Rep k σ H → va_S (cA k) κ.2.2.2.2.1.heap H locs → lv_has ls nL (lvl 0 lv) →
    W κ.1 κ.2.1 κ.2.2.1 κ.2.2.2.1 κ.2.2.2.2.1 κ.2.2.2.2.2.1 κ.2.2.2.2.2.2.1 κ.2.2.2.2.2.2.2.1 κ.2.2.2.2.2.2.2.2.1 κ.2.2.2.2.2.2.2.2.2 H locs cs ss Q (F0 κ.2.2.2.2.2.1 pc ls st)
/-- the words: those of the tables that hold at every warmer state, and two that follow (a private method of HeapWalk, called on its subclasses) -/
def gtX : List Cond := [.selects RX0 yX5_down yX5_down, .selects RX6 yX5_down yX5_down]
def gt : List Cond := gtX ++ lw_tbl.filter goodWord
theorem gt_of {w : Cond} (h : w ∈ lw_tbl) (hg : goodWord w = true) : w ∈ gt := List.mem_append_right _ (List.mem_filter.mpr ⟨h, hg⟩)
theorem gtx_0 : Cond.selects RX0 yX5_down yX5_down ∈ gt := List.mem_append_left _ List.mem_cons_self
theorem gtx_5 : Cond.selects RX6 yX5_down yX5_down ∈ gt := List.mem_append_left _ (List.mem_cons_of_mem _ List.mem_cons_self)
theorem gt_word {w : Cond} (h : w ∈ gt) : goodWord w = true := by
  rcases List.mem_append.mp h with e | e
  · revert w
    decide +kernel
  · exact (List.mem_filter.mp e).2
def Ok (κ : Kx) (k : Cx) (cc : ByteArray) (nL : Nat) (own : String) (ret : Option FieldType) (nm : String) (h MC MS : Nat) : Prop :=
  CallFix κ.1 κ.2.2.2.2.2.1 κ.2.2.2.2.2.2.2.2.2 cc nL κ.2.2.2.2.1 κ.2.2.2.2.2.2.1 gt own ∧ Old k κ.2.2.2.2.1 ∧ κ.2.2.2.2.2.2.2.2.1.locks = false ∧ κ.2.2.2.2.2.2.2.2.1.sig.returnType = ret ∧ κ.2.2.2.2.2.2.2.2.1.name = nm ∧
    h ≤ κ.2.2.2.1.frames ∧ 40 * h ≤ κ.2.2.2.1.locals ∧ κ.2.2.2.1.cells = MC ∧ κ.2.2.2.1.slots = MS
theorem lvl_mem {i j : Nat} {v : Value} : ∀ {lv : List (Option Value)}, (j, v) ∈ lvl i lv ↔ ∃ n, lv[n]? = some (some v) ∧ j = i + n := by
  intro lv
  induction lv generalizing i with
  | nil => simp [lvl]
  | cons a r ih =>
    cases a with
    | none =>
      rw [lvl, ih]
      constructor
      · rintro ⟨n, h, e⟩
        exact ⟨n + 1, by simpa using h, by omega⟩
      · rintro ⟨n, h, e⟩
        cases n with
        | zero => simp at h
        | succ n => exact ⟨n, by simpa using h, by omega⟩
    | some w =>
      rw [lvl, List.mem_cons, ih]
      constructor
      · rintro (h | ⟨n, h, e⟩)
        · cases h
          exact ⟨0, by simp, by omega⟩
        · exact ⟨n + 1, by simpa using h, by omega⟩
      · rintro ⟨n, h, e⟩
        cases n with
        | zero =>
          simp at h
          subst h
          left
          rw [e]; rfl
        | succ n => exact Or.inr ⟨n, by simpa using h, by omega⟩
theorem lvl_at {ls : Array Slot} {nL : Nat} {lv : List (Option Value)} (h : lv_has ls nL (lvl 0 lv)) {i : Nat} {v : Value} (hv : lv[i]? = some (some v)) : ls[i]? = some (.val v) :=
  h.2.2 (i, v) (lvl_mem.mpr ⟨i, hv, by omega⟩)
theorem lvl_sub {ls : Array Slot} {nL : Nat} {l l' : List (Nat × Value)} (h : lv_has ls nL l) (hs : ∀ q ∈ l', q ∈ l) : lv_has ls nL l' := ⟨h.1, h.2.1, fun q hq => h.2.2 q (hs q hq)⟩
/-- no long stands just before slot i -/
def noL (lv : List (Option Value)) (i : Nat) : Bool := match i with
  | 0 => true
  | j + 1 => match lv[j]? with
    | some (some v) => v.category == 1
    | _ => true
theorem lvl_set1 {lv : List (Option Value)} {i : Nat} {v : Value} (hp : noL lv i = true) : ∀ q ∈ lvl 0 (lv.set i (some v)), q ∈ (i, v) :: (lvl 0 lv).filter (fun q => !(q.1 == i) && !(q.1 + 1 == i && q.2.category == 2)) := by
  rintro ⟨j, w⟩ hq
  obtain ⟨n, h, e⟩ := lvl_mem.mp hq
  have e : j = n := by omega
  subst e
  by_cases hj : i = j
  · subst hj
    rw [List.getElem?_set_self'] at h
    cases hx : lv[i]? with
    | none => rw [hx] at h; cases h
    | some y =>
      rw [hx] at h
      simp at h
      rw [h]
      exact List.mem_cons_self
  · rw [List.getElem?_set_ne hj] at h
    refine List.mem_cons_of_mem _ (List.mem_filter.mpr ⟨lvl_mem.mpr ⟨j, h, by omega⟩, ?_⟩)
    simp only [Bool.and_eq_true, Bool.not_eq_true', beq_eq_false_iff_ne, ne_eq, Bool.and_eq_false_iff]
    refine ⟨fun z => hj z.symm, ?_⟩
    by_cases h1 : j + 1 = i
    · right
      subst h1
      simp only [noL, h] at hp
      intro h2
      rw [h2] at hp
      exact absurd hp (by decide)
    · exact Or.inl h1
theorem lvl_set2 {lv : List (Option Value)} {i : Nat} {v : Value} (hp : noL lv i = true) : ∀ q ∈ lvl 0 ((lv.set i (some v)).set (i + 1) none), q ∈ (i, v) :: (lvl 0 lv).filter (fun q => !(q.1 == i) && (!(q.1 == i + 1) && !(q.1 + 1 == i && q.2.category == 2))) := by
  rintro ⟨j, w⟩ hq
  obtain ⟨n, h, e⟩ := lvl_mem.mp hq
  have e : j = n := by omega
  subst e
  by_cases hk : i + 1 = j
  · subst hk
    rw [List.getElem?_set_self'] at h
    cases hx : (lv.set i (some v))[i + 1]? with
    | none => rw [hx] at h; cases h
    | some y => rw [hx] at h; simp at h
  rw [List.getElem?_set_ne hk] at h
  by_cases hj : i = j
  · subst hj
    rw [List.getElem?_set_self'] at h
    cases hx : lv[i]? with
    | none => rw [hx] at h; cases h
    | some y =>
      rw [hx] at h
      simp at h
      rw [h]
      exact List.mem_cons_self
  · rw [List.getElem?_set_ne hj] at h
    refine List.mem_cons_of_mem _ (List.mem_filter.mpr ⟨lvl_mem.mpr ⟨j, h, by omega⟩, ?_⟩)
    simp only [Bool.and_eq_true, Bool.not_eq_true', beq_eq_false_iff_ne, ne_eq, Bool.and_eq_false_iff]
    refine ⟨fun z => hj z.symm, fun z => hk z.symm, ?_⟩
    by_cases h1 : j + 1 = i
    · right
      subst h1
      simp only [noL, h] at hp
      intro h2
      rw [h2] at hp
      exact absurd hp (by decide)
    · exact Or.inl h1
section VROWS
variable {κ : Kx} {k : Cx} {cc : ByteArray} {nL : Nat} {own : String} {ret : Option FieldType} {nm : String} {h MC MS : Nat} {cs ss : Nat} {Q : State → Prop} {pc : Nat} {lv lv' : List (Option Value)} {st : List Value} {σ : St}
/-- fewer known locals -/
def subL : List (Option Value) → List (Option Value) → Prop
  | [], _ => True
  | none :: a, _ :: b => subL a b
  | some x :: a, some y :: b => x = y ∧ subL a b
  | _, _ => False
theorem subL_mem {i : Nat} {q : Nat × Value} : ∀ {a b : List (Option Value)}, subL a b → q ∈ lvl i a → q ∈ lvl i b := by
  intro a
  induction a generalizing i with
  | nil => intro b _ h; cases h
  | cons x r ih =>
    intro b hs hq
    cases b with
    | nil => cases x <;> exact absurd hs (by simp [subL])
    | cons y t =>
      cases x with
      | none =>
        have h1 := ih (i := i + 1) (by simpa [subL] using hs) (by simpa [lvl] using hq)
        cases y with
        | none => simpa [lvl] using h1
        | some z => rw [lvl]; exact List.mem_cons_of_mem _ h1
      | some w =>
        cases y with
        | none => exact absurd hs (by simp [subL])
        | some z =>
          simp only [subL] at hs
          rw [lvl] at hq ⊢
          rcases List.mem_cons.mp hq with e | e
          · rw [e, hs.1]; exact List.mem_cons_self
          · exact List.mem_cons_of_mem _ (ih hs.2 e)
theorem V.less (hs : subL lv' lv) (kk : V κ k nL cs ss Q pc lv' st σ) : V κ k nL cs ss Q pc lv st σ := fun H locs ls hR hS hl => kk H locs ls hR hS (lvl_sub hl fun _ hq => subL_mem hs hq)
theorem V.wide {cs' ss' : Nat} (h1 : cs ≤ cs') (h2 : ss ≤ ss') (kk : V κ k nL cs' ss' Q pc lv st σ) : V κ k nL cs ss Q pc lv st σ := fun H locs ls hR hS hl => W.widen h1 h2 (kk H locs ls hR hS hl)
theorem V.at {pc' : Nat} (e : pc' = pc) (kk : V κ k nL cs ss Q pc' lv st σ) : V κ k nL cs ss Q pc lv st σ := e ▸ kk
-- ROWS
theorem r_iconst (S : Ok κ k cc nL own ret nm h MC MS) {n : Int} (d : decode cc pc = .ok (.iconst n, 1)) (kk : V κ k nL cs ss Q (pc + 1) lv (.int (iZ n) :: st) σ) : V κ k nL cs ss Q pc lv st σ := fun H locs ls hR hS hl => lv_iconst S.1.1 S.1.2.1 d rfl (kk H locs ls hR hS hl)
theorem r_bipush (S : Ok κ k cc nL own ret nm h MC MS) {n : Int} (d : decode cc pc = .ok (.bipush n, 2)) (hv : (Int8.ofInt n).toInt32 = iZ n) (kk : V κ k nL cs ss Q (pc + 2) lv (.int (iZ n) :: st) σ) : V κ k nL cs ss Q pc lv st σ := fun H locs ls hR hS hl => lv_bipush S.1.1 S.1.2.1 d hv (kk H locs ls hR hS hl)
theorem r_sipush (S : Ok κ k cc nL own ret nm h MC MS) {n : Int} (d : decode cc pc = .ok (.sipush n, 3)) (hv : (Int16.ofInt n).toInt32 = iZ n) (kk : V κ k nL cs ss Q (pc + 3) lv (.int (iZ n) :: st) σ) : V κ k nL cs ss Q pc lv st σ := fun H locs ls hR hS hl => lv_sipush S.1.1 S.1.2.1 d hv (kk H locs ls hR hS hl)
theorem r_ldc (S : Ok κ k cc nL own ret nm h MC MS) {i : Nat} {n : Int} (hw : Cond.constant own i (iZ n) ∈ gt) (d : decode cc pc = .ok (.ldc i, 2)) (kk : V κ k nL cs ss Q (pc + 2) lv (.int (iZ n) :: st) σ) : V κ k nL cs ss Q pc lv st σ := fun H locs ls hR hS hl => lv_ldc S.1.1 S.1.2.1 S.1.2.2.2.1 (S.1.2.2.2.2 _ hw) d (kk H locs ls hR hS hl)
theorem r_ldcw (S : Ok κ k cc nL own ret nm h MC MS) {i : Nat} {n : Int} (hw : Cond.constant own i (iZ n) ∈ gt) (d : decode cc pc = .ok (.ldc_w i, 3)) (kk : V κ k nL cs ss Q (pc + 3) lv (.int (iZ n) :: st) σ) : V κ k nL cs ss Q pc lv st σ := fun H locs ls hR hS hl => lv_ldcw S.1.1 S.1.2.1 S.1.2.2.2.1 (S.1.2.2.2.2 _ hw) d (kk H locs ls hR hS hl)
theorem r_lconst (S : Ok κ k cc nL own ret nm h MC MS) {n : Fin 2} {z : Int} (d : decode cc pc = .ok (.lconst n, 1)) (hv : Int64.ofNat (n : Nat) = lZ z) (kk : V κ k nL cs ss Q (pc + 1) lv (.long (lZ z) :: st) σ) : V κ k nL cs ss Q pc lv st σ := fun H locs ls hR hS hl => lv_lconst S.1.1 S.1.2.1 d hv (kk H locs ls hR hS hl)
theorem r_ldc2 (S : Ok κ k cc nL own ret nm h MC MS) {i : Nat} {n : Int} (hw : Cond.constantLong own i (lZ n) ∈ gt) (d : decode cc pc = .ok (.ldc2_w i, 3)) (kk : V κ k nL cs ss Q (pc + 3) lv (.long (lZ n) :: st) σ) : V κ k nL cs ss Q pc lv st σ := fun H locs ls hR hS hl => lv_ldc2 S.1.1 S.1.2.1 S.1.2.2.2.1 (S.1.2.2.2.2 _ hw) d (kk H locs ls hR hS hl)
theorem r_iload_n (S : Ok κ k cc nL own ret nm h MC MS) {j : Fin 4} {x : Int32} (d : decode cc pc = .ok (.iload_n j, 1)) (hv : lv[(j : Nat)]? = some (some (.int x))) (kk : V κ k nL cs ss Q (pc + 1) lv (.int x :: st) σ) : V κ k nL cs ss Q pc lv st σ := fun H locs ls hR hS hl => lv_iload_n S.1.1 S.1.2.1 d rfl (lvl_at hl hv) (kk H locs ls hR hS hl)
theorem r_iload (S : Ok κ k cc nL own ret nm h MC MS) {i : Nat} {x : Int32} (d : decode cc pc = .ok (.iload i, 2)) (hv : lv[i]? = some (some (.int x))) (kk : V κ k nL cs ss Q (pc + 2) lv (.int x :: st) σ) : V κ k nL cs ss Q pc lv st σ := fun H locs ls hR hS hl => lv_iload S.1.1 S.1.2.1 d (lvl_at hl hv) (kk H locs ls hR hS hl)
theorem r_lload_n (S : Ok κ k cc nL own ret nm h MC MS) {j : Fin 4} {x : Int64} (d : decode cc pc = .ok (.lload_n j, 1)) (hv : lv[(j : Nat)]? = some (some (.long x))) (kk : V κ k nL cs ss Q (pc + 1) lv (.long x :: st) σ) : V κ k nL cs ss Q pc lv st σ := fun H locs ls hR hS hl => lv_lload_n S.1.1 S.1.2.1 d rfl (lvl_at hl hv) (kk H locs ls hR hS hl)
theorem r_lload (S : Ok κ k cc nL own ret nm h MC MS) {i : Nat} {x : Int64} (d : decode cc pc = .ok (.lload i, 2)) (hv : lv[i]? = some (some (.long x))) (kk : V κ k nL cs ss Q (pc + 2) lv (.long x :: st) σ) : V κ k nL cs ss Q pc lv st σ := fun H locs ls hR hS hl => lv_lload S.1.1 S.1.2.1 d (lvl_at hl hv) (kk H locs ls hR hS hl)
theorem r_aload_n (S : Ok κ k cc nL own ret nm h MC MS) {j : Fin 4} {x : Nat} (d : decode cc pc = .ok (.aload_n j, 1)) (hv : lv[(j : Nat)]? = some (some (.ref x))) (kk : V κ k nL cs ss Q (pc + 1) lv (.ref x :: st) σ) : V κ k nL cs ss Q pc lv st σ := fun H locs ls hR hS hl => lv_aload_n S.1.1 S.1.2.1 d rfl (lvl_at hl hv) (kk H locs ls hR hS hl)
theorem r_aload (S : Ok κ k cc nL own ret nm h MC MS) {i : Nat} {x : Nat} (d : decode cc pc = .ok (.aload i, 2)) (hv : lv[i]? = some (some (.ref x))) (kk : V κ k nL cs ss Q (pc + 2) lv (.ref x :: st) σ) : V κ k nL cs ss Q pc lv st σ := fun H locs ls hR hS hl => lv_aload S.1.1 S.1.2.1 d (lvl_at hl hv) (kk H locs ls hR hS hl)
theorem r_istore_n (S : Ok κ k cc nL own ret nm h MC MS) {j : Fin 4} {x : Int32} (d : decode cc pc = .ok (.istore_n j, 1)) (hp : noL lv (j : Nat) = true) (hn : (j : Nat) < nL) (hv : lv.set (j : Nat) (some (.int x)) = lv') (kk : V κ k nL cs ss Q (pc + 1) lv' st σ) : V κ k nL cs ss Q pc lv (.int x :: st) σ := fun H locs ls hR hS hl => lv_istore_n S.1.1 S.1.2.1 d rfl hl hn rfl (fun ls' hl' => kk H locs ls' hR hS (by subst hv; exact lvl_sub hl' (lvl_set1 hp)))
theorem r_istore (S : Ok κ k cc nL own ret nm h MC MS) {i : Nat} {x : Int32} (d : decode cc pc = .ok (.istore i, 2)) (hp : noL lv i = true) (hn : i < nL) (hv : lv.set i (some (.int x)) = lv') (kk : V κ k nL cs ss Q (pc + 2) lv' st σ) : V κ k nL cs ss Q pc lv (.int x :: st) σ := fun H locs ls hR hS hl => lv_istore S.1.1 S.1.2.1 d hl hn rfl (fun ls' hl' => kk H locs ls' hR hS (by subst hv; exact lvl_sub hl' (lvl_set1 hp)))
theorem r_astore_n (S : Ok κ k cc nL own ret nm h MC MS) {j : Fin 4} {x : Nat} (d : decode cc pc = .ok (.astore_n j, 1)) (hp : noL lv (j : Nat) = true) (hn : (j : Nat) < nL) (hv : lv.set (j : Nat) (some (.ref x)) = lv') (kk : V κ k nL cs ss Q (pc + 1) lv' st σ) : V κ k nL cs ss Q pc lv (.ref x :: st) σ := fun H locs ls hR hS hl => lv_astore_n S.1.1 S.1.2.1 d rfl hl hn rfl (fun ls' hl' => kk H locs ls' hR hS (by subst hv; exact lvl_sub hl' (lvl_set1 hp)))
theorem r_astore (S : Ok κ k cc nL own ret nm h MC MS) {i : Nat} {x : Nat} (d : decode cc pc = .ok (.astore i, 2)) (hp : noL lv i = true) (hn : i < nL) (hv : lv.set i (some (.ref x)) = lv') (kk : V κ k nL cs ss Q (pc + 2) lv' st σ) : V κ k nL cs ss Q pc lv (.ref x :: st) σ := fun H locs ls hR hS hl => lv_astore S.1.1 S.1.2.1 d hl hn rfl (fun ls' hl' => kk H locs ls' hR hS (by subst hv; exact lvl_sub hl' (lvl_set1 hp)))
theorem r_lstore_n (S : Ok κ k cc nL own ret nm h MC MS) {j : Fin 4} {x : Int64} (d : decode cc pc = .ok (.lstore_n j, 1)) (hp : noL lv (j : Nat) = true) (hn : (j : Nat) + 1 < nL) (hv : (lv.set (j : Nat) (some (.long x))).set ((j : Nat) + 1) none = lv') (kk : V κ k nL cs ss Q (pc + 1) lv' st σ) : V κ k nL cs ss Q pc lv (.long x :: st) σ := fun H locs ls hR hS hl => lv_lstore_n S.1.1 S.1.2.1 d rfl hl hn rfl (fun ls' hl' => kk H locs ls' hR hS (by subst hv; exact lvl_sub hl' (lvl_set2 hp)))
theorem r_lstore (S : Ok κ k cc nL own ret nm h MC MS) {i : Nat} {x : Int64} (d : decode cc pc = .ok (.lstore i, 2)) (hp : noL lv i = true) (hn : i + 1 < nL) (hv : (lv.set i (some (.long x))).set (i + 1) none = lv') (kk : V κ k nL cs ss Q (pc + 2) lv' st σ) : V κ k nL cs ss Q pc lv (.long x :: st) σ := fun H locs ls hR hS hl => lv_lstore S.1.1 S.1.2.1 d hl hn rfl (fun ls' hl' => kk H locs ls' hR hS (by subst hv; exact lvl_sub hl' (lvl_set2 hp)))
theorem r_iinc (S : Ok κ k cc nL own ret nm h MC MS) {i : Nat} {n : Int} {x : Int} (d : decode cc pc = .ok (.iinc i n, 3)) (hx : lv[i]? = some (some (.int (iZ x)))) (hp : noL lv i = true) (hn : i < nL) (hv : lv.set i (some (.int (iZ (x + n)))) = lv') (kk : V κ k nL cs ss Q (pc + 3) lv' st σ) : V κ k nL cs ss Q pc lv st σ := fun H locs ls hR hS hl => by
  obtain ⟨q, hq⟩ := List.getElem?_of_mem (lvl_mem.mpr ⟨i, hx, (by omega : i = 0 + i)⟩)
  exact lv_iinc S.1.1 S.1.2.1 d hl hq (iZ_add x n) hn rfl (fun ls' hl' => kk H locs ls' hR hS (by subst hv; exact lvl_sub hl' (lvl_set1 hp)))
theorem r_iadd (S : Ok κ k cc nL own ret nm h MC MS) {a b : Int} (d : decode cc pc = .ok (.iadd, 1)) (kk : V κ k nL cs ss Q (pc + 1) lv (.int (iZ (a + b)) :: st) σ) : V κ k nL cs ss Q pc lv (.int (iZ b) :: .int (iZ a) :: st) σ := fun H locs ls hR hS hl => lv_iadd S.1.1 S.1.2.1 d (iZ_add a b ▸ kk H locs ls hR hS hl)
theorem r_isub (S : Ok κ k cc nL own ret nm h MC MS) {a b : Int} (d : decode cc pc = .ok (.isub, 1)) (kk : V κ k nL cs ss Q (pc + 1) lv (.int (iZ (a - b)) :: st) σ) : V κ k nL cs ss Q pc lv (.int (iZ b) :: .int (iZ a) :: st) σ := fun H locs ls hR hS hl => lv_isub S.1.1 S.1.2.1 d (iZ_sub a b ▸ kk H locs ls hR hS hl)
theorem r_imul (S : Ok κ k cc nL own ret nm h MC MS) {a b : Int} (d : decode cc pc = .ok (.imul, 1)) (kk : V κ k nL cs ss Q (pc + 1) lv (.int (iZ (a * b)) :: st) σ) : V κ k nL cs ss Q pc lv (.int (iZ b) :: .int (iZ a) :: st) σ := fun H locs ls hR hS hl => lv_imul S.1.1 S.1.2.1 d (iZ_mul a b ▸ kk H locs ls hR hS hl)
theorem r_ineg (S : Ok κ k cc nL own ret nm h MC MS) {a : Int} (d : decode cc pc = .ok (.ineg, 1)) (kk : V κ k nL cs ss Q (pc + 1) lv (.int (iZ (-a)) :: st) σ) : V κ k nL cs ss Q pc lv (.int (iZ a) :: st) σ := fun H locs ls hR hS hl => lv_ineg S.1.1 S.1.2.1 d (iZ_neg a ▸ kk H locs ls hR hS hl)
theorem r_iand (S : Ok κ k cc nL own ret nm h MC MS) {x y v : Int32} (d : decode cc pc = .ok (.iand, 1)) (hv : x &&& y = v) (kk : V κ k nL cs ss Q (pc + 1) lv (.int v :: st) σ) : V κ k nL cs ss Q pc lv (.int y :: .int x :: st) σ := fun H locs ls hR hS hl => lv_iand S.1.1 S.1.2.1 d (hv ▸ kk H locs ls hR hS hl)
theorem r_ior (S : Ok κ k cc nL own ret nm h MC MS) {x y v : Int32} (d : decode cc pc = .ok (.ior, 1)) (hv : x ||| y = v) (kk : V κ k nL cs ss Q (pc + 1) lv (.int v :: st) σ) : V κ k nL cs ss Q pc lv (.int y :: .int x :: st) σ := fun H locs ls hR hS hl => lv_ior S.1.1 S.1.2.1 d (hv ▸ kk H locs ls hR hS hl)
theorem r_ixor (S : Ok κ k cc nL own ret nm h MC MS) {x y v : Int32} (d : decode cc pc = .ok (.ixor, 1)) (hv : x ^^^ y = v) (kk : V κ k nL cs ss Q (pc + 1) lv (.int v :: st) σ) : V κ k nL cs ss Q pc lv (.int y :: .int x :: st) σ := fun H locs ls hR hS hl => lv_ixor S.1.1 S.1.2.1 d (hv ▸ kk H locs ls hR hS hl)
theorem r_ishl (S : Ok κ k cc nL own ret nm h MC MS) {x y v : Int32} (d : decode cc pc = .ok (.ishl, 1)) (hv : x <<< (y &&& 31) = v) (kk : V κ k nL cs ss Q (pc + 1) lv (.int v :: st) σ) : V κ k nL cs ss Q pc lv (.int y :: .int x :: st) σ := fun H locs ls hR hS hl => lv_ishl S.1.1 S.1.2.1 d (hv ▸ kk H locs ls hR hS hl)
theorem r_ishr (S : Ok κ k cc nL own ret nm h MC MS) {x y v : Int32} (d : decode cc pc = .ok (.ishr, 1)) (hv : x >>> (y &&& 31) = v) (kk : V κ k nL cs ss Q (pc + 1) lv (.int v :: st) σ) : V κ k nL cs ss Q pc lv (.int y :: .int x :: st) σ := fun H locs ls hR hS hl => lv_ishr S.1.1 S.1.2.1 d (hv ▸ kk H locs ls hR hS hl)
theorem r_iushr (S : Ok κ k cc nL own ret nm h MC MS) {x y v : Int32} (d : decode cc pc = .ok (.iushr, 1)) (hv : (x.toUInt32 >>> (y.toUInt32 &&& Int32.toUInt32 31)).toInt32 = v) (kk : V κ k nL cs ss Q (pc + 1) lv (.int v :: st) σ) : V κ k nL cs ss Q pc lv (.int y :: .int x :: st) σ := fun H locs ls hR hS hl => lv_iushr S.1.1 S.1.2.1 d hv (kk H locs ls hR hS hl)
theorem r_idiv (S : Ok κ k cc nL own ret nm h MC MS) {x y v : Int32} (d : decode cc pc = .ok (.idiv, 1)) (hne : ¬ y = 0) (hv : x / y = v) (kk : V κ k nL cs ss Q (pc + 1) lv (.int v :: st) σ) : V κ k nL cs ss Q pc lv (.int y :: .int x :: st) σ := fun H locs ls hR hS hl => lv_idiv S.1.1 S.1.2.1 d hne (hv ▸ kk H locs ls hR hS hl)
theorem r_irem (S : Ok κ k cc nL own ret nm h MC MS) {x y v : Int32} (d : decode cc pc = .ok (.irem, 1)) (hne : ¬ y = 0) (hv : x - x / y * y = v) (kk : V κ k nL cs ss Q (pc + 1) lv (.int v :: st) σ) : V κ k nL cs ss Q pc lv (.int y :: .int x :: st) σ := fun H locs ls hR hS hl => lv_irem S.1.1 S.1.2.1 d hne (hv ▸ kk H locs ls hR hS hl)
theorem r_iaddx (S : Ok κ k cc nL own ret nm h MC MS) {x y v : Int32} (d : decode cc pc = .ok (.iadd, 1)) (hv : x + y = v) (kk : V κ k nL cs ss Q (pc + 1) lv (.int v :: st) σ) : V κ k nL cs ss Q pc lv (.int y :: .int x :: st) σ := fun H locs ls hR hS hl => lv_iadd S.1.1 S.1.2.1 d (hv ▸ kk H locs ls hR hS hl)
theorem r_isubx (S : Ok κ k cc nL own ret nm h MC MS) {x y v : Int32} (d : decode cc pc = .ok (.isub, 1)) (hv : x - y = v) (kk : V κ k nL cs ss Q (pc + 1) lv (.int v :: st) σ) : V κ k nL cs ss Q pc lv (.int y :: .int x :: st) σ := fun H locs ls hR hS hl => lv_isub S.1.1 S.1.2.1 d (hv ▸ kk H locs ls hR hS hl)
theorem r_i2l (S : Ok κ k cc nL own ret nm h MC MS) {x : Int32} {v : Int64} (d : decode cc pc = .ok (.i2l, 1)) (hv : x.toInt64 = v) (kk : V κ k nL cs ss Q (pc + 1) lv (.long v :: st) σ) : V κ k nL cs ss Q pc lv (.int x :: st) σ := fun H locs ls hR hS hl => lv_i2l S.1.1 S.1.2.1 d hv (kk H locs ls hR hS hl)
theorem r_i2b (S : Ok κ k cc nL own ret nm h MC MS) {x v : Int32} (d : decode cc pc = .ok (.i2b, 1)) (hv : x.toInt8.toInt32 = v) (kk : V κ k nL cs ss Q (pc + 1) lv (.int v :: st) σ) : V κ k nL cs ss Q pc lv (.int x :: st) σ := fun H locs ls hR hS hl => lv_i2b S.1.1 S.1.2.1 d hv (kk H locs ls hR hS hl)
theorem r_ladd (S : Ok κ k cc nL own ret nm h MC MS) {a b : Int} (d : decode cc pc = .ok (.ladd, 1)) (kk : V κ k nL cs ss Q (pc + 1) lv (.long (lZ (a + b)) :: st) σ) : V κ k nL cs ss Q pc lv (.long (lZ b) :: .long (lZ a) :: st) σ := fun H locs ls hR hS hl => lv_ladd S.1.1 S.1.2.1 d (lZ_add a b ▸ kk H locs ls hR hS hl)
theorem r_lmul (S : Ok κ k cc nL own ret nm h MC MS) {a b : Int} (d : decode cc pc = .ok (.lmul, 1)) (kk : V κ k nL cs ss Q (pc + 1) lv (.long (lZ (a * b)) :: st) σ) : V κ k nL cs ss Q pc lv (.long (lZ b) :: .long (lZ a) :: st) σ := fun H locs ls hR hS hl => lv_lmul S.1.1 S.1.2.1 d (lZ_mul a b ▸ kk H locs ls hR hS hl)
theorem r_ldiv (S : Ok κ k cc nL own ret nm h MC MS) {x y v : Int64} (d : decode cc pc = .ok (.ldiv, 1)) (hne : ¬ y = 0) (hv : x / y = v) (kk : V κ k nL cs ss Q (pc + 1) lv (.long v :: st) σ) : V κ k nL cs ss Q pc lv (.long y :: .long x :: st) σ := fun H locs ls hR hS hl => lv_ldiv S.1.1 S.1.2.1 d hne (hv ▸ kk H locs ls hR hS hl)
theorem r_lcmp (S : Ok κ k cc nL own ret nm h MC MS) {x y : Int64} {v : Int32} (d : decode cc pc = .ok (.lcmp, 1)) (hv : lg_cmp x y = v) (kk : V κ k nL cs ss Q (pc + 1) lv (.int v :: st) σ) : V κ k nL cs ss Q pc lv (.long y :: .long x :: st) σ := fun H locs ls hR hS hl => W.lcmp S.1.1 S.1.2.1 d (hv ▸ kk H locs ls hR hS hl)
theorem r_dup (S : Ok κ k cc nL own ret nm h MC MS) {v : Value} (d : decode cc pc = .ok (.dup, 1)) (hc : v.category = 1) (kk : V κ k nL cs ss Q (pc + 1) lv (v :: v :: st) σ) : V κ k nL cs ss Q pc lv (v :: st) σ := fun H locs ls hR hS hl => lv_dup S.1.1 S.1.2.1 d hc (kk H locs ls hR hS hl)
theorem r_pop (S : Ok κ k cc nL own ret nm h MC MS) {v : Value} (d : decode cc pc = .ok (.pop, 1)) (hc : v.category = 1) (kk : V κ k nL cs ss Q (pc + 1) lv st σ) : V κ k nL cs ss Q pc lv (v :: st) σ := fun H locs ls hR hS hl => lv_pop S.1.1 S.1.2.1 d hc (kk H locs ls hR hS hl)
theorem r_dup2 (S : Ok κ k cc nL own ret nm h MC MS) {v w : Value} (d : decode cc pc = .ok (.dup2, 1)) (hc : v.category = 1) (hc2 : w.category = 1) (kk : V κ k nL cs ss Q (pc + 1) lv (v :: w :: v :: w :: st) σ) : V κ k nL cs ss Q pc lv (v :: w :: st) σ := fun H locs ls hR hS hl => lv_dup2_11 S.1.1 S.1.2.1 d hc hc2 (kk H locs ls hR hS hl)
theorem r_if_eq (S : Ok κ k cc nL own ret nm h MC MS) {a off : Int} {tgt : Nat} (d : decode cc pc = .ok (.ifCond .eq off, 3)) (ht : (pc : Int) + off = (tgt : Int)) (ha : zR a) (kt : a = 0 → V κ k nL cs ss Q tgt lv st σ) (kf : ¬ a = 0 → V κ k nL cs ss Q (pc + 3) lv st σ) : V κ k nL cs ss Q pc lv (.int (iZ a) :: st) σ := fun H locs ls hR hS hl => by
  have z0 : zR 0 := ⟨by decide, by decide⟩
  have e : _ ↔ _ := iZ_inj ha z0
  rw [iZ_0] at e
  exact lv_if_eq S.1.1 S.1.2.1 d ht (fun q => kt (e.mp q) H locs ls hR hS hl) (fun q => kf (fun z => q (e.mpr z)) H locs ls hR hS hl)
theorem r_icmp_eq (S : Ok κ k cc nL own ret nm h MC MS) {a b off : Int} {tgt : Nat} (d : decode cc pc = .ok (.if_icmp .eq off, 3)) (ht : (pc : Int) + off = (tgt : Int)) (ha : zR a) (hb : zR b) (kt : a = b → V κ k nL cs ss Q tgt lv st σ) (kf : ¬ a = b → V κ k nL cs ss Q (pc + 3) lv st σ) : V κ k nL cs ss Q pc lv (.int (iZ b) :: .int (iZ a) :: st) σ := fun H locs ls hR hS hl => by
  have e : _ ↔ _ := iZ_inj ha hb
  exact lv_icmp_eq S.1.1 S.1.2.1 d ht (fun q => kt (e.mp q) H locs ls hR hS hl) (fun q => kf (fun z => q (e.mpr z)) H locs ls hR hS hl)
theorem r_if_ne (S : Ok κ k cc nL own ret nm h MC MS) {a off : Int} {tgt : Nat} (d : decode cc pc = .ok (.ifCond .ne off, 3)) (ht : (pc : Int) + off = (tgt : Int)) (ha : zR a) (kt : ¬ a = 0 → V κ k nL cs ss Q tgt lv st σ) (kf : a = 0 → V κ k nL cs ss Q (pc + 3) lv st σ) : V κ k nL cs ss Q pc lv (.int (iZ a) :: st) σ := fun H locs ls hR hS hl => by
  have z0 : zR 0 := ⟨by decide, by decide⟩
  have e : _ ↔ _ := not_congr (iZ_inj ha z0)
  rw [iZ_0] at e
  exact lv_if_ne S.1.1 S.1.2.1 d ht (fun q => kt (e.mp q) H locs ls hR hS hl) (fun q => kf ((iZ_inj ha z0).mp (q.trans iZ_0.symm)) H locs ls hR hS hl)
theorem r_icmp_ne (S : Ok κ k cc nL own ret nm h MC MS) {a b off : Int} {tgt : Nat} (d : decode cc pc = .ok (.if_icmp .ne off, 3)) (ht : (pc : Int) + off = (tgt : Int)) (ha : zR a) (hb : zR b) (kt : ¬ a = b → V κ k nL cs ss Q tgt lv st σ) (kf : a = b → V κ k nL cs ss Q (pc + 3) lv st σ) : V κ k nL cs ss Q pc lv (.int (iZ b) :: .int (iZ a) :: st) σ := fun H locs ls hR hS hl => by
  have e : _ ↔ _ := not_congr (iZ_inj ha hb)
  exact lv_icmp_ne S.1.1 S.1.2.1 d ht (fun q => kt (e.mp q) H locs ls hR hS hl) (fun q => kf ((iZ_inj ha hb).mp q) H locs ls hR hS hl)
theorem r_if_lt (S : Ok κ k cc nL own ret nm h MC MS) {a off : Int} {tgt : Nat} (d : decode cc pc = .ok (.ifCond .lt off, 3)) (ht : (pc : Int) + off = (tgt : Int)) (ha : zR a) (kt : a < 0 → V κ k nL cs ss Q tgt lv st σ) (kf : 0 ≤ a → V κ k nL cs ss Q (pc + 3) lv st σ) : V κ k nL cs ss Q pc lv (.int (iZ a) :: st) σ := fun H locs ls hR hS hl => by
  have z0 : zR 0 := ⟨by decide, by decide⟩
  have e : _ ↔ _ := iZ_lt ha z0
  rw [iZ_0] at e
  exact lv_if_lt S.1.1 S.1.2.1 d ht (fun q => kt (e.mp q) H locs ls hR hS hl) (fun q => kf (Int.not_lt.mp (fun z => q (e.mpr z))) H locs ls hR hS hl)
theorem r_icmp_lt (S : Ok κ k cc nL own ret nm h MC MS) {a b off : Int} {tgt : Nat} (d : decode cc pc = .ok (.if_icmp .lt off, 3)) (ht : (pc : Int) + off = (tgt : Int)) (ha : zR a) (hb : zR b) (kt : a < b → V κ k nL cs ss Q tgt lv st σ) (kf : b ≤ a → V κ k nL cs ss Q (pc + 3) lv st σ) : V κ k nL cs ss Q pc lv (.int (iZ b) :: .int (iZ a) :: st) σ := fun H locs ls hR hS hl => by
  have e : _ ↔ _ := iZ_lt ha hb
  exact lv_icmp_lt S.1.1 S.1.2.1 d ht (fun q => kt (e.mp q) H locs ls hR hS hl) (fun q => kf (Int.not_lt.mp (fun z => q (e.mpr z))) H locs ls hR hS hl)
theorem r_if_ge (S : Ok κ k cc nL own ret nm h MC MS) {a off : Int} {tgt : Nat} (d : decode cc pc = .ok (.ifCond .ge off, 3)) (ht : (pc : Int) + off = (tgt : Int)) (ha : zR a) (kt : 0 ≤ a → V κ k nL cs ss Q tgt lv st σ) (kf : a < 0 → V κ k nL cs ss Q (pc + 3) lv st σ) : V κ k nL cs ss Q pc lv (.int (iZ a) :: st) σ := fun H locs ls hR hS hl => by
  have z0 : zR 0 := ⟨by decide, by decide⟩
  have e : _ ↔ _ := iZ_le z0 ha
  rw [iZ_0] at e
  exact lv_if_ge S.1.1 S.1.2.1 d ht (fun q => kt (e.mp q) H locs ls hR hS hl) (fun q => kf (Int.not_le.mp (fun z => q (e.mpr z))) H locs ls hR hS hl)
theorem r_icmp_ge (S : Ok κ k cc nL own ret nm h MC MS) {a b off : Int} {tgt : Nat} (d : decode cc pc = .ok (.if_icmp .ge off, 3)) (ht : (pc : Int) + off = (tgt : Int)) (ha : zR a) (hb : zR b) (kt : b ≤ a → V κ k nL cs ss Q tgt lv st σ) (kf : a < b → V κ k nL cs ss Q (pc + 3) lv st σ) : V κ k nL cs ss Q pc lv (.int (iZ b) :: .int (iZ a) :: st) σ := fun H locs ls hR hS hl => by
  have e : _ ↔ _ := iZ_le hb ha
  exact lv_icmp_ge S.1.1 S.1.2.1 d ht (fun q => kt (e.mp q) H locs ls hR hS hl) (fun q => kf (Int.not_le.mp (fun z => q (e.mpr z))) H locs ls hR hS hl)
theorem r_if_gt (S : Ok κ k cc nL own ret nm h MC MS) {a off : Int} {tgt : Nat} (d : decode cc pc = .ok (.ifCond .gt off, 3)) (ht : (pc : Int) + off = (tgt : Int)) (ha : zR a) (kt : 0 < a → V κ k nL cs ss Q tgt lv st σ) (kf : a ≤ 0 → V κ k nL cs ss Q (pc + 3) lv st σ) : V κ k nL cs ss Q pc lv (.int (iZ a) :: st) σ := fun H locs ls hR hS hl => by
  have z0 : zR 0 := ⟨by decide, by decide⟩
  have e : _ ↔ _ := iZ_lt z0 ha
  rw [iZ_0] at e
  exact lv_if_gt S.1.1 S.1.2.1 d ht (fun q => kt (e.mp q) H locs ls hR hS hl) (fun q => kf (Int.not_lt.mp (fun z => q (e.mpr z))) H locs ls hR hS hl)
theorem r_icmp_gt (S : Ok κ k cc nL own ret nm h MC MS) {a b off : Int} {tgt : Nat} (d : decode cc pc = .ok (.if_icmp .gt off, 3)) (ht : (pc : Int) + off = (tgt : Int)) (ha : zR a) (hb : zR b) (kt : b < a → V κ k nL cs ss Q tgt lv st σ) (kf : a ≤ b → V κ k nL cs ss Q (pc + 3) lv st σ) : V κ k nL cs ss Q pc lv (.int (iZ b) :: .int (iZ a) :: st) σ := fun H locs ls hR hS hl => by
  have e : _ ↔ _ := iZ_lt hb ha
  exact lv_icmp_gt S.1.1 S.1.2.1 d ht (fun q => kt (e.mp q) H locs ls hR hS hl) (fun q => kf (Int.not_lt.mp (fun z => q (e.mpr z))) H locs ls hR hS hl)
theorem r_if_le (S : Ok κ k cc nL own ret nm h MC MS) {a off : Int} {tgt : Nat} (d : decode cc pc = .ok (.ifCond .le off, 3)) (ht : (pc : Int) + off = (tgt : Int)) (ha : zR a) (kt : a ≤ 0 → V κ k nL cs ss Q tgt lv st σ) (kf : 0 < a → V κ k nL cs ss Q (pc + 3) lv st σ) : V κ k nL cs ss Q pc lv (.int (iZ a) :: st) σ := fun H locs ls hR hS hl => by
  have z0 : zR 0 := ⟨by decide, by decide⟩
  have e : _ ↔ _ := iZ_le ha z0
  rw [iZ_0] at e
  exact lv_if_le S.1.1 S.1.2.1 d ht (fun q => kt (e.mp q) H locs ls hR hS hl) (fun q => kf (Int.not_le.mp (fun z => q (e.mpr z))) H locs ls hR hS hl)
theorem r_icmp_le (S : Ok κ k cc nL own ret nm h MC MS) {a b off : Int} {tgt : Nat} (d : decode cc pc = .ok (.if_icmp .le off, 3)) (ht : (pc : Int) + off = (tgt : Int)) (ha : zR a) (hb : zR b) (kt : a ≤ b → V κ k nL cs ss Q tgt lv st σ) (kf : b < a → V κ k nL cs ss Q (pc + 3) lv st σ) : V κ k nL cs ss Q pc lv (.int (iZ b) :: .int (iZ a) :: st) σ := fun H locs ls hR hS hl => by
  have e : _ ↔ _ := iZ_le ha hb
  exact lv_icmp_le S.1.1 S.1.2.1 d ht (fun q => kt (e.mp q) H locs ls hR hS hl) (fun q => kf (Int.not_le.mp (fun z => q (e.mpr z))) H locs ls hR hS hl)
theorem r_goto (S : Ok κ k cc nL own ret nm h MC MS) {off : Int} {tgt : Nat} (d : decode cc pc = .ok (.goto off, 3)) (ht : (pc : Int) + off = (tgt : Int)) (kk : V κ k nL cs ss Q tgt lv st σ) : V κ k nL cs ss Q pc lv st σ := fun H locs ls hR hS hl => lv_goto S.1.1 S.1.2.1 d ht (kk H locs ls hR hS hl)
theorem r_ifnonnull (S : Ok κ k cc nL own ret nm h MC MS) {off : Int} {tgt a : Nat} (d : decode cc pc = .ok (.ifnonnull off, 3)) (ht : (pc : Int) + off = (tgt : Int)) (kk : V κ k nL cs ss Q tgt lv st σ) : V κ k nL cs ss Q pc lv (.ref a :: st) σ := fun H locs ls hR hS hl => lv_ifnonnull S.1.1 S.1.2.1 d ht (kk H locs ls hR hS hl)
theorem r_ifnonnullN (S : Ok κ k cc nL own ret nm h MC MS) {off : Int} (d : decode cc pc = .ok (.ifnonnull off, 3)) (kk : V κ k nL cs ss Q (pc + 3) lv st σ) : V κ k nL cs ss Q pc lv (.null :: st) σ := fun H locs ls hR hS hl => lv_ifnonnullN S.1.1 S.1.2.1 d (kk H locs ls hR hS hl)
theorem r_tswIn (S : Ok κ k cc nL own ret nm h MC MS) {a dflt lo hi off : Int} {offs : Array Int} {len tgt : Nat} (d : decode cc pc = .ok (.tableswitch dflt lo hi offs, len)) (ha : zR a) (h1 : lo ≤ a) (h2 : a ≤ hi) (ho : offs[(a - lo).toNat]? = some off) (ht : (pc : Int) + off = (tgt : Int)) (kk : V κ k nL cs ss Q tgt lv st σ) : V κ k nL cs ss Q pc lv (.int (iZ a) :: st) σ := fun H locs ls hR hS hl => lv_tableIn S.1.1 S.1.2.1 d (by rw [iZ_toInt ha]; omega) (by rw [iZ_toInt ha]; omega) (by rw [iZ_toInt ha]; exact ho) ht (kk H locs ls hR hS hl)
theorem r_tswOut (S : Ok κ k cc nL own ret nm h MC MS) {a dflt lo hi : Int} {offs : Array Int} {len tgt : Nat} (d : decode cc pc = .ok (.tableswitch dflt lo hi offs, len)) (ha : zR a) (h1 : a < lo ∨ hi < a) (ht : (pc : Int) + dflt = (tgt : Int)) (kk : V κ k nL cs ss Q tgt lv st σ) : V κ k nL cs ss Q pc lv (.int (iZ a) :: st) σ := fun H locs ls hR hS hl => lv_tableOut S.1.1 S.1.2.1 d (by rw [iZ_toInt ha]; exact h1) ht (kk H locs ls hR hS hl)
end VROWS
end
section
/-! rows that touch the store: fields, arrays, new cells; returns; calls; a method's contract -/
theorem Rep.at {k : Cx} {σ : St} {H : Heap} (h : Rep k σ H) {a : Nat} {e : va_E} (he : σ.2 a = some e) : va_at (cD k) vwCl (a, e) H := (h.2 a e he).1
theorem Rep.up {k : Cx} {σ : St} {H H1 : Heap} (h : Rep k σ H) {a : Nat} {e e' : va_E} (he : σ.2 a = some e) (hz : H1.size = H.size) (ho : ∀ q, q ≠ a → H1[q]? = H[q]?) (hn : va_at (cD k) vwCl (a, e') H1) : Rep k (sUp σ a e') H1 := by
  refine ⟨hz.trans h.1, fun b x hx => ?_⟩
  by_cases hb : b = a
  · subst hb
    rw [sUp_same] at hx
    cases hx
    exact ⟨hn, (h.2 b e he).2⟩
  · have hx' : σ.2 b = some x := (if_neg hb).symm.trans hx
    exact ⟨(h.2 b x hx').1.kept (ho b hb), (h.2 b x hx').2⟩
theorem Rep.new {k : Cx} {σ : St} {H H1 : Heap} (h : Rep k σ H) {e : va_E} (hbase : cBase k ≤ H.size) (hz : H1.size = H.size + 1) (ho : ∀ q, q < H.size → H1[q]? = H[q]?) (hn : va_at (cD k) vwCl (H.size, e) H1) : Rep k (sNew σ e) H1 := by
  refine ⟨hz.trans (by rw [h.1]; rfl), fun b x hx => ?_⟩
  by_cases hb : b = σ.1
  · subst hb
    rw [sNew_same] at hx
    cases hx
    rw [← h.1]
    exact ⟨hn, hbase⟩
  · have hx' : σ.2 b = some x := (if_neg hb).symm.trans hx
    exact ⟨(h.2 b x hx').1.kept (ho b ((h.2 b x hx').1.lt)), (h.2 b x hx').2⟩
/-- field j of class ci, as the entry idx of class own names it -/
def GF (own : String) (idx ci j : Nat) : Prop := ∃ (C : String) (T : u_T) (N : Nat) (ref : String), vwCl[ci]? = some (C, T, N) ∧ (∀ w ∈ u_ws C T N, w ∈ gt) ∧ j < N ∧ Cond.fieldLink own idx ref (T j).2.1 (T j).2.2.1 ∈ gt ∧ (ref = (T j).1 ∨ Cond.sameField ref (T j).1 (T j).2.1 (T j).2.2.1 ∈ gt)
/-- and of what type it is, whether it is final -/
def PF (own : String) (idx ci j : Nat) (ty : FieldType) (fin : Bool) : Prop := ∃ (C : String) (T : u_T) (N : Nat) (ref : String) (ty0 : Nat → FieldType), vwCl[ci]? = some (C, T, N) ∧ (∀ w ∈ u_ws C T N, w ∈ gt) ∧ j < N ∧ Cond.fieldLink own idx ref (T j).2.1 (T j).2.2.1 ∈ gt ∧ (ref = (T j).1 ∨ Cond.sameField ref (T j).1 (T j).2.1 (T j).2.2.1 ∈ gt) ∧
  (∀ k, k < N → parseFieldDescriptor (T k).2.2.1 = some (ty0 k)) ∧ (∀ a, a < N → ∀ b, b < N → a ≠ b → (T a).2.1 ≠ (T b).2.1) ∧ (T j).2.2.2 = fin ∧ ty0 j = ty ∧ (fin = true → (T j).1 = own)
section VHEAP
variable {κ : Kx} {k : Cx} {cc : ByteArray} {nL : Nat} {own : String} {ret : Option FieldType} {nm : String} {h MC MS : Nat} {cs ss : Nat} {Q : State → Prop} {pc : Nat} {lv lv' : List (Option Value)} {st : List Value} {σ : St}
theorem r_getf (S : Ok κ k cc nL own ret nm h MC MS) {idx ci j a : Nat} {fs : List Value} {v : Value} (g : GF own idx ci j) (d : decode cc pc = .ok (.getfield idx, 3)) (hσ : σ.2 a = some (.inr (ci, fs))) (hv : fs[j]? = some v) (kk : V κ k nL cs ss Q (pc + 3) lv (v :: st) σ) : V κ k nL cs ss Q pc lv (.ref a :: st) σ := by
  intro H locs ls hR hS hl
  obtain ⟨⟨hx, hb, hml, hown, hts⟩, ⟨hK, -⟩, -⟩ := S
  obtain ⟨C, T, N, ref, hc, hin, hj, hlk, hsame⟩ := g
  have hP : va_P (cD k) vwCl [(a, .inr (ci, fs))] H := by
    intro q x hq
    have hz : q < 1 := (List.getElem?_eq_some_iff.mp hq).1
    rw [show q = 0 by omega] at hq
    cases hq
    exact hR.at hσ
  refine va_get hx hb hts hin hown hK hP 0 rfl hc j hj (hts _ hlk) ?_ hv d (kk H locs ls hR hS hl)
  intro x hxx
  rcases hsame with e | e
  · rw [e]; exact hxx
  · exact u_same (hts _ e) x hxx
theorem r_putf (S : Ok κ k cc nL own ret nm h MC MS) {idx ci j a : Nat} {fs : List Value} {v : Value} {ty : FieldType} (g : PF own idx ci j ty false) (d : decode cc pc = .ok (.putfield idx, 3)) (hn : narrow ty v = v) (hfit : fits ty v = true) (hσ : σ.2 a = some (.inr (ci, fs))) (hl0 : j < fs.length) {fs' : List Value} (hv : fs.set j v = fs') (kk : V κ k nL cs ss Q (pc + 3) lv st (sUp σ a (.inr (ci, fs')))) : V κ k nL cs ss Q pc lv (v :: .ref a :: st) σ := by
  intro H locs ls hR hS hl
  obtain ⟨⟨hx, hb, hml, hown, hts⟩, ⟨hK, -⟩, -⟩ := S
  obtain ⟨C, T, N, ref, ty0, hc, hin, hj, hlk, hsame, hty, hnm, hfin, htj, -⟩ := g
  have hap := va_apart (own := own) hts hin ty0 hty hnm hK hc
  obtain ⟨r, h1, cell, q1, q2, q3, q4⟩ := hR.at hσ
  have hr : r = (C, T, N) := Option.some.inj (h1.symm.trans hc)
  subst hr
  obtain ⟨hSl, hfc, kC, hkC, hkind⟩ := hK.1 ci _ hc
  obtain ⟨cf, kf, fi, f, hi, hsl⟩ := hSl j hj
  have hlay := hts _ (hin _ (u_in_lay hj))
  unfold u_lay at hlay
  rw [if_neg (by rw [hfin]; decide)] at hlay
  have hst := (u_facts hfc hkC (u_lays hts hin hj) hi).1
  have h6 := u_store hfc hkC hkind hlay hi (htj ▸ hty j hj) hn hfit
  have hs2 : ∀ x, κ.2.2.2.2.1.fieldFound? (T j).1 (T j).2.1 (T j).2.2.1 = some x → κ.2.2.2.2.1.fieldFound? ref (T j).2.1 (T j).2.2.1 = some x := by
    intro x hxx
    rcases hsame with e | e
    · rw [e]; exact hxx
    · exact u_same (hts _ e) x hxx
  refine W.putK hx hb (f := f) ⟨hown, hts _ hlk, ⟨_, _, _, hs2 _ hi⟩, hst⟩ (by rw [q2]; exact h6) q1 q3 (by rw [hsl]; exact k2_hasslot (q4 j hj)) rfl rfl d fun H' e1 e2 e3 => ?_
  rw [hsl] at e1 ⊢
  subst hv
  exact kk H' _ ls (hR.up hσ e2 e3 ⟨_, hc, t_OB.to (V := updV (vp_V fs) j v) ⟨_, e1, q2, q3, t_set q4 hap hj v⟩ (fun i _ => vp_updV_set hl0 v i)⟩) (hS.put e2 e3 (hR.2 a _ hσ).2) hl
theorem r_putF (S : Ok κ k cc nL own ret "<init>" h MC MS) {idx ci j a : Nat} {fs : List Value} {v : Value} {ty : FieldType} (g : PF own idx ci j ty true) (d : decode cc pc = .ok (.putfield idx, 3)) (hn : narrow ty v = v) (hfit : fits ty v = true) (hσ : σ.2 a = some (.inr (ci, fs))) (hl0 : j < fs.length) {fs' : List Value} (hv : fs.set j v = fs') (kk : V κ k nL cs ss Q (pc + 3) lv st (sUp σ a (.inr (ci, fs')))) : V κ k nL cs ss Q pc lv (v :: .ref a :: st) σ := by
  intro H locs ls hR hS hl
  obtain ⟨⟨hx, hb, hml, hown, hts⟩, ⟨hK, -⟩, -, -, hin2, -⟩ := S
  obtain ⟨C, T, N, ref, ty0, hc, hin, hj, hlk, hsame, hty, hnm, hfin, htj, hdecl⟩ := g
  have hap := va_apart (own := own) hts hin ty0 hty hnm hK hc
  obtain ⟨r, h1, cell, q1, q2, q3, q4⟩ := hR.at hσ
  have hr : r = (C, T, N) := Option.some.inj (h1.symm.trans hc)
  subst hr
  obtain ⟨hSl, hfc, kC, hkC, hkind⟩ := hK.1 ci _ hc
  obtain ⟨cf, kf, fi, f, hi, hsl⟩ := hSl j hj
  have hlay := hts _ (hin _ (u_in_lay hj))
  unfold u_lay at hlay
  rw [if_pos hfin] at hlay
  have hst := (u_facts hfc hkC (u_lays hts hin hj) hi).1
  have hcf : κ.2.2.2.2.2.1.cls = cf := by
    obtain ⟨_, _, c', _, _, _, -, -, hf', -, -, -, hown2, -⟩ := Cond.laysFinal_spec hlay
    have e1 : c' = cf := by have := hi.symm.trans hf'; simp at this; exact this.1.symm
    rw [hdecl rfl] at hown2
    rw [← e1]; exact Option.some.inj (hown.symm.trans hown2)
  have h6 := u_fits hfc hkC hkind (Or.inr hlay) hi (htj ▸ hty j hj) hn hfit
  have hs2 : ∀ x, κ.2.2.2.2.1.fieldFound? (T j).1 (T j).2.1 (T j).2.2.1 = some x → κ.2.2.2.2.1.fieldFound? ref (T j).2.1 (T j).2.2.1 = some x := by
    intro x hxx
    rcases hsame with e | e
    · rw [e]; exact hxx
    · exact u_same (hts _ e) x hxx
  refine W.putFinK hx hb hown (hts _ hlk) (hs2 _ hi) hst hcf hin2 (by rw [q2]; exact h6) q1 q3 (by rw [hsl]; exact k2_hasslot (q4 j hj)) rfl rfl d fun H' e1 e2 e3 => ?_
  rw [hsl] at e1 ⊢
  subst hv
  exact kk H' _ ls (hR.up hσ e2 e3 ⟨_, hc, t_OB.to (V := updV (vp_V fs) j v) ⟨_, e1, q2, q3, t_set q4 hap hj v⟩ (fun i _ => vp_updV_set hl0 v i)⟩) (hS.put e2 e3 (hR.2 a _ hσ).2) hl
theorem r_iald (S : Ok κ k cc nL own ret nm h MC MS) {a n : Nat} {f : Nat → Int} {i : Int} (d : decode cc pc = .ok (.iaload, 1)) (hσ : σ.2 a = some (eI k n f)) (hi : 0 ≤ i ∧ i < n) (hn : n ≤ 2147483647) (kk : V κ k nL cs ss Q (pc + 1) lv (.int (iZ (f i.toNat)) :: st) σ) : V κ k nL cs ss Q pc lv (.int (iZ i) :: .ref a :: st) σ := by
  intro H locs ls hR hS hl
  obtain ⟨⟨hx, hb, hml, hown, hts⟩, ⟨hK, -⟩, -⟩ := S
  have hP : va_P (cD k) vwCl [(a, eI k n f)] H := by
    intro q x hq
    have hz : q < 1 := (List.getElem?_eq_some_iff.mp hq).1
    rw [show q = 0 by omega] at hq
    cases hq
    exact hR.at hσ
  refine va_iald hx hb hK hP 0 0 rfl rfl (iZ_in hi.1 hi.2 hn) d ?_
  rw [iZ_clamp hi.1 (by omega)]
  exact kk H locs ls hR hS hl
theorem r_bald (S : Ok κ k cc nL own ret nm h MC MS) {a n : Nat} {f : Nat → Int} {i : Int} (d : decode cc pc = .ok (.baload, 1)) (hσ : σ.2 a = some (eB k n f)) (hi : 0 ≤ i ∧ i < n) (hn : n ≤ 2147483647) (kk : V κ k nL cs ss Q (pc + 1) lv (.int (iZ (f i.toNat)) :: st) σ) : V κ k nL cs ss Q pc lv (.int (iZ i) :: .ref a :: st) σ := by
  intro H locs ls hR hS hl
  obtain ⟨⟨hx, hb, hml, hown, hts⟩, ⟨hK, -⟩, -⟩ := S
  have hP : va_P (cD k) vwCl [(a, eB k n f)] H := by
    intro q x hq
    have hz : q < 1 := (List.getElem?_eq_some_iff.mp hq).1
    rw [show q = 0 by omega] at hq
    cases hq
    exact hR.at hσ
  refine va_bald hx hb hK hP 0 1 rfl rfl (iZ_in hi.1 hi.2 hn) d ?_
  rw [iZ_clamp hi.1 (by omega)]
  exact kk H locs ls hR hS hl
theorem r_aald (S : Ok κ k cc nL own ret nm h MC MS) {a n t0 : Nat} {cA : ClassId} {C : String} {f : Nat → Option Nat} {i : Int} {v : Value} (ht : (cTys k)[t0]? = some (cA, .object C)) (d : decode cc pc = .ok (.aaload, 1)) (hσ : σ.2 a = some (eQ cA n f)) (hi : 0 ≤ i ∧ i < n) (hn : n ≤ 2147483647) (hv : va_rf (f i.toNat) = v) (kk : V κ k nL cs ss Q (pc + 1) lv (v :: st) σ) : V κ k nL cs ss Q pc lv (.int (iZ i) :: .ref a :: st) σ := by
  intro H locs ls hR hS hl
  obtain ⟨⟨hx, hb, hml, hown, hts⟩, ⟨hK, -⟩, -⟩ := S
  have hP : va_P (cD k) vwCl [(a, eQ cA n f)] H := by
    intro q x hq
    have hz : q < 1 := (List.getElem?_eq_some_iff.mp hq).1
    rw [show q = 0 by omega] at hq
    cases hq
    exact hR.at hσ
  refine va_aldq hx hb hK hP 0 t0 rfl ht (iZ_in hi.1 hi.2 hn) d ?_
  rw [iZ_clamp hi.1 (by omega), hv]
  exact kk H locs ls hR hS hl
theorem r_alenI (S : Ok κ k cc nL own ret nm h MC MS) {a n : Nat} {f : Nat → Int} (d : decode cc pc = .ok (.arraylength, 1)) (hσ : σ.2 a = some (eI k n f)) (kk : V κ k nL cs ss Q (pc + 1) lv (.int (iZ (n : Int)) :: st) σ) : V κ k nL cs ss Q pc lv (.ref a :: st) σ := by
  intro H locs ls hR hS hl
  obtain ⟨⟨hx, hb, hml, hown, hts⟩, ⟨hK, -⟩, -⟩ := S
  have hP : va_P (cD k) vwCl [(a, eI k n f)] H := by
    intro q x hq
    have hz : q < 1 := (List.getElem?_eq_some_iff.mp hq).1
    rw [show q = 0 by omega] at hq
    cases hq
    exact hR.at hσ
  exact va_alen hx hb hK hP 0 0 rfl rfl rfl d (kk H locs ls hR hS hl)
/-- the script and PLACES -/
theorem r_sald (S : Ok κ k cc nL own ret nm h MC MS) {i : Int} (d : decode cc pc = .ok (.iaload, 1)) (hi : 0 ≤ i ∧ i < cLen k) (hn : cLen k ≤ 2147483647) (kk : V κ k nL cs ss Q (pc + 1) lv (.int (iZ (cXs k i.toNat)) :: st) σ) : V κ k nL cs ss Q pc lv (.int (iZ i) :: .ref (cScr k) :: st) σ := by
  intro H locs ls hR hS hl
  obtain ⟨⟨hx, hb, hml, hown, hts⟩, ⟨hK, hB, hX, hlt, -⟩, -⟩ := S
  refine va_sld hx hb hX (Nat.lt_of_lt_of_le hlt hB) (Nat.not_le.mpr hlt) hS (iZ_in hi.1 hi.2 hn) d ?_
  rw [iZ_clamp hi.1 (by omega)]
  exact kk H locs ls hR hS hl
theorem r_slen (S : Ok κ k cc nL own ret nm h MC MS) (d : decode cc pc = .ok (.arraylength, 1)) (kk : V κ k nL cs ss Q (pc + 1) lv (.int (iZ (cLen k : Int)) :: st) σ) : V κ k nL cs ss Q pc lv (.ref (cScr k) :: st) σ := by
  intro H locs ls hR hS hl
  obtain ⟨⟨hx, hb, hml, hown, hts⟩, ⟨hK, hB, hX, hlt, -⟩, -⟩ := S
  exact va_slen hx hb hX (Nat.lt_of_lt_of_le hlt hB) (Nat.not_le.mpr hlt) hS d (kk H locs ls hR hS hl)
theorem r_gets (S : Ok κ k cc nL own ret nm h MC MS) {idx : Nat} (hw : Cond.fieldLink own idx "LiarsAnswers" "PLACES" "[I" ∈ gt) (d : decode cc pc = .ok (.getstatic idx, 3)) (kk : V κ k nL cs ss Q (pc + 3) lv (.ref (cPl k) :: st) σ) : V κ k nL cs ss Q pc lv st σ := by
  intro H locs ls hR hS hl
  obtain ⟨⟨hx, hb, hml, hown, hts⟩, ⟨hK, hB, hX, hlt, hZ, -⟩, -⟩ := S
  exact va_gets hx hb hZ hS hown (hts _ hw) (fun _ z => z) d (kk H locs ls hR hS hl)
theorem r_pald (S : Ok κ k cc nL own ret nm h MC MS) {i : Int} (d : decode cc pc = .ok (.iaload, 1)) (hi : 0 ≤ i ∧ i < 68) (kk : V κ k nL cs ss Q (pc + 1) lv (.int (iZ (plF i.toNat)) :: st) σ) : V κ k nL cs ss Q pc lv (.int (iZ i) :: .ref (cPl k) :: st) σ := by
  intro H locs ls hR hS hl
  obtain ⟨⟨hx, hb, hml, hown, hts⟩, ⟨hK, hB, hX, hlt, hZ, hT, -⟩, -⟩ := S
  obtain ⟨cell, h1, h2, h3, h4, h5, h6, h7⟩ := hT
  have hc : (iZ i).toNatClampNeg = i.toNat := iZ_clamp hi.1 (by omega)
  refine W.iald hx hb (v := .int (iZ (plF i.toNat))) (by rw [hS.2.1 _ (Array.getElem?_eq_some_iff.mp h1).1 h7]; exact h1) h2 h3 ?_ ?_ rfl rfl d (kk H locs ls hR hS hl)
  · rintro (q | q)
    · exact iZ_nn hi.1 (by omega) q
    · rw [hc] at q; omega
  · rw [hc]; exact h6 _ (by omega)
theorem r_plen (S : Ok κ k cc nL own ret nm h MC MS) (d : decode cc pc = .ok (.arraylength, 1)) (kk : V κ k nL cs ss Q (pc + 1) lv (.int (iZ 68) :: st) σ) : V κ k nL cs ss Q pc lv (.ref (cPl k) :: st) σ := by
  intro H locs ls hR hS hl
  obtain ⟨⟨hx, hb, hml, hown, hts⟩, ⟨hK, hB, hX, hlt, hZ, hT, -⟩, -⟩ := S
  obtain ⟨cell, h1, h2, h3, h4, h5, h6, h7⟩ := hT
  exact W.alen (n := iZ 68) hx hb (by rw [hS.2.1 _ (Array.getElem?_eq_some_iff.mp h1).1 h7]; exact h1) h2 (by rw [h5]; decide) rfl rfl d (kk H locs ls hR hS hl)
theorem r_iast (S : Ok κ k cc nL own ret nm h MC MS) {a n : Nat} {f : Nat → Int} {i x : Int} (d : decode cc pc = .ok (.iastore, 1)) (hσ : σ.2 a = some (eI k n f)) (hi : 0 ≤ i ∧ i < n) (hn : n ≤ 2147483647) (kk : V κ k nL cs ss Q (pc + 1) lv st (sUp σ a (eI k n (uZ f i.toNat x)))) : V κ k nL cs ss Q pc lv (.int (iZ x) :: .int (iZ i) :: .ref a :: st) σ := by
  intro H locs ls hR hS hl
  obtain ⟨⟨hx, hb, hml, hown, hts⟩, ⟨hK, -⟩, -⟩ := S
  have hc : (iZ i).toNatClampNeg = i.toNat := iZ_clamp hi.1 (by omega)
  have hin := iZ_in hi.1 hi.2 hn
  refine W.iast hx hb (hR.at hσ) ((hK.2 0 _ rfl).1 n (fun j => .int (iZ (f j)))) (fun q => by cases q) (by show ¬ (iZ i < 0 ∨ (arrV _ _ _).slots.size ≤ _); rw [arrV_size]; exact hin) rfl rfl d fun H1 e z oq => ?_
  refine kk H1 _ ls (hR.up hσ z oq ?_) (hS.put z oq (hR.2 a _ hσ).2) hl
  show H1[a]? = some (vp_cell _ _)
  rw [e, vp_cell_i]
  show some (Cell.setSlot (arrV _ _ _) _ _) = _
  rw [arrV_store]
  show some (arrV _ _ _) = some (arrV _ _ (fun j => .int (iZ (uZ f i.toNat x j))))
  congr 2
  funext q
  by_cases hq : q = i.toNat
  · subst hq
    simp [updV, uZ, hc]
  · simp [updV, uZ, hc, hq]
theorem r_bast (S : Ok κ k cc nL own ret nm h MC MS) {a n : Nat} {f : Nat → Int} {i x : Int} (d : decode cc pc = .ok (.bastore, 1)) (hσ : σ.2 a = some (eB k n f)) (hi : 0 ≤ i ∧ i < n) (hn : n ≤ 2147483647) (hx1 : narrow .byte (.int (iZ x)) = .int (iZ x)) (kk : V κ k nL cs ss Q (pc + 1) lv st (sUp σ a (eB k n (uZ f i.toNat x)))) : V κ k nL cs ss Q pc lv (.int (iZ x) :: .int (iZ i) :: .ref a :: st) σ := by
  intro H locs ls hR hS hl
  obtain ⟨⟨hx, hb, hml, hown, hts⟩, ⟨hK, -⟩, -⟩ := S
  have hc : (iZ i).toNatClampNeg = i.toNat := iZ_clamp hi.1 (by omega)
  have hin := iZ_in hi.1 hi.2 hn
  refine W.bast hx hb (hR.at hσ) ((hK.2 1 _ rfl).1 n (fun j => .int (iZ (f j)))) (fun q => by cases q) (by show ¬ (iZ i < 0 ∨ (arrV _ _ _).slots.size ≤ _); rw [arrV_size]; exact hin) rfl rfl d fun H1 e z oq => ?_
  refine kk H1 _ ls (hR.up hσ z oq ?_) (hS.put z oq (hR.2 a _ hσ).2) hl
  show H1[a]? = some (vp_cell _ _)
  rw [e, vp_cell_i]
  show some (Cell.setSlot (arrV _ _ _) _ _) = _
  rw [arrV_store]
  show some (arrV _ _ _) = some (arrV _ _ (fun j => .int (iZ (uZ f i.toNat x j))))
  congr 2
  funext q
  by_cases hq : q = i.toNat
  · subst hq
    simp [updV, uZ, hc, hx1]
  · simp [updV, uZ, hc, hq]
end VHEAP
end
section
/-! new cells, stores of references, returns, calls, contracts -/
theorem va_S.new {A : Nat → Prop} {H0 H H1 : Heap} {locs : List Loc} (hS : va_S A H0 H locs) (hz : H1.size = H.size + 1) (ho : ∀ q, q < H.size → H1[q]? = H[q]?) : va_S A H0 H1 locs :=
  ⟨Nat.le_trans hS.1 (by omega), fun x h1 h2 => (ho x (Nat.lt_of_lt_of_le h1 hS.1)).trans (hS.2.1 x h1 h2), hS.2.2⟩
/-- what 'new' of the entry idx makes: an object of class ci with these fields -/
def NW (own : String) (idx ci : Nat) (fs : List Value) : Prop := ∃ (C : String) (T : u_T) (ty : Nat → FieldType), vwCl[ci]? = some (C, T, fs.length) ∧ (∀ w ∈ u_ws C T fs.length, w ∈ gt) ∧ (∀ k, k < fs.length → parseFieldDescriptor (T k).2.2.1 = some (ty k)) ∧ Cond.classLink own idx C ∈ gt ∧ Cond.instantiable C fs.length ∈ gt ∧ Cond.initialized C ∈ gt ∧ ∀ j, j < fs.length → defaultValue (ty j) = vp_V fs j
abbrev Mth : Type := MethodName × ByteArray × Nat × Option FieldType
def KM (M : Mth) (n : Nat) : Prop := Cond.code M.1 M.2.1 M.2.2.1 M.2.2.2 ∈ gt ∧ Cond.initialized M.1.cls ∈ gt ∧ (M.1.cls ≠ "java/lang/invoke/MethodHandle" ∧ M.1.cls ≠ "java/lang/invoke/VarHandle") ∧ (parseMethodDescriptor M.1.desc).map (fun d => d.parameters.length) = some n ∧ M.2.2.1 ≤ 21
def rmh (h mc ms : Nat) : Room := { frames := h, cells := mc, slots := ms, locals := 40 * h }
def Qg (k : Cx) (post : Option Value → St → Prop) : Array Value → State → Outcome → State → Prop := fun _ st oc t => (∃ (r : Option Value) (σ' : St), oc = .returned r ∧ post r σ' ∧ Rep k σ' t.heap) ∧ va_F (cA k) st t
def QR (κ : Kx) (k : Cx) (post : Option Value → St → Prop) (mc ms : Nat) : State → Prop := MQ κ.2.2.2.2.2.2.2.1 (Qg k post) κ.2.2.2.2.2.2.1 κ.2.2.2.2.1 mc ms (cA k)
def Pcx (k : Cx) (av : List Value) (σ : St) : Array Value → State → Prop := va_Pc av (fun U => Old k U ∧ Rep k σ U.heap)
def Ctr (k : Cx) (l : Launch) (M : Mth) (h mc ms : Nat) (av : List Value) (σ : St) (post : Option Value → St → Prop) : Prop :=
  Met l M.1 (Cond.code M.1 M.2.1 M.2.2.1 M.2.2.2 :: gt) (rmh h mc ms) (Pcx k av σ) (Qg k post) mc ms (cA k)
/-- a method that answers a value; one that answers none -/
def CtrV (k : Cx) (l : Launch) (M : Mth) (h mc ms : Nat) (av : List Value) (σ : St) (P : Value → St → Prop) : Prop := Ctr k l M h mc ms av σ (fun r σ' => ∃ v, r = some v ∧ P v σ')
def CtrU (k : Cx) (l : Launch) (M : Mth) (h mc ms : Nat) (av : List Value) (σ : St) (P : St → Prop) : Prop := Ctr k l M h mc ms av σ (fun r σ' => r = none ∧ P σ')
theorem Pcx_blind {k : Cx} {av : List Value} {σ : St} : FrameBlind (Pcx k av σ) := by
  intro a U g mk h
  obtain ⟨h1, h2, h3⟩ := h
  exact ⟨h1, Old.moved (u := U) (U := U.calling g mk a) (State.WarmedH.refl U) (Nat.le_refl _) (fun _ _ _ => rfl) h2, h3⟩
theorem gt_good {w : Cond} (h : w ∈ gt) : (w.onTables && w.keeps) = true ∨ ∃ ty, w = .arrayClass ty := good_of_word (gt_word h)
theorem gt_goodIn {L : List Cond} (h : ∀ w ∈ L, w ∈ gt) : GoodIn gt L := fun w hw => ⟨h w hw, gt_good (h w hw)⟩
def ent (av : List Value) (n : Nat) : List (Option Value) := av.map some ++ List.replicate (n - av.length) none
theorem lvl_none (i : Nat) : ∀ n, lvl i (List.replicate n none) = [] := by
  intro n
  induction n generalizing i with
  | zero => rfl
  | succ n ih => rw [List.replicate_succ, lvl]; exact ih (i + 1)
theorem lvl_ent (av : List Value) (n i : Nat) (hc : av.all (fun v => v.category == 1) = true) : lvl i (av.map some ++ List.replicate n none) = lv_args i av := by
  induction av generalizing i with
  | nil => exact lvl_none i n
  | cons v r ih =>
    simp only [List.all_cons, Bool.and_eq_true, beq_iff_eq] at hc
    rw [List.map_cons, List.cons_append, lvl, lv_args, ih _ (by simpa using hc.2), if_neg (by rw [hc.1]; decide)]
/-- a contract out of a walk -/
theorem Ctr.of {k : Cx} {l : Launch} {M : Mth} {h mc ms : Nat} {av : List Value} {σ : St} {post : Option Value → St → Prop} (hp : plainName M.1.cls = true) (hc : av.all (fun v => v.category == 1) = true) (hn : (lg_sl av).length ≤ M.2.2.1)
    (body : ∀ κ : Kx, κ.2.1 = l → Ok κ k M.2.1 M.2.2.1 M.1.cls M.2.2.2 M.1.name h mc ms → V κ k M.2.2.1 0 0 (QR κ k post mc ms) 0 (ent av M.2.2.1) [] σ) : Ctr k l M h mc ms av σ post := by
  refine Met.ofW (cc := M.2.1) (maxL := M.2.2.1) (ret := M.2.2.2) hp rfl ?_
  intro p e s m args below meth c s₁ B hml hv
  obtain ⟨rfl, hO, hR⟩ := hv
  have hts := atoms_spec (ws := Cond.code M.1 M.2.1 M.2.2.1 M.2.2.2 :: gt) B.pre
  have S : Ok (p, l, e, rmh h mc ms, s, m, av.toArray, below, meth, c) k M.2.1 M.2.2.1 M.1.cls M.2.2.2 M.1.name h mc ms :=
    ⟨⟨B.exec, B.bytes, hml, findClass_of_methodNamed B.named, fun w hw => hts w (List.mem_cons_of_mem _ hw)⟩, hO, B.notSynchronized, B.returns, (name_of_methodNamed B.named B.method).1, Nat.le_refl _, Nat.le_refl _, rfl, rfl⟩
  have hl := lv_entry av (n := M.2.2.1) hn
  have hw := body _ rfl S
  rw [lg_entry_eq]
  refine hw s.heap [] _ hR va_S.rf ?_
  rw [ent, lvl_ent av _ 0 hc]
  exact hl
section VCALL
variable {κ : Kx} {k : Cx} {cc : ByteArray} {nL : Nat} {own : String} {ret : Option FieldType} {nm : String} {h MC MS : Nat} {cs ss : Nat} {Q : State → Prop} {pc : Nat} {lv lv' : List (Option Value)} {st : List Value} {σ : St}
theorem r_new (S : Ok κ k cc nL own ret nm h MC MS) {idx ci : Nat} {fs : List Value} (g : NW own idx ci fs) (d : decode cc pc = .ok (.new idx, 3)) (h1 : cs + 1 ≤ MC) (h2 : ss + fs.length ≤ MS) (kk : V κ k nL (cs + 1) (ss + fs.length) Q (pc + 3) lv (.ref σ.1 :: st) (sNew σ (.inr (ci, fs)))) : V κ k nL cs ss Q pc lv st σ := by
  intro H locs ls hR hS hl
  obtain ⟨⟨hx, hb, hml, hown, hts⟩, ⟨hK, hB, -⟩, -, -, -, -, -, rfl, rfl⟩ := S
  obtain ⟨C, T, ty, hc, hin, hty, g1, g2, g3, g4⟩ := g
  have hKn := hK.1 ci _ hc
  refine W.newcK hx hb hown (hts _ g1) (hts _ g2) (hts _ g3) rfl d h1 h2 hKn.2.1 hR.1 fun H1 kC hkC e1 z1 o1 => ?_
  rw [← hR.1] at e1 z1 o1
  exact kk H1 locs ls (hR.new (Nat.le_trans hB hS.1) z1 o1 ⟨_, hc, (u_born ty hts hin hKn hkC e1 hty).to g4⟩) (hS.new z1 o1) hl
theorem r_newI (S : Ok κ k cc nL own ret nm h MC MS) {n : Int} (hw : Cond.arrayClass .int ∈ gt) (d : decode cc pc = .ok (.newarray .int, 2)) (h0 : 0 ≤ n ∧ n ≤ 1000000) (h1 : cs + 1 ≤ MC) (h2 : ss + n.toNat ≤ MS) (kk : V κ k nL (cs + 1) (ss + n.toNat) Q (pc + 2) lv (.ref σ.1 :: st) (sNew σ (eI k n.toNat (fun _ => 0)))) : V κ k nL cs ss Q pc lv (.int (iZ n) :: st) σ := by
  intro H locs ls hR hS hl
  obtain ⟨⟨hx, hb, hml, hown, hts⟩, ⟨hK, hB, -⟩, -, -, -, -, -, rfl, rfl⟩ := S
  refine va_newaK (atype := .int) hx hb (hts _ hw) rfl d rfl (iZ_nn h0.1 (by omega)) (iZ_clamp h0.1 (by omega)) (by show n.toNat * 4 ≤ _; omega) h1 h2 hR.1 fun H1 cA e1 z1 o1 hAr hNm => ?_
  rw [← hR.1] at e1 z1 o1
  have hcA : cA = cI k := by
    have h9 : κ.2.2.2.2.1.vm.findClass ("[" ++ (FieldType.int).toString) = some (cI k) := (hK.2 0 _ rfl).2
    exact Option.some.inj (hNm.symm.trans h9)
  subst hcA
  exact kk H1 locs ls (hR.new (Nat.le_trans hB hS.1) z1 o1 e1) (hS.new z1 o1) hl
theorem r_newB (S : Ok κ k cc nL own ret nm h MC MS) {n : Int} (hw : Cond.arrayClass .byte ∈ gt) (d : decode cc pc = .ok (.newarray .byte, 2)) (h0 : 0 ≤ n ∧ n ≤ 1000000) (h1 : cs + 1 ≤ MC) (h2 : ss + n.toNat ≤ MS) (kk : V κ k nL (cs + 1) (ss + n.toNat) Q (pc + 2) lv (.ref σ.1 :: st) (sNew σ (eB k n.toNat (fun _ => 0)))) : V κ k nL cs ss Q pc lv (.int (iZ n) :: st) σ := by
  intro H locs ls hR hS hl
  obtain ⟨⟨hx, hb, hml, hown, hts⟩, ⟨hK, hB, -⟩, -, -, -, -, -, rfl, rfl⟩ := S
  refine va_newaK (atype := .byte) hx hb (hts _ hw) rfl d rfl (iZ_nn h0.1 (by omega)) (iZ_clamp h0.1 (by omega)) (by show n.toNat * 1 ≤ _; omega) h1 h2 hR.1 fun H1 cA e1 z1 o1 hAr hNm => ?_
  rw [← hR.1] at e1 z1 o1
  have hcA : cA = cB k := by
    have h9 : κ.2.2.2.2.1.vm.findClass ("[" ++ (FieldType.byte).toString) = some (cB k) := (hK.2 1 _ rfl).2
    exact Option.some.inj (hNm.symm.trans h9)
  subst hcA
  exact kk H1 locs ls (hR.new (Nat.le_trans hB hS.1) z1 o1 e1) (hS.new z1 o1) hl
theorem r_newQ (S : Ok κ k cc nL own ret nm h MC MS) {n : Int} {idx t0 : Nat} {cA : ClassId} {C : String} (ht : (cTys k)[t0]? = some (cA, .object C)) (hw : Cond.classLink own idx C ∈ gt) (hw2 : Cond.arrayOver (.object C) ∈ lw_tbl) (d : decode cc pc = .ok (.anewarray idx, 3)) (h0 : 0 ≤ n ∧ n ≤ 1000000) (h1 : cs + 1 ≤ MC) (h2 : ss + n.toNat ≤ MS) (kk : V κ k nL (cs + 1) (ss + n.toNat) Q (pc + 3) lv (.ref σ.1 :: st) (sNew σ (eQ cA n.toNat (fun _ => none)))) : V κ k nL cs ss Q pc lv (.int (iZ n) :: st) σ := by
  intro H locs ls hR hS hl
  obtain ⟨⟨hx, hb, hml, hown, hts⟩, ⟨hK, hB, -, -, -, -, hNw⟩, -, -, -, -, -, rfl, rfl⟩ := S
  have hc : (iZ n).toNatClampNeg = n.toNat := iZ_clamp h0.1 (by omega)
  refine W.anew hx hb hown (hts _ hw) (va_AO.use (hNw _ hw2 rfl)) rfl d rfl (iZ_nn h0.1 (by omega)) (by rw [hc]; omega) h1 (by rw [hc]; exact h2) fun cA' kA comp f1 f2 f3 f4 => ?_
  obtain ⟨kA2, comp2, g1, g2, g3, g4⟩ := (hK.2 t0 _ ht).2
  have hcA : cA' = cA := Option.some.inj (f1.symm.trans g4)
  subst hcA
  rw [hc]
  have hz : H.size = σ.1 := hR.1
  rw [hz]
  refine kk _ locs ls (hR.new (Nat.le_trans hB hS.1) (by rw [Array.size_push]) (fun q hq => by rw [Array.getElem?_push, if_neg (Nat.ne_of_lt hq)]) ?_) (hS.new (by rw [Array.size_push]) (fun q hq => by rw [Array.getElem?_push, if_neg (Nat.ne_of_lt hq)])) hl
  show (H.push _)[H.size]? = some (vp_cell _ _)
  rw [vp_cell_q, Array.getElem?_push_size, ← arrV_new]
  rfl
theorem r_aast (S : Ok κ k cc nL own ret nm h MC MS) {a n t0 ci v : Nat} {vs : List Value} {cA : ClassId} {C C2 : String} {T : u_T} {N : Nat} {f : Nat → Option Nat} {i : Int} (ht : (cTys k)[t0]? = some (cA, .object C)) (hci : vwCl[ci]? = some (C2, T, N)) {cj N2 : Nat} {T2 : u_T} (hcj : vwCl[cj]? = some (C, T2, N2)) (hw : C2 = C ∨ Cond.castable C2 C ∈ lw_tbl) (d : decode cc pc = .ok (.aastore, 1)) (hσ : σ.2 a = some (eQ cA n f)) (hi : 0 ≤ i ∧ i < n) (hn : n ≤ 2147483647) (hv : σ.2 v = some (.inr (ci, vs))) (kk : V κ k nL cs ss Q (pc + 1) lv st (sUp σ a (eQ cA n (uQ f i.toNat v)))) : V κ k nL cs ss Q pc lv (.ref v :: .int (iZ i) :: .ref a :: st) σ := by
  intro H locs ls hR hS hl
  obtain ⟨⟨hx, hb, hml, hown, hts⟩, ⟨hK, hB, -, -, -, -, hNw⟩, -⟩ := S
  have hc : (iZ i).toNatClampNeg = i.toNat := iZ_clamp hi.1 (by omega)
  obtain ⟨r', hr', cellV, g1, g2, g3, -⟩ := hR.at hv
  have hcls := (hK.1 ci _ hci).2
  obtain ⟨kA, comp, k1, k2, k3, -⟩ := (hK.2 t0 _ ht).2
  obtain ⟨kC, hkC, hkk⟩ := hcls.2
  have hass : κ.2.2.2.2.1.vm.assignable ((cD k).1 ci) comp = true ∧ ∃ kc, κ.2.2.2.2.1.vm.classes[comp]? = some kc := by
    rcases hw with e | e
    · subst e
      have hcomp : comp = (cD k).1 ci := Option.some.inj (k3.symm.trans hcls.1)
      subst hcomp
      exact ⟨va_assign hcls, kC, hkC⟩
    · obtain ⟨c0, c1, f1, f2, f3⟩ := Cond.castable_spec (va_Nw.use (A := #[]) rfl (hNw _ e rfl))
      have e0 : c0 = (cD k).1 ci := Option.some.inj (f1.symm.trans hcls.1)
      have e1 : c1 = comp := Option.some.inj (f2.symm.trans k3)
      subst e0; subst e1
      have hcj2 := (hK.1 cj _ hcj).2
      have e2 : c1 = (cD k).1 cj := Option.some.inj (f2.symm.trans hcj2.1)
      subst e2
      obtain ⟨kj, hkj, -⟩ := hcj2.2
      exact ⟨f3, kj, hkj⟩
  obtain ⟨kc, hkc⟩ := hass.2
  refine W.aast hx hb (hR.at hσ) (fun q z => by cases z) (fun z => by cases z) k1 k2 rfl hkc ⟨iZ_nn hi.1 (by omega), by show _ < (arrV _ _ _).slots.size; rw [arrV_size, hc]; show i.toNat < n; omega⟩ g1 (fun q z => by rw [g3] at z; cases z) (by rw [g2]; exact hkC) (by rw [g2]; exact hass.1) rfl rfl d fun H1 e z oq => ?_
  refine kk H1 _ ls (hR.up hσ z oq ?_) (hS.put z oq (hR.2 a _ hσ).2) hl
  show H1[a]? = some (vp_cell _ _)
  rw [e, vp_cell_q]
  show some (Cell.setSlot (arrV _ _ _) _ _) = _
  rw [arrV_store]
  show some (arrV _ _ _) = some (arrV _ _ (fun j => va_rf (uQ f i.toNat v j)))
  congr 2
  funext q
  by_cases hq : q = i.toNat
  · subst hq
    simp [updV, uQ, hc, va_rf]
  · simp [updV, uQ, hc, hq]
theorem r_iret {post : Option Value → St → Prop} {mc ms : Nat} {z : Int} (S : Ok κ k cc nL own (some .int) nm h MC MS) (d : decode cc pc = .ok (.ireturn, 1)) (h1 : cs ≤ mc) (h2 : ss ≤ ms) (hp : post (some (.int (iZ z))) σ) : V κ k nL cs ss (QR κ k post mc ms) pc lv [.int (iZ z)] σ := by
  intro H locs ls hR hS hl
  obtain ⟨⟨hx, hb, hml, hown, hts⟩, -, hlk, hr, -⟩ := S
  exact W.widen h1 h2 (W.iret hx hb hr (fun t ht hW => ⟨⟨_, σ, rfl, hp, by rw [ht]; exact hR⟩, hS.F ht⟩) hS.2.2 d hlk)
theorem r_zret {post : Option Value → St → Prop} {mc ms : Nat} {z : Int} (S : Ok κ k cc nL own (some .boolean) nm h MC MS) (d : decode cc pc = .ok (.ireturn, 1)) (h1 : cs ≤ mc) (h2 : ss ≤ ms) (hz : z = 0 ∨ z = 1) (hp : post (some (.int (iZ z))) σ) : V κ k nL cs ss (QR κ k post mc ms) pc lv [.int (iZ z)] σ := by
  intro H locs ls hR hS hl
  obtain ⟨⟨hx, hb, hml, hown, hts⟩, -, hlk, hr, -⟩ := S
  have hnar : narrow .boolean (.int (iZ z)) = .int (iZ z) := by rcases hz with e | e <;> subst e <;> decide
  exact W.widen h1 h2 (W.zret hx hb hr hnar (fun t ht hW => ⟨⟨_, σ, rfl, hp, by rw [ht]; exact hR⟩, hS.F ht⟩) hS.2.2 d hlk)
theorem r_lret {post : Option Value → St → Prop} {mc ms : Nat} {z : Int} (S : Ok κ k cc nL own (some .long) nm h MC MS) (d : decode cc pc = .ok (.lreturn, 1)) (h1 : cs ≤ mc) (h2 : ss ≤ ms) (hp : post (some (.long (lZ z))) σ) : V κ k nL cs ss (QR κ k post mc ms) pc lv [.long (lZ z)] σ := by
  intro H locs ls hR hS hl
  obtain ⟨⟨hx, hb, hml, hown, hts⟩, -, hlk, hr, -⟩ := S
  exact W.widen h1 h2 (W.lret hx hb hr (fun t ht hW => ⟨⟨_, σ, rfl, hp, by rw [ht]; exact hR⟩, hS.F ht⟩) hS.2.2 d hlk)
theorem r_aret {post : Option Value → St → Prop} {mc ms a : Nat} {C : String} (S : Ok κ k cc nL own (some (.object C)) nm h MC MS) (d : decode cc pc = .ok (.areturn, 1)) (h1 : cs ≤ mc) (h2 : ss ≤ ms) (hp : post (some (.ref a)) σ) : V κ k nL cs ss (QR κ k post mc ms) pc lv [.ref a] σ := by
  intro H locs ls hR hS hl
  obtain ⟨⟨hx, hb, hml, hown, hts⟩, -, hlk, hr, -⟩ := S
  exact W.widen h1 h2 (W.aret hx hb hr (Or.inl ⟨_, rfl⟩) (Or.inr ⟨_, rfl⟩) (fun t ht hW => ⟨⟨_, σ, rfl, hp, by rw [ht]; exact hR⟩, hS.F ht⟩) hS.2.2 d hlk)
theorem r_vret {post : Option Value → St → Prop} {mc ms : Nat} (S : Ok κ k cc nL own none nm h MC MS) (d : decode cc pc = .ok (.return_, 1)) (h1 : cs ≤ mc) (h2 : ss ≤ ms) (hp : post none σ) : V κ k nL cs ss (QR κ k post mc ms) pc lv [] σ := by
  intro H locs ls hR hS hl
  obtain ⟨⟨hx, hb, hml, hown, hts⟩, -, hlk, hr, -⟩ := S
  exact W.widen h1 h2 (W.vret hx hb hr (fun t ht hW => ⟨⟨_, σ, rfl, hp, by rw [ht]; exact hR⟩, hS.F ht⟩) hS.2.2 d hlk)
/-- behind a call -/
theorem V.run {post : Option Value → St → Prop} {mc ms : Nat} {a : Array Value} {rest : List Value} (hr : ∀ (H : Heap) (locs : List Loc) (ls : Array Slot), Rep k σ H → va_S (cA k) κ.2.2.2.2.1.heap H locs → lv_has ls nL (lvl 0 lv) → va_Run κ.1 κ.2.1 κ.2.2.1 κ.2.2.2.1 κ.2.2.2.2.1 κ.2.2.2.2.2.1 κ.2.2.2.2.2.2.1 κ.2.2.2.2.2.2.2.1 κ.2.2.2.2.2.2.2.2.1 κ.2.2.2.2.2.2.2.2.2 H locs cs ss mc ms (F0 κ.2.2.2.2.2.1 pc ls st) rest (Qg k post a) (cA k))
    (kk : ∀ (r : Option Value) (σ' : St), post r σ' → V κ k nL (cs + mc) (ss + ms) Q (pc + 3) lv (r.toList ++ rest) σ') : V κ k nL cs ss Q pc lv st σ := by
  intro H locs ls hR hS hl T hT X
  obtain ⟨v, st₀, t, T', L, h0, X', hL, e1, e2, ⟨⟨r, σ', hv, hp, hR'⟩, hz, hk⟩, go⟩ := hr H locs ls hR hS hl T hT X
  cases hv
  rw [h0] at hz hk
  obtain ⟨t2, a1, b1⟩ := kk v σ' hp T'.heap (locs ++ L) ls (by rw [e1]; exact hR') ⟨Nat.le_trans hS.1 (by rw [e1]; exact hz), fun q h1 h2 => by rw [e1, hk q (Nat.lt_of_lt_of_le h1 hS.1) h2]; exact hS.2.1 q h1 h2, fun q hq => by
      rcases List.mem_append.mp hq with h | h
      · exact hS.2.2 q h
      · exact hL q h⟩ hl T' rfl X'
  exact ⟨t2, go t2 a1, b1⟩
theorem Ok.pre (S : Ok κ k cc nL own ret nm h MC MS) {H : Heap} {locs : List Loc} {av : List Value} (hR : Rep k σ H) (hS : va_S (cA k) κ.2.2.2.2.1.heap H locs) : ∀ U : State, U.heap = H → κ.2.2.2.2.1.WarmedH U.vm → Pcx k av σ av.toArray U := by
  intro U hU hW
  refine ⟨rfl, Old.moved hW (by rw [hU]; exact hS.1) (fun q h1 h2 => by rw [hU]; exact hS.2.1 q h1 h2) S.2.1, by rw [hU]; exact hR⟩
theorem Ok.words (S : Ok κ k cc nL own ret nm h MC MS) {M : Mth} {n : Nat} (K : KM M n) : ∀ w ∈ (Cond.code M.1 M.2.1 M.2.2.1 M.2.2.2 :: gt), ∀ (a' : Array Value) (U : State), κ.2.2.2.2.1.WarmedH U.vm → w.before a' U = true :=
  pay_in S.1.2.2.2.2 (gt_goodIn fun w hw => by
    rcases List.mem_cons.mp hw with e | e
    · rw [e]; exact K.1
    · exact e)
theorem Ok.callB (S : Ok κ k cc nL own ret nm h MC MS) {M : Mth} {n h' mc ms idx : Nat} (K : KM M n) (hh : h' + 1 ≤ h) (hl : Cond.methodLink own idx M.1 ∈ gt) : CallB κ.2.2.2.1 κ.2.2.2.2.1 κ.2.2.2.2.2.2.1 own idx M.1 M.2.1 M.2.2.1 M.2.2.2 (Cond.code M.1 M.2.1 M.2.2.1 M.2.2.2 :: gt) (rmh h' mc ms) mc ms n := by
  have hw := S.words K
  obtain ⟨⟨hx, hb, hml, hown, hts⟩, hO, -, -, -, hf, hlo, -⟩ := S
  obtain ⟨k1, k2, k3, k4, k5⟩ := K
  refine ⟨rfl, rfl, by show h' + 1 ≤ _; omega, by show 8 + (M.2.2.1 + 11) + 40 * h' ≤ _; omega, hw, List.mem_cons_self, hts _ k1, hts _ k2, k3, fun sig hs => ?_, hts _ hl⟩
  rw [hs] at k4
  exact (Option.some.inj k4).symm
theorem Ok.callN (S : Ok κ k cc nL own ret nm h MC MS) {M : Mth} {n h' mc ms idx : Nat} {host : String} (K : KM M n) (hh : h' + 1 ≤ h) (hl : Cond.methodLinkNest own idx M.1 host ∈ lw_tbl) : va_CN κ.2.2.2.1 κ.2.2.2.2.1 κ.2.2.2.2.2.2.1 own idx M.1 host M.2.1 M.2.2.1 M.2.2.2 (Cond.code M.1 M.2.1 M.2.2.1 M.2.2.2 :: gt) (rmh h' mc ms) mc ms n := by
  obtain ⟨⟨hx, hb, hml, hown, hts⟩, ⟨-, -, -, -, -, -, hNw⟩, -, -, -, hf, hlo, -⟩ := S
  obtain ⟨k1, k2, k3, k4, k5⟩ := K
  exact va_cnB n hts (gt_goodIn fun w hw => by
    rcases List.mem_cons.mp hw with e | e
    · rw [e]; exact k1
    · exact e) rfl rfl rfl (hNw _ hl rfl) (hts _ k2) ⟨k3.1, k3.2, k4⟩ ⟨by show h' + 1 ≤ _; omega, by show 8 + (M.2.2.1 + 11) + 40 * h' ≤ _; omega⟩
theorem Ok.recv (S : Ok κ k cc nL own ret nm h MC MS) {H : Heap} {b ci : Nat} {fs : List Value} {C : String} {T : u_T} {N : Nat} (hR : Rep k σ H) (hc : vwCl[ci]? = some (C, T, N)) (hσ : σ.2 b = some (.inr (ci, fs))) : ∃ cell : Cell, H[b]? = some cell ∧ cell.vm.isStatics = false ∧ κ.2.2.2.2.1.vm.findClass C = some cell.cls := by
  have hP : va_P (cD k) vwCl [(b, .inr (ci, fs))] H := by
    intro q x hq
    have hz : q < 1 := (List.getElem?_eq_some_iff.mp hq).1
    rw [show q = 0 by omega] at hq
    cases hq
    exact hR.at hσ
  exact va_recv S.2.1.1 hP hc (q0 := 0) rfl
/-- calls: V a method of the receiver's own class; S static; I a constructor; N by the nest; U inherited; O overriding; P of the superclass -/
def KV (own : String) (idx : Nat) (M : Mth) (ci : Nat) : Prop := ∃ (T : u_T) (N : Nat), vwCl[ci]? = some (M.1.cls, T, N) ∧ Cond.methodLink own idx M.1 ∈ gt ∧ Cond.instanceMethod M.1 ∈ gt ∧ Cond.selects M.1.cls M.1 M.1 ∈ gt
theorem r_callV (S : Ok κ k cc nL own ret nm h MC MS) {M : Mth} {n h' mc ms idx ci b : Nat} {As rest fs : List Value} {post : Option Value → St → Prop} (C : Ctr k κ.2.1 M h' mc ms (.ref b :: As) σ post) (K : KM M n) (KK : KV own idx M ci) (d : decode cc pc = .ok (.invokevirtual idx, 3)) (hh : h' + 1 ≤ h) (hcs : cs + mc ≤ MC ∧ ss + ms ≤ MS) (hσ : σ.2 b = some (.inr (ci, fs))) (hn : As.length = n) (hst : st = As.reverse ++ .ref b :: rest) (hrm : (rest.map fun v => v.category).sum ≤ 8) (kk : ∀ (r : Option Value) (σ' : St), post r σ' → V κ k nL (cs + mc) (ss + ms) Q (pc + 3) lv (r.toList ++ rest) σ') : V κ k nL cs ss Q pc lv st σ := by
  obtain ⟨T, N, hc, hl, hi, hs⟩ := KK
  refine V.run (a := #[]) (fun H locs ls hR hS hl2 => ?_) kk
  have hMC : κ.2.2.2.1.cells = MC := S.2.2.2.2.2.2.2.1
  have hMS : κ.2.2.2.1.slots = MS := S.2.2.2.2.2.2.2.2
  exact va_runV S.1 C ⟨S.callB K hh hl, S.1.2.2.2.2 _ hi, S.1.2.2.2.2 _ hs⟩ ⟨Pcx_blind, S.recv hR hc hσ, S.pre hR hS⟩ rfl hn hl2.1 hst (lv_room hrm) d ⟨by omega, by omega⟩
theorem r_callS (S : Ok κ k cc nL own ret nm h MC MS) {M : Mth} {n h' mc ms idx : Nat} {As rest : List Value} {post : Option Value → St → Prop} (C : Ctr k κ.2.1 M h' mc ms As σ post) (K : KM M n) (KK : Cond.methodLink own idx M.1 ∈ gt ∧ Cond.static M.1 ∈ gt) (d : decode cc pc = .ok (.invokestatic idx, 3)) (hh : h' + 1 ≤ h) (hcs : cs + mc ≤ MC ∧ ss + ms ≤ MS) (hn : As.length = n) (hst : st = As.reverse ++ rest) (hrm : (rest.map fun v => v.category).sum ≤ 8) (kk : ∀ (r : Option Value) (σ' : St), post r σ' → V κ k nL (cs + mc) (ss + ms) Q (pc + 3) lv (r.toList ++ rest) σ') : V κ k nL cs ss Q pc lv st σ := by
  refine V.run (a := #[]) (fun H locs ls hR hS hl2 => ?_) kk
  have hMC : κ.2.2.2.1.cells = MC := S.2.2.2.2.2.2.2.1
  have hMS : κ.2.2.2.1.slots = MS := S.2.2.2.2.2.2.2.2
  exact va_runS (As := As) S.1 C ⟨S.callB K hh KK.1, S.1.2.2.2.2 _ KK.2⟩ ⟨Pcx_blind, S.pre hR hS⟩ rfl hn hl2.1 hst (lv_room hrm) d ⟨by omega, by omega⟩
theorem r_callSN (S : Ok κ k cc nL own ret nm h MC MS) {M : Mth} {n h' mc ms idx : Nat} {host : String} {As rest : List Value} {post : Option Value → St → Prop} (C : Ctr k κ.2.1 M h' mc ms As σ post) (K : KM M n) (KK : Cond.methodLinkNest own idx M.1 host ∈ lw_tbl ∧ Cond.static M.1 ∈ gt) (d : decode cc pc = .ok (.invokestatic idx, 3)) (hh : h' + 1 ≤ h) (hcs : cs + mc ≤ MC ∧ ss + ms ≤ MS) (hn : As.length = n) (hst : st = As.reverse ++ rest) (hrm : (rest.map fun v => v.category).sum ≤ 8) (kk : ∀ (r : Option Value) (σ' : St), post r σ' → V κ k nL (cs + mc) (ss + ms) Q (pc + 3) lv (r.toList ++ rest) σ') : V κ k nL cs ss Q pc lv st σ := by
  refine V.run (a := #[]) (fun H locs ls hR hS hl2 => ?_) kk
  have hMC : κ.2.2.2.1.cells = MC := S.2.2.2.2.2.2.2.1
  have hMS : κ.2.2.2.1.slots = MS := S.2.2.2.2.2.2.2.2
  exact va_runSN (As := As) S.1 C ⟨S.callN K hh KK.1, S.1.2.2.2.2 _ KK.2, trivial⟩ ⟨Pcx_blind, S.pre hR hS⟩ rfl hn hl2.1 hst (lv_room hrm) d ⟨by omega, by omega⟩
theorem r_callI (S : Ok κ k cc nL own ret nm h MC MS) {M : Mth} {n h' mc ms idx b : Nat} {As rest : List Value} {post : Option Value → St → Prop} (C : Ctr k κ.2.1 M h' mc ms (.ref b :: As) σ post) (K : KM M n) (KK : Cond.methodLink own idx M.1 ∈ gt ∧ Cond.instanceMethod M.1 ∈ gt ∧ M.1.name = "<init>" ∧ M.2.2.2 = none) (d : decode cc pc = .ok (.invokespecial idx, 3)) (hh : h' + 1 ≤ h) (hcs : cs + mc ≤ MC ∧ ss + ms ≤ MS) (hn : As.length = n) (hst : st = As.reverse ++ .ref b :: rest) (hrm : (rest.map fun v => v.category).sum ≤ 8) (kk : ∀ (r : Option Value) (σ' : St), post r σ' → V κ k nL (cs + mc) (ss + ms) Q (pc + 3) lv (r.toList ++ rest) σ') : V κ k nL cs ss Q pc lv st σ := by
  refine V.run (a := #[]) (fun H locs ls hR hS hl2 => ?_) kk
  have hMC : κ.2.2.2.1.cells = MC := S.2.2.2.2.2.2.2.1
  have hMS : κ.2.2.2.1.slots = MS := S.2.2.2.2.2.2.2.2
  exact va_runI S.1 C ⟨by have h9 := S.callB (mc := mc) (ms := ms) K hh KK.1; rw [KK.2.2.2] at h9; rw [KK.2.2.2]; exact h9, KK.2.2.1, S.1.2.2.2.2 _ KK.2.1⟩ ⟨Pcx_blind, S.pre hR hS⟩ rfl hn hl2.1 hst (lv_room hrm) d ⟨by omega, by omega⟩
theorem r_callIN (S : Ok κ k cc nL own ret nm h MC MS) {M : Mth} {n h' mc ms idx b : Nat} {host : String} {As rest : List Value} {post : Option Value → St → Prop} (C : Ctr k κ.2.1 M h' mc ms (.ref b :: As) σ post) (K : KM M n) (KK : Cond.methodLinkNest own idx M.1 host ∈ lw_tbl ∧ Cond.instanceMethod M.1 ∈ gt ∧ M.1.name = "<init>" ∧ M.2.2.2 = none) (d : decode cc pc = .ok (.invokespecial idx, 3)) (hh : h' + 1 ≤ h) (hcs : cs + mc ≤ MC ∧ ss + ms ≤ MS) (hn : As.length = n) (hst : st = As.reverse ++ .ref b :: rest) (hrm : (rest.map fun v => v.category).sum ≤ 8) (kk : ∀ (r : Option Value) (σ' : St), post r σ' → V κ k nL (cs + mc) (ss + ms) Q (pc + 3) lv (r.toList ++ rest) σ') : V κ k nL cs ss Q pc lv st σ := by
  refine V.run (a := #[]) (fun H locs ls hR hS hl2 => ?_) kk
  have hMC : κ.2.2.2.1.cells = MC := S.2.2.2.2.2.2.2.1
  have hMS : κ.2.2.2.1.slots = MS := S.2.2.2.2.2.2.2.2
  exact va_runIN S.1 C ⟨by have h9 := S.callN (mc := mc) (ms := ms) K hh KK.1; rw [KK.2.2.2] at h9; rw [KK.2.2.2]; exact h9, KK.2.2.1, S.1.2.2.2.2 _ KK.2.1⟩ ⟨Pcx_blind, S.pre hR hS⟩ rfl hn hl2.1 hst (lv_room hrm) d ⟨by omega, by omega⟩
def KU (own : String) (idx : Nat) (x : MethodName) (owner : String) (M : Mth) (ci n : Nat) : Prop := ∃ (C : String) (T : u_T) (N : Nat), vwCl[ci]? = some (C, T, N) ∧ Cond.methodLink own idx x ∈ gt ∧ Cond.sameMethod x.cls owner x.name x.desc ∈ gt ∧ (∀ (a : Array Value) (s : State), (∀ w ∈ gt, w.before a s = true) → (Cond.selects C x M.1).before a s = true) ∧ Cond.instanceMethod M.1 ∈ gt ∧ (owner ≠ "java/lang/invoke/MethodHandle" ∧ owner ≠ "java/lang/invoke/VarHandle") ∧ (parseMethodDescriptor x.desc).map (fun d => d.parameters.length) = some n ∧
  (Cond.declares ⟨owner, x.name, x.desc⟩ ∈ lw_tbl ∨ (Cond.instanceMethod ⟨owner, x.name, x.desc⟩ ∈ gt ∧ ∃ (b0 : ByteArray) (m0 : Nat) (r0 : Option FieldType), Cond.code ⟨owner, x.name, x.desc⟩ b0 m0 r0 ∈ gt))
theorem r_callU (S : Ok κ k cc nL own ret nm h MC MS) {M : Mth} {x : MethodName} {owner : String} {n n' h' mc ms idx ci b : Nat} {As rest fs : List Value} {post : Option Value → St → Prop} (C : Ctr k κ.2.1 M h' mc ms (.ref b :: As) σ post) (K : KM M n') (KK : KU own idx x owner M ci n) (d : decode cc pc = .ok (.invokevirtual idx, 3)) (hh : h' + 1 ≤ h) (hcs : cs + mc ≤ MC ∧ ss + ms ≤ MS) (hσ : σ.2 b = some (.inr (ci, fs))) (hn : As.length = n) (hst : st = As.reverse ++ .ref b :: rest) (hrm : (rest.map fun v => v.category).sum ≤ 8) (kk : ∀ (r : Option Value) (σ' : St), post r σ' → V κ k nL (cs + mc) (ss + ms) Q (pc + 3) lv (r.toList ++ rest) σ') : V κ k nL cs ss Q pc lv st σ := by
  obtain ⟨Cn, T, N, hc, g1, g2, g3, g4, g5, g6, g7⟩ := KK
  have hts := S.1.2.2.2.2
  have hdec : va_Decl κ.2.2.2.2.1 ⟨owner, x.name, x.desc⟩ := by
    rcases g7 with e | ⟨e1, b0, m0, r0, e2⟩
    · exact va_Decl.abs (S.2.1.2.2.2.2.2.2 _ e rfl)
    · exact va_Decl.of (hts _ e1) (hts _ e2)
  have hw := S.words K
  have hf := S.2.2.2.2.2.1
  have hlo := S.2.2.2.2.2.2.1
  have k5 := K.2.2.2.2
  have cw : va_CU κ.2.2.2.1 κ.2.2.2.2.1 κ.2.2.2.2.2.2.1 own Cn owner idx x M.1 M.2.1 M.2.2.1 M.2.2.2 (Cond.code M.1 M.2.1 M.2.2.1 M.2.2.2 :: gt) (rmh h' mc ms) mc ms n := by
    refine ⟨⟨rfl, rfl, by show h' + 1 ≤ _; omega, by show 8 + (M.2.2.1 + 11) + 40 * h' ≤ _; omega, hw, List.mem_cons_self⟩, hts _ K.1, hts _ K.2.1, g5, fun sig hs => ?_, hts _ g1, hts _ g2, hdec, g3 _ _ hts, hts _ g4⟩
    rw [hs] at g6
    exact (Option.some.inj g6).symm
  refine V.run (a := #[]) (fun H locs ls hR hS hl2 => ?_) kk
  have hMC : κ.2.2.2.1.cells = MC := S.2.2.2.2.2.2.2.1
  have hMS : κ.2.2.2.1.slots = MS := S.2.2.2.2.2.2.2.2
  exact va_runU S.1 C cw ⟨Pcx_blind, S.recv hR hc hσ, S.pre hR hS⟩ rfl hn hl2.1 hst (lv_room hrm) d ⟨by omega, by omega⟩
def KP (own : String) (idx : Nat) (M : Mth) (n : Nat) : Prop := (∀ w ∈ ([.methodLink own idx M.1, .sameMethod M.1.cls M.1.cls M.1.name M.1.desc, .superclass own M.1.cls, .instanceMethod M.1, .initialized M.1.cls] : List Cond), w ∈ gt) ∧ M.1.name ≠ "<init>" ∧ (parseMethodDescriptor M.1.desc).map (fun d => d.parameters.length) = some n
theorem r_callP (S : Ok κ k cc nL own ret nm h MC MS) {M : Mth} {n n' h' mc ms idx ci b N : Nat} {T : u_T} {C1 : String} {As rest fs : List Value} {post : Option Value → St → Prop} (C : Ctr k κ.2.1 M h' mc ms (.ref b :: As) σ post) (K : KM M n') (KK : KP own idx M n) (hc : vwCl[ci]? = some (C1, T, N)) (d : decode cc pc = .ok (.invokespecial idx, 3)) (hh : h' + 1 ≤ h) (hcs : cs + mc ≤ MC ∧ ss + ms ≤ MS) (hσ : σ.2 b = some (.inr (ci, fs))) (hn : As.length = n) (hst : st = As.reverse ++ .ref b :: rest) (hrm : (rest.map fun v => v.category).sum ≤ 8) (kk : ∀ (r : Option Value) (σ' : St), post r σ' → V κ k nL (cs + mc) (ss + ms) Q (pc + 3) lv (r.toList ++ rest) σ') : V κ k nL cs ss Q pc lv st σ := by
  have hf := S.2.2.2.2.2.1
  have hlo := S.2.2.2.2.2.2.1
  have k5 := K.2.2.2.2
  have cw := va_cwSU (R := κ.2.2.2.1) (ws := Cond.code M.1 M.2.1 M.2.2.1 M.2.2.2 :: gt) (rm := rmh h' mc ms) (mc := mc) (ms := ms) (bytes := M.2.1) (maxL := M.2.2.1) (ret := M.2.2.2) (own := own) (index := idx) (y := M.1) n S.1.2.2.2.2 (gt_goodIn fun w hw => by
    rcases List.mem_append.mp hw with e | e
    · exact KK.1 w e
    · rcases List.mem_cons.mp e with e | e
      · rw [e]; exact K.1
      · exact e) rfl rfl rfl ⟨KK.2.1, KK.2.2⟩ ⟨by show h' + 1 ≤ _; omega, by show 8 + (M.2.2.1 + 11) + 40 * h' ≤ _; omega⟩
  refine V.run (a := #[]) (fun H locs ls hR hS hl2 => ?_) kk
  have hMC : κ.2.2.2.1.cells = MC := S.2.2.2.2.2.2.2.1
  have hMS : κ.2.2.2.1.slots = MS := S.2.2.2.2.2.2.2.2
  exact va_runSU (S.2.1.1.1 ci _ hc).2 S.1 C cw ⟨Pcx_blind, S.recv hR hc hσ, S.pre hR hS⟩ rfl hn hl2.1 hst (lv_room hrm) d ⟨by omega, by omega⟩
theorem r_mmax (S : Ok κ k cc nL own ret nm h MC MS) {idx : Nat} {a b : Int} (KK : Cond.methodLink own idx Lib.Math.max.name ∈ gt) (KS : Cond.static Lib.Math.max.name ∈ gt ∧ Cond.initialized "java/lang/Math" ∈ gt ∧ Cond.code Lib.Math.max.name Lib.Math.max.code 2 (some .int) ∈ gt) (d : decode cc pc = .ok (.invokestatic idx, 3)) (hh : 1 ≤ h) (ha : zR a) (hb0 : zR b) (hcs : cs ≤ MC ∧ ss ≤ MS) (hrm : (st.map fun v => v.category).sum ≤ 8) (kk : V κ k nL cs ss Q (pc + 3) lv (.int (iZ (max a b)) :: st) σ) : V κ k nL cs ss Q pc lv (.int (iZ b) :: .int (iZ a) :: st) σ := by
  intro H locs ls hR hS hl
  obtain ⟨⟨hx, hb, hml, hown, hts⟩, -, -, -, -, hf, hlo, rfl, rfl⟩ := S
  refine va_mmax hx hb (hml.trans hl.1.symm) hown (hts _ KK) (hts _ KS.1) (hts _ KS.2.1) (hts _ KS.2.2) (by omega) (by omega) hcs.1 hcs.2 d ?_
  have e : (if iZ a < iZ b then iZ b else iZ a) = iZ (max a b) := by
    by_cases q : a < b
    · rw [if_pos ((iZ_lt ha hb0).mpr q), Int.max_eq_right (by omega)]
    · rw [if_neg (fun z => q ((iZ_lt ha hb0).mp z)), Int.max_eq_left (by omega)]
  rw [e]
  exact kk H locs ls hR hS hl
theorem r_mmin (S : Ok κ k cc nL own ret nm h MC MS) {idx : Nat} {a b : Int} (KK : Cond.methodLink own idx Lib.Math.min.name ∈ gt) (KS : Cond.static Lib.Math.min.name ∈ gt ∧ Cond.initialized "java/lang/Math" ∈ gt ∧ Cond.code Lib.Math.min.name Lib.Math.min.code 2 (some .int) ∈ gt) (d : decode cc pc = .ok (.invokestatic idx, 3)) (hh : 1 ≤ h) (ha : zR a) (hb0 : zR b) (hcs : cs ≤ MC ∧ ss ≤ MS) (hrm : (st.map fun v => v.category).sum ≤ 8) (kk : V κ k nL cs ss Q (pc + 3) lv (.int (iZ (min a b)) :: st) σ) : V κ k nL cs ss Q pc lv (.int (iZ b) :: .int (iZ a) :: st) σ := by
  intro H locs ls hR hS hl
  obtain ⟨⟨hx, hb, hml, hown, hts⟩, -, -, -, -, hf, hlo, rfl, rfl⟩ := S
  refine va_mmin hx hb (hml.trans hl.1.symm) hown (hts _ KK) (hts _ KS.1) (hts _ KS.2.1) (hts _ KS.2.2) (by omega) (by omega) hcs.1 hcs.2 d ?_
  have e : (if iZ b < iZ a then iZ b else iZ a) = iZ (min a b) := by
    by_cases q : b < a
    · rw [if_pos ((iZ_lt hb0 ha).mpr q), Int.min_eq_right (by omega)]
    · rw [if_neg (fun z => q ((iZ_lt hb0 ha).mp z)), Int.min_eq_left (by omega)]
  rw [e]
  exact kk H locs ls hR hS hl
theorem r_objInit (S : Ok κ k cc nL own ret nm h MC MS) {idx a : Nat} (KK : Cond.methodLink own idx Lib.objectInit ∈ gt) (KS : Cond.instanceMethod Lib.objectInit ∈ gt ∧ Cond.code Lib.objectInit ⟨#[0xb1]⟩ 1 none ∈ gt) (d : decode cc pc = .ok (.invokespecial idx, 3)) (hh : 1 ≤ h) (hrm : (st.map fun v => v.category).sum ≤ 8) (kk : V κ k nL cs ss Q (pc + 3) lv st σ) : V κ k nL cs ss Q pc lv (.ref a :: st) σ := by
  intro H locs ls hR hS hl
  obtain ⟨⟨hx, hb, hml, hown, hts⟩, -, -, -, -, hf, hlo, rfl, rfl⟩ := S
  exact W.objInit hx hb hown (hts _ KK) (hts _ KS.1) (hts _ KS.2) rfl (hl.1.trans hml.symm) rfl d (by omega) (by have h9 := lv_room (m := κ.2.2.2.2.2.1) (pc := pc) (ls := ls) (rest := .ref a :: st) hrm; omega) (kk H locs ls hR hS hl)
end VCALL
/-- a private method of a superclass, called on an object of class C, is the method itself; that its class is no interface another word shows -/
theorem sel_private {C C2 : String} {y x2 y2 : MethodName} {s : State} {args : Array Value} {n : Nat} (hy : y.cls ≠ "java/lang/invoke/MethodHandle" ∧ y.cls ≠ "java/lang/invoke/VarHandle")
    (hins : (Cond.instantiable C n).before args s = true) (hpriv : (Cond.privateMethod y).before args s = true) (hinst : (Cond.instanceMethod y).before args s = true) (h2 : (Cond.selects C2 x2 y2).before args s = true) (he : y2.cls = y.cls) :
    (Cond.selects C y y).before args s = true := by
  obtain ⟨c, kc, hc, hk, -, hniab, -, -⟩ := Cond.instantiable_spec hins
  obtain ⟨mk, methM, hnamed, hmethM, -, -⟩ := Cond.instanceMethod_spec hinst
  have hfound : s.methodFound? y.cls y.name y.desc = some mk := State.methodFound?_of_named hnamed hy
  have hsel : selectMethod {} s.vm c mk = .method mk := selectMethod_private hmethM (Cond.privateMethod_at hpriv mk methM hnamed hmethM)
  have hno : (s.vm.classes[mk.cls]?).any (fun x => !x.isInterface) = true := by
    have hc1 := findClass_of_methodNamed hnamed
    cases e3 : s.methodNamed? y2 with
    | none => simp [Cond.before, Cond.holds, Cond.value, e3] at h2
    | some m2 =>
      have hc2 := findClass_of_methodNamed e3
      rw [he] at hc2
      have e4 : mk.cls = m2.cls := Option.some.inj (hc1.symm.trans hc2)
      rw [e4]
      simp only [Cond.before, Cond.holds, Cond.value, e3] at h2
      split at h2
      · rename_i z1
        cases z1
        split at h2
        · simp only [beq_iff_eq, Option.some.injEq, Bool.and_eq_true] at h2
          exact h2.2
        · simp at h2
      · simp_all
  simp only [Cond.before, Cond.holds, Cond.value, hc, hfound, hnamed, hsel, hk]
  simp [hno]
end
section
theorem uw_0 : ∀ w ∈ u_ws RX0 TX0 6, w ∈ gt := by decide +kernel
theorem uw_1 : ∀ w ∈ u_ws RX1 TX1 0, w ∈ gt := by decide +kernel
theorem uw_2 : ∀ w ∈ u_ws RX2 TX2 3, w ∈ gt := by decide +kernel
theorem uw_3 : ∀ w ∈ u_ws RX3 TX3 9, w ∈ gt := by decide +kernel
theorem uw_4 : ∀ w ∈ u_ws RX4 TX4 4, w ∈ gt := by decide +kernel
theorem uw_5 : ∀ w ∈ u_ws RX6 TX6 8, w ∈ gt := by decide +kernel
theorem uw_6 : ∀ w ∈ u_ws RX7 TX7 0, w ∈ gt := by decide +kernel
theorem uw_7 : ∀ w ∈ u_ws RX8 TX8 4, w ∈ gt := by decide +kernel
theorem uw_8 : ∀ w ∈ u_ws RX9 TX9 1, w ∈ gt := by decide +kernel
theorem uw_9 : ∀ w ∈ u_ws RX10 TX10 0, w ∈ gt := by decide +kernel
theorem uw_10 : ∀ w ∈ u_ws RX11 TX11 8, w ∈ gt := by decide +kernel
theorem uw_11 : ∀ w ∈ u_ws RX12 TX12 21, w ∈ gt := by decide +kernel
theorem wd_231 : (Cond.code ({ cls := "LiarsAnswers$AnyHeap", name := "<init>", desc := "([III)V" } : MethodName) prog_2_method_1_code (4 : Nat) (Option.none : Option FieldType)) ∈ gt := gt_of (List.mem_of_getElem? (i := 231) (by decide +kernel)) (by decide +kernel)
theorem wd_40 : (Cond.initialized "LiarsAnswers$AnyHeap") ∈ gt := gt_of (List.mem_of_getElem? (i := 40) (by decide +kernel)) (by decide +kernel)
abbrev mX0_init : Mth := (yX0_init, cX0_init, 4, none)
theorem k_mX0_init : KM mX0_init 3 := ⟨wd_231, wd_40, by decide +kernel, by decide +kernel, by decide⟩
theorem wd_324 : (Cond.code ({ cls := "LiarsAnswers$AnyHeap", name := "hold", desc := "(IIII)V" } : MethodName) prog_2_method_2_code (5 : Nat) (Option.none : Option FieldType)) ∈ gt := gt_of (List.mem_of_getElem? (i := 324) (by decide +kernel)) (by decide +kernel)
abbrev mX0_hold : Mth := (yX0_hold, cX0_hold, 5, none)
theorem k_mX0_hold : KM mX0_hold 4 := ⟨wd_324, wd_40, by decide +kernel, by decide +kernel, by decide⟩
theorem wd_340 : (Cond.code ({ cls := "LiarsAnswers$AnyHeap", name := "last", desc := "(III)Z" } : MethodName) prog_2_method_3_code (5 : Nat) (Option.some FieldType.boolean)) ∈ gt := gt_of (List.mem_of_getElem? (i := 340) (by decide +kernel)) (by decide +kernel)
abbrev mX0_last : Mth := (yX0_last, cX0_last, 5, some FieldType.boolean)
theorem k_mX0_last : KM mX0_last 3 := ⟨wd_340, wd_40, by decide +kernel, by decide +kernel, by decide⟩
theorem wd_65 : (Cond.code ({ cls := "LiarsAnswers$BothLiar", name := "<init>", desc := "()V" } : MethodName) prog_3_method_1_code (1 : Nat) (Option.none : Option FieldType)) ∈ gt := gt_of (List.mem_of_getElem? (i := 65) (by decide +kernel)) (by decide +kernel)
theorem wd_32 : (Cond.initialized "LiarsAnswers$BothLiar") ∈ gt := gt_of (List.mem_of_getElem? (i := 32) (by decide +kernel)) (by decide +kernel)
abbrev mX1_init : Mth := (yX1_init, cX1_init, 1, none)
theorem k_mX1_init : KM mX1_init 0 := ⟨wd_65, wd_32, by decide +kernel, by decide +kernel, by decide⟩
theorem wd_200 : (Cond.code ({ cls := "LiarsAnswers$BothLiar", name := "price", desc := "(ZZLLiarsAnswers$Tally;)I" } : MethodName) prog_3_method_2_code (5 : Nat) (Option.some FieldType.int)) ∈ gt := gt_of (List.mem_of_getElem? (i := 200) (by decide +kernel)) (by decide +kernel)
abbrev mX1_price : Mth := (yX1_price, cX1_price, 5, some FieldType.int)
theorem k_mX1_price : KM mX1_price 3 := ⟨wd_200, wd_32, by decide +kernel, by decide +kernel, by decide⟩
theorem wd_139 : (Cond.code ({ cls := "LiarsAnswers$Code", name := "<init>", desc := "()V" } : MethodName) prog_4_method_1_code (1 : Nat) (Option.none : Option FieldType)) ∈ gt := gt_of (List.mem_of_getElem? (i := 139) (by decide +kernel)) (by decide +kernel)
theorem wd_36 : (Cond.initialized "LiarsAnswers$Code") ∈ gt := gt_of (List.mem_of_getElem? (i := 36) (by decide +kernel)) (by decide +kernel)
abbrev mX2_init : Mth := (yX2_init, cX2_init, 1, none)
theorem k_mX2_init : KM mX2_init 0 := ⟨wd_139, wd_36, by decide +kernel, by decide +kernel, by decide⟩
theorem wd_569 : (Cond.code ({ cls := "LiarsAnswers$Code", name := "add", desc := "(I)Z" } : MethodName) prog_4_method_2_code (3 : Nat) (Option.some FieldType.boolean)) ∈ gt := gt_of (List.mem_of_getElem? (i := 569) (by decide +kernel)) (by decide +kernel)
abbrev mX2_add : Mth := (yX2_add, cX2_add, 3, some FieldType.boolean)
theorem k_mX2_add : KM mX2_add 1 := ⟨wd_569, wd_36, by decide +kernel, by decide +kernel, by decide⟩
theorem wd_577 : (Cond.code ({ cls := "LiarsAnswers$Code", name := "removeLatest", desc := "()Z" } : MethodName) prog_4_method_3_code (2 : Nat) (Option.some FieldType.boolean)) ∈ gt := gt_of (List.mem_of_getElem? (i := 577) (by decide +kernel)) (by decide +kernel)
abbrev mX2_removeLatest : Mth := (yX2_removeLatest, cX2_removeLatest, 2, some FieldType.boolean)
theorem k_mX2_removeLatest : KM mX2_removeLatest 0 := ⟨wd_577, wd_36, by decide +kernel, by decide +kernel, by decide⟩
theorem wd_629 : (Cond.code ({ cls := "LiarsAnswers$Code", name := "question", desc := "(I)I" } : MethodName) prog_4_method_4_code (2 : Nat) (Option.some FieldType.int)) ∈ gt := gt_of (List.mem_of_getElem? (i := 629) (by decide +kernel)) (by decide +kernel)
abbrev mX2_question : Mth := (yX2_question, cX2_question, 2, some FieldType.int)
theorem k_mX2_question : KM mX2_question 1 := ⟨wd_629, wd_36, by decide +kernel, by decide +kernel, by decide⟩
theorem wd_613 : (Cond.code ({ cls := "LiarsAnswers$Code", name := "isWord", desc := "(I)Z" } : MethodName) prog_4_method_5_code (2 : Nat) (Option.some FieldType.boolean)) ∈ gt := gt_of (List.mem_of_getElem? (i := 613) (by decide +kernel)) (by decide +kernel)
abbrev mX2_isWord : Mth := (yX2_isWord, cX2_isWord, 2, some FieldType.boolean)
theorem k_mX2_isWord : KM mX2_isWord 1 := ⟨wd_613, wd_36, by decide +kernel, by decide +kernel, by decide⟩
theorem wd_585 : (Cond.code ({ cls := "LiarsAnswers$Code", name := "wordOf", desc := "(I)I" } : MethodName) prog_4_method_6_code (2 : Nat) (Option.some FieldType.int)) ∈ gt := gt_of (List.mem_of_getElem? (i := 585) (by decide +kernel)) (by decide +kernel)
abbrev mX2_wordOf : Mth := (yX2_wordOf, cX2_wordOf, 2, some FieldType.int)
theorem k_mX2_wordOf : KM mX2_wordOf 1 := ⟨wd_585, wd_36, by decide +kernel, by decide +kernel, by decide⟩
theorem wd_603 : (Cond.code ({ cls := "LiarsAnswers$Code", name := "allApart", desc := "(II)Z" } : MethodName) prog_4_method_7_code (6 : Nat) (Option.some FieldType.boolean)) ∈ gt := gt_of (List.mem_of_getElem? (i := 603) (by decide +kernel)) (by decide +kernel)
abbrev mX2_allApart : Mth := (yX2_allApart, cX2_allApart, 6, some FieldType.boolean)
theorem k_mX2_allApart : KM mX2_allApart 2 := ⟨wd_603, wd_36, by decide +kernel, by decide +kernel, by decide⟩
theorem wd_617 : (Cond.code ({ cls := "LiarsAnswers$Code", name := "onlyNear", desc := "(III)I" } : MethodName) prog_4_method_8_code (6 : Nat) (Option.some FieldType.int)) ∈ gt := gt_of (List.mem_of_getElem? (i := 617) (by decide +kernel)) (by decide +kernel)
abbrev mX2_onlyNear : Mth := (yX2_onlyNear, cX2_onlyNear, 6, some FieldType.int)
theorem k_mX2_onlyNear : KM mX2_onlyNear 3 := ⟨wd_617, wd_36, by decide +kernel, by decide +kernel, by decide⟩
theorem wd_97 : (Cond.code ({ cls := "LiarsAnswers$Game", name := "<init>", desc := "()V" } : MethodName) prog_5_method_1_code (1 : Nat) (Option.none : Option FieldType)) ∈ gt := gt_of (List.mem_of_getElem? (i := 97) (by decide +kernel)) (by decide +kernel)
theorem wd_35 : (Cond.initialized "LiarsAnswers$Game") ∈ gt := gt_of (List.mem_of_getElem? (i := 35) (by decide +kernel)) (by decide +kernel)
abbrev mX3_init : Mth := (yX3_init, cX3_init, 1, none)
theorem k_mX3_init : KM mX3_init 0 := ⟨wd_97, wd_35, by decide +kernel, by decide +kernel, by decide⟩
theorem wd_216 : (Cond.code ({ cls := "LiarsAnswers$Game", name := "start", desc := "(IIIII)V" } : MethodName) prog_5_method_2_code (7 : Nat) (Option.none : Option FieldType)) ∈ gt := gt_of (List.mem_of_getElem? (i := 216) (by decide +kernel)) (by decide +kernel)
abbrev mX3_start : Mth := (yX3_start, cX3_start, 7, none)
theorem k_mX3_start : KM mX3_start 5 := ⟨wd_216, wd_35, by decide +kernel, by decide +kernel, by decide⟩
theorem wd_369 : (Cond.code ({ cls := "LiarsAnswers$Game", name := "row", desc := "()I" } : MethodName) prog_5_method_3_code (1 : Nat) (Option.some FieldType.int)) ∈ gt := gt_of (List.mem_of_getElem? (i := 369) (by decide +kernel)) (by decide +kernel)
abbrev mX3_row : Mth := (yX3_row, cX3_row, 1, some FieldType.int)
theorem k_mX3_row : KM mX3_row 0 := ⟨wd_369, wd_35, by decide +kernel, by decide +kernel, by decide⟩
theorem wd_424 : (Cond.code ({ cls := "LiarsAnswers$Game", name := "rowBehind", desc := "()I" } : MethodName) prog_5_method_4_code (1 : Nat) (Option.some FieldType.int)) ∈ gt := gt_of (List.mem_of_getElem? (i := 424) (by decide +kernel)) (by decide +kernel)
abbrev mX3_rowBehind : Mth := (yX3_rowBehind, cX3_rowBehind, 1, some FieldType.int)
theorem k_mX3_rowBehind : KM mX3_rowBehind 0 := ⟨wd_424, wd_35, by decide +kernel, by decide +kernel, by decide⟩
theorem wd_395 : (Cond.code ({ cls := "LiarsAnswers$Game", name := "within", desc := "(I)I" } : MethodName) prog_5_method_5_code (2 : Nat) (Option.some FieldType.int)) ∈ gt := gt_of (List.mem_of_getElem? (i := 395) (by decide +kernel)) (by decide +kernel)
abbrev mX3_within : Mth := (yX3_within, cX3_within, 2, some FieldType.int)
theorem k_mX3_within : KM mX3_within 1 := ⟨wd_395, wd_35, by decide +kernel, by decide +kernel, by decide⟩
theorem wd_407 : (Cond.code ({ cls := "LiarsAnswers$Game", name := "leftOf", desc := "(I)I" } : MethodName) prog_5_method_6_code (2 : Nat) (Option.some FieldType.int)) ∈ gt := gt_of (List.mem_of_getElem? (i := 407) (by decide +kernel)) (by decide +kernel)
abbrev mX3_leftOf : Mth := (yX3_leftOf, cX3_leftOf, 2, some FieldType.int)
theorem k_mX3_leftOf : KM mX3_leftOf 1 := ⟨wd_407, wd_35, by decide +kernel, by decide +kernel, by decide⟩
theorem wd_452 : (Cond.code ({ cls := "LiarsAnswers$Game", name := "countOf", desc := "(I)I" } : MethodName) prog_5_method_7_code (4 : Nat) (Option.some FieldType.int)) ∈ gt := gt_of (List.mem_of_getElem? (i := 452) (by decide +kernel)) (by decide +kernel)
abbrev mX3_countOf : Mth := (yX3_countOf, cX3_countOf, 4, some FieldType.int)
theorem k_mX3_countOf : KM mX3_countOf 1 := ⟨wd_452, wd_35, by decide +kernel, by decide +kernel, by decide⟩
theorem wd_403 : (Cond.code ({ cls := "LiarsAnswers$Game", name := "standingIn", desc := "(I)I" } : MethodName) prog_5_method_8_code (4 : Nat) (Option.some FieldType.int)) ∈ gt := gt_of (List.mem_of_getElem? (i := 403) (by decide +kernel)) (by decide +kernel)
abbrev mX3_standingIn : Mth := (yX3_standingIn, cX3_standingIn, 4, some FieldType.int)
theorem k_mX3_standingIn : KM mX3_standingIn 1 := ⟨wd_403, wd_35, by decide +kernel, by decide +kernel, by decide⟩
theorem wd_399 : (Cond.code ({ cls := "LiarsAnswers$Game", name := "waitFor", desc := "(I)V" } : MethodName) prog_5_method_9_code (2 : Nat) (Option.none : Option FieldType)) ∈ gt := gt_of (List.mem_of_getElem? (i := 399) (by decide +kernel)) (by decide +kernel)
abbrev mX3_waitFor : Mth := (yX3_waitFor, cX3_waitFor, 2, none)
theorem k_mX3_waitFor : KM mX3_waitFor 1 := ⟨wd_399, wd_35, by decide +kernel, by decide +kernel, by decide⟩
theorem wd_416 : (Cond.code ({ cls := "LiarsAnswers$Game", name := "reply", desc := "(IZ)I" } : MethodName) prog_5_method_10_code (4 : Nat) (Option.some FieldType.int)) ∈ gt := gt_of (List.mem_of_getElem? (i := 416) (by decide +kernel)) (by decide +kernel)
abbrev mX3_reply : Mth := (yX3_reply, cX3_reply, 4, some FieldType.int)
theorem k_mX3_reply : KM mX3_reply 2 := ⟨wd_416, wd_35, by decide +kernel, by decide +kernel, by decide⟩
theorem wd_436 : (Cond.code ({ cls := "LiarsAnswers$Game", name := "forgetLatest", desc := "()V" } : MethodName) prog_5_method_11_code (1 : Nat) (Option.none : Option FieldType)) ∈ gt := gt_of (List.mem_of_getElem? (i := 436) (by decide +kernel)) (by decide +kernel)
abbrev mX3_forgetLatest : Mth := (yX3_forgetLatest, cX3_forgetLatest, 1, none)
theorem k_mX3_forgetLatest : KM mX3_forgetLatest 0 := ⟨wd_436, wd_35, by decide +kernel, by decide +kernel, by decide⟩
theorem wd_420 : (Cond.code ({ cls := "LiarsAnswers$Game", name := "layBehind", desc := "(IZ)I" } : MethodName) prog_5_method_12_code (7 : Nat) (Option.some FieldType.int)) ∈ gt := gt_of (List.mem_of_getElem? (i := 420) (by decide +kernel)) (by decide +kernel)
abbrev mX3_layBehind : Mth := (yX3_layBehind, cX3_layBehind, 7, some FieldType.int)
theorem k_mX3_layBehind : KM mX3_layBehind 2 := ⟨wd_420, wd_35, by decide +kernel, by decide +kernel, by decide⟩
theorem wd_428 : (Cond.code ({ cls := "LiarsAnswers$Game", name := "priceFor", desc := "(ZZ)I" } : MethodName) prog_5_method_13_code (3 : Nat) (Option.some FieldType.int)) ∈ gt := gt_of (List.mem_of_getElem? (i := 428) (by decide +kernel)) (by decide +kernel)
abbrev mX3_priceFor : Mth := (yX3_priceFor, cX3_priceFor, 3, some FieldType.int)
theorem k_mX3_priceFor : KM mX3_priceFor 2 := ⟨wd_428, wd_35, by decide +kernel, by decide +kernel, by decide⟩
theorem wd_491 : (Cond.code ({ cls := "LiarsAnswers$Game", name := "asDigits", desc := "()I" } : MethodName) prog_5_method_14_code (3 : Nat) (Option.some FieldType.int)) ∈ gt := gt_of (List.mem_of_getElem? (i := 491) (by decide +kernel)) (by decide +kernel)
abbrev mX3_asDigits : Mth := (yX3_asDigits, cX3_asDigits, 3, some FieldType.int)
theorem k_mX3_asDigits : KM mX3_asDigits 0 := ⟨wd_491, wd_35, by decide +kernel, by decide +kernel, by decide⟩
theorem wd_285 : (Cond.code ({ cls := "LiarsAnswers$HeapTable", name := "<init>", desc := "([ILLiarsAnswers$AnyHeap;LLiarsAnswers$LeastHeap;)V" } : MethodName) prog_6_method_1_code (4 : Nat) (Option.none : Option FieldType)) ∈ gt := gt_of (List.mem_of_getElem? (i := 285) (by decide +kernel)) (by decide +kernel)
theorem wd_42 : (Cond.initialized "LiarsAnswers$HeapTable") ∈ gt := gt_of (List.mem_of_getElem? (i := 42) (by decide +kernel)) (by decide +kernel)
abbrev mX4_init : Mth := (yX4_init, cX4_init, 4, none)
theorem k_mX4_init : KM mX4_init 3 := ⟨wd_285, wd_42, by decide +kernel, by decide +kernel, by decide⟩
theorem wd_303 : (Cond.code ({ cls := "LiarsAnswers$HeapTable", name := "learn", desc := "(II)V" } : MethodName) prog_6_method_2_code (8 : Nat) (Option.none : Option FieldType)) ∈ gt := gt_of (List.mem_of_getElem? (i := 303) (by decide +kernel)) (by decide +kernel)
abbrev mX4_learn : Mth := (yX4_learn, cX4_learn, 8, none)
theorem k_mX4_learn : KM mX4_learn 2 := ⟨wd_303, wd_42, by decide +kernel, by decide +kernel, by decide⟩
theorem wd_308 : (Cond.code ({ cls := "LiarsAnswers$HeapTable", name := "learnOne", desc := "(IIII)V" } : MethodName) prog_6_method_3_code (8 : Nat) (Option.none : Option FieldType)) ∈ gt := gt_of (List.mem_of_getElem? (i := 308) (by decide +kernel)) (by decide +kernel)
abbrev mX4_learnOne : Mth := (yX4_learnOne, cX4_learnOne, 8, none)
theorem k_mX4_learnOne : KM mX4_learnOne 4 := ⟨wd_308, wd_42, by decide +kernel, by decide +kernel, by decide⟩
theorem wd_320 : (Cond.code ({ cls := "LiarsAnswers$HeapTable", name := "stepTo", desc := "(II)I" } : MethodName) prog_6_method_4_code (2 : Nat) (Option.some FieldType.int)) ∈ gt := gt_of (List.mem_of_getElem? (i := 320) (by decide +kernel)) (by decide +kernel)
abbrev mX4_stepTo : Mth := (yX4_stepTo, cX4_stepTo, 2, some FieldType.int)
theorem k_mX4_stepTo : KM mX4_stepTo 2 := ⟨wd_320, wd_42, by decide +kernel, by decide +kernel, by decide⟩
theorem wd_317 : (Cond.code ({ cls := "LiarsAnswers$HeapTable", name := "fewAt", desc := "(I)I" } : MethodName) prog_6_method_5_code (2 : Nat) (Option.some FieldType.int)) ∈ gt := gt_of (List.mem_of_getElem? (i := 317) (by decide +kernel)) (by decide +kernel)
abbrev mX4_fewAt : Mth := (yX4_fewAt, cX4_fewAt, 2, some FieldType.int)
theorem k_mX4_fewAt : KM mX4_fewAt 1 := ⟨wd_317, wd_42, by decide +kernel, by decide +kernel, by decide⟩
theorem wd_373 : (Cond.code ({ cls := "LiarsAnswers$HeapTable", name := "fewestOf", desc := "([III)I" } : MethodName) prog_6_method_6_code (8 : Nat) (Option.some FieldType.int)) ∈ gt := gt_of (List.mem_of_getElem? (i := 373) (by decide +kernel)) (by decide +kernel)
abbrev mX4_fewestOf : Mth := (yX4_fewestOf, cX4_fewestOf, 8, some FieldType.int)
theorem k_mX4_fewestOf : KM mX4_fewestOf 3 := ⟨wd_373, wd_42, by decide +kernel, by decide +kernel, by decide⟩
theorem wd_537 : (Cond.code ({ cls := "LiarsAnswers$HeapTable", name := "bestHeap", desc := "([III)I" } : MethodName) prog_6_method_7_code (4 : Nat) (Option.some FieldType.int)) ∈ gt := gt_of (List.mem_of_getElem? (i := 537) (by decide +kernel)) (by decide +kernel)
abbrev mX4_bestHeap : Mth := (yX4_bestHeap, cX4_bestHeap, 4, some FieldType.int)
theorem k_mX4_bestHeap : KM mX4_bestHeap 3 := ⟨wd_537, wd_42, by decide +kernel, by decide +kernel, by decide⟩
theorem wd_234 : (Cond.code ({ cls := "LiarsAnswers$HeapWalk", name := "<init>", desc := "([III)V" } : MethodName) prog_7_method_1_code (4 : Nat) (Option.none : Option FieldType)) ∈ gt := gt_of (List.mem_of_getElem? (i := 234) (by decide +kernel)) (by decide +kernel)
theorem wd_39 : (Cond.initialized "LiarsAnswers$HeapWalk") ∈ gt := gt_of (List.mem_of_getElem? (i := 39) (by decide +kernel)) (by decide +kernel)
abbrev mX5_init : Mth := (yX5_init, cX5_init, 4, none)
theorem k_mX5_init : KM mX5_init 3 := ⟨wd_234, wd_39, by decide +kernel, by decide +kernel, by decide⟩
theorem wd_330 : (Cond.code ({ cls := "LiarsAnswers$HeapWalk", name := "walk", desc := "(I)Z" } : MethodName) prog_7_method_2_code (2 : Nat) (Option.some FieldType.boolean)) ∈ gt := gt_of (List.mem_of_getElem? (i := 330) (by decide +kernel)) (by decide +kernel)
abbrev mX5_walk : Mth := (yX5_walk, cX5_walk, 2, some FieldType.boolean)
theorem k_mX5_walk : KM mX5_walk 1 := ⟨wd_330, wd_39, by decide +kernel, by decide +kernel, by decide⟩
theorem wd_334 : (Cond.code ({ cls := "LiarsAnswers$HeapWalk", name := "down", desc := "(III)Z" } : MethodName) prog_7_method_3_code (12 : Nat) (Option.some FieldType.boolean)) ∈ gt := gt_of (List.mem_of_getElem? (i := 334) (by decide +kernel)) (by decide +kernel)
abbrev mX5_down : Mth := (yX5_down, cX5_down, 12, some FieldType.boolean)
theorem k_mX5_down : KM mX5_down 3 := ⟨wd_334, wd_39, by decide +kernel, by decide +kernel, by decide⟩
theorem wd_346 : (Cond.code ({ cls := "LiarsAnswers$HeapWalk", name := "isBeyond", desc := "(I)Z" } : MethodName) prog_7_method_5_code (2 : Nat) (Option.some FieldType.boolean)) ∈ gt := gt_of (List.mem_of_getElem? (i := 346) (by decide +kernel)) (by decide +kernel)
abbrev mX5_isBeyond : Mth := (yX5_isBeyond, cX5_isBeyond, 2, some FieldType.boolean)
theorem k_mX5_isBeyond : KM mX5_isBeyond 1 := ⟨wd_346, wd_39, by decide +kernel, by decide +kernel, by decide⟩
theorem wd_360 : (Cond.code ({ cls := "LiarsAnswers$HeapWalk", name := "outward", desc := "(II)I" } : MethodName) prog_7_method_6_code (3 : Nat) (Option.some FieldType.int)) ∈ gt := gt_of (List.mem_of_getElem? (i := 360) (by decide +kernel)) (by decide +kernel)
abbrev mX5_outward : Mth := (yX5_outward, cX5_outward, 3, some FieldType.int)
theorem k_mX5_outward : KM mX5_outward 2 := ⟨wd_360, wd_39, by decide +kernel, by decide +kernel, by decide⟩
theorem wd_267 : (Cond.code ({ cls := "LiarsAnswers$LeastHeap", name := "<init>", desc := "([III)V" } : MethodName) prog_8_method_1_code (4 : Nat) (Option.none : Option FieldType)) ∈ gt := gt_of (List.mem_of_getElem? (i := 267) (by decide +kernel)) (by decide +kernel)
theorem wd_41 : (Cond.initialized "LiarsAnswers$LeastHeap") ∈ gt := gt_of (List.mem_of_getElem? (i := 41) (by decide +kernel)) (by decide +kernel)
abbrev mX6_init : Mth := (yX6_init, cX6_init, 4, none)
theorem k_mX6_init : KM mX6_init 3 := ⟨wd_267, wd_41, by decide +kernel, by decide +kernel, by decide⟩
theorem wd_542 : (Cond.code ({ cls := "LiarsAnswers$LeastHeap", name := "find", desc := "([IIII)I" } : MethodName) prog_8_method_2_code (6 : Nat) (Option.some FieldType.int)) ∈ gt := gt_of (List.mem_of_getElem? (i := 542) (by decide +kernel)) (by decide +kernel)
abbrev mX6_find : Mth := (yX6_find, cX6_find, 6, some FieldType.int)
theorem k_mX6_find : KM mX6_find 4 := ⟨wd_542, wd_41, by decide +kernel, by decide +kernel, by decide⟩
theorem wd_546 : (Cond.code ({ cls := "LiarsAnswers$LeastHeap", name := "layLowest", desc := "([IIII)I" } : MethodName) prog_8_method_3_code (8 : Nat) (Option.some FieldType.int)) ∈ gt := gt_of (List.mem_of_getElem? (i := 546) (by decide +kernel)) (by decide +kernel)
abbrev mX6_layLowest : Mth := (yX6_layLowest, cX6_layLowest, 8, some FieldType.int)
theorem k_mX6_layLowest : KM mX6_layLowest 4 := ⟨wd_546, wd_41, by decide +kernel, by decide +kernel, by decide⟩
theorem wd_349 : (Cond.code ({ cls := "LiarsAnswers$LeastHeap", name := "last", desc := "(III)Z" } : MethodName) prog_8_method_4_code (5 : Nat) (Option.some FieldType.boolean)) ∈ gt := gt_of (List.mem_of_getElem? (i := 349) (by decide +kernel)) (by decide +kernel)
abbrev mX6_last : Mth := (yX6_last, cX6_last, 5, some FieldType.boolean)
theorem k_mX6_last : KM mX6_last 3 := ⟨wd_349, wd_41, by decide +kernel, by decide +kernel, by decide⟩
theorem wd_356 : (Cond.code ({ cls := "LiarsAnswers$LeastHeap", name := "lowestTaken", desc := "()I" } : MethodName) prog_8_method_5_code (4 : Nat) (Option.some FieldType.int)) ∈ gt := gt_of (List.mem_of_getElem? (i := 356) (by decide +kernel)) (by decide +kernel)
abbrev mX6_lowestTaken : Mth := (yX6_lowestTaken, cX6_lowestTaken, 4, some FieldType.int)
theorem k_mX6_lowestTaken : KM mX6_lowestTaken 0 := ⟨wd_356, wd_41, by decide +kernel, by decide +kernel, by decide⟩
theorem wd_58 : (Cond.code ({ cls := "LiarsAnswers$Liar", name := "<init>", desc := "()V" } : MethodName) prog_9_method_1_code (1 : Nat) (Option.none : Option FieldType)) ∈ gt := gt_of (List.mem_of_getElem? (i := 58) (by decide +kernel)) (by decide +kernel)
theorem wd_31 : (Cond.initialized "LiarsAnswers$Liar") ∈ gt := gt_of (List.mem_of_getElem? (i := 31) (by decide +kernel)) (by decide +kernel)
abbrev mX7_init : Mth := (yX7_init, cX7_init, 1, none)
theorem k_mX7_init : KM mX7_init 0 := ⟨wd_58, wd_31, by decide +kernel, by decide +kernel, by decide⟩
theorem wd_208 : (Cond.code ({ cls := "LiarsAnswers$Liar", name := "price", desc := "(ZZLLiarsAnswers$Tally;)I" } : MethodName) prog_9_method_2_code (4 : Nat) (Option.some FieldType.int)) ∈ gt := gt_of (List.mem_of_getElem? (i := 208) (by decide +kernel)) (by decide +kernel)
abbrev mX7_price : Mth := (yX7_price, cX7_price, 4, some FieldType.int)
theorem k_mX7_price : KM mX7_price 3 := ⟨wd_208, wd_31, by decide +kernel, by decide +kernel, by decide⟩
theorem wd_472 : (Cond.code ({ cls := "LiarsAnswers$SpanTable", name := "<init>", desc := "(II)V" } : MethodName) prog_10_method_1_code (3 : Nat) (Option.none : Option FieldType)) ∈ gt := gt_of (List.mem_of_getElem? (i := 472) (by decide +kernel)) (by decide +kernel)
theorem wd_43 : (Cond.initialized "LiarsAnswers$SpanTable") ∈ gt := gt_of (List.mem_of_getElem? (i := 43) (by decide +kernel)) (by decide +kernel)
abbrev mX8_init : Mth := (yX8_init, cX8_init, 3, none)
theorem k_mX8_init : KM mX8_init 2 := ⟨wd_472, wd_43, by decide +kernel, by decide +kernel, by decide⟩
theorem wd_495 : (Cond.code ({ cls := "LiarsAnswers$SpanTable", name := "fewestOf", desc := "(I)I" } : MethodName) prog_10_method_2_code (2 : Nat) (Option.some FieldType.int)) ∈ gt := gt_of (List.mem_of_getElem? (i := 495) (by decide +kernel)) (by decide +kernel)
abbrev mX8_fewestOf : Mth := (yX8_fewestOf, cX8_fewestOf, 2, some FieldType.int)
theorem k_mX8_fewestOf : KM mX8_fewestOf 1 := ⟨wd_495, wd_43, by decide +kernel, by decide +kernel, by decide⟩
theorem wd_499 : (Cond.code ({ cls := "LiarsAnswers$SpanTable", name := "learned", desc := "(I)I" } : MethodName) prog_10_method_3_code (3 : Nat) (Option.some FieldType.int)) ∈ gt := gt_of (List.mem_of_getElem? (i := 499) (by decide +kernel)) (by decide +kernel)
abbrev mX8_learned : Mth := (yX8_learned, cX8_learned, 3, some FieldType.int)
theorem k_mX8_learned : KM mX8_learned 1 := ⟨wd_499, wd_43, by decide +kernel, by decide +kernel, by decide⟩
theorem wd_513 : (Cond.code ({ cls := "LiarsAnswers$SpanTable", name := "leastQuestions", desc := "(II)I" } : MethodName) prog_10_method_4_code (8 : Nat) (Option.some FieldType.int)) ∈ gt := gt_of (List.mem_of_getElem? (i := 513) (by decide +kernel)) (by decide +kernel)
abbrev mX8_leastQuestions : Mth := (yX8_leastQuestions, cX8_leastQuestions, 8, some FieldType.int)
theorem k_mX8_leastQuestions : KM mX8_leastQuestions 2 := ⟨wd_513, wd_43, by decide +kernel, by decide +kernel, by decide⟩
theorem wd_518 : (Cond.code ({ cls := "LiarsAnswers$SpanTable", name := "greaterBehind", desc := "(II)I" } : MethodName) prog_10_method_5_code (5 : Nat) (Option.some FieldType.int)) ∈ gt := gt_of (List.mem_of_getElem? (i := 518) (by decide +kernel)) (by decide +kernel)
abbrev mX8_greaterBehind : Mth := (yX8_greaterBehind, cX8_greaterBehind, 5, some FieldType.int)
theorem k_mX8_greaterBehind : KM mX8_greaterBehind 2 := ⟨wd_518, wd_43, by decide +kernel, by decide +kernel, by decide⟩
theorem wd_521 : (Cond.code ({ cls := "LiarsAnswers$SpanTable", name := "charged", desc := "(III)I" } : MethodName) prog_10_method_6_code (5 : Nat) (Option.some FieldType.int)) ∈ gt := gt_of (List.mem_of_getElem? (i := 521) (by decide +kernel)) (by decide +kernel)
abbrev mX8_charged : Mth := (yX8_charged, cX8_charged, 5, some FieldType.int)
theorem k_mX8_charged : KM mX8_charged 3 := ⟨wd_521, wd_43, by decide +kernel, by decide +kernel, by decide⟩
theorem wd_505 : (Cond.code ({ cls := "LiarsAnswers$SpanTable", name := "standing", desc := "(I)I" } : MethodName) prog_10_method_7_code (1 : Nat) (Option.some FieldType.int)) ∈ gt := gt_of (List.mem_of_getElem? (i := 505) (by decide +kernel)) (by decide +kernel)
abbrev mX8_standing : Mth := (yX8_standing, cX8_standing, 1, some FieldType.int)
theorem k_mX8_standing : KM mX8_standing 1 := ⟨wd_505, wd_43, by decide +kernel, by decide +kernel, by decide⟩
theorem wd_502 : (Cond.code ({ cls := "LiarsAnswers$SpanTable", name := "lowestGap", desc := "(I)I" } : MethodName) prog_10_method_8_code (2 : Nat) (Option.some FieldType.int)) ∈ gt := gt_of (List.mem_of_getElem? (i := 502) (by decide +kernel)) (by decide +kernel)
abbrev mX8_lowestGap : Mth := (yX8_lowestGap, cX8_lowestGap, 2, some FieldType.int)
theorem k_mX8_lowestGap : KM mX8_lowestGap 1 := ⟨wd_502, wd_43, by decide +kernel, by decide +kernel, by decide⟩
theorem wd_509 : (Cond.code ({ cls := "LiarsAnswers$SpanTable", name := "fewAt", desc := "(I)I" } : MethodName) prog_10_method_9_code (2 : Nat) (Option.some FieldType.int)) ∈ gt := gt_of (List.mem_of_getElem? (i := 509) (by decide +kernel)) (by decide +kernel)
abbrev mX8_fewAt : Mth := (yX8_fewAt, cX8_fewAt, 2, some FieldType.int)
theorem k_mX8_fewAt : KM mX8_fewAt 1 := ⟨wd_509, wd_43, by decide +kernel, by decide +kernel, by decide⟩
theorem wd_79 : (Cond.code ({ cls := "LiarsAnswers$Tally", name := "<init>", desc := "()V" } : MethodName) prog_11_method_1_code (1 : Nat) (Option.none : Option FieldType)) ∈ gt := gt_of (List.mem_of_getElem? (i := 79) (by decide +kernel)) (by decide +kernel)
theorem wd_34 : (Cond.initialized "LiarsAnswers$Tally") ∈ gt := gt_of (List.mem_of_getElem? (i := 34) (by decide +kernel)) (by decide +kernel)
abbrev mX9_init : Mth := (yX9_init, cX9_init, 1, none)
theorem k_mX9_init : KM mX9_init 0 := ⟨wd_79, wd_34, by decide +kernel, by decide +kernel, by decide⟩
theorem wd_72 : (Cond.code ({ cls := "LiarsAnswers$YesLiar", name := "<init>", desc := "()V" } : MethodName) prog_12_method_1_code (1 : Nat) (Option.none : Option FieldType)) ∈ gt := gt_of (List.mem_of_getElem? (i := 72) (by decide +kernel)) (by decide +kernel)
theorem wd_33 : (Cond.initialized "LiarsAnswers$YesLiar") ∈ gt := gt_of (List.mem_of_getElem? (i := 33) (by decide +kernel)) (by decide +kernel)
abbrev mX10_init : Mth := (yX10_init, cX10_init, 1, none)
theorem k_mX10_init : KM mX10_init 0 := ⟨wd_72, wd_33, by decide +kernel, by decide +kernel, by decide⟩
theorem wd_205 : (Cond.code ({ cls := "LiarsAnswers$YesLiar", name := "price", desc := "(ZZLLiarsAnswers$Tally;)I" } : MethodName) prog_12_method_2_code (5 : Nat) (Option.some FieldType.int)) ∈ gt := gt_of (List.mem_of_getElem? (i := 205) (by decide +kernel)) (by decide +kernel)
abbrev mX10_price : Mth := (yX10_price, cX10_price, 5, some FieldType.int)
theorem k_mX10_price : KM mX10_price 3 := ⟨wd_205, wd_33, by decide +kernel, by decide +kernel, by decide⟩
theorem wd_49 : (Cond.code ({ cls := "LiarsAnswers", name := "<init>", desc := "()V" } : MethodName) prog_1_method_1_code (1 : Nat) (Option.none : Option FieldType)) ∈ gt := gt_of (List.mem_of_getElem? (i := 49) (by decide +kernel)) (by decide +kernel)
theorem wd_30 : (Cond.initialized "LiarsAnswers") ∈ gt := gt_of (List.mem_of_getElem? (i := 30) (by decide +kernel)) (by decide +kernel)
abbrev mX11_init : Mth := (yX11_init, cX11_init, 1, none)
theorem k_mX11_init : KM mX11_init 0 := ⟨wd_49, wd_30, by decide +kernel, by decide +kernel, by decide⟩
theorem wd_180 : (Cond.code ({ cls := "LiarsAnswers", name := "begin", desc := "(III)I" } : MethodName) prog_1_method_2_code (5 : Nat) (Option.some FieldType.int)) ∈ gt := gt_of (List.mem_of_getElem? (i := 180) (by decide +kernel)) (by decide +kernel)
abbrev mX11_begin : Mth := (yX11_begin, cX11_begin, 5, some FieldType.int)
theorem k_mX11_begin : KM mX11_begin 3 := ⟨wd_180, wd_30, by decide +kernel, by decide +kernel, by decide⟩
theorem wd_383 : (Cond.code ({ cls := "LiarsAnswers", name := "cost", desc := "(IZZ)I" } : MethodName) prog_1_method_3_code (4 : Nat) (Option.some FieldType.int)) ∈ gt := gt_of (List.mem_of_getElem? (i := 383) (by decide +kernel)) (by decide +kernel)
abbrev mX11_cost : Mth := (yX11_cost, cX11_cost, 4, some FieldType.int)
theorem k_mX11_cost : KM mX11_cost 3 := ⟨wd_383, wd_30, by decide +kernel, by decide +kernel, by decide⟩
theorem wd_387 : (Cond.code ({ cls := "LiarsAnswers", name := "ask", desc := "(I)I" } : MethodName) prog_1_method_4_code (2 : Nat) (Option.some FieldType.int)) ∈ gt := gt_of (List.mem_of_getElem? (i := 387) (by decide +kernel)) (by decide +kernel)
abbrev mX11_ask : Mth := (yX11_ask, cX11_ask, 2, some FieldType.int)
theorem k_mX11_ask : KM mX11_ask 1 := ⟨wd_387, wd_30, by decide +kernel, by decide +kernel, by decide⟩
theorem wd_412 : (Cond.code ({ cls := "LiarsAnswers", name := "answer", desc := "(Z)I" } : MethodName) prog_1_method_5_code (2 : Nat) (Option.some FieldType.int)) ∈ gt := gt_of (List.mem_of_getElem? (i := 412) (by decide +kernel)) (by decide +kernel)
abbrev mX11_answer : Mth := (yX11_answer, cX11_answer, 2, some FieldType.int)
theorem k_mX11_answer : KM mX11_answer 1 := ⟨wd_412, wd_30, by decide +kernel, by decide +kernel, by decide⟩
theorem wd_432 : (Cond.code ({ cls := "LiarsAnswers", name := "back", desc := "()I" } : MethodName) prog_1_method_6_code (1 : Nat) (Option.some FieldType.int)) ∈ gt := gt_of (List.mem_of_getElem? (i := 432) (by decide +kernel)) (by decide +kernel)
abbrev mX11_back : Mth := (yX11_back, cX11_back, 1, some FieldType.int)
theorem k_mX11_back : KM mX11_back 0 := ⟨wd_432, wd_30, by decide +kernel, by decide +kernel, by decide⟩
theorem wd_440 : (Cond.code ({ cls := "LiarsAnswers", name := "left", desc := "(I)I" } : MethodName) prog_1_method_7_code (2 : Nat) (Option.some FieldType.int)) ∈ gt := gt_of (List.mem_of_getElem? (i := 440) (by decide +kernel)) (by decide +kernel)
abbrev mX11_left : Mth := (yX11_left, cX11_left, 2, some FieldType.int)
theorem k_mX11_left : KM mX11_left 1 := ⟨wd_440, wd_30, by decide +kernel, by decide +kernel, by decide⟩
theorem wd_448 : (Cond.code ({ cls := "LiarsAnswers", name := "state", desc := "(I)I" } : MethodName) prog_1_method_8_code (2 : Nat) (Option.some FieldType.int)) ∈ gt := gt_of (List.mem_of_getElem? (i := 448) (by decide +kernel)) (by decide +kernel)
abbrev mX11_state : Mth := (yX11_state, cX11_state, 2, some FieldType.int)
theorem k_mX11_state : KM mX11_state 1 := ⟨wd_448, wd_30, by decide +kernel, by decide +kernel, by decide⟩
theorem wd_456 : (Cond.code ({ cls := "LiarsAnswers", name := "found", desc := "()I" } : MethodName) prog_1_method_9_code (4 : Nat) (Option.some FieldType.int)) ∈ gt := gt_of (List.mem_of_getElem? (i := 456) (by decide +kernel)) (by decide +kernel)
abbrev mX11_found : Mth := (yX11_found, cX11_found, 4, some FieldType.int)
theorem k_mX11_found : KM mX11_found 0 := ⟨wd_456, wd_30, by decide +kernel, by decide +kernel, by decide⟩
theorem wd_460 : (Cond.code ({ cls := "LiarsAnswers", name := "fewest", desc := "()I" } : MethodName) prog_1_method_10_code (1 : Nat) (Option.some FieldType.int)) ∈ gt := gt_of (List.mem_of_getElem? (i := 460) (by decide +kernel)) (by decide +kernel)
abbrev mX11_fewest : Mth := (yX11_fewest, cX11_fewest, 1, some FieldType.int)
theorem k_mX11_fewest : KM mX11_fewest 0 := ⟨wd_460, wd_30, by decide +kernel, by decide +kernel, by decide⟩
theorem wd_464 : (Cond.code ({ cls := "LiarsAnswers", name := "spans", desc := "()I" } : MethodName) prog_1_method_11_code (1 : Nat) (Option.some FieldType.int)) ∈ gt := gt_of (List.mem_of_getElem? (i := 464) (by decide +kernel)) (by decide +kernel)
abbrev mX11_spans : Mth := (yX11_spans, cX11_spans, 1, some FieldType.int)
theorem k_mX11_spans : KM mX11_spans 0 := ⟨wd_464, wd_30, by decide +kernel, by decide +kernel, by decide⟩
theorem wd_525 : (Cond.code ({ cls := "LiarsAnswers", name := "weight", desc := "(I)J" } : MethodName) prog_1_method_12_code (5 : Nat) (Option.some FieldType.long)) ∈ gt := gt_of (List.mem_of_getElem? (i := 525) (by decide +kernel)) (by decide +kernel)
abbrev mX11_weight : Mth := (yX11_weight, cX11_weight, 5, some FieldType.long)
theorem k_mX11_weight : KM mX11_weight 1 := ⟨wd_525, wd_30, by decide +kernel, by decide +kernel, by decide⟩
theorem wd_533 : (Cond.code ({ cls := "LiarsAnswers", name := "best", desc := "()I" } : MethodName) prog_1_method_13_code (2 : Nat) (Option.some FieldType.int)) ∈ gt := gt_of (List.mem_of_getElem? (i := 533) (by decide +kernel)) (by decide +kernel)
abbrev mX11_best : Mth := (yX11_best, cX11_best, 2, some FieldType.int)
theorem k_mX11_best : KM mX11_best 0 := ⟨wd_533, wd_30, by decide +kernel, by decide +kernel, by decide⟩
theorem wd_555 : (Cond.code ({ cls := "LiarsAnswers", name := "worse", desc := "()I" } : MethodName) prog_1_method_14_code (3 : Nat) (Option.some FieldType.int)) ∈ gt := gt_of (List.mem_of_getElem? (i := 555) (by decide +kernel)) (by decide +kernel)
abbrev mX11_worse : Mth := (yX11_worse, cX11_worse, 3, some FieldType.int)
theorem k_mX11_worse : KM mX11_worse 0 := ⟨wd_555, wd_30, by decide +kernel, by decide +kernel, by decide⟩
theorem wd_565 : (Cond.code ({ cls := "LiarsAnswers", name := "set", desc := "(I)I" } : MethodName) prog_1_method_15_code (2 : Nat) (Option.some FieldType.int)) ∈ gt := gt_of (List.mem_of_getElem? (i := 565) (by decide +kernel)) (by decide +kernel)
abbrev mX11_set : Mth := (yX11_set, cX11_set, 2, some FieldType.int)
theorem k_mX11_set : KM mX11_set 1 := ⟨wd_565, wd_30, by decide +kernel, by decide +kernel, by decide⟩
theorem wd_573 : (Cond.code ({ cls := "LiarsAnswers", name := "drop", desc := "()I" } : MethodName) prog_1_method_16_code (1 : Nat) (Option.some FieldType.int)) ∈ gt := gt_of (List.mem_of_getElem? (i := 573) (by decide +kernel)) (by decide +kernel)
abbrev mX11_drop : Mth := (yX11_drop, cX11_drop, 1, some FieldType.int)
theorem k_mX11_drop : KM mX11_drop 0 := ⟨wd_573, wd_30, by decide +kernel, by decide +kernel, by decide⟩
theorem wd_581 : (Cond.code ({ cls := "LiarsAnswers", name := "word", desc := "(I)I" } : MethodName) prog_1_method_17_code (2 : Nat) (Option.some FieldType.int)) ∈ gt := gt_of (List.mem_of_getElem? (i := 581) (by decide +kernel)) (by decide +kernel)
abbrev mX11_word : Mth := (yX11_word, cX11_word, 2, some FieldType.int)
theorem k_mX11_word : KM mX11_word 1 := ⟨wd_581, wd_30, by decide +kernel, by decide +kernel, by decide⟩
theorem wd_589 : (Cond.code ({ cls := "LiarsAnswers", name := "apart", desc := "(II)I" } : MethodName) prog_1_method_18_code (3 : Nat) (Option.some FieldType.int)) ∈ gt := gt_of (List.mem_of_getElem? (i := 589) (by decide +kernel)) (by decide +kernel)
abbrev mX11_apart : Mth := (yX11_apart, cX11_apart, 3, some FieldType.int)
theorem k_mX11_apart : KM mX11_apart 2 := ⟨wd_589, wd_30, by decide +kernel, by decide +kernel, by decide⟩
theorem wd_599 : (Cond.code ({ cls := "LiarsAnswers", name := "serves", desc := "(II)I" } : MethodName) prog_1_method_19_code (3 : Nat) (Option.some FieldType.int)) ∈ gt := gt_of (List.mem_of_getElem? (i := 599) (by decide +kernel)) (by decide +kernel)
abbrev mX11_serves : Mth := (yX11_serves, cX11_serves, 3, some FieldType.int)
theorem k_mX11_serves : KM mX11_serves 2 := ⟨wd_599, wd_30, by decide +kernel, by decide +kernel, by decide⟩
theorem wd_609 : (Cond.code ({ cls := "LiarsAnswers", name := "read", desc := "(III)I" } : MethodName) prog_1_method_20_code (4 : Nat) (Option.some FieldType.int)) ∈ gt := gt_of (List.mem_of_getElem? (i := 609) (by decide +kernel)) (by decide +kernel)
abbrev mX11_read : Mth := (yX11_read, cX11_read, 4, some FieldType.int)
theorem k_mX11_read : KM mX11_read 3 := ⟨wd_609, wd_30, by decide +kernel, by decide +kernel, by decide⟩
theorem wd_621 : (Cond.code ({ cls := "LiarsAnswers", name := "play", desc := "(I)I" } : MethodName) prog_1_method_21_code (3 : Nat) (Option.some FieldType.int)) ∈ gt := gt_of (List.mem_of_getElem? (i := 621) (by decide +kernel)) (by decide +kernel)
abbrev mX11_play : Mth := (yX11_play, cX11_play, 3, some FieldType.int)
theorem k_mX11_play : KM mX11_play 1 := ⟨wd_621, wd_30, by decide +kernel, by decide +kernel, by decide⟩
theorem wd_633 : (Cond.code ({ cls := "LiarsAnswers", name := "told", desc := "(I)I" } : MethodName) prog_1_method_22_code (2 : Nat) (Option.some FieldType.int)) ∈ gt := gt_of (List.mem_of_getElem? (i := 633) (by decide +kernel)) (by decide +kernel)
abbrev mX11_told : Mth := (yX11_told, cX11_told, 2, some FieldType.int)
theorem k_mX11_told : KM mX11_told 1 := ⟨wd_633, wd_30, by decide +kernel, by decide +kernel, by decide⟩
theorem wd_637 : (Cond.code ({ cls := "LiarsAnswers", name := "trace", desc := "()J" } : MethodName) prog_1_method_23_code (1 : Nat) (Option.some FieldType.long)) ∈ gt := gt_of (List.mem_of_getElem? (i := 637) (by decide +kernel)) (by decide +kernel)
abbrev mX11_trace : Mth := (yX11_trace, cX11_trace, 1, some FieldType.long)
theorem k_mX11_trace : KM mX11_trace 0 := ⟨wd_637, wd_30, by decide +kernel, by decide +kernel, by decide⟩
theorem wd_183 : (Cond.code ({ cls := "LiarsAnswers", name := "isKind", desc := "(I)Z" } : MethodName) prog_1_method_24_code (1 : Nat) (Option.some FieldType.boolean)) ∈ gt := gt_of (List.mem_of_getElem? (i := 183) (by decide +kernel)) (by decide +kernel)
abbrev mX11_isKind : Mth := (yX11_isKind, cX11_isKind, 1, some FieldType.boolean)
theorem k_mX11_isKind : KM mX11_isKind 1 := ⟨wd_183, wd_30, by decide +kernel, by decide +kernel, by decide⟩
theorem wd_443 : (Cond.code ({ cls := "LiarsAnswers", name := "isNumber", desc := "(I)Z" } : MethodName) prog_1_method_25_code (1 : Nat) (Option.some FieldType.boolean)) ∈ gt := gt_of (List.mem_of_getElem? (i := 443) (by decide +kernel)) (by decide +kernel)
abbrev mX11_isNumber : Mth := (yX11_isNumber, cX11_isNumber, 1, some FieldType.boolean)
theorem k_mX11_isNumber : KM mX11_isNumber 1 := ⟨wd_443, wd_30, by decide +kernel, by decide +kernel, by decide⟩
theorem wd_186 : (Cond.code ({ cls := "LiarsAnswers", name := "isCount", desc := "(I)Z" } : MethodName) prog_1_method_26_code (1 : Nat) (Option.some FieldType.boolean)) ∈ gt := gt_of (List.mem_of_getElem? (i := 186) (by decide +kernel)) (by decide +kernel)
abbrev mX11_isCount : Mth := (yX11_isCount, cX11_isCount, 1, some FieldType.boolean)
theorem k_mX11_isCount : KM mX11_isCount 1 := ⟨wd_186, wd_30, by decide +kernel, by decide +kernel, by decide⟩
theorem wd_189 : (Cond.code ({ cls := "LiarsAnswers", name := "isLies", desc := "(I)Z" } : MethodName) prog_1_method_27_code (1 : Nat) (Option.some FieldType.boolean)) ∈ gt := gt_of (List.mem_of_getElem? (i := 189) (by decide +kernel)) (by decide +kernel)
abbrev mX11_isLies : Mth := (yX11_isLies, cX11_isLies, 1, some FieldType.boolean)
theorem k_mX11_isLies : KM mX11_isLies 1 := ⟨wd_189, wd_30, by decide +kernel, by decide +kernel, by decide⟩
theorem wd_390 : (Cond.code ({ cls := "LiarsAnswers", name := "isHeap", desc := "(I)Z" } : MethodName) prog_1_method_28_code (1 : Nat) (Option.some FieldType.boolean)) ∈ gt := gt_of (List.mem_of_getElem? (i := 390) (by decide +kernel)) (by decide +kernel)
abbrev mX11_isHeap : Mth := (yX11_isHeap, cX11_isHeap, 1, some FieldType.boolean)
theorem k_mX11_isHeap : KM mX11_isHeap 1 := ⟨wd_390, wd_30, by decide +kernel, by decide +kernel, by decide⟩
theorem wd_193 : (Cond.code ({ cls := "LiarsAnswers", name := "yesPrice", desc := "(I)I" } : MethodName) prog_1_method_29_code (2 : Nat) (Option.some FieldType.int)) ∈ gt := gt_of (List.mem_of_getElem? (i := 193) (by decide +kernel)) (by decide +kernel)
abbrev mX11_yesPrice : Mth := (yX11_yesPrice, cX11_yesPrice, 2, some FieldType.int)
theorem k_mX11_yesPrice : KM mX11_yesPrice 1 := ⟨wd_193, wd_30, by decide +kernel, by decide +kernel, by decide⟩
theorem wd_212 : (Cond.code ({ cls := "LiarsAnswers", name := "noPrice", desc := "(I)I" } : MethodName) prog_1_method_30_code (2 : Nat) (Option.some FieldType.int)) ∈ gt := gt_of (List.mem_of_getElem? (i := 212) (by decide +kernel)) (by decide +kernel)
abbrev mX11_noPrice : Mth := (yX11_noPrice, cX11_noPrice, 2, some FieldType.int)
theorem k_mX11_noPrice : KM mX11_noPrice 1 := ⟨wd_212, wd_30, by decide +kernel, by decide +kernel, by decide⟩
theorem wd_226 : (Cond.code ({ cls := "LiarsAnswers", name := "heapTable", desc := "(I)LLiarsAnswers$HeapTable;" } : MethodName) prog_1_method_31_code (6 : Nat) (Option.some (FieldType.object "LiarsAnswers$HeapTable"))) ∈ gt := gt_of (List.mem_of_getElem? (i := 226) (by decide +kernel)) (by decide +kernel)
abbrev mX11_heapTable : Mth := (yX11_heapTable, cX11_heapTable, 6, some (FieldType.object "LiarsAnswers$HeapTable"))
theorem k_mX11_heapTable : KM mX11_heapTable 1 := ⟨wd_226, wd_30, by decide +kernel, by decide +kernel, by decide⟩
theorem wd_468 : (Cond.code ({ cls := "LiarsAnswers", name := "spanTable", desc := "(I)LLiarsAnswers$SpanTable;" } : MethodName) prog_1_method_32_code (3 : Nat) (Option.some (FieldType.object "LiarsAnswers$SpanTable"))) ∈ gt := gt_of (List.mem_of_getElem? (i := 468) (by decide +kernel)) (by decide +kernel)
abbrev mX11_spanTable : Mth := (yX11_spanTable, cX11_spanTable, 3, some (FieldType.object "LiarsAnswers$SpanTable"))
theorem k_mX11_spanTable : KM mX11_spanTable 1 := ⟨wd_468, wd_30, by decide +kernel, by decide +kernel, by decide⟩
theorem wd_365 : (Cond.code ({ cls := "LiarsAnswers", name := "fewestNow", desc := "()I" } : MethodName) prog_1_method_33_code (1 : Nat) (Option.some FieldType.int)) ∈ gt := gt_of (List.mem_of_getElem? (i := 365) (by decide +kernel)) (by decide +kernel)
abbrev mX11_fewestNow : Mth := (yX11_fewestNow, cX11_fewestNow, 1, some FieldType.int)
theorem k_mX11_fewestNow : KM mX11_fewestNow 0 := ⟨wd_365, wd_30, by decide +kernel, by decide +kernel, by decide⟩
theorem wd_559 : (Cond.code ({ cls := "LiarsAnswers", name := "fewestBehind", desc := "(Z)I" } : MethodName) prog_1_method_34_code (2 : Nat) (Option.some FieldType.int)) ∈ gt := gt_of (List.mem_of_getElem? (i := 559) (by decide +kernel)) (by decide +kernel)
abbrev mX11_fewestBehind : Mth := (yX11_fewestBehind, cX11_fewestBehind, 2, some FieldType.int)
theorem k_mX11_fewestBehind : KM mX11_fewestBehind 1 := ⟨wd_559, wd_30, by decide +kernel, by decide +kernel, by decide⟩
theorem wd_379 : (Cond.code ({ cls := "LiarsAnswers", name := "toldOrNone", desc := "(I)I" } : MethodName) prog_1_method_35_code (1 : Nat) (Option.some FieldType.int)) ∈ gt := gt_of (List.mem_of_getElem? (i := 379) (by decide +kernel)) (by decide +kernel)
abbrev mX11_toldOrNone : Mth := (yX11_toldOrNone, cX11_toldOrNone, 1, some FieldType.int)
theorem k_mX11_toldOrNone : KM mX11_toldOrNone 1 := ⟨wd_379, wd_30, by decide +kernel, by decide +kernel, by decide⟩
theorem wd_625 : (Cond.code ({ cls := "LiarsAnswers", name := "playOne", desc := "(II)Z" } : MethodName) prog_1_method_36_code (4 : Nat) (Option.some FieldType.boolean)) ∈ gt := gt_of (List.mem_of_getElem? (i := 625) (by decide +kernel)) (by decide +kernel)
abbrev mX11_playOne : Mth := (yX11_playOne, cX11_playOne, 4, some FieldType.boolean)
theorem k_mX11_playOne : KM mX11_playOne 2 := ⟨wd_625, wd_30, by decide +kernel, by decide +kernel, by decide⟩
theorem wd_529 : (Cond.code ({ cls := "LiarsAnswers", name := "waysToLie", desc := "(II)J" } : MethodName) prog_1_method_37_code (7 : Nat) (Option.some FieldType.long)) ∈ gt := gt_of (List.mem_of_getElem? (i := 529) (by decide +kernel)) (by decide +kernel)
abbrev mX11_waysToLie : Mth := (yX11_waysToLie, cX11_waysToLie, 7, some FieldType.long)
theorem k_mX11_waysToLie : KM mX11_waysToLie 2 := ⟨wd_529, wd_30, by decide +kernel, by decide +kernel, by decide⟩
theorem wd_311 : (Cond.code ({ cls := "LiarsAnswers", name := "placeOf", desc := "(II)I" } : MethodName) prog_1_method_38_code (3 : Nat) (Option.some FieldType.int)) ∈ gt := gt_of (List.mem_of_getElem? (i := 311) (by decide +kernel)) (by decide +kernel)
abbrev mX11_placeOf : Mth := (yX11_placeOf, cX11_placeOf, 3, some FieldType.int)
theorem k_mX11_placeOf : KM mX11_placeOf 2 := ⟨wd_311, wd_30, by decide +kernel, by decide +kernel, by decide⟩
theorem wd_376 : (Cond.code ({ cls := "LiarsAnswers", name := "leftAt", desc := "([II)I" } : MethodName) prog_1_method_39_code (2 : Nat) (Option.some FieldType.int)) ∈ gt := gt_of (List.mem_of_getElem? (i := 376) (by decide +kernel)) (by decide +kernel)
abbrev mX11_leftAt : Mth := (yX11_leftAt, cX11_leftAt, 2, some FieldType.int)
theorem k_mX11_leftAt : KM mX11_leftAt 2 := ⟨wd_376, wd_30, by decide +kernel, by decide +kernel, by decide⟩
theorem wd_642 : (Cond.code ({ cls := "LiarsAnswersModel", name := "<init>", desc := "()V" } : MethodName) prog_14_method_1_code (1 : Nat) (Option.none : Option FieldType)) ∈ gt := gt_of (List.mem_of_getElem? (i := 642) (by decide +kernel)) (by decide +kernel)
theorem wd_37 : (Cond.initialized "LiarsAnswersModel") ∈ gt := gt_of (List.mem_of_getElem? (i := 37) (by decide +kernel)) (by decide +kernel)
abbrev mX12_init : Mth := (yX12_init, cX12_init, 1, none)
theorem k_mX12_init : KM mX12_init 0 := ⟨wd_642, wd_37, by decide +kernel, by decide +kernel, by decide⟩
theorem wd_716 : (Cond.code ({ cls := "LiarsAnswersModel", name := "in", desc := "(III)Z" } : MethodName) prog_14_method_3_code (3 : Nat) (Option.some FieldType.boolean)) ∈ gt := gt_of (List.mem_of_getElem? (i := 716) (by decide +kernel)) (by decide +kernel)
abbrev mX12_in : Mth := (yX12_in, cX12_in, 3, some FieldType.boolean)
theorem k_mX12_in : KM mX12_in 3 := ⟨wd_716, wd_37, by decide +kernel, by decide +kernel, by decide⟩
theorem wd_721 : (Cond.code ({ cls := "LiarsAnswersModel", name := "costOf", desc := "(IZZ)I" } : MethodName) prog_14_method_4_code (4 : Nat) (Option.some FieldType.int)) ∈ gt := gt_of (List.mem_of_getElem? (i := 721) (by decide +kernel)) (by decide +kernel)
abbrev mX12_costOf : Mth := (yX12_costOf, cX12_costOf, 4, some FieldType.int)
theorem k_mX12_costOf : KM mX12_costOf 3 := ⟨wd_721, wd_37, by decide +kernel, by decide +kernel, by decide⟩
theorem wd_713 : (Cond.code ({ cls := "LiarsAnswersModel", name := "cost", desc := "(IZZ)I" } : MethodName) prog_14_method_5_code (4 : Nat) (Option.some FieldType.int)) ∈ gt := gt_of (List.mem_of_getElem? (i := 713) (by decide +kernel)) (by decide +kernel)
abbrev mX12_cost : Mth := (yX12_cost, cX12_cost, 4, some FieldType.int)
theorem k_mX12_cost : KM mX12_cost 3 := ⟨wd_713, wd_37, by decide +kernel, by decide +kernel, by decide⟩
theorem wd_737 : (Cond.code ({ cls := "LiarsAnswersModel", name := "place", desc := "(IIII)I" } : MethodName) prog_14_method_6_code (4 : Nat) (Option.some FieldType.int)) ∈ gt := gt_of (List.mem_of_getElem? (i := 737) (by decide +kernel)) (by decide +kernel)
abbrev mX12_place : Mth := (yX12_place, cX12_place, 4, some FieldType.int)
theorem k_mX12_place : KM mX12_place 4 := ⟨wd_737, wd_37, by decide +kernel, by decide +kernel, by decide⟩
theorem wd_748 : (Cond.code ({ cls := "LiarsAnswersModel", name := "behind", desc := "(IZ[I[I)I" } : MethodName) prog_14_method_7_code (9 : Nat) (Option.some FieldType.int)) ∈ gt := gt_of (List.mem_of_getElem? (i := 748) (by decide +kernel)) (by decide +kernel)
abbrev mX12_behind : Mth := (yX12_behind, cX12_behind, 9, some FieldType.int)
theorem k_mX12_behind : KM mX12_behind 4 := ⟨wd_748, wd_37, by decide +kernel, by decide +kernel, by decide⟩
theorem wd_745 : (Cond.code ({ cls := "LiarsAnswersModel", name := "canDo", desc := "(II)Z" } : MethodName) prog_14_method_8_code (8 : Nat) (Option.some FieldType.boolean)) ∈ gt := gt_of (List.mem_of_getElem? (i := 745) (by decide +kernel)) (by decide +kernel)
abbrev mX12_canDo : Mth := (yX12_canDo, cX12_canDo, 8, some FieldType.boolean)
theorem k_mX12_canDo : KM mX12_canDo 2 := ⟨wd_745, wd_37, by decide +kernel, by decide +kernel, by decide⟩
theorem wd_752 : (Cond.code ({ cls := "LiarsAnswersModel", name := "isWithin", desc := "(III)Z" } : MethodName) prog_14_method_9_code (5 : Nat) (Option.some FieldType.boolean)) ∈ gt := gt_of (List.mem_of_getElem? (i := 752) (by decide +kernel)) (by decide +kernel)
abbrev mX12_isWithin : Mth := (yX12_isWithin, cX12_isWithin, 5, some FieldType.boolean)
theorem k_mX12_isWithin : KM mX12_isWithin 3 := ⟨wd_752, wd_37, by decide +kernel, by decide +kernel, by decide⟩
theorem wd_741 : (Cond.code ({ cls := "LiarsAnswersModel", name := "mayDo", desc := "(II)Z" } : MethodName) prog_14_method_10_code (6 : Nat) (Option.some FieldType.boolean)) ∈ gt := gt_of (List.mem_of_getElem? (i := 741) (by decide +kernel)) (by decide +kernel)
abbrev mX12_mayDo : Mth := (yX12_mayDo, cX12_mayDo, 6, some FieldType.boolean)
theorem k_mX12_mayDo : KM mX12_mayDo 2 := ⟨wd_741, wd_37, by decide +kernel, by decide +kernel, by decide⟩
theorem wd_734 : (Cond.code ({ cls := "LiarsAnswersModel", name := "levels", desc := "(II)V" } : MethodName) prog_14_method_11_code (9 : Nat) (Option.none : Option FieldType)) ∈ gt := gt_of (List.mem_of_getElem? (i := 734) (by decide +kernel)) (by decide +kernel)
abbrev mX12_levels : Mth := (yX12_levels, cX12_levels, 9, none)
theorem k_mX12_levels : KM mX12_levels 2 := ⟨wd_734, wd_37, by decide +kernel, by decide +kernel, by decide⟩
theorem wd_729 : (Cond.code ({ cls := "LiarsAnswersModel", name := "worthOf", desc := "([I)I" } : MethodName) prog_14_method_12_code (5 : Nat) (Option.some FieldType.int)) ∈ gt := gt_of (List.mem_of_getElem? (i := 729) (by decide +kernel)) (by decide +kernel)
abbrev mX12_worthOf : Mth := (yX12_worthOf, cX12_worthOf, 5, some FieldType.int)
theorem k_mX12_worthOf : KM mX12_worthOf 1 := ⟨wd_729, wd_37, by decide +kernel, by decide +kernel, by decide⟩
theorem wd_755 : (Cond.code ({ cls := "LiarsAnswersModel", name := "shown", desc := "(I)I" } : MethodName) prog_14_method_13_code (1 : Nat) (Option.some FieldType.int)) ∈ gt := gt_of (List.mem_of_getElem? (i := 755) (by decide +kernel)) (by decide +kernel)
abbrev mX12_shown : Mth := (yX12_shown, cX12_shown, 1, some FieldType.int)
theorem k_mX12_shown : KM mX12_shown 1 := ⟨wd_755, wd_37, by decide +kernel, by decide +kernel, by decide⟩
theorem wd_725 : (Cond.code ({ cls := "LiarsAnswersModel", name := "begin", desc := "(III)I" } : MethodName) prog_14_method_14_code (5 : Nat) (Option.some FieldType.int)) ∈ gt := gt_of (List.mem_of_getElem? (i := 725) (by decide +kernel)) (by decide +kernel)
abbrev mX12_begin : Mth := (yX12_begin, cX12_begin, 5, some FieldType.int)
theorem k_mX12_begin : KM mX12_begin 3 := ⟨wd_725, wd_37, by decide +kernel, by decide +kernel, by decide⟩
theorem wd_788 : (Cond.code ({ cls := "LiarsAnswersModel", name := "many", desc := "()I" } : MethodName) prog_14_method_15_code (3 : Nat) (Option.some FieldType.int)) ∈ gt := gt_of (List.mem_of_getElem? (i := 788) (by decide +kernel)) (by decide +kernel)
abbrev mX12_many : Mth := (yX12_many, cX12_many, 3, some FieldType.int)
theorem k_mX12_many : KM mX12_many 0 := ⟨wd_788, wd_37, by decide +kernel, by decide +kernel, by decide⟩
theorem wd_759 : (Cond.code ({ cls := "LiarsAnswersModel", name := "ask", desc := "(I)I" } : MethodName) prog_14_method_16_code (4 : Nat) (Option.some FieldType.int)) ∈ gt := gt_of (List.mem_of_getElem? (i := 759) (by decide +kernel)) (by decide +kernel)
abbrev mX12_ask : Mth := (yX12_ask, cX12_ask, 4, some FieldType.int)
theorem k_mX12_ask : KM mX12_ask 1 := ⟨wd_759, wd_37, by decide +kernel, by decide +kernel, by decide⟩
theorem wd_768 : (Cond.code ({ cls := "LiarsAnswersModel", name := "tries", desc := "(IZ)I" } : MethodName) prog_14_method_17_code (6 : Nat) (Option.some FieldType.int)) ∈ gt := gt_of (List.mem_of_getElem? (i := 768) (by decide +kernel)) (by decide +kernel)
abbrev mX12_tries : Mth := (yX12_tries, cX12_tries, 6, some FieldType.int)
theorem k_mX12_tries : KM mX12_tries 2 := ⟨wd_768, wd_37, by decide +kernel, by decide +kernel, by decide⟩
theorem wd_764 : (Cond.code ({ cls := "LiarsAnswersModel", name := "answer", desc := "(Z)I" } : MethodName) prog_14_method_18_code (4 : Nat) (Option.some FieldType.int)) ∈ gt := gt_of (List.mem_of_getElem? (i := 764) (by decide +kernel)) (by decide +kernel)
abbrev mX12_answer : Mth := (yX12_answer, cX12_answer, 4, some FieldType.int)
theorem k_mX12_answer : KM mX12_answer 1 := ⟨wd_764, wd_37, by decide +kernel, by decide +kernel, by decide⟩
theorem wd_772 : (Cond.code ({ cls := "LiarsAnswersModel", name := "back", desc := "()I" } : MethodName) prog_14_method_19_code (2 : Nat) (Option.some FieldType.int)) ∈ gt := gt_of (List.mem_of_getElem? (i := 772) (by decide +kernel)) (by decide +kernel)
abbrev mX12_back : Mth := (yX12_back, cX12_back, 2, some FieldType.int)
theorem k_mX12_back : KM mX12_back 0 := ⟨wd_772, wd_37, by decide +kernel, by decide +kernel, by decide⟩
theorem wd_776 : (Cond.code ({ cls := "LiarsAnswersModel", name := "left", desc := "(I)I" } : MethodName) prog_14_method_20_code (2 : Nat) (Option.some FieldType.int)) ∈ gt := gt_of (List.mem_of_getElem? (i := 776) (by decide +kernel)) (by decide +kernel)
abbrev mX12_left : Mth := (yX12_left, cX12_left, 2, some FieldType.int)
theorem k_mX12_left : KM mX12_left 1 := ⟨wd_776, wd_37, by decide +kernel, by decide +kernel, by decide⟩
theorem wd_780 : (Cond.code ({ cls := "LiarsAnswersModel", name := "state", desc := "(I)I" } : MethodName) prog_14_method_21_code (4 : Nat) (Option.some FieldType.int)) ∈ gt := gt_of (List.mem_of_getElem? (i := 780) (by decide +kernel)) (by decide +kernel)
abbrev mX12_state : Mth := (yX12_state, cX12_state, 4, some FieldType.int)
theorem k_mX12_state : KM mX12_state 1 := ⟨wd_780, wd_37, by decide +kernel, by decide +kernel, by decide⟩
theorem wd_784 : (Cond.code ({ cls := "LiarsAnswersModel", name := "found", desc := "()I" } : MethodName) prog_14_method_22_code (2 : Nat) (Option.some FieldType.int)) ∈ gt := gt_of (List.mem_of_getElem? (i := 784) (by decide +kernel)) (by decide +kernel)
abbrev mX12_found : Mth := (yX12_found, cX12_found, 2, some FieldType.int)
theorem k_mX12_found : KM mX12_found 0 := ⟨wd_784, wd_37, by decide +kernel, by decide +kernel, by decide⟩
theorem wd_792 : (Cond.code ({ cls := "LiarsAnswersModel", name := "fewest", desc := "()I" } : MethodName) prog_14_method_23_code (1 : Nat) (Option.some FieldType.int)) ∈ gt := gt_of (List.mem_of_getElem? (i := 792) (by decide +kernel)) (by decide +kernel)
abbrev mX12_fewest : Mth := (yX12_fewest, cX12_fewest, 1, some FieldType.int)
theorem k_mX12_fewest : KM mX12_fewest 0 := ⟨wd_792, wd_37, by decide +kernel, by decide +kernel, by decide⟩
theorem wd_808 : (Cond.code ({ cls := "LiarsAnswersModel", name := "spanBehind", desc := "(IIIZ)I" } : MethodName) prog_14_method_24_code (8 : Nat) (Option.some FieldType.int)) ∈ gt := gt_of (List.mem_of_getElem? (i := 808) (by decide +kernel)) (by decide +kernel)
abbrev mX12_spanBehind : Mth := (yX12_spanBehind, cX12_spanBehind, 8, some FieldType.int)
theorem k_mX12_spanBehind : KM mX12_spanBehind 4 := ⟨wd_808, wd_37, by decide +kernel, by decide +kernel, by decide⟩
theorem wd_804 : (Cond.code ({ cls := "LiarsAnswersModel", name := "canSpan", desc := "(II)Z" } : MethodName) prog_14_method_25_code (7 : Nat) (Option.some FieldType.boolean)) ∈ gt := gt_of (List.mem_of_getElem? (i := 804) (by decide +kernel)) (by decide +kernel)
abbrev mX12_canSpan : Mth := (yX12_canSpan, cX12_canSpan, 7, some FieldType.boolean)
theorem k_mX12_canSpan : KM mX12_canSpan 2 := ⟨wd_804, wd_37, by decide +kernel, by decide +kernel, by decide⟩
theorem wd_800 : (Cond.code ({ cls := "LiarsAnswersModel", name := "knowSpans", desc := "()V" } : MethodName) prog_14_method_26_code (5 : Nat) (Option.none : Option FieldType)) ∈ gt := gt_of (List.mem_of_getElem? (i := 800) (by decide +kernel)) (by decide +kernel)
abbrev mX12_knowSpans : Mth := (yX12_knowSpans, cX12_knowSpans, 5, none)
theorem k_mX12_knowSpans : KM mX12_knowSpans 0 := ⟨wd_800, wd_37, by decide +kernel, by decide +kernel, by decide⟩
theorem wd_796 : (Cond.code ({ cls := "LiarsAnswersModel", name := "spans", desc := "()I" } : MethodName) prog_14_method_27_code (3 : Nat) (Option.some FieldType.int)) ∈ gt := gt_of (List.mem_of_getElem? (i := 796) (by decide +kernel)) (by decide +kernel)
abbrev mX12_spans : Mth := (yX12_spans, cX12_spans, 3, some FieldType.int)
theorem k_mX12_spans : KM mX12_spans 0 := ⟨wd_796, wd_37, by decide +kernel, by decide +kernel, by decide⟩
theorem wd_816 : (Cond.code ({ cls := "LiarsAnswersModel", name := "choose", desc := "(II)J" } : MethodName) prog_14_method_28_code (5 : Nat) (Option.some FieldType.long)) ∈ gt := gt_of (List.mem_of_getElem? (i := 816) (by decide +kernel)) (by decide +kernel)
abbrev mX12_choose : Mth := (yX12_choose, cX12_choose, 5, some FieldType.long)
theorem k_mX12_choose : KM mX12_choose 2 := ⟨wd_816, wd_37, by decide +kernel, by decide +kernel, by decide⟩
theorem wd_812 : (Cond.code ({ cls := "LiarsAnswersModel", name := "weight", desc := "(I)J" } : MethodName) prog_14_method_29_code (6 : Nat) (Option.some FieldType.long)) ∈ gt := gt_of (List.mem_of_getElem? (i := 812) (by decide +kernel)) (by decide +kernel)
abbrev mX12_weight : Mth := (yX12_weight, cX12_weight, 6, some FieldType.long)
theorem k_mX12_weight : KM mX12_weight 1 := ⟨wd_812, wd_37, by decide +kernel, by decide +kernel, by decide⟩
theorem wd_824 : (Cond.code ({ cls := "LiarsAnswersModel", name := "greater", desc := "(I)I" } : MethodName) prog_14_method_30_code (4 : Nat) (Option.some FieldType.int)) ∈ gt := gt_of (List.mem_of_getElem? (i := 824) (by decide +kernel)) (by decide +kernel)
abbrev mX12_greater : Mth := (yX12_greater, cX12_greater, 4, some FieldType.int)
theorem k_mX12_greater : KM mX12_greater 1 := ⟨wd_824, wd_37, by decide +kernel, by decide +kernel, by decide⟩
theorem wd_820 : (Cond.code ({ cls := "LiarsAnswersModel", name := "best", desc := "()I" } : MethodName) prog_14_method_31_code (6 : Nat) (Option.some FieldType.int)) ∈ gt := gt_of (List.mem_of_getElem? (i := 820) (by decide +kernel)) (by decide +kernel)
abbrev mX12_best : Mth := (yX12_best, cX12_best, 6, some FieldType.int)
theorem k_mX12_best : KM mX12_best 0 := ⟨wd_820, wd_37, by decide +kernel, by decide +kernel, by decide⟩
theorem wd_828 : (Cond.code ({ cls := "LiarsAnswersModel", name := "worse", desc := "()I" } : MethodName) prog_14_method_32_code (3 : Nat) (Option.some FieldType.int)) ∈ gt := gt_of (List.mem_of_getElem? (i := 828) (by decide +kernel)) (by decide +kernel)
abbrev mX12_worse : Mth := (yX12_worse, cX12_worse, 3, some FieldType.int)
theorem k_mX12_worse : KM mX12_worse 0 := ⟨wd_828, wd_37, by decide +kernel, by decide +kernel, by decide⟩
theorem wd_832 : (Cond.code ({ cls := "LiarsAnswersModel", name := "set", desc := "(I)I" } : MethodName) prog_14_method_33_code (2 : Nat) (Option.some FieldType.int)) ∈ gt := gt_of (List.mem_of_getElem? (i := 832) (by decide +kernel)) (by decide +kernel)
abbrev mX12_set : Mth := (yX12_set, cX12_set, 2, some FieldType.int)
theorem k_mX12_set : KM mX12_set 1 := ⟨wd_832, wd_37, by decide +kernel, by decide +kernel, by decide⟩
theorem wd_836 : (Cond.code ({ cls := "LiarsAnswersModel", name := "drop", desc := "()I" } : MethodName) prog_14_method_34_code (1 : Nat) (Option.some FieldType.int)) ∈ gt := gt_of (List.mem_of_getElem? (i := 836) (by decide +kernel)) (by decide +kernel)
abbrev mX12_drop : Mth := (yX12_drop, cX12_drop, 1, some FieldType.int)
theorem k_mX12_drop : KM mX12_drop 0 := ⟨wd_836, wd_37, by decide +kernel, by decide +kernel, by decide⟩
theorem wd_847 : (Cond.code ({ cls := "LiarsAnswersModel", name := "wordOf", desc := "(I)I" } : MethodName) prog_14_method_35_code (4 : Nat) (Option.some FieldType.int)) ∈ gt := gt_of (List.mem_of_getElem? (i := 847) (by decide +kernel)) (by decide +kernel)
abbrev mX12_wordOf : Mth := (yX12_wordOf, cX12_wordOf, 4, some FieldType.int)
theorem k_mX12_wordOf : KM mX12_wordOf 1 := ⟨wd_847, wd_37, by decide +kernel, by decide +kernel, by decide⟩
theorem wd_843 : (Cond.code ({ cls := "LiarsAnswersModel", name := "isNumber", desc := "(I)Z" } : MethodName) prog_14_method_36_code (1 : Nat) (Option.some FieldType.boolean)) ∈ gt := gt_of (List.mem_of_getElem? (i := 843) (by decide +kernel)) (by decide +kernel)
abbrev mX12_isNumber : Mth := (yX12_isNumber, cX12_isNumber, 1, some FieldType.boolean)
theorem k_mX12_isNumber : KM mX12_isNumber 1 := ⟨wd_843, wd_37, by decide +kernel, by decide +kernel, by decide⟩
theorem wd_840 : (Cond.code ({ cls := "LiarsAnswersModel", name := "word", desc := "(I)I" } : MethodName) prog_14_method_37_code (2 : Nat) (Option.some FieldType.int)) ∈ gt := gt_of (List.mem_of_getElem? (i := 840) (by decide +kernel)) (by decide +kernel)
abbrev mX12_word : Mth := (yX12_word, cX12_word, 2, some FieldType.int)
theorem k_mX12_word : KM mX12_word 1 := ⟨wd_840, wd_37, by decide +kernel, by decide +kernel, by decide⟩
theorem wd_854 : (Cond.code ({ cls := "LiarsAnswersModel", name := "ones", desc := "(I)I" } : MethodName) prog_14_method_38_code (3 : Nat) (Option.some FieldType.int)) ∈ gt := gt_of (List.mem_of_getElem? (i := 854) (by decide +kernel)) (by decide +kernel)
abbrev mX12_ones : Mth := (yX12_ones, cX12_ones, 3, some FieldType.int)
theorem k_mX12_ones : KM mX12_ones 1 := ⟨wd_854, wd_37, by decide +kernel, by decide +kernel, by decide⟩
theorem wd_851 : (Cond.code ({ cls := "LiarsAnswersModel", name := "apart", desc := "(II)I" } : MethodName) prog_14_method_39_code (3 : Nat) (Option.some FieldType.int)) ∈ gt := gt_of (List.mem_of_getElem? (i := 851) (by decide +kernel)) (by decide +kernel)
abbrev mX12_apart : Mth := (yX12_apart, cX12_apart, 3, some FieldType.int)
theorem k_mX12_apart : KM mX12_apart 2 := ⟨wd_851, wd_37, by decide +kernel, by decide +kernel, by decide⟩
theorem wd_858 : (Cond.code ({ cls := "LiarsAnswersModel", name := "serves", desc := "(II)I" } : MethodName) prog_14_method_40_code (6 : Nat) (Option.some FieldType.int)) ∈ gt := gt_of (List.mem_of_getElem? (i := 858) (by decide +kernel)) (by decide +kernel)
abbrev mX12_serves : Mth := (yX12_serves, cX12_serves, 6, some FieldType.int)
theorem k_mX12_serves : KM mX12_serves 2 := ⟨wd_858, wd_37, by decide +kernel, by decide +kernel, by decide⟩
theorem wd_866 : (Cond.code ({ cls := "LiarsAnswersModel", name := "isWord", desc := "(I)Z" } : MethodName) prog_14_method_41_code (2 : Nat) (Option.some FieldType.boolean)) ∈ gt := gt_of (List.mem_of_getElem? (i := 866) (by decide +kernel)) (by decide +kernel)
abbrev mX12_isWord : Mth := (yX12_isWord, cX12_isWord, 2, some FieldType.boolean)
theorem k_mX12_isWord : KM mX12_isWord 1 := ⟨wd_866, wd_37, by decide +kernel, by decide +kernel, by decide⟩
theorem wd_862 : (Cond.code ({ cls := "LiarsAnswersModel", name := "read", desc := "(III)I" } : MethodName) prog_14_method_42_code (6 : Nat) (Option.some FieldType.int)) ∈ gt := gt_of (List.mem_of_getElem? (i := 862) (by decide +kernel)) (by decide +kernel)
abbrev mX12_read : Mth := (yX12_read, cX12_read, 6, some FieldType.int)
theorem k_mX12_read : KM mX12_read 3 := ⟨wd_862, wd_37, by decide +kernel, by decide +kernel, by decide⟩
theorem wd_870 : (Cond.code ({ cls := "LiarsAnswersModel", name := "play", desc := "(I)I" } : MethodName) prog_14_method_43_code (4 : Nat) (Option.some FieldType.int)) ∈ gt := gt_of (List.mem_of_getElem? (i := 870) (by decide +kernel)) (by decide +kernel)
abbrev mX12_play : Mth := (yX12_play, cX12_play, 4, some FieldType.int)
theorem k_mX12_play : KM mX12_play 1 := ⟨wd_870, wd_37, by decide +kernel, by decide +kernel, by decide⟩
theorem wd_875 : (Cond.code ({ cls := "LiarsAnswersModel", name := "told", desc := "(I)I" } : MethodName) prog_14_method_44_code (2 : Nat) (Option.some FieldType.int)) ∈ gt := gt_of (List.mem_of_getElem? (i := 875) (by decide +kernel)) (by decide +kernel)
abbrev mX12_told : Mth := (yX12_told, cX12_told, 2, some FieldType.int)
theorem k_mX12_told : KM mX12_told 1 := ⟨wd_875, wd_37, by decide +kernel, by decide +kernel, by decide⟩
theorem wd_879 : (Cond.code ({ cls := "LiarsAnswersModel", name := "trace", desc := "()J" } : MethodName) prog_14_method_45_code (1 : Nat) (Option.some FieldType.long)) ∈ gt := gt_of (List.mem_of_getElem? (i := 879) (by decide +kernel)) (by decide +kernel)
abbrev mX12_trace : Mth := (yX12_trace, cX12_trace, 1, some FieldType.long)
theorem k_mX12_trace : KM mX12_trace 0 := ⟨wd_879, wd_37, by decide +kernel, by decide +kernel, by decide⟩
theorem wd_592 : (Cond.code ({ cls := "java/lang/Integer", name := "bitCount", desc := "(I)I" } : MethodName) prog_15_method_49_code (1 : Nat) (Option.some FieldType.int)) ∈ gt := gt_of (List.mem_of_getElem? (i := 592) (by decide +kernel)) (by decide +kernel)
theorem wd_44 : (Cond.initialized "java/lang/Integer") ∈ gt := gt_of (List.mem_of_getElem? (i := 44) (by decide +kernel)) (by decide +kernel)
abbrev mJ6_bitCount_0f7a4 : Mth := (yJ6_bitCount_0f7a4, cJ6_bitCount_0f7a4, 1, some FieldType.int)
theorem k_mJ6_bitCount_0f7a4 : KM mJ6_bitCount_0f7a4 1 := ⟨wd_592, wd_44, by decide +kernel, by decide +kernel, by decide⟩
theorem wd_222 : (Cond.code ({ cls := "java/lang/Math", name := "max", desc := "(II)I" } : MethodName) prog_16_method_65_code (2 : Nat) (Option.some FieldType.int)) ∈ gt := gt_of (List.mem_of_getElem? (i := 222) (by decide +kernel)) (by decide +kernel)
theorem wd_38 : (Cond.initialized "java/lang/Math") ∈ gt := gt_of (List.mem_of_getElem? (i := 38) (by decide +kernel)) (by decide +kernel)
abbrev mJ9_max_7cf53 : Mth := (yJ9_max_7cf53, cJ9_max_7cf53, 2, some FieldType.int)
theorem k_mJ9_max_7cf53 : KM mJ9_max_7cf53 2 := ⟨wd_222, wd_38, by decide +kernel, by decide +kernel, by decide⟩
theorem wd_219 : (Cond.code ({ cls := "java/lang/Math", name := "min", desc := "(II)I" } : MethodName) prog_16_method_69_code (2 : Nat) (Option.some FieldType.int)) ∈ gt := gt_of (List.mem_of_getElem? (i := 219) (by decide +kernel)) (by decide +kernel)
abbrev mJ9_min_7cf53 : Mth := (yJ9_min_7cf53, cJ9_min_7cf53, 2, some FieldType.int)
theorem k_mJ9_min_7cf53 : KM mJ9_min_7cf53 2 := ⟨wd_219, wd_38, by decide +kernel, by decide +kernel, by decide⟩
theorem wd_81 : (Cond.fieldLink "LiarsAnswers$Tally" (7 : Nat) "LiarsAnswers$Tally" "sum" "J") ∈ gt := gt_of (List.mem_of_getElem? (i := 81) (by decide +kernel)) (by decide +kernel)
theorem g_RX9_7_8 : GF RX9 7 8 0 := ⟨RX9, TX9, 1, "LiarsAnswers$Tally", rfl, uw_8, by decide, wd_81, Or.inl rfl⟩
theorem p_RX9_7_8 : PF RX9 7 8 0 (tyX9 0) false := ⟨RX9, TX9, 1, "LiarsAnswers$Tally", tyX9, rfl, uw_8, by decide, wd_81, Or.inl rfl, tyX9_ok, nmX9, rfl, rfl, fun h => by cases h⟩
theorem wd_82 : (Cond.fieldLink "LiarsAnswers$Liar" (9 : Nat) "LiarsAnswers$Tally" "sum" "J") ∈ gt := gt_of (List.mem_of_getElem? (i := 82) (by decide +kernel)) (by decide +kernel)
theorem g_RX7_9_8 : GF RX7 9 8 0 := ⟨RX9, TX9, 1, "LiarsAnswers$Tally", rfl, uw_8, by decide, wd_82, Or.inl rfl⟩
theorem p_RX7_9_8 : PF RX7 9 8 0 (tyX9 0) false := ⟨RX9, TX9, 1, "LiarsAnswers$Tally", tyX9, rfl, uw_8, by decide, wd_82, Or.inl rfl, tyX9_ok, nmX9, rfl, rfl, fun h => by cases h⟩
theorem wd_83 : (Cond.fieldLink "LiarsAnswers$BothLiar" (9 : Nat) "LiarsAnswers$Tally" "sum" "J") ∈ gt := gt_of (List.mem_of_getElem? (i := 83) (by decide +kernel)) (by decide +kernel)
theorem g_RX1_9_8 : GF RX1 9 8 0 := ⟨RX9, TX9, 1, "LiarsAnswers$Tally", rfl, uw_8, by decide, wd_83, Or.inl rfl⟩
theorem p_RX1_9_8 : PF RX1 9 8 0 (tyX9 0) false := ⟨RX9, TX9, 1, "LiarsAnswers$Tally", tyX9, rfl, uw_8, by decide, wd_83, Or.inl rfl, tyX9_ok, nmX9, rfl, rfl, fun h => by cases h⟩
theorem wd_84 : (Cond.fieldLink "LiarsAnswers$YesLiar" (9 : Nat) "LiarsAnswers$Tally" "sum" "J") ∈ gt := gt_of (List.mem_of_getElem? (i := 84) (by decide +kernel)) (by decide +kernel)
theorem g_RX10_9_8 : GF RX10 9 8 0 := ⟨RX9, TX9, 1, "LiarsAnswers$Tally", rfl, uw_8, by decide, wd_84, Or.inl rfl⟩
theorem p_RX10_9_8 : PF RX10 9 8 0 (tyX9 0) false := ⟨RX9, TX9, 1, "LiarsAnswers$Tally", tyX9, rfl, uw_8, by decide, wd_84, Or.inl rfl, tyX9_ok, nmX9, rfl, rfl, fun h => by cases h⟩
theorem wd_85 : (Cond.fieldLink "LiarsAnswers" (213 : Nat) "LiarsAnswers$Tally" "sum" "J") ∈ gt := gt_of (List.mem_of_getElem? (i := 85) (by decide +kernel)) (by decide +kernel)
theorem g_RX11_213_8 : GF RX11 213 8 0 := ⟨RX9, TX9, 1, "LiarsAnswers$Tally", rfl, uw_8, by decide, wd_85, Or.inl rfl⟩
theorem p_RX11_213_8 : PF RX11 213 8 0 (tyX9 0) false := ⟨RX9, TX9, 1, "LiarsAnswers$Tally", tyX9, rfl, uw_8, by decide, wd_85, Or.inl rfl, tyX9_ok, nmX9, rfl, rfl, fun h => by cases h⟩
theorem wd_99 : (Cond.fieldLink "LiarsAnswers$Game" (9 : Nat) "LiarsAnswers$Game" "on" "Z") ∈ gt := gt_of (List.mem_of_getElem? (i := 99) (by decide +kernel)) (by decide +kernel)
theorem g_RX3_9_3 : GF RX3 9 3 0 := ⟨RX3, TX3, 9, "LiarsAnswers$Game", rfl, uw_3, by decide, wd_99, Or.inl rfl⟩
theorem p_RX3_9_3 : PF RX3 9 3 0 (tyX3 0) false := ⟨RX3, TX3, 9, "LiarsAnswers$Game", tyX3, rfl, uw_3, by decide, wd_99, Or.inl rfl, tyX3_ok, nmX3, rfl, rfl, fun h => by cases h⟩
theorem wd_100 : (Cond.fieldLink "LiarsAnswers" (105 : Nat) "LiarsAnswers$Game" "on" "Z") ∈ gt := gt_of (List.mem_of_getElem? (i := 100) (by decide +kernel)) (by decide +kernel)
theorem g_RX11_105_3 : GF RX11 105 3 0 := ⟨RX3, TX3, 9, "LiarsAnswers$Game", rfl, uw_3, by decide, wd_100, Or.inl rfl⟩
theorem p_RX11_105_3 : PF RX11 105 3 0 (tyX3 0) false := ⟨RX3, TX3, 9, "LiarsAnswers$Game", tyX3, rfl, uw_3, by decide, wd_100, Or.inl rfl, tyX3_ok, nmX3, rfl, rfl, fun h => by cases h⟩
theorem wd_101 : (Cond.fieldLink "LiarsAnswers$Game" (15 : Nat) "LiarsAnswers$Game" "kind" "I") ∈ gt := gt_of (List.mem_of_getElem? (i := 101) (by decide +kernel)) (by decide +kernel)
theorem g_RX3_15_3 : GF RX3 15 3 1 := ⟨RX3, TX3, 9, "LiarsAnswers$Game", rfl, uw_3, by decide, wd_101, Or.inl rfl⟩
theorem p_RX3_15_3 : PF RX3 15 3 1 (tyX3 1) false := ⟨RX3, TX3, 9, "LiarsAnswers$Game", tyX3, rfl, uw_3, by decide, wd_101, Or.inl rfl, tyX3_ok, nmX3, rfl, rfl, fun h => by cases h⟩
theorem wd_102 : (Cond.fieldLink "LiarsAnswers" (147 : Nat) "LiarsAnswers$Game" "kind" "I") ∈ gt := gt_of (List.mem_of_getElem? (i := 102) (by decide +kernel)) (by decide +kernel)
theorem g_RX11_147_3 : GF RX11 147 3 1 := ⟨RX3, TX3, 9, "LiarsAnswers$Game", rfl, uw_3, by decide, wd_102, Or.inl rfl⟩
theorem p_RX11_147_3 : PF RX11 147 3 1 (tyX3 1) false := ⟨RX3, TX3, 9, "LiarsAnswers$Game", tyX3, rfl, uw_3, by decide, wd_102, Or.inl rfl, tyX3_ok, nmX3, rfl, rfl, fun h => by cases h⟩
theorem wd_103 : (Cond.fieldLink "LiarsAnswers$Game" (19 : Nat) "LiarsAnswers$Game" "n" "I") ∈ gt := gt_of (List.mem_of_getElem? (i := 103) (by decide +kernel)) (by decide +kernel)
theorem g_RX3_19_3 : GF RX3 19 3 2 := ⟨RX3, TX3, 9, "LiarsAnswers$Game", rfl, uw_3, by decide, wd_103, Or.inl rfl⟩
theorem p_RX3_19_3 : PF RX3 19 3 2 (tyX3 2) false := ⟨RX3, TX3, 9, "LiarsAnswers$Game", tyX3, rfl, uw_3, by decide, wd_103, Or.inl rfl, tyX3_ok, nmX3, rfl, rfl, fun h => by cases h⟩
theorem wd_104 : (Cond.fieldLink "LiarsAnswers" (135 : Nat) "LiarsAnswers$Game" "n" "I") ∈ gt := gt_of (List.mem_of_getElem? (i := 104) (by decide +kernel)) (by decide +kernel)
theorem g_RX11_135_3 : GF RX11 135 3 2 := ⟨RX3, TX3, 9, "LiarsAnswers$Game", rfl, uw_3, by decide, wd_104, Or.inl rfl⟩
theorem p_RX11_135_3 : PF RX11 135 3 2 (tyX3 2) false := ⟨RX3, TX3, 9, "LiarsAnswers$Game", tyX3, rfl, uw_3, by decide, wd_104, Or.inl rfl, tyX3_ok, nmX3, rfl, rfl, fun h => by cases h⟩
theorem wd_105 : (Cond.fieldLink "LiarsAnswers$Game" (22 : Nat) "LiarsAnswers$Game" "e" "I") ∈ gt := gt_of (List.mem_of_getElem? (i := 105) (by decide +kernel)) (by decide +kernel)
theorem g_RX3_22_3 : GF RX3 22 3 3 := ⟨RX3, TX3, 9, "LiarsAnswers$Game", rfl, uw_3, by decide, wd_105, Or.inl rfl⟩
theorem p_RX3_22_3 : PF RX3 22 3 3 (tyX3 3) false := ⟨RX3, TX3, 9, "LiarsAnswers$Game", tyX3, rfl, uw_3, by decide, wd_105, Or.inl rfl, tyX3_ok, nmX3, rfl, rfl, fun h => by cases h⟩
theorem wd_106 : (Cond.fieldLink "LiarsAnswers" (144 : Nat) "LiarsAnswers$Game" "e" "I") ∈ gt := gt_of (List.mem_of_getElem? (i := 106) (by decide +kernel)) (by decide +kernel)
theorem g_RX11_144_3 : GF RX11 144 3 3 := ⟨RX3, TX3, 9, "LiarsAnswers$Game", rfl, uw_3, by decide, wd_106, Or.inl rfl⟩
theorem p_RX11_144_3 : PF RX11 144 3 3 (tyX3 3) false := ⟨RX3, TX3, 9, "LiarsAnswers$Game", tyX3, rfl, uw_3, by decide, wd_106, Or.inl rfl, tyX3_ok, nmX3, rfl, rfl, fun h => by cases h⟩
theorem wd_107 : (Cond.fieldLink "LiarsAnswers$Game" (25 : Nat) "LiarsAnswers$Game" "answers" "I") ∈ gt := gt_of (List.mem_of_getElem? (i := 107) (by decide +kernel)) (by decide +kernel)
theorem g_RX3_25_3 : GF RX3 25 3 4 := ⟨RX3, TX3, 9, "LiarsAnswers$Game", rfl, uw_3, by decide, wd_107, Or.inl rfl⟩
theorem p_RX3_25_3 : PF RX3 25 3 4 (tyX3 4) false := ⟨RX3, TX3, 9, "LiarsAnswers$Game", tyX3, rfl, uw_3, by decide, wd_107, Or.inl rfl, tyX3_ok, nmX3, rfl, rfl, fun h => by cases h⟩
theorem wd_108 : (Cond.fieldLink "LiarsAnswers" (126 : Nat) "LiarsAnswers$Game" "answers" "I") ∈ gt := gt_of (List.mem_of_getElem? (i := 108) (by decide +kernel)) (by decide +kernel)
theorem g_RX11_126_3 : GF RX11 126 3 4 := ⟨RX3, TX3, 9, "LiarsAnswers$Game", rfl, uw_3, by decide, wd_108, Or.inl rfl⟩
theorem p_RX11_126_3 : PF RX11 126 3 4 (tyX3 4) false := ⟨RX3, TX3, 9, "LiarsAnswers$Game", tyX3, rfl, uw_3, by decide, wd_108, Or.inl rfl, tyX3_ok, nmX3, rfl, rfl, fun h => by cases h⟩
theorem wd_109 : (Cond.fieldLink "LiarsAnswers$Game" (28 : Nat) "LiarsAnswers$Game" "waits" "I") ∈ gt := gt_of (List.mem_of_getElem? (i := 109) (by decide +kernel)) (by decide +kernel)
theorem g_RX3_28_3 : GF RX3 28 3 5 := ⟨RX3, TX3, 9, "LiarsAnswers$Game", rfl, uw_3, by decide, wd_109, Or.inl rfl⟩
theorem p_RX3_28_3 : PF RX3 28 3 5 (tyX3 5) false := ⟨RX3, TX3, 9, "LiarsAnswers$Game", tyX3, rfl, uw_3, by decide, wd_109, Or.inl rfl, tyX3_ok, nmX3, rfl, rfl, fun h => by cases h⟩
theorem wd_110 : (Cond.fieldLink "LiarsAnswers" (119 : Nat) "LiarsAnswers$Game" "waits" "I") ∈ gt := gt_of (List.mem_of_getElem? (i := 110) (by decide +kernel)) (by decide +kernel)
theorem g_RX11_119_3 : GF RX11 119 3 5 := ⟨RX3, TX3, 9, "LiarsAnswers$Game", rfl, uw_3, by decide, wd_110, Or.inl rfl⟩
theorem p_RX11_119_3 : PF RX11 119 3 5 (tyX3 5) false := ⟨RX3, TX3, 9, "LiarsAnswers$Game", tyX3, rfl, uw_3, by decide, wd_110, Or.inl rfl, tyX3_ok, nmX3, rfl, rfl, fun h => by cases h⟩
theorem wd_111 : (Cond.fieldLink "LiarsAnswers$Game" (31 : Nat) "LiarsAnswers$Game" "yesPrice" "I") ∈ gt := gt_of (List.mem_of_getElem? (i := 111) (by decide +kernel)) (by decide +kernel)
theorem g_RX3_31_3 : GF RX3 31 3 6 := ⟨RX3, TX3, 9, "LiarsAnswers$Game", rfl, uw_3, by decide, wd_111, Or.inl rfl⟩
theorem p_RX3_31_3 : PF RX3 31 3 6 (tyX3 6) false := ⟨RX3, TX3, 9, "LiarsAnswers$Game", tyX3, rfl, uw_3, by decide, wd_111, Or.inl rfl, tyX3_ok, nmX3, rfl, rfl, fun h => by cases h⟩
theorem wd_112 : (Cond.fieldLink "LiarsAnswers$Game" (34 : Nat) "LiarsAnswers$Game" "noPrice" "I") ∈ gt := gt_of (List.mem_of_getElem? (i := 112) (by decide +kernel)) (by decide +kernel)
theorem g_RX3_34_3 : GF RX3 34 3 7 := ⟨RX3, TX3, 9, "LiarsAnswers$Game", rfl, uw_3, by decide, wd_112, Or.inl rfl⟩
theorem p_RX3_34_3 : PF RX3 34 3 7 (tyX3 7) false := ⟨RX3, TX3, 9, "LiarsAnswers$Game", tyX3, rfl, uw_3, by decide, wd_112, Or.inl rfl, tyX3_ok, nmX3, rfl, rfl, fun h => by cases h⟩
theorem wd_113 : (Cond.fieldLink "LiarsAnswers$Game" (37 : Nat) "LiarsAnswers$Game" "lefts" "[I") ∈ gt := gt_of (List.mem_of_getElem? (i := 113) (by decide +kernel)) (by decide +kernel)
theorem g_RX3_37_3 : GF RX3 37 3 8 := ⟨RX3, TX3, 9, "LiarsAnswers$Game", rfl, uw_3, by decide, wd_113, Or.inl rfl⟩
theorem p_RX3_37_3 : PF RX3 37 3 8 (tyX3 8) true := ⟨RX3, TX3, 9, "LiarsAnswers$Game", tyX3, rfl, uw_3, by decide, wd_113, Or.inl rfl, tyX3_ok, nmX3, rfl, rfl, fun _ => rfl⟩
theorem wd_114 : (Cond.fieldLink "LiarsAnswers" (166 : Nat) "LiarsAnswers$Game" "lefts" "[I") ∈ gt := gt_of (List.mem_of_getElem? (i := 114) (by decide +kernel)) (by decide +kernel)
theorem g_RX11_166_3 : GF RX11 166 3 8 := ⟨RX3, TX3, 9, "LiarsAnswers$Game", rfl, uw_3, by decide, wd_114, Or.inl rfl⟩
theorem wd_141 : (Cond.fieldLink "LiarsAnswers$Code" (9 : Nat) "LiarsAnswers$Code" "questions" "[I") ∈ gt := gt_of (List.mem_of_getElem? (i := 141) (by decide +kernel)) (by decide +kernel)
theorem g_RX2_9_2 : GF RX2 9 2 0 := ⟨RX2, TX2, 3, "LiarsAnswers$Code", rfl, uw_2, by decide, wd_141, Or.inl rfl⟩
theorem p_RX2_9_2 : PF RX2 9 2 0 (tyX2 0) true := ⟨RX2, TX2, 3, "LiarsAnswers$Code", tyX2, rfl, uw_2, by decide, wd_141, Or.inl rfl, tyX2_ok, nmX2, rfl, rfl, fun _ => rfl⟩
theorem wd_142 : (Cond.fieldLink "LiarsAnswers$Code" (15 : Nat) "LiarsAnswers$Code" "words" "[I") ∈ gt := gt_of (List.mem_of_getElem? (i := 142) (by decide +kernel)) (by decide +kernel)
theorem g_RX2_15_2 : GF RX2 15 2 1 := ⟨RX2, TX2, 3, "LiarsAnswers$Code", rfl, uw_2, by decide, wd_142, Or.inl rfl⟩
theorem p_RX2_15_2 : PF RX2 15 2 1 (tyX2 1) true := ⟨RX2, TX2, 3, "LiarsAnswers$Code", tyX2, rfl, uw_2, by decide, wd_142, Or.inl rfl, tyX2_ok, nmX2, rfl, rfl, fun _ => rfl⟩
theorem wd_143 : (Cond.fieldLink "LiarsAnswers$Code" (18 : Nat) "LiarsAnswers$Code" "size" "I") ∈ gt := gt_of (List.mem_of_getElem? (i := 143) (by decide +kernel)) (by decide +kernel)
theorem g_RX2_18_2 : GF RX2 18 2 2 := ⟨RX2, TX2, 3, "LiarsAnswers$Code", rfl, uw_2, by decide, wd_143, Or.inl rfl⟩
theorem p_RX2_18_2 : PF RX2 18 2 2 (tyX2 2) false := ⟨RX2, TX2, 3, "LiarsAnswers$Code", tyX2, rfl, uw_2, by decide, wd_143, Or.inl rfl, tyX2_ok, nmX2, rfl, rfl, fun h => by cases h⟩
theorem wd_144 : (Cond.fieldLink "LiarsAnswers" (184 : Nat) "LiarsAnswers$Code" "size" "I") ∈ gt := gt_of (List.mem_of_getElem? (i := 144) (by decide +kernel)) (by decide +kernel)
theorem g_RX11_184_2 : GF RX11 184 2 2 := ⟨RX2, TX2, 3, "LiarsAnswers$Code", rfl, uw_2, by decide, wd_144, Or.inl rfl⟩
theorem p_RX11_184_2 : PF RX11 184 2 2 (tyX2 2) false := ⟨RX2, TX2, 3, "LiarsAnswers$Code", tyX2, rfl, uw_2, by decide, wd_144, Or.inl rfl, tyX2_ok, nmX2, rfl, rfl, fun h => by cases h⟩
theorem wd_152 : (Cond.fieldLink "LiarsAnswers" (18 : Nat) "LiarsAnswers" "liars" "[LLiarsAnswers$Liar;") ∈ gt := gt_of (List.mem_of_getElem? (i := 152) (by decide +kernel)) (by decide +kernel)
theorem g_RX11_18_10 : GF RX11 18 10 0 := ⟨RX11, TX11, 8, "LiarsAnswers", rfl, uw_10, by decide, wd_152, Or.inl rfl⟩
theorem p_RX11_18_10 : PF RX11 18 10 0 (tyX11 0) true := ⟨RX11, TX11, 8, "LiarsAnswers", tyX11, rfl, uw_10, by decide, wd_152, Or.inl rfl, tyX11_ok, nmX11, rfl, rfl, fun _ => rfl⟩
theorem wd_153 : (Cond.fieldLink "LiarsAnswers" (25 : Nat) "LiarsAnswers" "traced" "LLiarsAnswers$Tally;") ∈ gt := gt_of (List.mem_of_getElem? (i := 153) (by decide +kernel)) (by decide +kernel)
theorem g_RX11_25_10 : GF RX11 25 10 1 := ⟨RX11, TX11, 8, "LiarsAnswers", rfl, uw_10, by decide, wd_153, Or.inl rfl⟩
theorem p_RX11_25_10 : PF RX11 25 10 1 (tyX11 1) true := ⟨RX11, TX11, 8, "LiarsAnswers", tyX11, rfl, uw_10, by decide, wd_153, Or.inl rfl, tyX11_ok, nmX11, rfl, rfl, fun _ => rfl⟩
theorem wd_154 : (Cond.fieldLink "LiarsAnswers" (29 : Nat) "LiarsAnswers" "untold" "LLiarsAnswers$Tally;") ∈ gt := gt_of (List.mem_of_getElem? (i := 154) (by decide +kernel)) (by decide +kernel)
theorem g_RX11_29_10 : GF RX11 29 10 2 := ⟨RX11, TX11, 8, "LiarsAnswers", rfl, uw_10, by decide, wd_154, Or.inl rfl⟩
theorem p_RX11_29_10 : PF RX11 29 10 2 (tyX11 2) true := ⟨RX11, TX11, 8, "LiarsAnswers", tyX11, rfl, uw_10, by decide, wd_154, Or.inl rfl, tyX11_ok, nmX11, rfl, rfl, fun _ => rfl⟩
theorem wd_155 : (Cond.fieldLink "LiarsAnswers" (34 : Nat) "LiarsAnswers" "heapTables" "[LLiarsAnswers$HeapTable;") ∈ gt := gt_of (List.mem_of_getElem? (i := 155) (by decide +kernel)) (by decide +kernel)
theorem g_RX11_34_10 : GF RX11 34 10 3 := ⟨RX11, TX11, 8, "LiarsAnswers", rfl, uw_10, by decide, wd_155, Or.inl rfl⟩
theorem p_RX11_34_10 : PF RX11 34 10 3 (tyX11 3) true := ⟨RX11, TX11, 8, "LiarsAnswers", tyX11, rfl, uw_10, by decide, wd_155, Or.inl rfl, tyX11_ok, nmX11, rfl, rfl, fun _ => rfl⟩
theorem wd_156 : (Cond.fieldLink "LiarsAnswers" (40 : Nat) "LiarsAnswers" "spanTables" "[LLiarsAnswers$SpanTable;") ∈ gt := gt_of (List.mem_of_getElem? (i := 156) (by decide +kernel)) (by decide +kernel)
theorem g_RX11_40_10 : GF RX11 40 10 4 := ⟨RX11, TX11, 8, "LiarsAnswers", rfl, uw_10, by decide, wd_156, Or.inl rfl⟩
theorem p_RX11_40_10 : PF RX11 40 10 4 (tyX11 4) true := ⟨RX11, TX11, 8, "LiarsAnswers", tyX11, rfl, uw_10, by decide, wd_156, Or.inl rfl, tyX11_ok, nmX11, rfl, rfl, fun _ => rfl⟩
theorem wd_157 : (Cond.fieldLink "LiarsAnswers" (47 : Nat) "LiarsAnswers" "game" "LLiarsAnswers$Game;") ∈ gt := gt_of (List.mem_of_getElem? (i := 157) (by decide +kernel)) (by decide +kernel)
theorem g_RX11_47_10 : GF RX11 47 10 5 := ⟨RX11, TX11, 8, "LiarsAnswers", rfl, uw_10, by decide, wd_157, Or.inl rfl⟩
theorem p_RX11_47_10 : PF RX11 47 10 5 (tyX11 5) true := ⟨RX11, TX11, 8, "LiarsAnswers", tyX11, rfl, uw_10, by decide, wd_157, Or.inl rfl, tyX11_ok, nmX11, rfl, rfl, fun _ => rfl⟩
theorem wd_158 : (Cond.fieldLink "LiarsAnswers" (54 : Nat) "LiarsAnswers" "code" "LLiarsAnswers$Code;") ∈ gt := gt_of (List.mem_of_getElem? (i := 158) (by decide +kernel)) (by decide +kernel)
theorem g_RX11_54_10 : GF RX11 54 10 6 := ⟨RX11, TX11, 8, "LiarsAnswers", rfl, uw_10, by decide, wd_158, Or.inl rfl⟩
theorem p_RX11_54_10 : PF RX11 54 10 6 (tyX11 6) true := ⟨RX11, TX11, 8, "LiarsAnswers", tyX11, rfl, uw_10, by decide, wd_158, Or.inl rfl, tyX11_ok, nmX11, rfl, rfl, fun _ => rfl⟩
theorem wd_159 : (Cond.fieldLink "LiarsAnswers" (58 : Nat) "LiarsAnswers" "takenBack" "I") ∈ gt := gt_of (List.mem_of_getElem? (i := 159) (by decide +kernel)) (by decide +kernel)
theorem g_RX11_58_10 : GF RX11 58 10 7 := ⟨RX11, TX11, 8, "LiarsAnswers", rfl, uw_10, by decide, wd_159, Or.inl rfl⟩
theorem p_RX11_58_10 : PF RX11 58 10 7 (tyX11 7) false := ⟨RX11, TX11, 8, "LiarsAnswers", tyX11, rfl, uw_10, by decide, wd_159, Or.inl rfl, tyX11_ok, nmX11, rfl, rfl, fun h => by cases h⟩
theorem wd_238 : (Cond.fieldLink "LiarsAnswers$HeapWalk" (22 : Nat) "LiarsAnswers$HeapWalk" "few" "[I") ∈ gt := gt_of (List.mem_of_getElem? (i := 238) (by decide +kernel)) (by decide +kernel)
theorem g_RX5_22_0 : GF RX5 22 0 0 := ⟨RX0, TX0, 6, "LiarsAnswers$HeapWalk", rfl, uw_0, by decide, wd_238, Or.inl rfl⟩
theorem p_RX5_22_0 : PF RX5 22 0 0 (tyX0 0) true := ⟨RX0, TX0, 6, "LiarsAnswers$HeapWalk", tyX0, rfl, uw_0, by decide, wd_238, Or.inl rfl, tyX0_ok, nmX0, rfl, rfl, fun _ => rfl⟩
theorem g_RX5_22_5 : GF RX5 22 5 0 := ⟨RX6, TX6, 8, "LiarsAnswers$HeapWalk", rfl, uw_5, by decide, wd_238, Or.inl rfl⟩
theorem p_RX5_22_5 : PF RX5 22 5 0 (tyX6 0) true := ⟨RX6, TX6, 8, "LiarsAnswers$HeapWalk", tyX6, rfl, uw_5, by decide, wd_238, Or.inl rfl, tyX6_ok, nmX6, rfl, rfl, fun _ => rfl⟩
theorem wd_239 : (Cond.fieldLink "LiarsAnswers$HeapWalk" (34 : Nat) "LiarsAnswers$HeapWalk" "yesPrice" "I") ∈ gt := gt_of (List.mem_of_getElem? (i := 239) (by decide +kernel)) (by decide +kernel)
theorem g_RX5_34_0 : GF RX5 34 0 1 := ⟨RX0, TX0, 6, "LiarsAnswers$HeapWalk", rfl, uw_0, by decide, wd_239, Or.inl rfl⟩
theorem p_RX5_34_0 : PF RX5 34 0 1 (tyX0 1) true := ⟨RX0, TX0, 6, "LiarsAnswers$HeapWalk", tyX0, rfl, uw_0, by decide, wd_239, Or.inl rfl, tyX0_ok, nmX0, rfl, rfl, fun _ => rfl⟩
theorem g_RX5_34_5 : GF RX5 34 5 1 := ⟨RX6, TX6, 8, "LiarsAnswers$HeapWalk", rfl, uw_5, by decide, wd_239, Or.inl rfl⟩
theorem p_RX5_34_5 : PF RX5 34 5 1 (tyX6 1) true := ⟨RX6, TX6, 8, "LiarsAnswers$HeapWalk", tyX6, rfl, uw_5, by decide, wd_239, Or.inl rfl, tyX6_ok, nmX6, rfl, rfl, fun _ => rfl⟩
theorem wd_240 : (Cond.fieldLink "LiarsAnswers$HeapWalk" (37 : Nat) "LiarsAnswers$HeapWalk" "noPrice" "I") ∈ gt := gt_of (List.mem_of_getElem? (i := 240) (by decide +kernel)) (by decide +kernel)
theorem g_RX5_37_0 : GF RX5 37 0 2 := ⟨RX0, TX0, 6, "LiarsAnswers$HeapWalk", rfl, uw_0, by decide, wd_240, Or.inl rfl⟩
theorem p_RX5_37_0 : PF RX5 37 0 2 (tyX0 2) true := ⟨RX0, TX0, 6, "LiarsAnswers$HeapWalk", tyX0, rfl, uw_0, by decide, wd_240, Or.inl rfl, tyX0_ok, nmX0, rfl, rfl, fun _ => rfl⟩
theorem g_RX5_37_5 : GF RX5 37 5 2 := ⟨RX6, TX6, 8, "LiarsAnswers$HeapWalk", rfl, uw_5, by decide, wd_240, Or.inl rfl⟩
theorem p_RX5_37_5 : PF RX5 37 5 2 (tyX6 2) true := ⟨RX6, TX6, 8, "LiarsAnswers$HeapWalk", tyX6, rfl, uw_5, by decide, wd_240, Or.inl rfl, tyX6_ok, nmX6, rfl, rfl, fun _ => rfl⟩
theorem wd_241 : (Cond.fieldLink "LiarsAnswers$HeapWalk" (9 : Nat) "LiarsAnswers$HeapWalk" "have" "[I") ∈ gt := gt_of (List.mem_of_getElem? (i := 241) (by decide +kernel)) (by decide +kernel)
theorem g_RX5_9_0 : GF RX5 9 0 3 := ⟨RX0, TX0, 6, "LiarsAnswers$HeapWalk", rfl, uw_0, by decide, wd_241, Or.inl rfl⟩
theorem p_RX5_9_0 : PF RX5 9 0 3 (tyX0 3) true := ⟨RX0, TX0, 6, "LiarsAnswers$HeapWalk", tyX0, rfl, uw_0, by decide, wd_241, Or.inl rfl, tyX0_ok, nmX0, rfl, rfl, fun _ => rfl⟩
theorem g_RX5_9_5 : GF RX5 9 5 3 := ⟨RX6, TX6, 8, "LiarsAnswers$HeapWalk", rfl, uw_5, by decide, wd_241, Or.inl rfl⟩
theorem p_RX5_9_5 : PF RX5 9 5 3 (tyX6 3) true := ⟨RX6, TX6, 8, "LiarsAnswers$HeapWalk", tyX6, rfl, uw_5, by decide, wd_241, Or.inl rfl, tyX6_ok, nmX6, rfl, rfl, fun _ => rfl⟩
theorem wd_242 : (Cond.fieldLink "LiarsAnswers$AnyHeap" (7 : Nat) "LiarsAnswers$AnyHeap" "have" "[I") ∈ gt := gt_of (List.mem_of_getElem? (i := 242) (by decide +kernel)) (by decide +kernel)
theorem wd_243 : (Cond.sameField "LiarsAnswers$AnyHeap" "LiarsAnswers$HeapWalk" "have" "[I") ∈ gt := gt_of (List.mem_of_getElem? (i := 243) (by decide +kernel)) (by decide +kernel)
theorem g_RX0_7_0 : GF RX0 7 0 3 := ⟨RX0, TX0, 6, "LiarsAnswers$AnyHeap", rfl, uw_0, by decide, wd_242, Or.inr wd_243⟩
theorem wd_244 : (Cond.fieldLink "LiarsAnswers$LeastHeap" (19 : Nat) "LiarsAnswers$LeastHeap" "have" "[I") ∈ gt := gt_of (List.mem_of_getElem? (i := 244) (by decide +kernel)) (by decide +kernel)
theorem wd_245 : (Cond.sameField "LiarsAnswers$LeastHeap" "LiarsAnswers$HeapWalk" "have" "[I") ∈ gt := gt_of (List.mem_of_getElem? (i := 245) (by decide +kernel)) (by decide +kernel)
theorem g_RX6_19_5 : GF RX6 19 5 3 := ⟨RX6, TX6, 8, "LiarsAnswers$LeastHeap", rfl, uw_5, by decide, wd_244, Or.inr wd_245⟩
theorem wd_246 : (Cond.fieldLink "LiarsAnswers$HeapWalk" (15 : Nat) "LiarsAnswers$HeapWalk" "taken" "[I") ∈ gt := gt_of (List.mem_of_getElem? (i := 246) (by decide +kernel)) (by decide +kernel)
theorem g_RX5_15_0 : GF RX5 15 0 4 := ⟨RX0, TX0, 6, "LiarsAnswers$HeapWalk", rfl, uw_0, by decide, wd_246, Or.inl rfl⟩
theorem p_RX5_15_0 : PF RX5 15 0 4 (tyX0 4) true := ⟨RX0, TX0, 6, "LiarsAnswers$HeapWalk", tyX0, rfl, uw_0, by decide, wd_246, Or.inl rfl, tyX0_ok, nmX0, rfl, rfl, fun _ => rfl⟩
theorem g_RX5_15_5 : GF RX5 15 5 4 := ⟨RX6, TX6, 8, "LiarsAnswers$HeapWalk", rfl, uw_5, by decide, wd_246, Or.inl rfl⟩
theorem p_RX5_15_5 : PF RX5 15 5 4 (tyX6 4) true := ⟨RX6, TX6, 8, "LiarsAnswers$HeapWalk", tyX6, rfl, uw_5, by decide, wd_246, Or.inl rfl, tyX6_ok, nmX6, rfl, rfl, fun _ => rfl⟩
theorem wd_247 : (Cond.fieldLink "LiarsAnswers$LeastHeap" (38 : Nat) "LiarsAnswers$LeastHeap" "taken" "[I") ∈ gt := gt_of (List.mem_of_getElem? (i := 247) (by decide +kernel)) (by decide +kernel)
theorem wd_248 : (Cond.sameField "LiarsAnswers$LeastHeap" "LiarsAnswers$HeapWalk" "taken" "[I") ∈ gt := gt_of (List.mem_of_getElem? (i := 248) (by decide +kernel)) (by decide +kernel)
theorem g_RX6_38_5 : GF RX6 38 5 4 := ⟨RX6, TX6, 8, "LiarsAnswers$LeastHeap", rfl, uw_5, by decide, wd_247, Or.inr wd_248⟩
theorem wd_249 : (Cond.fieldLink "LiarsAnswers$HeapWalk" (18 : Nat) "LiarsAnswers$HeapWalk" "goal" "I") ∈ gt := gt_of (List.mem_of_getElem? (i := 249) (by decide +kernel)) (by decide +kernel)
theorem g_RX5_18_0 : GF RX5 18 0 5 := ⟨RX0, TX0, 6, "LiarsAnswers$HeapWalk", rfl, uw_0, by decide, wd_249, Or.inl rfl⟩
theorem p_RX5_18_0 : PF RX5 18 0 5 (tyX0 5) false := ⟨RX0, TX0, 6, "LiarsAnswers$HeapWalk", tyX0, rfl, uw_0, by decide, wd_249, Or.inl rfl, tyX0_ok, nmX0, rfl, rfl, fun h => by cases h⟩
theorem g_RX5_18_5 : GF RX5 18 5 5 := ⟨RX6, TX6, 8, "LiarsAnswers$HeapWalk", rfl, uw_5, by decide, wd_249, Or.inl rfl⟩
theorem p_RX5_18_5 : PF RX5 18 5 5 (tyX6 5) false := ⟨RX6, TX6, 8, "LiarsAnswers$HeapWalk", tyX6, rfl, uw_5, by decide, wd_249, Or.inl rfl, tyX6_ok, nmX6, rfl, rfl, fun h => by cases h⟩
theorem wd_269 : (Cond.fieldLink "LiarsAnswers$LeastHeap" (9 : Nat) "LiarsAnswers$LeastHeap" "lowest" "[I") ∈ gt := gt_of (List.mem_of_getElem? (i := 269) (by decide +kernel)) (by decide +kernel)
theorem g_RX6_9_5 : GF RX6 9 5 6 := ⟨RX6, TX6, 8, "LiarsAnswers$LeastHeap", rfl, uw_5, by decide, wd_269, Or.inl rfl⟩
theorem p_RX6_9_5 : PF RX6 9 5 6 (tyX6 6) true := ⟨RX6, TX6, 8, "LiarsAnswers$LeastHeap", tyX6, rfl, uw_5, by decide, wd_269, Or.inl rfl, tyX6_ok, nmX6, rfl, rfl, fun _ => rfl⟩
theorem wd_270 : (Cond.fieldLink "LiarsAnswers$LeastHeap" (15 : Nat) "LiarsAnswers$LeastHeap" "least" "I") ∈ gt := gt_of (List.mem_of_getElem? (i := 270) (by decide +kernel)) (by decide +kernel)
theorem g_RX6_15_5 : GF RX6 15 5 7 := ⟨RX6, TX6, 8, "LiarsAnswers$LeastHeap", rfl, uw_5, by decide, wd_270, Or.inl rfl⟩
theorem p_RX6_15_5 : PF RX6 15 5 7 (tyX6 7) false := ⟨RX6, TX6, 8, "LiarsAnswers$LeastHeap", tyX6, rfl, uw_5, by decide, wd_270, Or.inl rfl, tyX6_ok, nmX6, rfl, rfl, fun h => by cases h⟩
theorem wd_287 : (Cond.fieldLink "LiarsAnswers$HeapTable" (15 : Nat) "LiarsAnswers$HeapTable" "few" "[I") ∈ gt := gt_of (List.mem_of_getElem? (i := 287) (by decide +kernel)) (by decide +kernel)
theorem g_RX4_15_4 : GF RX4 15 4 0 := ⟨RX4, TX4, 4, "LiarsAnswers$HeapTable", rfl, uw_4, by decide, wd_287, Or.inl rfl⟩
theorem p_RX4_15_4 : PF RX4 15 4 0 (tyX4 0) true := ⟨RX4, TX4, 4, "LiarsAnswers$HeapTable", tyX4, rfl, uw_4, by decide, wd_287, Or.inl rfl, tyX4_ok, nmX4, rfl, rfl, fun _ => rfl⟩
theorem wd_288 : (Cond.fieldLink "LiarsAnswers$HeapTable" (9 : Nat) "LiarsAnswers$HeapTable" "known" "[I") ∈ gt := gt_of (List.mem_of_getElem? (i := 288) (by decide +kernel)) (by decide +kernel)
theorem g_RX4_9_4 : GF RX4 9 4 1 := ⟨RX4, TX4, 4, "LiarsAnswers$HeapTable", rfl, uw_4, by decide, wd_288, Or.inl rfl⟩
theorem p_RX4_9_4 : PF RX4 9 4 1 (tyX4 1) true := ⟨RX4, TX4, 4, "LiarsAnswers$HeapTable", tyX4, rfl, uw_4, by decide, wd_288, Or.inl rfl, tyX4_ok, nmX4, rfl, rfl, fun _ => rfl⟩
theorem wd_289 : (Cond.fieldLink "LiarsAnswers$HeapTable" (18 : Nat) "LiarsAnswers$HeapTable" "anyHeap" "LLiarsAnswers$AnyHeap;") ∈ gt := gt_of (List.mem_of_getElem? (i := 289) (by decide +kernel)) (by decide +kernel)
theorem g_RX4_18_4 : GF RX4 18 4 2 := ⟨RX4, TX4, 4, "LiarsAnswers$HeapTable", rfl, uw_4, by decide, wd_289, Or.inl rfl⟩
theorem p_RX4_18_4 : PF RX4 18 4 2 (tyX4 2) true := ⟨RX4, TX4, 4, "LiarsAnswers$HeapTable", tyX4, rfl, uw_4, by decide, wd_289, Or.inl rfl, tyX4_ok, nmX4, rfl, rfl, fun _ => rfl⟩
theorem wd_290 : (Cond.fieldLink "LiarsAnswers$HeapTable" (22 : Nat) "LiarsAnswers$HeapTable" "leastHeap" "LLiarsAnswers$LeastHeap;") ∈ gt := gt_of (List.mem_of_getElem? (i := 290) (by decide +kernel)) (by decide +kernel)
theorem g_RX4_22_4 : GF RX4 22 4 3 := ⟨RX4, TX4, 4, "LiarsAnswers$HeapTable", rfl, uw_4, by decide, wd_290, Or.inl rfl⟩
theorem p_RX4_22_4 : PF RX4 22 4 3 (tyX4 3) true := ⟨RX4, TX4, 4, "LiarsAnswers$HeapTable", tyX4, rfl, uw_4, by decide, wd_290, Or.inl rfl, tyX4_ok, nmX4, rfl, rfl, fun _ => rfl⟩
theorem wd_312 : (Cond.fieldLink "LiarsAnswers" (242 : Nat) "LiarsAnswers" "PLACES" "[I") ∈ gt := gt_of (List.mem_of_getElem? (i := 312) (by decide +kernel)) (by decide +kernel)
theorem wd_475 : (Cond.fieldLink "LiarsAnswers$SpanTable" (25 : Nat) "LiarsAnswers$SpanTable" "yesPrice" "I") ∈ gt := gt_of (List.mem_of_getElem? (i := 475) (by decide +kernel)) (by decide +kernel)
theorem g_RX8_25_7 : GF RX8 25 7 0 := ⟨RX8, TX8, 4, "LiarsAnswers$SpanTable", rfl, uw_7, by decide, wd_475, Or.inl rfl⟩
theorem p_RX8_25_7 : PF RX8 25 7 0 (tyX8 0) true := ⟨RX8, TX8, 4, "LiarsAnswers$SpanTable", tyX8, rfl, uw_7, by decide, wd_475, Or.inl rfl, tyX8_ok, nmX8, rfl, rfl, fun _ => rfl⟩
theorem wd_476 : (Cond.fieldLink "LiarsAnswers$SpanTable" (28 : Nat) "LiarsAnswers$SpanTable" "noPrice" "I") ∈ gt := gt_of (List.mem_of_getElem? (i := 476) (by decide +kernel)) (by decide +kernel)
theorem g_RX8_28_7 : GF RX8 28 7 1 := ⟨RX8, TX8, 4, "LiarsAnswers$SpanTable", rfl, uw_7, by decide, wd_476, Or.inl rfl⟩
theorem p_RX8_28_7 : PF RX8 28 7 1 (tyX8 1) true := ⟨RX8, TX8, 4, "LiarsAnswers$SpanTable", tyX8, rfl, uw_7, by decide, wd_476, Or.inl rfl, tyX8_ok, nmX8, rfl, rfl, fun _ => rfl⟩
theorem wd_477 : (Cond.fieldLink "LiarsAnswers$SpanTable" (9 : Nat) "LiarsAnswers$SpanTable" "few" "[I") ∈ gt := gt_of (List.mem_of_getElem? (i := 477) (by decide +kernel)) (by decide +kernel)
theorem g_RX8_9_7 : GF RX8 9 7 2 := ⟨RX8, TX8, 4, "LiarsAnswers$SpanTable", rfl, uw_7, by decide, wd_477, Or.inl rfl⟩
theorem p_RX8_9_7 : PF RX8 9 7 2 (tyX8 2) true := ⟨RX8, TX8, 4, "LiarsAnswers$SpanTable", tyX8, rfl, uw_7, by decide, wd_477, Or.inl rfl, tyX8_ok, nmX8, rfl, rfl, fun _ => rfl⟩
theorem wd_478 : (Cond.fieldLink "LiarsAnswers$SpanTable" (15 : Nat) "LiarsAnswers$SpanTable" "known" "I") ∈ gt := gt_of (List.mem_of_getElem? (i := 478) (by decide +kernel)) (by decide +kernel)
theorem g_RX8_15_7 : GF RX8 15 7 3 := ⟨RX8, TX8, 4, "LiarsAnswers$SpanTable", rfl, uw_7, by decide, wd_478, Or.inl rfl⟩
theorem p_RX8_15_7 : PF RX8 15 7 3 (tyX8 3) false := ⟨RX8, TX8, 4, "LiarsAnswers$SpanTable", tyX8, rfl, uw_7, by decide, wd_478, Or.inl rfl, tyX8_ok, nmX8, rfl, rfl, fun h => by cases h⟩
theorem wd_645 : (Cond.fieldLink "LiarsAnswersModel" (49 : Nat) "LiarsAnswersModel" "hasGame" "Z") ∈ gt := gt_of (List.mem_of_getElem? (i := 645) (by decide +kernel)) (by decide +kernel)
theorem g_RX12_49_11 : GF RX12 49 11 0 := ⟨RX12, TX12, 21, "LiarsAnswersModel", rfl, uw_11, by decide, wd_645, Or.inl rfl⟩
theorem p_RX12_49_11 : PF RX12 49 11 0 (tyX12 0) false := ⟨RX12, TX12, 21, "LiarsAnswersModel", tyX12, rfl, uw_11, by decide, wd_645, Or.inl rfl, tyX12_ok, nmX12, rfl, rfl, fun h => by cases h⟩
theorem wd_646 : (Cond.fieldLink "LiarsAnswersModel" (88 : Nat) "LiarsAnswersModel" "kind" "I") ∈ gt := gt_of (List.mem_of_getElem? (i := 646) (by decide +kernel)) (by decide +kernel)
theorem g_RX12_88_11 : GF RX12 88 11 1 := ⟨RX12, TX12, 21, "LiarsAnswersModel", rfl, uw_11, by decide, wd_646, Or.inl rfl⟩
theorem p_RX12_88_11 : PF RX12 88 11 1 (tyX12 1) false := ⟨RX12, TX12, 21, "LiarsAnswersModel", tyX12, rfl, uw_11, by decide, wd_646, Or.inl rfl, tyX12_ok, nmX12, rfl, rfl, fun h => by cases h⟩
theorem wd_647 : (Cond.fieldLink "LiarsAnswersModel" (91 : Nat) "LiarsAnswersModel" "n" "I") ∈ gt := gt_of (List.mem_of_getElem? (i := 647) (by decide +kernel)) (by decide +kernel)
theorem g_RX12_91_11 : GF RX12 91 11 2 := ⟨RX12, TX12, 21, "LiarsAnswersModel", rfl, uw_11, by decide, wd_647, Or.inl rfl⟩
theorem p_RX12_91_11 : PF RX12 91 11 2 (tyX12 2) false := ⟨RX12, TX12, 21, "LiarsAnswersModel", tyX12, rfl, uw_11, by decide, wd_647, Or.inl rfl, tyX12_ok, nmX12, rfl, rfl, fun h => by cases h⟩
theorem wd_648 : (Cond.fieldLink "LiarsAnswersModel" (98 : Nat) "LiarsAnswersModel" "e" "I") ∈ gt := gt_of (List.mem_of_getElem? (i := 648) (by decide +kernel)) (by decide +kernel)
theorem g_RX12_98_11 : GF RX12 98 11 3 := ⟨RX12, TX12, 21, "LiarsAnswersModel", rfl, uw_11, by decide, wd_648, Or.inl rfl⟩
theorem p_RX12_98_11 : PF RX12 98 11 3 (tyX12 3) false := ⟨RX12, TX12, 21, "LiarsAnswersModel", tyX12, rfl, uw_11, by decide, wd_648, Or.inl rfl, tyX12_ok, nmX12, rfl, rfl, fun h => by cases h⟩
theorem wd_649 : (Cond.fieldLink "LiarsAnswersModel" (101 : Nat) "LiarsAnswersModel" "answers" "I") ∈ gt := gt_of (List.mem_of_getElem? (i := 649) (by decide +kernel)) (by decide +kernel)
theorem g_RX12_101_11 : GF RX12 101 11 4 := ⟨RX12, TX12, 21, "LiarsAnswersModel", rfl, uw_11, by decide, wd_649, Or.inl rfl⟩
theorem p_RX12_101_11 : PF RX12 101 11 4 (tyX12 4) false := ⟨RX12, TX12, 21, "LiarsAnswersModel", tyX12, rfl, uw_11, by decide, wd_649, Or.inl rfl, tyX12_ok, nmX12, rfl, rfl, fun h => by cases h⟩
theorem wd_650 : (Cond.fieldLink "LiarsAnswersModel" (7 : Nat) "LiarsAnswersModel" "waits" "I") ∈ gt := gt_of (List.mem_of_getElem? (i := 650) (by decide +kernel)) (by decide +kernel)
theorem g_RX12_7_11 : GF RX12 7 11 5 := ⟨RX12, TX12, 21, "LiarsAnswersModel", rfl, uw_11, by decide, wd_650, Or.inl rfl⟩
theorem p_RX12_7_11 : PF RX12 7 11 5 (tyX12 5) false := ⟨RX12, TX12, 21, "LiarsAnswersModel", tyX12, rfl, uw_11, by decide, wd_650, Or.inl rfl, tyX12_ok, nmX12, rfl, rfl, fun h => by cases h⟩
theorem wd_651 : (Cond.fieldLink "LiarsAnswersModel" (13 : Nat) "LiarsAnswersModel" "left" "[I") ∈ gt := gt_of (List.mem_of_getElem? (i := 651) (by decide +kernel)) (by decide +kernel)
theorem g_RX12_13_11 : GF RX12 13 11 6 := ⟨RX12, TX12, 21, "LiarsAnswersModel", rfl, uw_11, by decide, wd_651, Or.inl rfl⟩
theorem p_RX12_13_11 : PF RX12 13 11 6 (tyX12 6) true := ⟨RX12, TX12, 21, "LiarsAnswersModel", tyX12, rfl, uw_11, by decide, wd_651, Or.inl rfl, tyX12_ok, nmX12, rfl, rfl, fun _ => rfl⟩
theorem wd_652 : (Cond.fieldLink "LiarsAnswersModel" (17 : Nat) "LiarsAnswersModel" "before" "[I") ∈ gt := gt_of (List.mem_of_getElem? (i := 652) (by decide +kernel)) (by decide +kernel)
theorem g_RX12_17_11 : GF RX12 17 11 7 := ⟨RX12, TX12, 21, "LiarsAnswersModel", rfl, uw_11, by decide, wd_652, Or.inl rfl⟩
theorem p_RX12_17_11 : PF RX12 17 11 7 (tyX12 7) true := ⟨RX12, TX12, 21, "LiarsAnswersModel", tyX12, rfl, uw_11, by decide, wd_652, Or.inl rfl, tyX12_ok, nmX12, rfl, rfl, fun _ => rfl⟩
theorem wd_653 : (Cond.fieldLink "LiarsAnswersModel" (117 : Nat) "LiarsAnswersModel" "tookBack" "I") ∈ gt := gt_of (List.mem_of_getElem? (i := 653) (by decide +kernel)) (by decide +kernel)
theorem g_RX12_117_11 : GF RX12 117 11 8 := ⟨RX12, TX12, 21, "LiarsAnswersModel", rfl, uw_11, by decide, wd_653, Or.inl rfl⟩
theorem p_RX12_117_11 : PF RX12 117 11 8 (tyX12 8) false := ⟨RX12, TX12, 21, "LiarsAnswersModel", tyX12, rfl, uw_11, by decide, wd_653, Or.inl rfl, tyX12_ok, nmX12, rfl, rfl, fun h => by cases h⟩
theorem wd_654 : (Cond.fieldLink "LiarsAnswersModel" (146 : Nat) "LiarsAnswersModel" "questions" "I") ∈ gt := gt_of (List.mem_of_getElem? (i := 654) (by decide +kernel)) (by decide +kernel)
theorem g_RX12_146_11 : GF RX12 146 11 9 := ⟨RX12, TX12, 21, "LiarsAnswersModel", rfl, uw_11, by decide, wd_654, Or.inl rfl⟩
theorem p_RX12_146_11 : PF RX12 146 11 9 (tyX12 9) false := ⟨RX12, TX12, 21, "LiarsAnswersModel", tyX12, rfl, uw_11, by decide, wd_654, Or.inl rfl, tyX12_ok, nmX12, rfl, rfl, fun h => by cases h⟩
theorem wd_655 : (Cond.fieldLink "LiarsAnswersModel" (20 : Nat) "LiarsAnswersModel" "question" "[I") ∈ gt := gt_of (List.mem_of_getElem? (i := 655) (by decide +kernel)) (by decide +kernel)
theorem g_RX12_20_11 : GF RX12 20 11 10 := ⟨RX12, TX12, 21, "LiarsAnswersModel", rfl, uw_11, by decide, wd_655, Or.inl rfl⟩
theorem p_RX12_20_11 : PF RX12 20 11 10 (tyX12 10) true := ⟨RX12, TX12, 21, "LiarsAnswersModel", tyX12, rfl, uw_11, by decide, wd_655, Or.inl rfl, tyX12_ok, nmX12, rfl, rfl, fun _ => rfl⟩
theorem wd_656 : (Cond.fieldLink "LiarsAnswersModel" (57 : Nat) "LiarsAnswersModel" "trace" "J") ∈ gt := gt_of (List.mem_of_getElem? (i := 656) (by decide +kernel)) (by decide +kernel)
theorem g_RX12_57_11 : GF RX12 57 11 11 := ⟨RX12, TX12, 21, "LiarsAnswersModel", rfl, uw_11, by decide, wd_656, Or.inl rfl⟩
theorem p_RX12_57_11 : PF RX12 57 11 11 (tyX12 11) false := ⟨RX12, TX12, 21, "LiarsAnswersModel", tyX12, rfl, uw_11, by decide, wd_656, Or.inl rfl, tyX12_ok, nmX12, rfl, rfl, fun h => by cases h⟩
theorem wd_657 : (Cond.fieldLink "LiarsAnswersModel" (24 : Nat) "LiarsAnswersModel" "row" "[B") ∈ gt := gt_of (List.mem_of_getElem? (i := 657) (by decide +kernel)) (by decide +kernel)
theorem g_RX12_24_11 : GF RX12 24 11 12 := ⟨RX12, TX12, 21, "LiarsAnswersModel", rfl, uw_11, by decide, wd_657, Or.inl rfl⟩
theorem p_RX12_24_11 : PF RX12 24 11 12 (tyX12 12) true := ⟨RX12, TX12, 21, "LiarsAnswersModel", tyX12, rfl, uw_11, by decide, wd_657, Or.inl rfl, tyX12_ok, nmX12, rfl, rfl, fun _ => rfl⟩
theorem wd_658 : (Cond.fieldLink "LiarsAnswersModel" (28 : Nat) "LiarsAnswersModel" "spansKind" "I") ∈ gt := gt_of (List.mem_of_getElem? (i := 658) (by decide +kernel)) (by decide +kernel)
theorem g_RX12_28_11 : GF RX12 28 11 13 := ⟨RX12, TX12, 21, "LiarsAnswersModel", rfl, uw_11, by decide, wd_658, Or.inl rfl⟩
theorem p_RX12_28_11 : PF RX12 28 11 13 (tyX12 13) false := ⟨RX12, TX12, 21, "LiarsAnswersModel", tyX12, rfl, uw_11, by decide, wd_658, Or.inl rfl, tyX12_ok, nmX12, rfl, rfl, fun h => by cases h⟩
theorem wd_659 : (Cond.fieldLink "LiarsAnswersModel" (128 : Nat) "LiarsAnswersModel" "spansMany" "I") ∈ gt := gt_of (List.mem_of_getElem? (i := 659) (by decide +kernel)) (by decide +kernel)
theorem g_RX12_128_11 : GF RX12 128 11 14 := ⟨RX12, TX12, 21, "LiarsAnswersModel", rfl, uw_11, by decide, wd_659, Or.inl rfl⟩
theorem p_RX12_128_11 : PF RX12 128 11 14 (tyX12 14) false := ⟨RX12, TX12, 21, "LiarsAnswersModel", tyX12, rfl, uw_11, by decide, wd_659, Or.inl rfl, tyX12_ok, nmX12, rfl, rfl, fun h => by cases h⟩
theorem wd_660 : (Cond.fieldLink "LiarsAnswersModel" (31 : Nat) "LiarsAnswersModel" "spanFewest" "[I") ∈ gt := gt_of (List.mem_of_getElem? (i := 660) (by decide +kernel)) (by decide +kernel)
theorem g_RX12_31_11 : GF RX12 31 11 15 := ⟨RX12, TX12, 21, "LiarsAnswersModel", rfl, uw_11, by decide, wd_660, Or.inl rfl⟩
theorem p_RX12_31_11 : PF RX12 31 11 15 (tyX12 15) true := ⟨RX12, TX12, 21, "LiarsAnswersModel", tyX12, rfl, uw_11, by decide, wd_660, Or.inl rfl, tyX12_ok, nmX12, rfl, rfl, fun _ => rfl⟩
theorem wd_661 : (Cond.fieldLink "LiarsAnswersModel" (34 : Nat) "LiarsAnswersModel" "heap" "[I") ∈ gt := gt_of (List.mem_of_getElem? (i := 661) (by decide +kernel)) (by decide +kernel)
theorem g_RX12_34_11 : GF RX12 34 11 16 := ⟨RX12, TX12, 21, "LiarsAnswersModel", rfl, uw_11, by decide, wd_661, Or.inl rfl⟩
theorem p_RX12_34_11 : PF RX12 34 11 16 (tyX12 16) true := ⟨RX12, TX12, 21, "LiarsAnswersModel", tyX12, rfl, uw_11, by decide, wd_661, Or.inl rfl, tyX12_ok, nmX12, rfl, rfl, fun _ => rfl⟩
theorem wd_662 : (Cond.fieldLink "LiarsAnswersModel" (37 : Nat) "LiarsAnswersModel" "beside" "[I") ∈ gt := gt_of (List.mem_of_getElem? (i := 662) (by decide +kernel)) (by decide +kernel)
theorem g_RX12_37_11 : GF RX12 37 11 17 := ⟨RX12, TX12, 21, "LiarsAnswersModel", rfl, uw_11, by decide, wd_662, Or.inl rfl⟩
theorem p_RX12_37_11 : PF RX12 37 11 17 (tyX12 17) true := ⟨RX12, TX12, 21, "LiarsAnswersModel", tyX12, rfl, uw_11, by decide, wd_662, Or.inl rfl, tyX12_ok, nmX12, rfl, rfl, fun _ => rfl⟩
theorem wd_663 : (Cond.fieldLink "LiarsAnswersModel" (40 : Nat) "LiarsAnswersModel" "counts" "[I") ∈ gt := gt_of (List.mem_of_getElem? (i := 663) (by decide +kernel)) (by decide +kernel)
theorem g_RX12_40_11 : GF RX12 40 11 18 := ⟨RX12, TX12, 21, "LiarsAnswersModel", rfl, uw_11, by decide, wd_663, Or.inl rfl⟩
theorem p_RX12_40_11 : PF RX12 40 11 18 (tyX12 18) true := ⟨RX12, TX12, 21, "LiarsAnswersModel", tyX12, rfl, uw_11, by decide, wd_663, Or.inl rfl, tyX12_ok, nmX12, rfl, rfl, fun _ => rfl⟩
theorem wd_664 : (Cond.fieldLink "LiarsAnswersModel" (43 : Nat) "LiarsAnswersModel" "most" "[I") ∈ gt := gt_of (List.mem_of_getElem? (i := 664) (by decide +kernel)) (by decide +kernel)
theorem g_RX12_43_11 : GF RX12 43 11 19 := ⟨RX12, TX12, 21, "LiarsAnswersModel", rfl, uw_11, by decide, wd_664, Or.inl rfl⟩
theorem p_RX12_43_11 : PF RX12 43 11 19 (tyX12 19) true := ⟨RX12, TX12, 21, "LiarsAnswersModel", tyX12, rfl, uw_11, by decide, wd_664, Or.inl rfl, tyX12_ok, nmX12, rfl, rfl, fun _ => rfl⟩
theorem wd_665 : (Cond.fieldLink "LiarsAnswersModel" (46 : Nat) "LiarsAnswersModel" "then" "[I") ∈ gt := gt_of (List.mem_of_getElem? (i := 665) (by decide +kernel)) (by decide +kernel)
theorem g_RX12_46_11 : GF RX12 46 11 20 := ⟨RX12, TX12, 21, "LiarsAnswersModel", rfl, uw_11, by decide, wd_665, Or.inl rfl⟩
theorem p_RX12_46_11 : PF RX12 46 11 20 (tyX12 20) true := ⟨RX12, TX12, 21, "LiarsAnswersModel", tyX12, rfl, uw_11, by decide, wd_665, Or.inl rfl, tyX12_ok, nmX12, rfl, rfl, fun _ => rfl⟩
theorem wd_45 : (Cond.classLink "LiarsAnswersLaw" (7 : Nat) "LiarsAnswers") ∈ gt := gt_of (List.mem_of_getElem? (i := 45) (by decide +kernel)) (by decide +kernel)
theorem wd_46 : (Cond.instantiable "LiarsAnswers" (8 : Nat)) ∈ gt := gt_of (List.mem_of_getElem? (i := 46) (by decide +kernel)) (by decide +kernel)
theorem n_RL_7 : NW RL 7 10 [.null, .null, .null, .null, .null, .null, .null, .int 0] := ⟨RX11, TX11, tyX11, rfl, uw_10, tyX11_ok, wd_45, wd_46, wd_30, by decide +kernel⟩
theorem wd_53 : (Cond.classLink "LiarsAnswers" (9 : Nat) "LiarsAnswers$Liar") ∈ gt := gt_of (List.mem_of_getElem? (i := 53) (by decide +kernel)) (by decide +kernel)
theorem wd_55 : (Cond.instantiable "LiarsAnswers$Liar" (0 : Nat)) ∈ gt := gt_of (List.mem_of_getElem? (i := 55) (by decide +kernel)) (by decide +kernel)
theorem n_RX11_9 : NW RX11 9 6 [] := ⟨RX7, TX7, tyX7, rfl, uw_6, tyX7_ok, wd_53, wd_55, wd_31, by decide +kernel⟩
theorem wd_61 : (Cond.classLink "LiarsAnswers" (12 : Nat) "LiarsAnswers$BothLiar") ∈ gt := gt_of (List.mem_of_getElem? (i := 61) (by decide +kernel)) (by decide +kernel)
theorem wd_62 : (Cond.instantiable "LiarsAnswers$BothLiar" (0 : Nat)) ∈ gt := gt_of (List.mem_of_getElem? (i := 62) (by decide +kernel)) (by decide +kernel)
theorem n_RX11_12 : NW RX11 12 1 [] := ⟨RX1, TX1, tyX1, rfl, uw_1, tyX1_ok, wd_61, wd_62, wd_32, by decide +kernel⟩
theorem wd_68 : (Cond.classLink "LiarsAnswers" (15 : Nat) "LiarsAnswers$YesLiar") ∈ gt := gt_of (List.mem_of_getElem? (i := 68) (by decide +kernel)) (by decide +kernel)
theorem wd_69 : (Cond.instantiable "LiarsAnswers$YesLiar" (0 : Nat)) ∈ gt := gt_of (List.mem_of_getElem? (i := 69) (by decide +kernel)) (by decide +kernel)
theorem n_RX11_15 : NW RX11 15 9 [] := ⟨RX10, TX10, tyX10, rfl, uw_9, tyX10_ok, wd_68, wd_69, wd_33, by decide +kernel⟩
theorem wd_75 : (Cond.classLink "LiarsAnswers" (22 : Nat) "LiarsAnswers$Tally") ∈ gt := gt_of (List.mem_of_getElem? (i := 75) (by decide +kernel)) (by decide +kernel)
theorem wd_76 : (Cond.instantiable "LiarsAnswers$Tally" (1 : Nat)) ∈ gt := gt_of (List.mem_of_getElem? (i := 76) (by decide +kernel)) (by decide +kernel)
theorem n_RX11_22 : NW RX11 22 8 [.long 0] := ⟨RX9, TX9, tyX9, rfl, uw_8, tyX9_ok, wd_75, wd_76, wd_34, by decide +kernel⟩
theorem wd_89 : (Cond.classLink "LiarsAnswers" (32 : Nat) "LiarsAnswers$HeapTable") ∈ gt := gt_of (List.mem_of_getElem? (i := 89) (by decide +kernel)) (by decide +kernel)
theorem wd_282 : (Cond.instantiable "LiarsAnswers$HeapTable" (4 : Nat)) ∈ gt := gt_of (List.mem_of_getElem? (i := 282) (by decide +kernel)) (by decide +kernel)
theorem n_RX11_32 : NW RX11 32 4 [.null, .null, .null, .null] := ⟨RX4, TX4, tyX4, rfl, uw_4, tyX4_ok, wd_89, wd_282, wd_42, by decide +kernel⟩
theorem wd_91 : (Cond.classLink "LiarsAnswers" (38 : Nat) "LiarsAnswers$SpanTable") ∈ gt := gt_of (List.mem_of_getElem? (i := 91) (by decide +kernel)) (by decide +kernel)
theorem wd_469 : (Cond.instantiable "LiarsAnswers$SpanTable" (4 : Nat)) ∈ gt := gt_of (List.mem_of_getElem? (i := 469) (by decide +kernel)) (by decide +kernel)
theorem n_RX11_38 : NW RX11 38 7 [.int 0, .int 0, .null, .int 0] := ⟨RX8, TX8, tyX8, rfl, uw_7, tyX8_ok, wd_91, wd_469, wd_43, by decide +kernel⟩
theorem wd_93 : (Cond.classLink "LiarsAnswers" (44 : Nat) "LiarsAnswers$Game") ∈ gt := gt_of (List.mem_of_getElem? (i := 93) (by decide +kernel)) (by decide +kernel)
theorem wd_94 : (Cond.instantiable "LiarsAnswers$Game" (9 : Nat)) ∈ gt := gt_of (List.mem_of_getElem? (i := 94) (by decide +kernel)) (by decide +kernel)
theorem n_RX11_44 : NW RX11 44 3 [.int 0, .int 0, .int 0, .int 0, .int 0, .int 0, .int 0, .int 0, .null] := ⟨RX3, TX3, tyX3, rfl, uw_3, tyX3_ok, wd_93, wd_94, wd_35, by decide +kernel⟩
theorem wd_135 : (Cond.classLink "LiarsAnswers" (51 : Nat) "LiarsAnswers$Code") ∈ gt := gt_of (List.mem_of_getElem? (i := 135) (by decide +kernel)) (by decide +kernel)
theorem wd_136 : (Cond.instantiable "LiarsAnswers$Code" (3 : Nat)) ∈ gt := gt_of (List.mem_of_getElem? (i := 136) (by decide +kernel)) (by decide +kernel)
theorem n_RX11_51 : NW RX11 51 2 [.null, .null, .int 0] := ⟨RX2, TX2, tyX2, rfl, uw_2, tyX2_ok, wd_135, wd_136, wd_36, by decide +kernel⟩
theorem wd_227 : (Cond.classLink "LiarsAnswers" (218 : Nat) "LiarsAnswers$AnyHeap") ∈ gt := gt_of (List.mem_of_getElem? (i := 227) (by decide +kernel)) (by decide +kernel)
theorem wd_228 : (Cond.instantiable "LiarsAnswers$AnyHeap" (6 : Nat)) ∈ gt := gt_of (List.mem_of_getElem? (i := 228) (by decide +kernel)) (by decide +kernel)
theorem n_RX11_218 : NW RX11 218 0 [.null, .int 0, .int 0, .null, .null, .int 0] := ⟨RX0, TX0, tyX0, rfl, uw_0, tyX0_ok, wd_227, wd_228, wd_40, by decide +kernel⟩
theorem wd_263 : (Cond.classLink "LiarsAnswers" (223 : Nat) "LiarsAnswers$LeastHeap") ∈ gt := gt_of (List.mem_of_getElem? (i := 263) (by decide +kernel)) (by decide +kernel)
theorem wd_264 : (Cond.instantiable "LiarsAnswers$LeastHeap" (8 : Nat)) ∈ gt := gt_of (List.mem_of_getElem? (i := 264) (by decide +kernel)) (by decide +kernel)
theorem n_RX11_223 : NW RX11 223 5 [.null, .int 0, .int 0, .null, .null, .int 0, .null, .int 0] := ⟨RX6, TX6, tyX6, rfl, uw_5, tyX6_ok, wd_263, wd_264, wd_41, by decide +kernel⟩
theorem wd_638 : (Cond.classLink "LiarsAnswersLaw" (10 : Nat) "LiarsAnswersModel") ∈ gt := gt_of (List.mem_of_getElem? (i := 638) (by decide +kernel)) (by decide +kernel)
theorem wd_639 : (Cond.instantiable "LiarsAnswersModel" (21 : Nat)) ∈ gt := gt_of (List.mem_of_getElem? (i := 639) (by decide +kernel)) (by decide +kernel)
theorem n_RL_10 : NW RL 10 11 [.int 0, .int 0, .int 0, .int 0, .int 0, .int 0, .null, .null, .int 0, .int 0, .null, .long 0, .null, .int 0, .int 0, .null, .null, .null, .null, .null, .null] := ⟨RX12, TX12, tyX12, rfl, uw_11, tyX12_ok, wd_638, wd_639, wd_37, by decide +kernel⟩
theorem wd_47 : (Cond.methodLink "LiarsAnswersLaw" (9 : Nat) ({ cls := "LiarsAnswers", name := "<init>", desc := "()V" } : MethodName)) ∈ gt := gt_of (List.mem_of_getElem? (i := 47) (by decide +kernel)) (by decide +kernel)
theorem wd_48 : (Cond.instanceMethod ({ cls := "LiarsAnswers", name := "<init>", desc := "()V" } : MethodName)) ∈ gt := gt_of (List.mem_of_getElem? (i := 48) (by decide +kernel)) (by decide +kernel)
theorem c_RL_9 : Cond.methodLink RL 9 mX11_init.1 ∈ gt ∧ Cond.instanceMethod mX11_init.1 ∈ gt ∧ mX11_init.1.name = "<init>" ∧ mX11_init.2.2.2 = none := ⟨wd_47, wd_48, rfl, rfl⟩
theorem wd_50 : (Cond.methodLink "LiarsAnswers" (3 : Nat) ({ cls := "java/lang/Object", name := "<init>", desc := "()V" } : MethodName)) ∈ gt := gt_of (List.mem_of_getElem? (i := 50) (by decide +kernel)) (by decide +kernel)
theorem wn_56 : (Cond.methodLinkNest "LiarsAnswers" (11 : Nat) ({ cls := "LiarsAnswers$Liar", name := "<init>", desc := "()V" } : MethodName) "LiarsAnswers") ∈ lw_tbl := List.mem_of_getElem? (i := 56) (by decide +kernel)
theorem wd_57 : (Cond.instanceMethod ({ cls := "LiarsAnswers$Liar", name := "<init>", desc := "()V" } : MethodName)) ∈ gt := gt_of (List.mem_of_getElem? (i := 57) (by decide +kernel)) (by decide +kernel)
theorem c_RX11_11 : Cond.methodLinkNest RX11 11 mX7_init.1 "LiarsAnswers" ∈ lw_tbl ∧ Cond.instanceMethod mX7_init.1 ∈ gt ∧ mX7_init.1.name = "<init>" ∧ mX7_init.2.2.2 = none := ⟨wn_56, wd_57, rfl, rfl⟩
theorem wd_59 : (Cond.methodLink "LiarsAnswers$Liar" (3 : Nat) ({ cls := "java/lang/Object", name := "<init>", desc := "()V" } : MethodName)) ∈ gt := gt_of (List.mem_of_getElem? (i := 59) (by decide +kernel)) (by decide +kernel)
theorem wn_63 : (Cond.methodLinkNest "LiarsAnswers" (14 : Nat) ({ cls := "LiarsAnswers$BothLiar", name := "<init>", desc := "()V" } : MethodName) "LiarsAnswers") ∈ lw_tbl := List.mem_of_getElem? (i := 63) (by decide +kernel)
theorem wd_64 : (Cond.instanceMethod ({ cls := "LiarsAnswers$BothLiar", name := "<init>", desc := "()V" } : MethodName)) ∈ gt := gt_of (List.mem_of_getElem? (i := 64) (by decide +kernel)) (by decide +kernel)
theorem c_RX11_14 : Cond.methodLinkNest RX11 14 mX1_init.1 "LiarsAnswers" ∈ lw_tbl ∧ Cond.instanceMethod mX1_init.1 ∈ gt ∧ mX1_init.1.name = "<init>" ∧ mX1_init.2.2.2 = none := ⟨wn_63, wd_64, rfl, rfl⟩
theorem wn_66 : (Cond.methodLinkNest "LiarsAnswers$BothLiar" (3 : Nat) ({ cls := "LiarsAnswers$Liar", name := "<init>", desc := "()V" } : MethodName) "LiarsAnswers") ∈ lw_tbl := List.mem_of_getElem? (i := 66) (by decide +kernel)
theorem c_RX1_3 : Cond.methodLinkNest RX1 3 mX7_init.1 "LiarsAnswers" ∈ lw_tbl ∧ Cond.instanceMethod mX7_init.1 ∈ gt ∧ mX7_init.1.name = "<init>" ∧ mX7_init.2.2.2 = none := ⟨wn_66, wd_57, rfl, rfl⟩
theorem wn_70 : (Cond.methodLinkNest "LiarsAnswers" (17 : Nat) ({ cls := "LiarsAnswers$YesLiar", name := "<init>", desc := "()V" } : MethodName) "LiarsAnswers") ∈ lw_tbl := List.mem_of_getElem? (i := 70) (by decide +kernel)
theorem wd_71 : (Cond.instanceMethod ({ cls := "LiarsAnswers$YesLiar", name := "<init>", desc := "()V" } : MethodName)) ∈ gt := gt_of (List.mem_of_getElem? (i := 71) (by decide +kernel)) (by decide +kernel)
theorem c_RX11_17 : Cond.methodLinkNest RX11 17 mX10_init.1 "LiarsAnswers" ∈ lw_tbl ∧ Cond.instanceMethod mX10_init.1 ∈ gt ∧ mX10_init.1.name = "<init>" ∧ mX10_init.2.2.2 = none := ⟨wn_70, wd_71, rfl, rfl⟩
theorem wn_73 : (Cond.methodLinkNest "LiarsAnswers$YesLiar" (3 : Nat) ({ cls := "LiarsAnswers$BothLiar", name := "<init>", desc := "()V" } : MethodName) "LiarsAnswers") ∈ lw_tbl := List.mem_of_getElem? (i := 73) (by decide +kernel)
theorem c_RX10_3 : Cond.methodLinkNest RX10 3 mX1_init.1 "LiarsAnswers" ∈ lw_tbl ∧ Cond.instanceMethod mX1_init.1 ∈ gt ∧ mX1_init.1.name = "<init>" ∧ mX1_init.2.2.2 = none := ⟨wn_73, wd_64, rfl, rfl⟩
theorem wn_77 : (Cond.methodLinkNest "LiarsAnswers" (24 : Nat) ({ cls := "LiarsAnswers$Tally", name := "<init>", desc := "()V" } : MethodName) "LiarsAnswers") ∈ lw_tbl := List.mem_of_getElem? (i := 77) (by decide +kernel)
theorem wd_78 : (Cond.instanceMethod ({ cls := "LiarsAnswers$Tally", name := "<init>", desc := "()V" } : MethodName)) ∈ gt := gt_of (List.mem_of_getElem? (i := 78) (by decide +kernel)) (by decide +kernel)
theorem c_RX11_24 : Cond.methodLinkNest RX11 24 mX9_init.1 "LiarsAnswers" ∈ lw_tbl ∧ Cond.instanceMethod mX9_init.1 ∈ gt ∧ mX9_init.1.name = "<init>" ∧ mX9_init.2.2.2 = none := ⟨wn_77, wd_78, rfl, rfl⟩
theorem wd_80 : (Cond.methodLink "LiarsAnswers$Tally" (1 : Nat) ({ cls := "java/lang/Object", name := "<init>", desc := "()V" } : MethodName)) ∈ gt := gt_of (List.mem_of_getElem? (i := 80) (by decide +kernel)) (by decide +kernel)
theorem wn_95 : (Cond.methodLinkNest "LiarsAnswers" (46 : Nat) ({ cls := "LiarsAnswers$Game", name := "<init>", desc := "()V" } : MethodName) "LiarsAnswers") ∈ lw_tbl := List.mem_of_getElem? (i := 95) (by decide +kernel)
theorem wd_96 : (Cond.instanceMethod ({ cls := "LiarsAnswers$Game", name := "<init>", desc := "()V" } : MethodName)) ∈ gt := gt_of (List.mem_of_getElem? (i := 96) (by decide +kernel)) (by decide +kernel)
theorem c_RX11_46 : Cond.methodLinkNest RX11 46 mX3_init.1 "LiarsAnswers" ∈ lw_tbl ∧ Cond.instanceMethod mX3_init.1 ∈ gt ∧ mX3_init.1.name = "<init>" ∧ mX3_init.2.2.2 = none := ⟨wn_95, wd_96, rfl, rfl⟩
theorem wd_98 : (Cond.methodLink "LiarsAnswers$Game" (3 : Nat) ({ cls := "java/lang/Object", name := "<init>", desc := "()V" } : MethodName)) ∈ gt := gt_of (List.mem_of_getElem? (i := 98) (by decide +kernel)) (by decide +kernel)
theorem wn_137 : (Cond.methodLinkNest "LiarsAnswers" (53 : Nat) ({ cls := "LiarsAnswers$Code", name := "<init>", desc := "()V" } : MethodName) "LiarsAnswers") ∈ lw_tbl := List.mem_of_getElem? (i := 137) (by decide +kernel)
theorem wd_138 : (Cond.instanceMethod ({ cls := "LiarsAnswers$Code", name := "<init>", desc := "()V" } : MethodName)) ∈ gt := gt_of (List.mem_of_getElem? (i := 138) (by decide +kernel)) (by decide +kernel)
theorem c_RX11_53 : Cond.methodLinkNest RX11 53 mX2_init.1 "LiarsAnswers" ∈ lw_tbl ∧ Cond.instanceMethod mX2_init.1 ∈ gt ∧ mX2_init.1.name = "<init>" ∧ mX2_init.2.2.2 = none := ⟨wn_137, wd_138, rfl, rfl⟩
theorem wd_140 : (Cond.methodLink "LiarsAnswers$Code" (3 : Nat) ({ cls := "java/lang/Object", name := "<init>", desc := "()V" } : MethodName)) ∈ gt := gt_of (List.mem_of_getElem? (i := 140) (by decide +kernel)) (by decide +kernel)
theorem wd_177 : (Cond.methodLink "LiarsAnswersLaw" (13 : Nat) ({ cls := "LiarsAnswers", name := "begin", desc := "(III)I" } : MethodName)) ∈ gt := gt_of (List.mem_of_getElem? (i := 177) (by decide +kernel)) (by decide +kernel)
theorem wd_179 : (Cond.selects "LiarsAnswers" ({ cls := "LiarsAnswers", name := "begin", desc := "(III)I" } : MethodName) ({ cls := "LiarsAnswers", name := "begin", desc := "(III)I" } : MethodName)) ∈ gt := gt_of (List.mem_of_getElem? (i := 179) (by decide +kernel)) (by decide +kernel)
theorem wd_178 : (Cond.instanceMethod ({ cls := "LiarsAnswers", name := "begin", desc := "(III)I" } : MethodName)) ∈ gt := gt_of (List.mem_of_getElem? (i := 178) (by decide +kernel)) (by decide +kernel)
theorem c_RL_13_10 : KV RL 13 mX11_begin 10 := ⟨TX11, 8, rfl, wd_177, wd_178, wd_179⟩
theorem wd_181 : (Cond.methodLink "LiarsAnswers" (62 : Nat) ({ cls := "LiarsAnswers", name := "isKind", desc := "(I)Z" } : MethodName)) ∈ gt := gt_of (List.mem_of_getElem? (i := 181) (by decide +kernel)) (by decide +kernel)
theorem wd_182 : (Cond.static ({ cls := "LiarsAnswers", name := "isKind", desc := "(I)Z" } : MethodName)) ∈ gt := gt_of (List.mem_of_getElem? (i := 182) (by decide +kernel)) (by decide +kernel)
theorem c_RX11_62 : Cond.methodLink RX11 62 mX11_isKind.1 ∈ gt ∧ Cond.static mX11_isKind.1 ∈ gt := ⟨wd_181, wd_182⟩
theorem wd_184 : (Cond.methodLink "LiarsAnswers" (66 : Nat) ({ cls := "LiarsAnswers", name := "isCount", desc := "(I)Z" } : MethodName)) ∈ gt := gt_of (List.mem_of_getElem? (i := 184) (by decide +kernel)) (by decide +kernel)
theorem wd_185 : (Cond.static ({ cls := "LiarsAnswers", name := "isCount", desc := "(I)Z" } : MethodName)) ∈ gt := gt_of (List.mem_of_getElem? (i := 185) (by decide +kernel)) (by decide +kernel)
theorem c_RX11_66 : Cond.methodLink RX11 66 mX11_isCount.1 ∈ gt ∧ Cond.static mX11_isCount.1 ∈ gt := ⟨wd_184, wd_185⟩
theorem wd_187 : (Cond.methodLink "LiarsAnswers" (69 : Nat) ({ cls := "LiarsAnswers", name := "isLies", desc := "(I)Z" } : MethodName)) ∈ gt := gt_of (List.mem_of_getElem? (i := 187) (by decide +kernel)) (by decide +kernel)
theorem wd_188 : (Cond.static ({ cls := "LiarsAnswers", name := "isLies", desc := "(I)Z" } : MethodName)) ∈ gt := gt_of (List.mem_of_getElem? (i := 188) (by decide +kernel)) (by decide +kernel)
theorem c_RX11_69 : Cond.methodLink RX11 69 mX11_isLies.1 ∈ gt ∧ Cond.static mX11_isLies.1 ∈ gt := ⟨wd_187, wd_188⟩
theorem wd_190 : (Cond.methodLink "LiarsAnswers" (72 : Nat) ({ cls := "LiarsAnswers", name := "yesPrice", desc := "(I)I" } : MethodName)) ∈ gt := gt_of (List.mem_of_getElem? (i := 190) (by decide +kernel)) (by decide +kernel)
theorem wd_0 : (Cond.selects "LiarsAnswers" ({ cls := "LiarsAnswers", name := "yesPrice", desc := "(I)I" } : MethodName) ({ cls := "LiarsAnswers", name := "yesPrice", desc := "(I)I" } : MethodName)) ∈ gt := gt_of (List.mem_of_getElem? (i := 0) (by decide +kernel)) (by decide +kernel)
theorem wd_192 : (Cond.instanceMethod ({ cls := "LiarsAnswers", name := "yesPrice", desc := "(I)I" } : MethodName)) ∈ gt := gt_of (List.mem_of_getElem? (i := 192) (by decide +kernel)) (by decide +kernel)
theorem c_RX11_72_10 : KV RX11 72 mX11_yesPrice 10 := ⟨TX11, 8, rfl, wd_190, wd_192, wd_0⟩
theorem wd_194 : (Cond.methodLink "LiarsAnswers" (98 : Nat) ({ cls := "LiarsAnswers$Liar", name := "price", desc := "(ZZLLiarsAnswers$Tally;)I" } : MethodName)) ∈ gt := gt_of (List.mem_of_getElem? (i := 194) (by decide +kernel)) (by decide +kernel)
theorem wd_198 : (Cond.selects "LiarsAnswers$BothLiar" ({ cls := "LiarsAnswers$Liar", name := "price", desc := "(ZZLLiarsAnswers$Tally;)I" } : MethodName) ({ cls := "LiarsAnswers$BothLiar", name := "price", desc := "(ZZLLiarsAnswers$Tally;)I" } : MethodName)) ∈ gt := gt_of (List.mem_of_getElem? (i := 198) (by decide +kernel)) (by decide +kernel)
theorem wd_195 : (Cond.instanceMethod ({ cls := "LiarsAnswers$Liar", name := "price", desc := "(ZZLLiarsAnswers$Tally;)I" } : MethodName)) ∈ gt := gt_of (List.mem_of_getElem? (i := 195) (by decide +kernel)) (by decide +kernel)
theorem wd_197 : (Cond.sameMethod "LiarsAnswers$Liar" "LiarsAnswers$Liar" "price" "(ZZLLiarsAnswers$Tally;)I") ∈ gt := gt_of (List.mem_of_getElem? (i := 197) (by decide +kernel)) (by decide +kernel)
theorem wd_199 : (Cond.instanceMethod ({ cls := "LiarsAnswers$BothLiar", name := "price", desc := "(ZZLLiarsAnswers$Tally;)I" } : MethodName)) ∈ gt := gt_of (List.mem_of_getElem? (i := 199) (by decide +kernel)) (by decide +kernel)
theorem c_RX11_98_1 : KU RX11 98 ⟨"LiarsAnswers$Liar", "price", "(ZZLLiarsAnswers$Tally;)I"⟩ "LiarsAnswers$Liar" mX1_price 1 3 := ⟨RX1, TX1, 0, rfl, wd_194, wd_197, fun _ _ h => h _ wd_198, wd_199, by decide +kernel, by decide +kernel, Or.inr ⟨wd_195, _, _, _, wd_208⟩⟩
theorem wd_196 : (Cond.selects "LiarsAnswers$Liar" ({ cls := "LiarsAnswers$Liar", name := "price", desc := "(ZZLLiarsAnswers$Tally;)I" } : MethodName) ({ cls := "LiarsAnswers$Liar", name := "price", desc := "(ZZLLiarsAnswers$Tally;)I" } : MethodName)) ∈ gt := gt_of (List.mem_of_getElem? (i := 196) (by decide +kernel)) (by decide +kernel)
theorem c_RX11_98_6 : KV RX11 98 mX7_price 6 := ⟨TX7, 0, rfl, wd_194, wd_195, wd_196⟩
theorem wd_203 : (Cond.selects "LiarsAnswers$YesLiar" ({ cls := "LiarsAnswers$Liar", name := "price", desc := "(ZZLLiarsAnswers$Tally;)I" } : MethodName) ({ cls := "LiarsAnswers$YesLiar", name := "price", desc := "(ZZLLiarsAnswers$Tally;)I" } : MethodName)) ∈ gt := gt_of (List.mem_of_getElem? (i := 203) (by decide +kernel)) (by decide +kernel)
theorem wd_204 : (Cond.instanceMethod ({ cls := "LiarsAnswers$YesLiar", name := "price", desc := "(ZZLLiarsAnswers$Tally;)I" } : MethodName)) ∈ gt := gt_of (List.mem_of_getElem? (i := 204) (by decide +kernel)) (by decide +kernel)
theorem c_RX11_98_9 : KU RX11 98 ⟨"LiarsAnswers$Liar", "price", "(ZZLLiarsAnswers$Tally;)I"⟩ "LiarsAnswers$Liar" mX10_price 9 3 := ⟨RX10, TX10, 0, rfl, wd_194, wd_197, fun _ _ h => h _ wd_203, wd_204, by decide +kernel, by decide +kernel, Or.inr ⟨wd_195, _, _, _, wd_208⟩⟩
theorem wd_202 : (Cond.methodLink "LiarsAnswers$BothLiar" (17 : Nat) ({ cls := "LiarsAnswers$Liar", name := "price", desc := "(ZZLLiarsAnswers$Tally;)I" } : MethodName)) ∈ gt := gt_of (List.mem_of_getElem? (i := 202) (by decide +kernel)) (by decide +kernel)
theorem c_RX1_17_1 : KU RX1 17 ⟨"LiarsAnswers$Liar", "price", "(ZZLLiarsAnswers$Tally;)I"⟩ "LiarsAnswers$Liar" mX1_price 1 3 := ⟨RX1, TX1, 0, rfl, wd_202, wd_197, fun _ _ h => h _ wd_198, wd_199, by decide +kernel, by decide +kernel, Or.inr ⟨wd_195, _, _, _, wd_208⟩⟩
theorem c_RX1_17_6 : KV RX1 17 mX7_price 6 := ⟨TX7, 0, rfl, wd_202, wd_195, wd_196⟩
theorem c_RX1_17_9 : KU RX1 17 ⟨"LiarsAnswers$Liar", "price", "(ZZLLiarsAnswers$Tally;)I"⟩ "LiarsAnswers$Liar" mX10_price 9 3 := ⟨RX10, TX10, 0, rfl, wd_202, wd_197, fun _ _ h => h _ wd_203, wd_204, by decide +kernel, by decide +kernel, Or.inr ⟨wd_195, _, _, _, wd_208⟩⟩
theorem wd_67 : (Cond.superclass "LiarsAnswers$BothLiar" "LiarsAnswers$Liar") ∈ gt := gt_of (List.mem_of_getElem? (i := 67) (by decide +kernel)) (by decide +kernel)
theorem c_RX1_17_s : KP RX1 17 mX7_price 3 := ⟨List.forall_mem_cons.mpr ⟨wd_202, List.forall_mem_cons.mpr ⟨wd_197, List.forall_mem_cons.mpr ⟨wd_67, List.forall_mem_cons.mpr ⟨wd_195, List.forall_mem_cons.mpr ⟨wd_31, fun _ h => absurd h List.not_mem_nil⟩⟩⟩⟩⟩, by decide +kernel, by decide +kernel⟩
theorem wd_207 : (Cond.methodLink "LiarsAnswers$YesLiar" (17 : Nat) ({ cls := "LiarsAnswers$BothLiar", name := "price", desc := "(ZZLLiarsAnswers$Tally;)I" } : MethodName)) ∈ gt := gt_of (List.mem_of_getElem? (i := 207) (by decide +kernel)) (by decide +kernel)
theorem wd_880 : (Cond.sameMethod "LiarsAnswers$BothLiar" "LiarsAnswers$BothLiar" "price" "(ZZLLiarsAnswers$Tally;)I") ∈ gt := gt_of (List.mem_of_getElem? (i := 880) (by decide +kernel)) (by decide +kernel)
theorem wd_74 : (Cond.superclass "LiarsAnswers$YesLiar" "LiarsAnswers$BothLiar") ∈ gt := gt_of (List.mem_of_getElem? (i := 74) (by decide +kernel)) (by decide +kernel)
theorem c_RX10_17_s : KP RX10 17 mX1_price 3 := ⟨List.forall_mem_cons.mpr ⟨wd_207, List.forall_mem_cons.mpr ⟨wd_880, List.forall_mem_cons.mpr ⟨wd_74, List.forall_mem_cons.mpr ⟨wd_199, List.forall_mem_cons.mpr ⟨wd_32, fun _ h => absurd h List.not_mem_nil⟩⟩⟩⟩⟩, by decide +kernel, by decide +kernel⟩
theorem wd_209 : (Cond.methodLink "LiarsAnswers" (76 : Nat) ({ cls := "LiarsAnswers", name := "noPrice", desc := "(I)I" } : MethodName)) ∈ gt := gt_of (List.mem_of_getElem? (i := 209) (by decide +kernel)) (by decide +kernel)
theorem wd_1 : (Cond.selects "LiarsAnswers" ({ cls := "LiarsAnswers", name := "noPrice", desc := "(I)I" } : MethodName) ({ cls := "LiarsAnswers", name := "noPrice", desc := "(I)I" } : MethodName)) ∈ gt := gt_of (List.mem_of_getElem? (i := 1) (by decide +kernel)) (by decide +kernel)
theorem wd_211 : (Cond.instanceMethod ({ cls := "LiarsAnswers", name := "noPrice", desc := "(I)I" } : MethodName)) ∈ gt := gt_of (List.mem_of_getElem? (i := 211) (by decide +kernel)) (by decide +kernel)
theorem c_RX11_76_10 : KV RX11 76 mX11_noPrice 10 := ⟨TX11, 8, rfl, wd_209, wd_211, wd_1⟩
theorem wd_213 : (Cond.methodLink "LiarsAnswers" (79 : Nat) ({ cls := "LiarsAnswers$Game", name := "start", desc := "(IIIII)V" } : MethodName)) ∈ gt := gt_of (List.mem_of_getElem? (i := 213) (by decide +kernel)) (by decide +kernel)
theorem wd_215 : (Cond.selects "LiarsAnswers$Game" ({ cls := "LiarsAnswers$Game", name := "start", desc := "(IIIII)V" } : MethodName) ({ cls := "LiarsAnswers$Game", name := "start", desc := "(IIIII)V" } : MethodName)) ∈ gt := gt_of (List.mem_of_getElem? (i := 215) (by decide +kernel)) (by decide +kernel)
theorem wd_214 : (Cond.instanceMethod ({ cls := "LiarsAnswers$Game", name := "start", desc := "(IIIII)V" } : MethodName)) ∈ gt := gt_of (List.mem_of_getElem? (i := 214) (by decide +kernel)) (by decide +kernel)
theorem c_RX11_79_3 : KV RX11 79 mX3_start 3 := ⟨TX3, 9, rfl, wd_213, wd_214, wd_215⟩
theorem wd_217 : (Cond.methodLink "LiarsAnswers$Game" (41 : Nat) ({ cls := "java/lang/Math", name := "min", desc := "(II)I" } : MethodName)) ∈ gt := gt_of (List.mem_of_getElem? (i := 217) (by decide +kernel)) (by decide +kernel)
theorem wd_220 : (Cond.methodLink "LiarsAnswers$Game" (47 : Nat) ({ cls := "java/lang/Math", name := "max", desc := "(II)I" } : MethodName)) ∈ gt := gt_of (List.mem_of_getElem? (i := 220) (by decide +kernel)) (by decide +kernel)
theorem wd_223 : (Cond.methodLink "LiarsAnswers" (83 : Nat) ({ cls := "LiarsAnswers", name := "heapTable", desc := "(I)LLiarsAnswers$HeapTable;" } : MethodName)) ∈ gt := gt_of (List.mem_of_getElem? (i := 223) (by decide +kernel)) (by decide +kernel)
theorem wd_2 : (Cond.selects "LiarsAnswers" ({ cls := "LiarsAnswers", name := "heapTable", desc := "(I)LLiarsAnswers$HeapTable;" } : MethodName) ({ cls := "LiarsAnswers", name := "heapTable", desc := "(I)LLiarsAnswers$HeapTable;" } : MethodName)) ∈ gt := gt_of (List.mem_of_getElem? (i := 2) (by decide +kernel)) (by decide +kernel)
theorem wd_225 : (Cond.instanceMethod ({ cls := "LiarsAnswers", name := "heapTable", desc := "(I)LLiarsAnswers$HeapTable;" } : MethodName)) ∈ gt := gt_of (List.mem_of_getElem? (i := 225) (by decide +kernel)) (by decide +kernel)
theorem c_RX11_83_10 : KV RX11 83 mX11_heapTable 10 := ⟨TX11, 8, rfl, wd_223, wd_225, wd_2⟩
theorem wd_229 : (Cond.methodLink "LiarsAnswers" (220 : Nat) ({ cls := "LiarsAnswers$AnyHeap", name := "<init>", desc := "([III)V" } : MethodName)) ∈ gt := gt_of (List.mem_of_getElem? (i := 229) (by decide +kernel)) (by decide +kernel)
theorem wd_230 : (Cond.instanceMethod ({ cls := "LiarsAnswers$AnyHeap", name := "<init>", desc := "([III)V" } : MethodName)) ∈ gt := gt_of (List.mem_of_getElem? (i := 230) (by decide +kernel)) (by decide +kernel)
theorem c_RX11_220 : Cond.methodLink RX11 220 mX0_init.1 ∈ gt ∧ Cond.instanceMethod mX0_init.1 ∈ gt ∧ mX0_init.1.name = "<init>" ∧ mX0_init.2.2.2 = none := ⟨wd_229, wd_230, rfl, rfl⟩
theorem wd_232 : (Cond.methodLink "LiarsAnswers$AnyHeap" (1 : Nat) ({ cls := "LiarsAnswers$HeapWalk", name := "<init>", desc := "([III)V" } : MethodName)) ∈ gt := gt_of (List.mem_of_getElem? (i := 232) (by decide +kernel)) (by decide +kernel)
theorem wd_233 : (Cond.instanceMethod ({ cls := "LiarsAnswers$HeapWalk", name := "<init>", desc := "([III)V" } : MethodName)) ∈ gt := gt_of (List.mem_of_getElem? (i := 233) (by decide +kernel)) (by decide +kernel)
theorem c_RX0_1 : Cond.methodLink RX0 1 mX5_init.1 ∈ gt ∧ Cond.instanceMethod mX5_init.1 ∈ gt ∧ mX5_init.1.name = "<init>" ∧ mX5_init.2.2.2 = none := ⟨wd_232, wd_233, rfl, rfl⟩
theorem wd_235 : (Cond.methodLink "LiarsAnswers$HeapWalk" (3 : Nat) ({ cls := "java/lang/Object", name := "<init>", desc := "()V" } : MethodName)) ∈ gt := gt_of (List.mem_of_getElem? (i := 235) (by decide +kernel)) (by decide +kernel)
theorem wd_236 : (Cond.methodLink "LiarsAnswers$HeapWalk" (25 : Nat) ({ cls := "java/lang/Math", name := "min", desc := "(II)I" } : MethodName)) ∈ gt := gt_of (List.mem_of_getElem? (i := 236) (by decide +kernel)) (by decide +kernel)
theorem wd_237 : (Cond.methodLink "LiarsAnswers$HeapWalk" (31 : Nat) ({ cls := "java/lang/Math", name := "max", desc := "(II)I" } : MethodName)) ∈ gt := gt_of (List.mem_of_getElem? (i := 237) (by decide +kernel)) (by decide +kernel)
theorem wd_265 : (Cond.methodLink "LiarsAnswers" (225 : Nat) ({ cls := "LiarsAnswers$LeastHeap", name := "<init>", desc := "([III)V" } : MethodName)) ∈ gt := gt_of (List.mem_of_getElem? (i := 265) (by decide +kernel)) (by decide +kernel)
theorem wd_266 : (Cond.instanceMethod ({ cls := "LiarsAnswers$LeastHeap", name := "<init>", desc := "([III)V" } : MethodName)) ∈ gt := gt_of (List.mem_of_getElem? (i := 266) (by decide +kernel)) (by decide +kernel)
theorem c_RX11_225 : Cond.methodLink RX11 225 mX6_init.1 ∈ gt ∧ Cond.instanceMethod mX6_init.1 ∈ gt ∧ mX6_init.1.name = "<init>" ∧ mX6_init.2.2.2 = none := ⟨wd_265, wd_266, rfl, rfl⟩
theorem wd_268 : (Cond.methodLink "LiarsAnswers$LeastHeap" (3 : Nat) ({ cls := "LiarsAnswers$HeapWalk", name := "<init>", desc := "([III)V" } : MethodName)) ∈ gt := gt_of (List.mem_of_getElem? (i := 268) (by decide +kernel)) (by decide +kernel)
theorem c_RX6_3 : Cond.methodLink RX6 3 mX5_init.1 ∈ gt ∧ Cond.instanceMethod mX5_init.1 ∈ gt ∧ mX5_init.1.name = "<init>" ∧ mX5_init.2.2.2 = none := ⟨wd_268, wd_233, rfl, rfl⟩
theorem wd_283 : (Cond.methodLink "LiarsAnswers" (226 : Nat) ({ cls := "LiarsAnswers$HeapTable", name := "<init>", desc := "([ILLiarsAnswers$AnyHeap;LLiarsAnswers$LeastHeap;)V" } : MethodName)) ∈ gt := gt_of (List.mem_of_getElem? (i := 283) (by decide +kernel)) (by decide +kernel)
theorem wd_284 : (Cond.instanceMethod ({ cls := "LiarsAnswers$HeapTable", name := "<init>", desc := "([ILLiarsAnswers$AnyHeap;LLiarsAnswers$LeastHeap;)V" } : MethodName)) ∈ gt := gt_of (List.mem_of_getElem? (i := 284) (by decide +kernel)) (by decide +kernel)
theorem c_RX11_226 : Cond.methodLink RX11 226 mX4_init.1 ∈ gt ∧ Cond.instanceMethod mX4_init.1 ∈ gt ∧ mX4_init.1.name = "<init>" ∧ mX4_init.2.2.2 = none := ⟨wd_283, wd_284, rfl, rfl⟩
theorem wd_286 : (Cond.methodLink "LiarsAnswers$HeapTable" (3 : Nat) ({ cls := "java/lang/Object", name := "<init>", desc := "()V" } : MethodName)) ∈ gt := gt_of (List.mem_of_getElem? (i := 286) (by decide +kernel)) (by decide +kernel)
theorem wd_300 : (Cond.methodLink "LiarsAnswers" (87 : Nat) ({ cls := "LiarsAnswers$HeapTable", name := "learn", desc := "(II)V" } : MethodName)) ∈ gt := gt_of (List.mem_of_getElem? (i := 300) (by decide +kernel)) (by decide +kernel)
theorem wd_302 : (Cond.selects "LiarsAnswers$HeapTable" ({ cls := "LiarsAnswers$HeapTable", name := "learn", desc := "(II)V" } : MethodName) ({ cls := "LiarsAnswers$HeapTable", name := "learn", desc := "(II)V" } : MethodName)) ∈ gt := gt_of (List.mem_of_getElem? (i := 302) (by decide +kernel)) (by decide +kernel)
theorem wd_301 : (Cond.instanceMethod ({ cls := "LiarsAnswers$HeapTable", name := "learn", desc := "(II)V" } : MethodName)) ∈ gt := gt_of (List.mem_of_getElem? (i := 301) (by decide +kernel)) (by decide +kernel)
theorem c_RX11_87_4 : KV RX11 87 mX4_learn 4 := ⟨TX4, 4, rfl, wd_300, wd_301, wd_302⟩
theorem wd_304 : (Cond.methodLink "LiarsAnswers$HeapTable" (26 : Nat) ({ cls := "java/lang/Math", name := "max", desc := "(II)I" } : MethodName)) ∈ gt := gt_of (List.mem_of_getElem? (i := 304) (by decide +kernel)) (by decide +kernel)
theorem wd_305 : (Cond.methodLink "LiarsAnswers$HeapTable" (32 : Nat) ({ cls := "LiarsAnswers$HeapTable", name := "learnOne", desc := "(IIII)V" } : MethodName)) ∈ gt := gt_of (List.mem_of_getElem? (i := 305) (by decide +kernel)) (by decide +kernel)
theorem wd_3 : (Cond.selects "LiarsAnswers$HeapTable" ({ cls := "LiarsAnswers$HeapTable", name := "learnOne", desc := "(IIII)V" } : MethodName) ({ cls := "LiarsAnswers$HeapTable", name := "learnOne", desc := "(IIII)V" } : MethodName)) ∈ gt := gt_of (List.mem_of_getElem? (i := 3) (by decide +kernel)) (by decide +kernel)
theorem wd_307 : (Cond.instanceMethod ({ cls := "LiarsAnswers$HeapTable", name := "learnOne", desc := "(IIII)V" } : MethodName)) ∈ gt := gt_of (List.mem_of_getElem? (i := 307) (by decide +kernel)) (by decide +kernel)
theorem c_RX4_32_4 : KV RX4 32 mX4_learnOne 4 := ⟨TX4, 4, rfl, wd_305, wd_307, wd_3⟩
theorem wn_309 : (Cond.methodLinkNest "LiarsAnswers$HeapTable" (36 : Nat) ({ cls := "LiarsAnswers", name := "placeOf", desc := "(II)I" } : MethodName) "LiarsAnswers") ∈ lw_tbl := List.mem_of_getElem? (i := 309) (by decide +kernel)
theorem wd_310 : (Cond.static ({ cls := "LiarsAnswers", name := "placeOf", desc := "(II)I" } : MethodName)) ∈ gt := gt_of (List.mem_of_getElem? (i := 310) (by decide +kernel)) (by decide +kernel)
theorem c_RX4_36 : Cond.methodLinkNest RX4 36 mX11_placeOf.1 "LiarsAnswers" ∈ lw_tbl ∧ Cond.static mX11_placeOf.1 ∈ gt := ⟨wn_309, wd_310⟩
theorem wd_314 : (Cond.methodLink "LiarsAnswers$HeapTable" (39 : Nat) ({ cls := "LiarsAnswers$HeapTable", name := "fewAt", desc := "(I)I" } : MethodName)) ∈ gt := gt_of (List.mem_of_getElem? (i := 314) (by decide +kernel)) (by decide +kernel)
theorem wd_4 : (Cond.selects "LiarsAnswers$HeapTable" ({ cls := "LiarsAnswers$HeapTable", name := "fewAt", desc := "(I)I" } : MethodName) ({ cls := "LiarsAnswers$HeapTable", name := "fewAt", desc := "(I)I" } : MethodName)) ∈ gt := gt_of (List.mem_of_getElem? (i := 4) (by decide +kernel)) (by decide +kernel)
theorem wd_316 : (Cond.instanceMethod ({ cls := "LiarsAnswers$HeapTable", name := "fewAt", desc := "(I)I" } : MethodName)) ∈ gt := gt_of (List.mem_of_getElem? (i := 316) (by decide +kernel)) (by decide +kernel)
theorem c_RX4_39_4 : KV RX4 39 mX4_fewAt 4 := ⟨TX4, 4, rfl, wd_314, wd_316, wd_4⟩
theorem wd_318 : (Cond.methodLink "LiarsAnswers$HeapTable" (43 : Nat) ({ cls := "LiarsAnswers$HeapTable", name := "stepTo", desc := "(II)I" } : MethodName)) ∈ gt := gt_of (List.mem_of_getElem? (i := 318) (by decide +kernel)) (by decide +kernel)
theorem wd_319 : (Cond.static ({ cls := "LiarsAnswers$HeapTable", name := "stepTo", desc := "(II)I" } : MethodName)) ∈ gt := gt_of (List.mem_of_getElem? (i := 319) (by decide +kernel)) (by decide +kernel)
theorem c_RX4_43 : Cond.methodLink RX4 43 mX4_stepTo.1 ∈ gt ∧ Cond.static mX4_stepTo.1 ∈ gt := ⟨wd_318, wd_319⟩
theorem wd_321 : (Cond.methodLink "LiarsAnswers$HeapTable" (46 : Nat) ({ cls := "LiarsAnswers$AnyHeap", name := "hold", desc := "(IIII)V" } : MethodName)) ∈ gt := gt_of (List.mem_of_getElem? (i := 321) (by decide +kernel)) (by decide +kernel)
theorem wd_323 : (Cond.selects "LiarsAnswers$AnyHeap" ({ cls := "LiarsAnswers$AnyHeap", name := "hold", desc := "(IIII)V" } : MethodName) ({ cls := "LiarsAnswers$AnyHeap", name := "hold", desc := "(IIII)V" } : MethodName)) ∈ gt := gt_of (List.mem_of_getElem? (i := 323) (by decide +kernel)) (by decide +kernel)
theorem wd_322 : (Cond.instanceMethod ({ cls := "LiarsAnswers$AnyHeap", name := "hold", desc := "(IIII)V" } : MethodName)) ∈ gt := gt_of (List.mem_of_getElem? (i := 322) (by decide +kernel)) (by decide +kernel)
theorem c_RX4_46_0 : KV RX4 46 mX0_hold 0 := ⟨TX0, 6, rfl, wd_321, wd_322, wd_323⟩
theorem wd_325 : (Cond.methodLink "LiarsAnswers$HeapTable" (51 : Nat) ({ cls := "LiarsAnswers$AnyHeap", name := "walk", desc := "(I)Z" } : MethodName)) ∈ gt := gt_of (List.mem_of_getElem? (i := 325) (by decide +kernel)) (by decide +kernel)
theorem wd_328 : (Cond.selects "LiarsAnswers$AnyHeap" ({ cls := "LiarsAnswers$AnyHeap", name := "walk", desc := "(I)Z" } : MethodName) ({ cls := "LiarsAnswers$HeapWalk", name := "walk", desc := "(I)Z" } : MethodName)) ∈ gt := gt_of (List.mem_of_getElem? (i := 328) (by decide +kernel)) (by decide +kernel)
theorem wn_327 : (Cond.declares ({ cls := "LiarsAnswers$HeapWalk", name := "walk", desc := "(I)Z" } : MethodName)) ∈ lw_tbl := List.mem_of_getElem? (i := 327) (by decide +kernel)
theorem wd_326 : (Cond.sameMethod "LiarsAnswers$AnyHeap" "LiarsAnswers$HeapWalk" "walk" "(I)Z") ∈ gt := gt_of (List.mem_of_getElem? (i := 326) (by decide +kernel)) (by decide +kernel)
theorem wd_329 : (Cond.instanceMethod ({ cls := "LiarsAnswers$HeapWalk", name := "walk", desc := "(I)Z" } : MethodName)) ∈ gt := gt_of (List.mem_of_getElem? (i := 329) (by decide +kernel)) (by decide +kernel)
theorem c_RX4_51_0 : KU RX4 51 ⟨"LiarsAnswers$AnyHeap", "walk", "(I)Z"⟩ "LiarsAnswers$HeapWalk" mX5_walk 0 1 := ⟨RX0, TX0, 6, rfl, wd_325, wd_326, fun _ _ h => h _ wd_328, wd_329, by decide +kernel, by decide +kernel, Or.inl wn_327⟩
theorem wd_331 : (Cond.methodLink "LiarsAnswers$HeapWalk" (40 : Nat) ({ cls := "LiarsAnswers$HeapWalk", name := "down", desc := "(III)Z" } : MethodName)) ∈ gt := gt_of (List.mem_of_getElem? (i := 331) (by decide +kernel)) (by decide +kernel)
theorem wd_333 : (Cond.instanceMethod ({ cls := "LiarsAnswers$HeapWalk", name := "down", desc := "(III)Z" } : MethodName)) ∈ gt := gt_of (List.mem_of_getElem? (i := 333) (by decide +kernel)) (by decide +kernel)
theorem wd_881 : (Cond.sameMethod "LiarsAnswers$HeapWalk" "LiarsAnswers$HeapWalk" "down" "(III)Z") ∈ gt := gt_of (List.mem_of_getElem? (i := 881) (by decide +kernel)) (by decide +kernel)
theorem c_RX5_40_0 : KU RX5 40 ⟨"LiarsAnswers$HeapWalk", "down", "(III)Z"⟩ "LiarsAnswers$HeapWalk" mX5_down 0 3 := ⟨RX0, TX0, 6, rfl, wd_331, wd_881, fun _ _ h => h _ gtx_0, wd_333, by decide +kernel, by decide +kernel, Or.inr ⟨wd_333, _, _, _, wd_334⟩⟩
theorem c_RX5_40_5 : KU RX5 40 ⟨"LiarsAnswers$HeapWalk", "down", "(III)Z"⟩ "LiarsAnswers$HeapWalk" mX5_down 5 3 := ⟨RX6, TX6, 8, rfl, wd_331, wd_881, fun _ _ h => h _ gtx_5, wd_333, by decide +kernel, by decide +kernel, Or.inr ⟨wd_333, _, _, _, wd_334⟩⟩
theorem wd_335 : (Cond.methodLink "LiarsAnswers$HeapWalk" (44 : Nat) ({ cls := "LiarsAnswers$HeapWalk", name := "last", desc := "(III)Z" } : MethodName)) ∈ gt := gt_of (List.mem_of_getElem? (i := 335) (by decide +kernel)) (by decide +kernel)
theorem wd_338 : (Cond.selects "LiarsAnswers$AnyHeap" ({ cls := "LiarsAnswers$HeapWalk", name := "last", desc := "(III)Z" } : MethodName) ({ cls := "LiarsAnswers$AnyHeap", name := "last", desc := "(III)Z" } : MethodName)) ∈ gt := gt_of (List.mem_of_getElem? (i := 338) (by decide +kernel)) (by decide +kernel)
theorem wn_336 : (Cond.declares ({ cls := "LiarsAnswers$HeapWalk", name := "last", desc := "(III)Z" } : MethodName)) ∈ lw_tbl := List.mem_of_getElem? (i := 336) (by decide +kernel)
theorem wd_337 : (Cond.sameMethod "LiarsAnswers$HeapWalk" "LiarsAnswers$HeapWalk" "last" "(III)Z") ∈ gt := gt_of (List.mem_of_getElem? (i := 337) (by decide +kernel)) (by decide +kernel)
theorem wd_339 : (Cond.instanceMethod ({ cls := "LiarsAnswers$AnyHeap", name := "last", desc := "(III)Z" } : MethodName)) ∈ gt := gt_of (List.mem_of_getElem? (i := 339) (by decide +kernel)) (by decide +kernel)
theorem c_RX5_44_0 : KU RX5 44 ⟨"LiarsAnswers$HeapWalk", "last", "(III)Z"⟩ "LiarsAnswers$HeapWalk" mX0_last 0 3 := ⟨RX0, TX0, 6, rfl, wd_335, wd_337, fun _ _ h => h _ wd_338, wd_339, by decide +kernel, by decide +kernel, Or.inl wn_336⟩
theorem wd_347 : (Cond.selects "LiarsAnswers$LeastHeap" ({ cls := "LiarsAnswers$HeapWalk", name := "last", desc := "(III)Z" } : MethodName) ({ cls := "LiarsAnswers$LeastHeap", name := "last", desc := "(III)Z" } : MethodName)) ∈ gt := gt_of (List.mem_of_getElem? (i := 347) (by decide +kernel)) (by decide +kernel)
theorem wd_348 : (Cond.instanceMethod ({ cls := "LiarsAnswers$LeastHeap", name := "last", desc := "(III)Z" } : MethodName)) ∈ gt := gt_of (List.mem_of_getElem? (i := 348) (by decide +kernel)) (by decide +kernel)
theorem c_RX5_44_5 : KU RX5 44 ⟨"LiarsAnswers$HeapWalk", "last", "(III)Z"⟩ "LiarsAnswers$HeapWalk" mX6_last 5 3 := ⟨RX6, TX6, 8, rfl, wd_335, wd_337, fun _ _ h => h _ wd_347, wd_348, by decide +kernel, by decide +kernel, Or.inl wn_336⟩
theorem wd_341 : (Cond.methodLink "LiarsAnswers$AnyHeap" (13 : Nat) ({ cls := "LiarsAnswers$AnyHeap", name := "isBeyond", desc := "(I)Z" } : MethodName)) ∈ gt := gt_of (List.mem_of_getElem? (i := 341) (by decide +kernel)) (by decide +kernel)
theorem wd_344 : (Cond.selects "LiarsAnswers$AnyHeap" ({ cls := "LiarsAnswers$AnyHeap", name := "isBeyond", desc := "(I)Z" } : MethodName) ({ cls := "LiarsAnswers$HeapWalk", name := "isBeyond", desc := "(I)Z" } : MethodName)) ∈ gt := gt_of (List.mem_of_getElem? (i := 344) (by decide +kernel)) (by decide +kernel)
theorem wn_343 : (Cond.declares ({ cls := "LiarsAnswers$HeapWalk", name := "isBeyond", desc := "(I)Z" } : MethodName)) ∈ lw_tbl := List.mem_of_getElem? (i := 343) (by decide +kernel)
theorem wd_342 : (Cond.sameMethod "LiarsAnswers$AnyHeap" "LiarsAnswers$HeapWalk" "isBeyond" "(I)Z") ∈ gt := gt_of (List.mem_of_getElem? (i := 342) (by decide +kernel)) (by decide +kernel)
theorem wd_345 : (Cond.instanceMethod ({ cls := "LiarsAnswers$HeapWalk", name := "isBeyond", desc := "(I)Z" } : MethodName)) ∈ gt := gt_of (List.mem_of_getElem? (i := 345) (by decide +kernel)) (by decide +kernel)
theorem c_RX0_13_0 : KU RX0 13 ⟨"LiarsAnswers$AnyHeap", "isBeyond", "(I)Z"⟩ "LiarsAnswers$HeapWalk" mX5_isBeyond 0 1 := ⟨RX0, TX0, 6, rfl, wd_341, wd_342, fun _ _ h => h _ wd_344, wd_345, by decide +kernel, by decide +kernel, Or.inl wn_343⟩
theorem wd_350 : (Cond.methodLink "LiarsAnswers$LeastHeap" (35 : Nat) ({ cls := "LiarsAnswers$LeastHeap", name := "isBeyond", desc := "(I)Z" } : MethodName)) ∈ gt := gt_of (List.mem_of_getElem? (i := 350) (by decide +kernel)) (by decide +kernel)
theorem wd_352 : (Cond.selects "LiarsAnswers$LeastHeap" ({ cls := "LiarsAnswers$LeastHeap", name := "isBeyond", desc := "(I)Z" } : MethodName) ({ cls := "LiarsAnswers$HeapWalk", name := "isBeyond", desc := "(I)Z" } : MethodName)) ∈ gt := gt_of (List.mem_of_getElem? (i := 352) (by decide +kernel)) (by decide +kernel)
theorem wd_351 : (Cond.sameMethod "LiarsAnswers$LeastHeap" "LiarsAnswers$HeapWalk" "isBeyond" "(I)Z") ∈ gt := gt_of (List.mem_of_getElem? (i := 351) (by decide +kernel)) (by decide +kernel)
theorem c_RX6_35_5 : KU RX6 35 ⟨"LiarsAnswers$LeastHeap", "isBeyond", "(I)Z"⟩ "LiarsAnswers$HeapWalk" mX5_isBeyond 5 1 := ⟨RX6, TX6, 8, rfl, wd_350, wd_351, fun _ _ h => h _ wd_352, wd_345, by decide +kernel, by decide +kernel, Or.inl wn_343⟩
theorem wd_353 : (Cond.methodLink "LiarsAnswers$LeastHeap" (41 : Nat) ({ cls := "LiarsAnswers$LeastHeap", name := "lowestTaken", desc := "()I" } : MethodName)) ∈ gt := gt_of (List.mem_of_getElem? (i := 353) (by decide +kernel)) (by decide +kernel)
theorem wd_5 : (Cond.selects "LiarsAnswers$LeastHeap" ({ cls := "LiarsAnswers$LeastHeap", name := "lowestTaken", desc := "()I" } : MethodName) ({ cls := "LiarsAnswers$LeastHeap", name := "lowestTaken", desc := "()I" } : MethodName)) ∈ gt := gt_of (List.mem_of_getElem? (i := 5) (by decide +kernel)) (by decide +kernel)
theorem wd_355 : (Cond.instanceMethod ({ cls := "LiarsAnswers$LeastHeap", name := "lowestTaken", desc := "()I" } : MethodName)) ∈ gt := gt_of (List.mem_of_getElem? (i := 355) (by decide +kernel)) (by decide +kernel)
theorem c_RX6_41_5 : KV RX6 41 mX6_lowestTaken 5 := ⟨TX6, 8, rfl, wd_353, wd_355, wd_5⟩
theorem wd_357 : (Cond.methodLink "LiarsAnswers$LeastHeap" (45 : Nat) ({ cls := "java/lang/Math", name := "min", desc := "(II)I" } : MethodName)) ∈ gt := gt_of (List.mem_of_getElem? (i := 357) (by decide +kernel)) (by decide +kernel)
theorem wd_358 : (Cond.methodLink "LiarsAnswers$HeapWalk" (47 : Nat) ({ cls := "LiarsAnswers$HeapWalk", name := "outward", desc := "(II)I" } : MethodName)) ∈ gt := gt_of (List.mem_of_getElem? (i := 358) (by decide +kernel)) (by decide +kernel)
theorem wd_359 : (Cond.static ({ cls := "LiarsAnswers$HeapWalk", name := "outward", desc := "(II)I" } : MethodName)) ∈ gt := gt_of (List.mem_of_getElem? (i := 359) (by decide +kernel)) (by decide +kernel)
theorem c_RX5_47 : Cond.methodLink RX5 47 mX5_outward.1 ∈ gt ∧ Cond.static mX5_outward.1 ∈ gt := ⟨wd_358, wd_359⟩
theorem wn_361 : (Cond.methodLinkNest "LiarsAnswers$HeapWalk" (50 : Nat) ({ cls := "LiarsAnswers", name := "placeOf", desc := "(II)I" } : MethodName) "LiarsAnswers") ∈ lw_tbl := List.mem_of_getElem? (i := 361) (by decide +kernel)
theorem c_RX5_50 : Cond.methodLinkNest RX5 50 mX11_placeOf.1 "LiarsAnswers" ∈ lw_tbl ∧ Cond.static mX11_placeOf.1 ∈ gt := ⟨wn_361, wd_310⟩
theorem wd_362 : (Cond.methodLink "LiarsAnswers" (91 : Nat) ({ cls := "LiarsAnswers", name := "fewestNow", desc := "()I" } : MethodName)) ∈ gt := gt_of (List.mem_of_getElem? (i := 362) (by decide +kernel)) (by decide +kernel)
theorem wd_6 : (Cond.selects "LiarsAnswers" ({ cls := "LiarsAnswers", name := "fewestNow", desc := "()I" } : MethodName) ({ cls := "LiarsAnswers", name := "fewestNow", desc := "()I" } : MethodName)) ∈ gt := gt_of (List.mem_of_getElem? (i := 6) (by decide +kernel)) (by decide +kernel)
theorem wd_364 : (Cond.instanceMethod ({ cls := "LiarsAnswers", name := "fewestNow", desc := "()I" } : MethodName)) ∈ gt := gt_of (List.mem_of_getElem? (i := 364) (by decide +kernel)) (by decide +kernel)
theorem c_RX11_91_10 : KV RX11 91 mX11_fewestNow 10 := ⟨TX11, 8, rfl, wd_362, wd_364, wd_6⟩
theorem wd_366 : (Cond.methodLink "LiarsAnswers" (170 : Nat) ({ cls := "LiarsAnswers$Game", name := "row", desc := "()I" } : MethodName)) ∈ gt := gt_of (List.mem_of_getElem? (i := 366) (by decide +kernel)) (by decide +kernel)
theorem wd_368 : (Cond.selects "LiarsAnswers$Game" ({ cls := "LiarsAnswers$Game", name := "row", desc := "()I" } : MethodName) ({ cls := "LiarsAnswers$Game", name := "row", desc := "()I" } : MethodName)) ∈ gt := gt_of (List.mem_of_getElem? (i := 368) (by decide +kernel)) (by decide +kernel)
theorem wd_367 : (Cond.instanceMethod ({ cls := "LiarsAnswers$Game", name := "row", desc := "()I" } : MethodName)) ∈ gt := gt_of (List.mem_of_getElem? (i := 367) (by decide +kernel)) (by decide +kernel)
theorem c_RX11_170_3 : KV RX11 170 mX3_row 3 := ⟨TX3, 9, rfl, wd_366, wd_367, wd_368⟩
theorem wd_370 : (Cond.methodLink "LiarsAnswers" (231 : Nat) ({ cls := "LiarsAnswers$HeapTable", name := "fewestOf", desc := "([III)I" } : MethodName)) ∈ gt := gt_of (List.mem_of_getElem? (i := 370) (by decide +kernel)) (by decide +kernel)
theorem wd_372 : (Cond.selects "LiarsAnswers$HeapTable" ({ cls := "LiarsAnswers$HeapTable", name := "fewestOf", desc := "([III)I" } : MethodName) ({ cls := "LiarsAnswers$HeapTable", name := "fewestOf", desc := "([III)I" } : MethodName)) ∈ gt := gt_of (List.mem_of_getElem? (i := 372) (by decide +kernel)) (by decide +kernel)
theorem wd_371 : (Cond.instanceMethod ({ cls := "LiarsAnswers$HeapTable", name := "fewestOf", desc := "([III)I" } : MethodName)) ∈ gt := gt_of (List.mem_of_getElem? (i := 371) (by decide +kernel)) (by decide +kernel)
theorem c_RX11_231_4 : KV RX11 231 mX4_fewestOf 4 := ⟨TX4, 4, rfl, wd_370, wd_371, wd_372⟩
theorem wn_374 : (Cond.methodLinkNest "LiarsAnswers$HeapTable" (55 : Nat) ({ cls := "LiarsAnswers", name := "leftAt", desc := "([II)I" } : MethodName) "LiarsAnswers") ∈ lw_tbl := List.mem_of_getElem? (i := 374) (by decide +kernel)
theorem wd_375 : (Cond.static ({ cls := "LiarsAnswers", name := "leftAt", desc := "([II)I" } : MethodName)) ∈ gt := gt_of (List.mem_of_getElem? (i := 375) (by decide +kernel)) (by decide +kernel)
theorem c_RX4_55 : Cond.methodLinkNest RX4 55 mX11_leftAt.1 "LiarsAnswers" ∈ lw_tbl ∧ Cond.static mX11_leftAt.1 ∈ gt := ⟨wn_374, wd_375⟩
theorem wd_377 : (Cond.methodLink "LiarsAnswers" (95 : Nat) ({ cls := "LiarsAnswers", name := "toldOrNone", desc := "(I)I" } : MethodName)) ∈ gt := gt_of (List.mem_of_getElem? (i := 377) (by decide +kernel)) (by decide +kernel)
theorem wd_378 : (Cond.static ({ cls := "LiarsAnswers", name := "toldOrNone", desc := "(I)I" } : MethodName)) ∈ gt := gt_of (List.mem_of_getElem? (i := 378) (by decide +kernel)) (by decide +kernel)
theorem c_RX11_95 : Cond.methodLink RX11 95 mX11_toldOrNone.1 ∈ gt ∧ Cond.static mX11_toldOrNone.1 ∈ gt := ⟨wd_377, wd_378⟩
theorem wd_380 : (Cond.methodLink "LiarsAnswersLaw" (18 : Nat) ({ cls := "LiarsAnswers", name := "cost", desc := "(IZZ)I" } : MethodName)) ∈ gt := gt_of (List.mem_of_getElem? (i := 380) (by decide +kernel)) (by decide +kernel)
theorem wd_382 : (Cond.selects "LiarsAnswers" ({ cls := "LiarsAnswers", name := "cost", desc := "(IZZ)I" } : MethodName) ({ cls := "LiarsAnswers", name := "cost", desc := "(IZZ)I" } : MethodName)) ∈ gt := gt_of (List.mem_of_getElem? (i := 382) (by decide +kernel)) (by decide +kernel)
theorem wd_381 : (Cond.instanceMethod ({ cls := "LiarsAnswers", name := "cost", desc := "(IZZ)I" } : MethodName)) ∈ gt := gt_of (List.mem_of_getElem? (i := 381) (by decide +kernel)) (by decide +kernel)
theorem c_RL_18_10 : KV RL 18 mX11_cost 10 := ⟨TX11, 8, rfl, wd_380, wd_381, wd_382⟩
theorem wd_384 : (Cond.methodLink "LiarsAnswersLaw" (23 : Nat) ({ cls := "LiarsAnswers", name := "ask", desc := "(I)I" } : MethodName)) ∈ gt := gt_of (List.mem_of_getElem? (i := 384) (by decide +kernel)) (by decide +kernel)
theorem wd_386 : (Cond.selects "LiarsAnswers" ({ cls := "LiarsAnswers", name := "ask", desc := "(I)I" } : MethodName) ({ cls := "LiarsAnswers", name := "ask", desc := "(I)I" } : MethodName)) ∈ gt := gt_of (List.mem_of_getElem? (i := 386) (by decide +kernel)) (by decide +kernel)
theorem wd_385 : (Cond.instanceMethod ({ cls := "LiarsAnswers", name := "ask", desc := "(I)I" } : MethodName)) ∈ gt := gt_of (List.mem_of_getElem? (i := 385) (by decide +kernel)) (by decide +kernel)
theorem c_RL_23_10 : KV RL 23 mX11_ask 10 := ⟨TX11, 8, rfl, wd_384, wd_385, wd_386⟩
theorem wd_388 : (Cond.methodLink "LiarsAnswers" (102 : Nat) ({ cls := "LiarsAnswers", name := "isHeap", desc := "(I)Z" } : MethodName)) ∈ gt := gt_of (List.mem_of_getElem? (i := 388) (by decide +kernel)) (by decide +kernel)
theorem wd_389 : (Cond.static ({ cls := "LiarsAnswers", name := "isHeap", desc := "(I)Z" } : MethodName)) ∈ gt := gt_of (List.mem_of_getElem? (i := 389) (by decide +kernel)) (by decide +kernel)
theorem c_RX11_102 : Cond.methodLink RX11 102 mX11_isHeap.1 ∈ gt ∧ Cond.static mX11_isHeap.1 ∈ gt := ⟨wd_388, wd_389⟩
theorem wd_392 : (Cond.methodLink "LiarsAnswers" (109 : Nat) ({ cls := "LiarsAnswers$Game", name := "within", desc := "(I)I" } : MethodName)) ∈ gt := gt_of (List.mem_of_getElem? (i := 392) (by decide +kernel)) (by decide +kernel)
theorem wd_394 : (Cond.selects "LiarsAnswers$Game" ({ cls := "LiarsAnswers$Game", name := "within", desc := "(I)I" } : MethodName) ({ cls := "LiarsAnswers$Game", name := "within", desc := "(I)I" } : MethodName)) ∈ gt := gt_of (List.mem_of_getElem? (i := 394) (by decide +kernel)) (by decide +kernel)
theorem wd_393 : (Cond.instanceMethod ({ cls := "LiarsAnswers$Game", name := "within", desc := "(I)I" } : MethodName)) ∈ gt := gt_of (List.mem_of_getElem? (i := 393) (by decide +kernel)) (by decide +kernel)
theorem c_RX11_109_3 : KV RX11 109 mX3_within 3 := ⟨TX3, 9, rfl, wd_392, wd_393, wd_394⟩
theorem wd_396 : (Cond.methodLink "LiarsAnswers" (112 : Nat) ({ cls := "LiarsAnswers$Game", name := "waitFor", desc := "(I)V" } : MethodName)) ∈ gt := gt_of (List.mem_of_getElem? (i := 396) (by decide +kernel)) (by decide +kernel)
theorem wd_398 : (Cond.selects "LiarsAnswers$Game" ({ cls := "LiarsAnswers$Game", name := "waitFor", desc := "(I)V" } : MethodName) ({ cls := "LiarsAnswers$Game", name := "waitFor", desc := "(I)V" } : MethodName)) ∈ gt := gt_of (List.mem_of_getElem? (i := 398) (by decide +kernel)) (by decide +kernel)
theorem wd_397 : (Cond.instanceMethod ({ cls := "LiarsAnswers$Game", name := "waitFor", desc := "(I)V" } : MethodName)) ∈ gt := gt_of (List.mem_of_getElem? (i := 397) (by decide +kernel)) (by decide +kernel)
theorem c_RX11_112_3 : KV RX11 112 mX3_waitFor 3 := ⟨TX3, 9, rfl, wd_396, wd_397, wd_398⟩
theorem wd_400 : (Cond.methodLink "LiarsAnswers" (116 : Nat) ({ cls := "LiarsAnswers$Game", name := "standingIn", desc := "(I)I" } : MethodName)) ∈ gt := gt_of (List.mem_of_getElem? (i := 400) (by decide +kernel)) (by decide +kernel)
theorem wd_402 : (Cond.selects "LiarsAnswers$Game" ({ cls := "LiarsAnswers$Game", name := "standingIn", desc := "(I)I" } : MethodName) ({ cls := "LiarsAnswers$Game", name := "standingIn", desc := "(I)I" } : MethodName)) ∈ gt := gt_of (List.mem_of_getElem? (i := 402) (by decide +kernel)) (by decide +kernel)
theorem wd_401 : (Cond.instanceMethod ({ cls := "LiarsAnswers$Game", name := "standingIn", desc := "(I)I" } : MethodName)) ∈ gt := gt_of (List.mem_of_getElem? (i := 401) (by decide +kernel)) (by decide +kernel)
theorem c_RX11_116_3 : KV RX11 116 mX3_standingIn 3 := ⟨TX3, 9, rfl, wd_400, wd_401, wd_402⟩
theorem wd_404 : (Cond.methodLink "LiarsAnswers$Game" (54 : Nat) ({ cls := "LiarsAnswers$Game", name := "leftOf", desc := "(I)I" } : MethodName)) ∈ gt := gt_of (List.mem_of_getElem? (i := 404) (by decide +kernel)) (by decide +kernel)
theorem wd_406 : (Cond.selects "LiarsAnswers$Game" ({ cls := "LiarsAnswers$Game", name := "leftOf", desc := "(I)I" } : MethodName) ({ cls := "LiarsAnswers$Game", name := "leftOf", desc := "(I)I" } : MethodName)) ∈ gt := gt_of (List.mem_of_getElem? (i := 406) (by decide +kernel)) (by decide +kernel)
theorem wd_405 : (Cond.instanceMethod ({ cls := "LiarsAnswers$Game", name := "leftOf", desc := "(I)I" } : MethodName)) ∈ gt := gt_of (List.mem_of_getElem? (i := 405) (by decide +kernel)) (by decide +kernel)
theorem c_RX3_54_3 : KV RX3 54 mX3_leftOf 3 := ⟨TX3, 9, rfl, wd_404, wd_405, wd_406⟩
theorem wd_408 : (Cond.methodLink "LiarsAnswers$Game" (50 : Nat) ({ cls := "LiarsAnswers$Game", name := "row", desc := "()I" } : MethodName)) ∈ gt := gt_of (List.mem_of_getElem? (i := 408) (by decide +kernel)) (by decide +kernel)
theorem c_RX3_50_3 : KV RX3 50 mX3_row 3 := ⟨TX3, 9, rfl, wd_408, wd_367, wd_368⟩
theorem wd_409 : (Cond.methodLink "LiarsAnswersLaw" (28 : Nat) ({ cls := "LiarsAnswers", name := "answer", desc := "(Z)I" } : MethodName)) ∈ gt := gt_of (List.mem_of_getElem? (i := 409) (by decide +kernel)) (by decide +kernel)
theorem wd_411 : (Cond.selects "LiarsAnswers" ({ cls := "LiarsAnswers", name := "answer", desc := "(Z)I" } : MethodName) ({ cls := "LiarsAnswers", name := "answer", desc := "(Z)I" } : MethodName)) ∈ gt := gt_of (List.mem_of_getElem? (i := 411) (by decide +kernel)) (by decide +kernel)
theorem wd_410 : (Cond.instanceMethod ({ cls := "LiarsAnswers", name := "answer", desc := "(Z)I" } : MethodName)) ∈ gt := gt_of (List.mem_of_getElem? (i := 410) (by decide +kernel)) (by decide +kernel)
theorem c_RL_28_10 : KV RL 28 mX11_answer 10 := ⟨TX11, 8, rfl, wd_409, wd_410, wd_411⟩
theorem wd_413 : (Cond.methodLink "LiarsAnswers" (122 : Nat) ({ cls := "LiarsAnswers$Game", name := "reply", desc := "(IZ)I" } : MethodName)) ∈ gt := gt_of (List.mem_of_getElem? (i := 413) (by decide +kernel)) (by decide +kernel)
theorem wd_415 : (Cond.selects "LiarsAnswers$Game" ({ cls := "LiarsAnswers$Game", name := "reply", desc := "(IZ)I" } : MethodName) ({ cls := "LiarsAnswers$Game", name := "reply", desc := "(IZ)I" } : MethodName)) ∈ gt := gt_of (List.mem_of_getElem? (i := 415) (by decide +kernel)) (by decide +kernel)
theorem wd_414 : (Cond.instanceMethod ({ cls := "LiarsAnswers$Game", name := "reply", desc := "(IZ)I" } : MethodName)) ∈ gt := gt_of (List.mem_of_getElem? (i := 414) (by decide +kernel)) (by decide +kernel)
theorem c_RX11_122_3 : KV RX11 122 mX3_reply 3 := ⟨TX3, 9, rfl, wd_413, wd_414, wd_415⟩
theorem wd_417 : (Cond.methodLink "LiarsAnswers$Game" (58 : Nat) ({ cls := "LiarsAnswers$Game", name := "layBehind", desc := "(IZ)I" } : MethodName)) ∈ gt := gt_of (List.mem_of_getElem? (i := 417) (by decide +kernel)) (by decide +kernel)
theorem wd_419 : (Cond.selects "LiarsAnswers$Game" ({ cls := "LiarsAnswers$Game", name := "layBehind", desc := "(IZ)I" } : MethodName) ({ cls := "LiarsAnswers$Game", name := "layBehind", desc := "(IZ)I" } : MethodName)) ∈ gt := gt_of (List.mem_of_getElem? (i := 419) (by decide +kernel)) (by decide +kernel)
theorem wd_418 : (Cond.instanceMethod ({ cls := "LiarsAnswers$Game", name := "layBehind", desc := "(IZ)I" } : MethodName)) ∈ gt := gt_of (List.mem_of_getElem? (i := 418) (by decide +kernel)) (by decide +kernel)
theorem c_RX3_58_3 : KV RX3 58 mX3_layBehind 3 := ⟨TX3, 9, rfl, wd_417, wd_418, wd_419⟩
theorem wd_421 : (Cond.methodLink "LiarsAnswers$Game" (62 : Nat) ({ cls := "LiarsAnswers$Game", name := "rowBehind", desc := "()I" } : MethodName)) ∈ gt := gt_of (List.mem_of_getElem? (i := 421) (by decide +kernel)) (by decide +kernel)
theorem wd_423 : (Cond.selects "LiarsAnswers$Game" ({ cls := "LiarsAnswers$Game", name := "rowBehind", desc := "()I" } : MethodName) ({ cls := "LiarsAnswers$Game", name := "rowBehind", desc := "()I" } : MethodName)) ∈ gt := gt_of (List.mem_of_getElem? (i := 423) (by decide +kernel)) (by decide +kernel)
theorem wd_422 : (Cond.instanceMethod ({ cls := "LiarsAnswers$Game", name := "rowBehind", desc := "()I" } : MethodName)) ∈ gt := gt_of (List.mem_of_getElem? (i := 422) (by decide +kernel)) (by decide +kernel)
theorem c_RX3_62_3 : KV RX3 62 mX3_rowBehind 3 := ⟨TX3, 9, rfl, wd_421, wd_422, wd_423⟩
theorem wd_425 : (Cond.methodLink "LiarsAnswers$Game" (65 : Nat) ({ cls := "LiarsAnswers$Game", name := "priceFor", desc := "(ZZ)I" } : MethodName)) ∈ gt := gt_of (List.mem_of_getElem? (i := 425) (by decide +kernel)) (by decide +kernel)
theorem wd_7 : (Cond.selects "LiarsAnswers$Game" ({ cls := "LiarsAnswers$Game", name := "priceFor", desc := "(ZZ)I" } : MethodName) ({ cls := "LiarsAnswers$Game", name := "priceFor", desc := "(ZZ)I" } : MethodName)) ∈ gt := gt_of (List.mem_of_getElem? (i := 7) (by decide +kernel)) (by decide +kernel)
theorem wd_427 : (Cond.instanceMethod ({ cls := "LiarsAnswers$Game", name := "priceFor", desc := "(ZZ)I" } : MethodName)) ∈ gt := gt_of (List.mem_of_getElem? (i := 427) (by decide +kernel)) (by decide +kernel)
theorem c_RX3_65_3 : KV RX3 65 mX3_priceFor 3 := ⟨TX3, 9, rfl, wd_425, wd_427, wd_7⟩
theorem wd_429 : (Cond.methodLink "LiarsAnswersLaw" (33 : Nat) ({ cls := "LiarsAnswers", name := "back", desc := "()I" } : MethodName)) ∈ gt := gt_of (List.mem_of_getElem? (i := 429) (by decide +kernel)) (by decide +kernel)
theorem wd_431 : (Cond.selects "LiarsAnswers" ({ cls := "LiarsAnswers", name := "back", desc := "()I" } : MethodName) ({ cls := "LiarsAnswers", name := "back", desc := "()I" } : MethodName)) ∈ gt := gt_of (List.mem_of_getElem? (i := 431) (by decide +kernel)) (by decide +kernel)
theorem wd_430 : (Cond.instanceMethod ({ cls := "LiarsAnswers", name := "back", desc := "()I" } : MethodName)) ∈ gt := gt_of (List.mem_of_getElem? (i := 430) (by decide +kernel)) (by decide +kernel)
theorem c_RL_33_10 : KV RL 33 mX11_back 10 := ⟨TX11, 8, rfl, wd_429, wd_430, wd_431⟩
theorem wd_433 : (Cond.methodLink "LiarsAnswers" (129 : Nat) ({ cls := "LiarsAnswers$Game", name := "forgetLatest", desc := "()V" } : MethodName)) ∈ gt := gt_of (List.mem_of_getElem? (i := 433) (by decide +kernel)) (by decide +kernel)
theorem wd_435 : (Cond.selects "LiarsAnswers$Game" ({ cls := "LiarsAnswers$Game", name := "forgetLatest", desc := "()V" } : MethodName) ({ cls := "LiarsAnswers$Game", name := "forgetLatest", desc := "()V" } : MethodName)) ∈ gt := gt_of (List.mem_of_getElem? (i := 435) (by decide +kernel)) (by decide +kernel)
theorem wd_434 : (Cond.instanceMethod ({ cls := "LiarsAnswers$Game", name := "forgetLatest", desc := "()V" } : MethodName)) ∈ gt := gt_of (List.mem_of_getElem? (i := 434) (by decide +kernel)) (by decide +kernel)
theorem c_RX11_129_3 : KV RX11 129 mX3_forgetLatest 3 := ⟨TX3, 9, rfl, wd_433, wd_434, wd_435⟩
theorem wd_437 : (Cond.methodLink "LiarsAnswersLaw" (38 : Nat) ({ cls := "LiarsAnswers", name := "left", desc := "(I)I" } : MethodName)) ∈ gt := gt_of (List.mem_of_getElem? (i := 437) (by decide +kernel)) (by decide +kernel)
theorem wd_439 : (Cond.selects "LiarsAnswers" ({ cls := "LiarsAnswers", name := "left", desc := "(I)I" } : MethodName) ({ cls := "LiarsAnswers", name := "left", desc := "(I)I" } : MethodName)) ∈ gt := gt_of (List.mem_of_getElem? (i := 439) (by decide +kernel)) (by decide +kernel)
theorem wd_438 : (Cond.instanceMethod ({ cls := "LiarsAnswers", name := "left", desc := "(I)I" } : MethodName)) ∈ gt := gt_of (List.mem_of_getElem? (i := 438) (by decide +kernel)) (by decide +kernel)
theorem c_RL_38_10 : KV RL 38 mX11_left 10 := ⟨TX11, 8, rfl, wd_437, wd_438, wd_439⟩
theorem wd_441 : (Cond.methodLink "LiarsAnswers" (132 : Nat) ({ cls := "LiarsAnswers", name := "isNumber", desc := "(I)Z" } : MethodName)) ∈ gt := gt_of (List.mem_of_getElem? (i := 441) (by decide +kernel)) (by decide +kernel)
theorem wd_442 : (Cond.static ({ cls := "LiarsAnswers", name := "isNumber", desc := "(I)Z" } : MethodName)) ∈ gt := gt_of (List.mem_of_getElem? (i := 442) (by decide +kernel)) (by decide +kernel)
theorem c_RX11_132 : Cond.methodLink RX11 132 mX11_isNumber.1 ∈ gt ∧ Cond.static mX11_isNumber.1 ∈ gt := ⟨wd_441, wd_442⟩
theorem wd_444 : (Cond.methodLink "LiarsAnswers" (138 : Nat) ({ cls := "LiarsAnswers$Game", name := "leftOf", desc := "(I)I" } : MethodName)) ∈ gt := gt_of (List.mem_of_getElem? (i := 444) (by decide +kernel)) (by decide +kernel)
theorem c_RX11_138_3 : KV RX11 138 mX3_leftOf 3 := ⟨TX3, 9, rfl, wd_444, wd_405, wd_406⟩
theorem wd_445 : (Cond.methodLink "LiarsAnswersLaw" (42 : Nat) ({ cls := "LiarsAnswers", name := "state", desc := "(I)I" } : MethodName)) ∈ gt := gt_of (List.mem_of_getElem? (i := 445) (by decide +kernel)) (by decide +kernel)
theorem wd_447 : (Cond.selects "LiarsAnswers" ({ cls := "LiarsAnswers", name := "state", desc := "(I)I" } : MethodName) ({ cls := "LiarsAnswers", name := "state", desc := "(I)I" } : MethodName)) ∈ gt := gt_of (List.mem_of_getElem? (i := 447) (by decide +kernel)) (by decide +kernel)
theorem wd_446 : (Cond.instanceMethod ({ cls := "LiarsAnswers", name := "state", desc := "(I)I" } : MethodName)) ∈ gt := gt_of (List.mem_of_getElem? (i := 446) (by decide +kernel)) (by decide +kernel)
theorem c_RL_42_10 : KV RL 42 mX11_state 10 := ⟨TX11, 8, rfl, wd_445, wd_446, wd_447⟩
theorem wd_449 : (Cond.methodLink "LiarsAnswers" (141 : Nat) ({ cls := "LiarsAnswers$Game", name := "countOf", desc := "(I)I" } : MethodName)) ∈ gt := gt_of (List.mem_of_getElem? (i := 449) (by decide +kernel)) (by decide +kernel)
theorem wd_451 : (Cond.selects "LiarsAnswers$Game" ({ cls := "LiarsAnswers$Game", name := "countOf", desc := "(I)I" } : MethodName) ({ cls := "LiarsAnswers$Game", name := "countOf", desc := "(I)I" } : MethodName)) ∈ gt := gt_of (List.mem_of_getElem? (i := 451) (by decide +kernel)) (by decide +kernel)
theorem wd_450 : (Cond.instanceMethod ({ cls := "LiarsAnswers$Game", name := "countOf", desc := "(I)I" } : MethodName)) ∈ gt := gt_of (List.mem_of_getElem? (i := 450) (by decide +kernel)) (by decide +kernel)
theorem c_RX11_141_3 : KV RX11 141 mX3_countOf 3 := ⟨TX3, 9, rfl, wd_449, wd_450, wd_451⟩
theorem wd_453 : (Cond.methodLink "LiarsAnswersLaw" (46 : Nat) ({ cls := "LiarsAnswers", name := "found", desc := "()I" } : MethodName)) ∈ gt := gt_of (List.mem_of_getElem? (i := 453) (by decide +kernel)) (by decide +kernel)
theorem wd_455 : (Cond.selects "LiarsAnswers" ({ cls := "LiarsAnswers", name := "found", desc := "()I" } : MethodName) ({ cls := "LiarsAnswers", name := "found", desc := "()I" } : MethodName)) ∈ gt := gt_of (List.mem_of_getElem? (i := 455) (by decide +kernel)) (by decide +kernel)
theorem wd_454 : (Cond.instanceMethod ({ cls := "LiarsAnswers", name := "found", desc := "()I" } : MethodName)) ∈ gt := gt_of (List.mem_of_getElem? (i := 454) (by decide +kernel)) (by decide +kernel)
theorem c_RL_46_10 : KV RL 46 mX11_found 10 := ⟨TX11, 8, rfl, wd_453, wd_454, wd_455⟩
theorem wd_457 : (Cond.methodLink "LiarsAnswersLaw" (50 : Nat) ({ cls := "LiarsAnswers", name := "fewest", desc := "()I" } : MethodName)) ∈ gt := gt_of (List.mem_of_getElem? (i := 457) (by decide +kernel)) (by decide +kernel)
theorem wd_459 : (Cond.selects "LiarsAnswers" ({ cls := "LiarsAnswers", name := "fewest", desc := "()I" } : MethodName) ({ cls := "LiarsAnswers", name := "fewest", desc := "()I" } : MethodName)) ∈ gt := gt_of (List.mem_of_getElem? (i := 459) (by decide +kernel)) (by decide +kernel)
theorem wd_458 : (Cond.instanceMethod ({ cls := "LiarsAnswers", name := "fewest", desc := "()I" } : MethodName)) ∈ gt := gt_of (List.mem_of_getElem? (i := 458) (by decide +kernel)) (by decide +kernel)
theorem c_RL_50_10 : KV RL 50 mX11_fewest 10 := ⟨TX11, 8, rfl, wd_457, wd_458, wd_459⟩
theorem wd_461 : (Cond.methodLink "LiarsAnswersLaw" (54 : Nat) ({ cls := "LiarsAnswers", name := "spans", desc := "()I" } : MethodName)) ∈ gt := gt_of (List.mem_of_getElem? (i := 461) (by decide +kernel)) (by decide +kernel)
theorem wd_463 : (Cond.selects "LiarsAnswers" ({ cls := "LiarsAnswers", name := "spans", desc := "()I" } : MethodName) ({ cls := "LiarsAnswers", name := "spans", desc := "()I" } : MethodName)) ∈ gt := gt_of (List.mem_of_getElem? (i := 463) (by decide +kernel)) (by decide +kernel)
theorem wd_462 : (Cond.instanceMethod ({ cls := "LiarsAnswers", name := "spans", desc := "()I" } : MethodName)) ∈ gt := gt_of (List.mem_of_getElem? (i := 462) (by decide +kernel)) (by decide +kernel)
theorem c_RL_54_10 : KV RL 54 mX11_spans 10 := ⟨TX11, 8, rfl, wd_461, wd_462, wd_463⟩
theorem wd_465 : (Cond.methodLink "LiarsAnswers" (150 : Nat) ({ cls := "LiarsAnswers", name := "spanTable", desc := "(I)LLiarsAnswers$SpanTable;" } : MethodName)) ∈ gt := gt_of (List.mem_of_getElem? (i := 465) (by decide +kernel)) (by decide +kernel)
theorem wd_8 : (Cond.selects "LiarsAnswers" ({ cls := "LiarsAnswers", name := "spanTable", desc := "(I)LLiarsAnswers$SpanTable;" } : MethodName) ({ cls := "LiarsAnswers", name := "spanTable", desc := "(I)LLiarsAnswers$SpanTable;" } : MethodName)) ∈ gt := gt_of (List.mem_of_getElem? (i := 8) (by decide +kernel)) (by decide +kernel)
theorem wd_467 : (Cond.instanceMethod ({ cls := "LiarsAnswers", name := "spanTable", desc := "(I)LLiarsAnswers$SpanTable;" } : MethodName)) ∈ gt := gt_of (List.mem_of_getElem? (i := 467) (by decide +kernel)) (by decide +kernel)
theorem c_RX11_150_10 : KV RX11 150 mX11_spanTable 10 := ⟨TX11, 8, rfl, wd_465, wd_467, wd_8⟩
theorem wd_470 : (Cond.methodLink "LiarsAnswers" (229 : Nat) ({ cls := "LiarsAnswers$SpanTable", name := "<init>", desc := "(II)V" } : MethodName)) ∈ gt := gt_of (List.mem_of_getElem? (i := 470) (by decide +kernel)) (by decide +kernel)
theorem wd_471 : (Cond.instanceMethod ({ cls := "LiarsAnswers$SpanTable", name := "<init>", desc := "(II)V" } : MethodName)) ∈ gt := gt_of (List.mem_of_getElem? (i := 471) (by decide +kernel)) (by decide +kernel)
theorem c_RX11_229 : Cond.methodLink RX11 229 mX8_init.1 ∈ gt ∧ Cond.instanceMethod mX8_init.1 ∈ gt ∧ mX8_init.1.name = "<init>" ∧ mX8_init.2.2.2 = none := ⟨wd_470, wd_471, rfl, rfl⟩
theorem wd_473 : (Cond.methodLink "LiarsAnswers$SpanTable" (3 : Nat) ({ cls := "java/lang/Object", name := "<init>", desc := "()V" } : MethodName)) ∈ gt := gt_of (List.mem_of_getElem? (i := 473) (by decide +kernel)) (by decide +kernel)
theorem wd_474 : (Cond.methodLink "LiarsAnswers$SpanTable" (19 : Nat) ({ cls := "java/lang/Math", name := "min", desc := "(II)I" } : MethodName)) ∈ gt := gt_of (List.mem_of_getElem? (i := 474) (by decide +kernel)) (by decide +kernel)
theorem wd_488 : (Cond.methodLink "LiarsAnswers" (154 : Nat) ({ cls := "LiarsAnswers$Game", name := "asDigits", desc := "()I" } : MethodName)) ∈ gt := gt_of (List.mem_of_getElem? (i := 488) (by decide +kernel)) (by decide +kernel)
theorem wd_490 : (Cond.selects "LiarsAnswers$Game" ({ cls := "LiarsAnswers$Game", name := "asDigits", desc := "()I" } : MethodName) ({ cls := "LiarsAnswers$Game", name := "asDigits", desc := "()I" } : MethodName)) ∈ gt := gt_of (List.mem_of_getElem? (i := 490) (by decide +kernel)) (by decide +kernel)
theorem wd_489 : (Cond.instanceMethod ({ cls := "LiarsAnswers$Game", name := "asDigits", desc := "()I" } : MethodName)) ∈ gt := gt_of (List.mem_of_getElem? (i := 489) (by decide +kernel)) (by decide +kernel)
theorem c_RX11_154_3 : KV RX11 154 mX3_asDigits 3 := ⟨TX3, 9, rfl, wd_488, wd_489, wd_490⟩
theorem wd_492 : (Cond.methodLink "LiarsAnswers" (157 : Nat) ({ cls := "LiarsAnswers$SpanTable", name := "fewestOf", desc := "(I)I" } : MethodName)) ∈ gt := gt_of (List.mem_of_getElem? (i := 492) (by decide +kernel)) (by decide +kernel)
theorem wd_494 : (Cond.selects "LiarsAnswers$SpanTable" ({ cls := "LiarsAnswers$SpanTable", name := "fewestOf", desc := "(I)I" } : MethodName) ({ cls := "LiarsAnswers$SpanTable", name := "fewestOf", desc := "(I)I" } : MethodName)) ∈ gt := gt_of (List.mem_of_getElem? (i := 494) (by decide +kernel)) (by decide +kernel)
theorem wd_493 : (Cond.instanceMethod ({ cls := "LiarsAnswers$SpanTable", name := "fewestOf", desc := "(I)I" } : MethodName)) ∈ gt := gt_of (List.mem_of_getElem? (i := 493) (by decide +kernel)) (by decide +kernel)
theorem c_RX11_157_7 : KV RX11 157 mX8_fewestOf 7 := ⟨TX8, 4, rfl, wd_492, wd_493, wd_494⟩
theorem wd_496 : (Cond.methodLink "LiarsAnswers$SpanTable" (31 : Nat) ({ cls := "LiarsAnswers$SpanTable", name := "learned", desc := "(I)I" } : MethodName)) ∈ gt := gt_of (List.mem_of_getElem? (i := 496) (by decide +kernel)) (by decide +kernel)
theorem wd_9 : (Cond.selects "LiarsAnswers$SpanTable" ({ cls := "LiarsAnswers$SpanTable", name := "learned", desc := "(I)I" } : MethodName) ({ cls := "LiarsAnswers$SpanTable", name := "learned", desc := "(I)I" } : MethodName)) ∈ gt := gt_of (List.mem_of_getElem? (i := 9) (by decide +kernel)) (by decide +kernel)
theorem wd_498 : (Cond.instanceMethod ({ cls := "LiarsAnswers$SpanTable", name := "learned", desc := "(I)I" } : MethodName)) ∈ gt := gt_of (List.mem_of_getElem? (i := 498) (by decide +kernel)) (by decide +kernel)
theorem c_RX8_31_7 : KV RX8 31 mX8_learned 7 := ⟨TX8, 4, rfl, wd_496, wd_498, wd_9⟩
theorem wd_500 : (Cond.methodLink "LiarsAnswers$SpanTable" (35 : Nat) ({ cls := "LiarsAnswers$SpanTable", name := "lowestGap", desc := "(I)I" } : MethodName)) ∈ gt := gt_of (List.mem_of_getElem? (i := 500) (by decide +kernel)) (by decide +kernel)
theorem wd_501 : (Cond.static ({ cls := "LiarsAnswers$SpanTable", name := "lowestGap", desc := "(I)I" } : MethodName)) ∈ gt := gt_of (List.mem_of_getElem? (i := 501) (by decide +kernel)) (by decide +kernel)
theorem c_RX8_35 : Cond.methodLink RX8 35 mX8_lowestGap.1 ∈ gt ∧ Cond.static mX8_lowestGap.1 ∈ gt := ⟨wd_500, wd_501⟩
theorem wd_503 : (Cond.methodLink "LiarsAnswers$SpanTable" (54 : Nat) ({ cls := "LiarsAnswers$SpanTable", name := "standing", desc := "(I)I" } : MethodName)) ∈ gt := gt_of (List.mem_of_getElem? (i := 503) (by decide +kernel)) (by decide +kernel)
theorem wd_504 : (Cond.static ({ cls := "LiarsAnswers$SpanTable", name := "standing", desc := "(I)I" } : MethodName)) ∈ gt := gt_of (List.mem_of_getElem? (i := 504) (by decide +kernel)) (by decide +kernel)
theorem c_RX8_54 : Cond.methodLink RX8 54 mX8_standing.1 ∈ gt ∧ Cond.static mX8_standing.1 ∈ gt := ⟨wd_503, wd_504⟩
theorem wd_506 : (Cond.methodLink "LiarsAnswers$SpanTable" (38 : Nat) ({ cls := "LiarsAnswers$SpanTable", name := "fewAt", desc := "(I)I" } : MethodName)) ∈ gt := gt_of (List.mem_of_getElem? (i := 506) (by decide +kernel)) (by decide +kernel)
theorem wd_10 : (Cond.selects "LiarsAnswers$SpanTable" ({ cls := "LiarsAnswers$SpanTable", name := "fewAt", desc := "(I)I" } : MethodName) ({ cls := "LiarsAnswers$SpanTable", name := "fewAt", desc := "(I)I" } : MethodName)) ∈ gt := gt_of (List.mem_of_getElem? (i := 10) (by decide +kernel)) (by decide +kernel)
theorem wd_508 : (Cond.instanceMethod ({ cls := "LiarsAnswers$SpanTable", name := "fewAt", desc := "(I)I" } : MethodName)) ∈ gt := gt_of (List.mem_of_getElem? (i := 508) (by decide +kernel)) (by decide +kernel)
theorem c_RX8_38_7 : KV RX8 38 mX8_fewAt 7 := ⟨TX8, 4, rfl, wd_506, wd_508, wd_10⟩
theorem wd_510 : (Cond.methodLink "LiarsAnswers$SpanTable" (41 : Nat) ({ cls := "LiarsAnswers$SpanTable", name := "leastQuestions", desc := "(II)I" } : MethodName)) ∈ gt := gt_of (List.mem_of_getElem? (i := 510) (by decide +kernel)) (by decide +kernel)
theorem wd_11 : (Cond.selects "LiarsAnswers$SpanTable" ({ cls := "LiarsAnswers$SpanTable", name := "leastQuestions", desc := "(II)I" } : MethodName) ({ cls := "LiarsAnswers$SpanTable", name := "leastQuestions", desc := "(II)I" } : MethodName)) ∈ gt := gt_of (List.mem_of_getElem? (i := 11) (by decide +kernel)) (by decide +kernel)
theorem wd_512 : (Cond.instanceMethod ({ cls := "LiarsAnswers$SpanTable", name := "leastQuestions", desc := "(II)I" } : MethodName)) ∈ gt := gt_of (List.mem_of_getElem? (i := 512) (by decide +kernel)) (by decide +kernel)
theorem c_RX8_41_7 : KV RX8 41 mX8_leastQuestions 7 := ⟨TX8, 4, rfl, wd_510, wd_512, wd_11⟩
theorem wd_514 : (Cond.methodLink "LiarsAnswers$SpanTable" (44 : Nat) ({ cls := "java/lang/Math", name := "max", desc := "(II)I" } : MethodName)) ∈ gt := gt_of (List.mem_of_getElem? (i := 514) (by decide +kernel)) (by decide +kernel)
theorem wd_515 : (Cond.methodLink "LiarsAnswers$SpanTable" (47 : Nat) ({ cls := "LiarsAnswers$SpanTable", name := "greaterBehind", desc := "(II)I" } : MethodName)) ∈ gt := gt_of (List.mem_of_getElem? (i := 515) (by decide +kernel)) (by decide +kernel)
theorem wd_12 : (Cond.selects "LiarsAnswers$SpanTable" ({ cls := "LiarsAnswers$SpanTable", name := "greaterBehind", desc := "(II)I" } : MethodName) ({ cls := "LiarsAnswers$SpanTable", name := "greaterBehind", desc := "(II)I" } : MethodName)) ∈ gt := gt_of (List.mem_of_getElem? (i := 12) (by decide +kernel)) (by decide +kernel)
theorem wd_517 : (Cond.instanceMethod ({ cls := "LiarsAnswers$SpanTable", name := "greaterBehind", desc := "(II)I" } : MethodName)) ∈ gt := gt_of (List.mem_of_getElem? (i := 517) (by decide +kernel)) (by decide +kernel)
theorem c_RX8_47_7 : KV RX8 47 mX8_greaterBehind 7 := ⟨TX8, 4, rfl, wd_515, wd_517, wd_12⟩
theorem wd_519 : (Cond.methodLink "LiarsAnswers$SpanTable" (50 : Nat) ({ cls := "LiarsAnswers$SpanTable", name := "charged", desc := "(III)I" } : MethodName)) ∈ gt := gt_of (List.mem_of_getElem? (i := 519) (by decide +kernel)) (by decide +kernel)
theorem wd_520 : (Cond.static ({ cls := "LiarsAnswers$SpanTable", name := "charged", desc := "(III)I" } : MethodName)) ∈ gt := gt_of (List.mem_of_getElem? (i := 520) (by decide +kernel)) (by decide +kernel)
theorem c_RX8_50 : Cond.methodLink RX8 50 mX8_charged.1 ∈ gt ∧ Cond.static mX8_charged.1 ∈ gt := ⟨wd_519, wd_520⟩
theorem wd_522 : (Cond.methodLink "LiarsAnswersLaw" (58 : Nat) ({ cls := "LiarsAnswers", name := "weight", desc := "(I)J" } : MethodName)) ∈ gt := gt_of (List.mem_of_getElem? (i := 522) (by decide +kernel)) (by decide +kernel)
theorem wd_524 : (Cond.selects "LiarsAnswers" ({ cls := "LiarsAnswers", name := "weight", desc := "(I)J" } : MethodName) ({ cls := "LiarsAnswers", name := "weight", desc := "(I)J" } : MethodName)) ∈ gt := gt_of (List.mem_of_getElem? (i := 524) (by decide +kernel)) (by decide +kernel)
theorem wd_523 : (Cond.instanceMethod ({ cls := "LiarsAnswers", name := "weight", desc := "(I)J" } : MethodName)) ∈ gt := gt_of (List.mem_of_getElem? (i := 523) (by decide +kernel)) (by decide +kernel)
theorem c_RL_58_10 : KV RL 58 mX11_weight 10 := ⟨TX11, 8, rfl, wd_522, wd_523, wd_524⟩
theorem wd_527 : (Cond.methodLink "LiarsAnswers" (162 : Nat) ({ cls := "LiarsAnswers", name := "waysToLie", desc := "(II)J" } : MethodName)) ∈ gt := gt_of (List.mem_of_getElem? (i := 527) (by decide +kernel)) (by decide +kernel)
theorem wd_528 : (Cond.static ({ cls := "LiarsAnswers", name := "waysToLie", desc := "(II)J" } : MethodName)) ∈ gt := gt_of (List.mem_of_getElem? (i := 528) (by decide +kernel)) (by decide +kernel)
theorem c_RX11_162 : Cond.methodLink RX11 162 mX11_waysToLie.1 ∈ gt ∧ Cond.static mX11_waysToLie.1 ∈ gt := ⟨wd_527, wd_528⟩
theorem wd_530 : (Cond.methodLink "LiarsAnswersLaw" (63 : Nat) ({ cls := "LiarsAnswers", name := "best", desc := "()I" } : MethodName)) ∈ gt := gt_of (List.mem_of_getElem? (i := 530) (by decide +kernel)) (by decide +kernel)
theorem wd_532 : (Cond.selects "LiarsAnswers" ({ cls := "LiarsAnswers", name := "best", desc := "()I" } : MethodName) ({ cls := "LiarsAnswers", name := "best", desc := "()I" } : MethodName)) ∈ gt := gt_of (List.mem_of_getElem? (i := 532) (by decide +kernel)) (by decide +kernel)
theorem wd_531 : (Cond.instanceMethod ({ cls := "LiarsAnswers", name := "best", desc := "()I" } : MethodName)) ∈ gt := gt_of (List.mem_of_getElem? (i := 531) (by decide +kernel)) (by decide +kernel)
theorem c_RL_63_10 : KV RL 63 mX11_best 10 := ⟨TX11, 8, rfl, wd_530, wd_531, wd_532⟩
theorem wd_534 : (Cond.methodLink "LiarsAnswers" (173 : Nat) ({ cls := "LiarsAnswers$HeapTable", name := "bestHeap", desc := "([III)I" } : MethodName)) ∈ gt := gt_of (List.mem_of_getElem? (i := 534) (by decide +kernel)) (by decide +kernel)
theorem wd_536 : (Cond.selects "LiarsAnswers$HeapTable" ({ cls := "LiarsAnswers$HeapTable", name := "bestHeap", desc := "([III)I" } : MethodName) ({ cls := "LiarsAnswers$HeapTable", name := "bestHeap", desc := "([III)I" } : MethodName)) ∈ gt := gt_of (List.mem_of_getElem? (i := 536) (by decide +kernel)) (by decide +kernel)
theorem wd_535 : (Cond.instanceMethod ({ cls := "LiarsAnswers$HeapTable", name := "bestHeap", desc := "([III)I" } : MethodName)) ∈ gt := gt_of (List.mem_of_getElem? (i := 535) (by decide +kernel)) (by decide +kernel)
theorem c_RX11_173_4 : KV RX11 173 mX4_bestHeap 4 := ⟨TX4, 4, rfl, wd_534, wd_535, wd_536⟩
theorem wd_538 : (Cond.methodLink "LiarsAnswers$HeapTable" (59 : Nat) ({ cls := "LiarsAnswers$HeapTable", name := "fewestOf", desc := "([III)I" } : MethodName)) ∈ gt := gt_of (List.mem_of_getElem? (i := 538) (by decide +kernel)) (by decide +kernel)
theorem c_RX4_59_4 : KV RX4 59 mX4_fewestOf 4 := ⟨TX4, 4, rfl, wd_538, wd_371, wd_372⟩
theorem wd_539 : (Cond.methodLink "LiarsAnswers$HeapTable" (63 : Nat) ({ cls := "LiarsAnswers$LeastHeap", name := "find", desc := "([IIII)I" } : MethodName)) ∈ gt := gt_of (List.mem_of_getElem? (i := 539) (by decide +kernel)) (by decide +kernel)
theorem wd_541 : (Cond.selects "LiarsAnswers$LeastHeap" ({ cls := "LiarsAnswers$LeastHeap", name := "find", desc := "([IIII)I" } : MethodName) ({ cls := "LiarsAnswers$LeastHeap", name := "find", desc := "([IIII)I" } : MethodName)) ∈ gt := gt_of (List.mem_of_getElem? (i := 541) (by decide +kernel)) (by decide +kernel)
theorem wd_540 : (Cond.instanceMethod ({ cls := "LiarsAnswers$LeastHeap", name := "find", desc := "([IIII)I" } : MethodName)) ∈ gt := gt_of (List.mem_of_getElem? (i := 540) (by decide +kernel)) (by decide +kernel)
theorem c_RX4_63_5 : KV RX4 63 mX6_find 5 := ⟨TX6, 8, rfl, wd_539, wd_540, wd_541⟩
theorem wd_543 : (Cond.methodLink "LiarsAnswers$LeastHeap" (22 : Nat) ({ cls := "LiarsAnswers$LeastHeap", name := "layLowest", desc := "([IIII)I" } : MethodName)) ∈ gt := gt_of (List.mem_of_getElem? (i := 543) (by decide +kernel)) (by decide +kernel)
theorem wd_13 : (Cond.selects "LiarsAnswers$LeastHeap" ({ cls := "LiarsAnswers$LeastHeap", name := "layLowest", desc := "([IIII)I" } : MethodName) ({ cls := "LiarsAnswers$LeastHeap", name := "layLowest", desc := "([IIII)I" } : MethodName)) ∈ gt := gt_of (List.mem_of_getElem? (i := 13) (by decide +kernel)) (by decide +kernel)
theorem wd_545 : (Cond.instanceMethod ({ cls := "LiarsAnswers$LeastHeap", name := "layLowest", desc := "([IIII)I" } : MethodName)) ∈ gt := gt_of (List.mem_of_getElem? (i := 545) (by decide +kernel)) (by decide +kernel)
theorem c_RX6_22_5 : KV RX6 22 mX6_layLowest 5 := ⟨TX6, 8, rfl, wd_543, wd_545, wd_13⟩
theorem wn_547 : (Cond.methodLinkNest "LiarsAnswers$LeastHeap" (31 : Nat) ({ cls := "LiarsAnswers", name := "leftAt", desc := "([II)I" } : MethodName) "LiarsAnswers") ∈ lw_tbl := List.mem_of_getElem? (i := 547) (by decide +kernel)
theorem c_RX6_31 : Cond.methodLinkNest RX6 31 mX11_leftAt.1 "LiarsAnswers" ∈ lw_tbl ∧ Cond.static mX11_leftAt.1 ∈ gt := ⟨wn_547, wd_375⟩
theorem wd_549 : (Cond.methodLink "LiarsAnswers$LeastHeap" (27 : Nat) ({ cls := "LiarsAnswers$LeastHeap", name := "walk", desc := "(I)Z" } : MethodName)) ∈ gt := gt_of (List.mem_of_getElem? (i := 549) (by decide +kernel)) (by decide +kernel)
theorem wd_551 : (Cond.selects "LiarsAnswers$LeastHeap" ({ cls := "LiarsAnswers$LeastHeap", name := "walk", desc := "(I)Z" } : MethodName) ({ cls := "LiarsAnswers$HeapWalk", name := "walk", desc := "(I)Z" } : MethodName)) ∈ gt := gt_of (List.mem_of_getElem? (i := 551) (by decide +kernel)) (by decide +kernel)
theorem wd_550 : (Cond.sameMethod "LiarsAnswers$LeastHeap" "LiarsAnswers$HeapWalk" "walk" "(I)Z") ∈ gt := gt_of (List.mem_of_getElem? (i := 550) (by decide +kernel)) (by decide +kernel)
theorem c_RX6_27_5 : KU RX6 27 ⟨"LiarsAnswers$LeastHeap", "walk", "(I)Z"⟩ "LiarsAnswers$HeapWalk" mX5_walk 5 1 := ⟨RX6, TX6, 8, rfl, wd_549, wd_550, fun _ _ h => h _ wd_551, wd_329, by decide +kernel, by decide +kernel, Or.inl wn_327⟩
theorem wd_552 : (Cond.methodLink "LiarsAnswersLaw" (67 : Nat) ({ cls := "LiarsAnswers", name := "worse", desc := "()I" } : MethodName)) ∈ gt := gt_of (List.mem_of_getElem? (i := 552) (by decide +kernel)) (by decide +kernel)
theorem wd_554 : (Cond.selects "LiarsAnswers" ({ cls := "LiarsAnswers", name := "worse", desc := "()I" } : MethodName) ({ cls := "LiarsAnswers", name := "worse", desc := "()I" } : MethodName)) ∈ gt := gt_of (List.mem_of_getElem? (i := 554) (by decide +kernel)) (by decide +kernel)
theorem wd_553 : (Cond.instanceMethod ({ cls := "LiarsAnswers", name := "worse", desc := "()I" } : MethodName)) ∈ gt := gt_of (List.mem_of_getElem? (i := 553) (by decide +kernel)) (by decide +kernel)
theorem c_RL_67_10 : KV RL 67 mX11_worse 10 := ⟨TX11, 8, rfl, wd_552, wd_553, wd_554⟩
theorem wd_556 : (Cond.methodLink "LiarsAnswers" (177 : Nat) ({ cls := "LiarsAnswers", name := "fewestBehind", desc := "(Z)I" } : MethodName)) ∈ gt := gt_of (List.mem_of_getElem? (i := 556) (by decide +kernel)) (by decide +kernel)
theorem wd_14 : (Cond.selects "LiarsAnswers" ({ cls := "LiarsAnswers", name := "fewestBehind", desc := "(Z)I" } : MethodName) ({ cls := "LiarsAnswers", name := "fewestBehind", desc := "(Z)I" } : MethodName)) ∈ gt := gt_of (List.mem_of_getElem? (i := 14) (by decide +kernel)) (by decide +kernel)
theorem wd_558 : (Cond.instanceMethod ({ cls := "LiarsAnswers", name := "fewestBehind", desc := "(Z)I" } : MethodName)) ∈ gt := gt_of (List.mem_of_getElem? (i := 558) (by decide +kernel)) (by decide +kernel)
theorem c_RX11_177_10 : KV RX11 177 mX11_fewestBehind 10 := ⟨TX11, 8, rfl, wd_556, wd_558, wd_14⟩
theorem wd_560 : (Cond.methodLink "LiarsAnswers" (233 : Nat) ({ cls := "LiarsAnswers$Game", name := "layBehind", desc := "(IZ)I" } : MethodName)) ∈ gt := gt_of (List.mem_of_getElem? (i := 560) (by decide +kernel)) (by decide +kernel)
theorem c_RX11_233_3 : KV RX11 233 mX3_layBehind 3 := ⟨TX3, 9, rfl, wd_560, wd_418, wd_419⟩
theorem wd_561 : (Cond.methodLink "LiarsAnswers" (236 : Nat) ({ cls := "LiarsAnswers$Game", name := "rowBehind", desc := "()I" } : MethodName)) ∈ gt := gt_of (List.mem_of_getElem? (i := 561) (by decide +kernel)) (by decide +kernel)
theorem c_RX11_236_3 : KV RX11 236 mX3_rowBehind 3 := ⟨TX3, 9, rfl, wd_561, wd_422, wd_423⟩
theorem wd_562 : (Cond.methodLink "LiarsAnswersLaw" (71 : Nat) ({ cls := "LiarsAnswers", name := "set", desc := "(I)I" } : MethodName)) ∈ gt := gt_of (List.mem_of_getElem? (i := 562) (by decide +kernel)) (by decide +kernel)
theorem wd_564 : (Cond.selects "LiarsAnswers" ({ cls := "LiarsAnswers", name := "set", desc := "(I)I" } : MethodName) ({ cls := "LiarsAnswers", name := "set", desc := "(I)I" } : MethodName)) ∈ gt := gt_of (List.mem_of_getElem? (i := 564) (by decide +kernel)) (by decide +kernel)
theorem wd_563 : (Cond.instanceMethod ({ cls := "LiarsAnswers", name := "set", desc := "(I)I" } : MethodName)) ∈ gt := gt_of (List.mem_of_getElem? (i := 563) (by decide +kernel)) (by decide +kernel)
theorem c_RL_71_10 : KV RL 71 mX11_set 10 := ⟨TX11, 8, rfl, wd_562, wd_563, wd_564⟩
theorem wd_566 : (Cond.methodLink "LiarsAnswers" (181 : Nat) ({ cls := "LiarsAnswers$Code", name := "add", desc := "(I)Z" } : MethodName)) ∈ gt := gt_of (List.mem_of_getElem? (i := 566) (by decide +kernel)) (by decide +kernel)
theorem wd_568 : (Cond.selects "LiarsAnswers$Code" ({ cls := "LiarsAnswers$Code", name := "add", desc := "(I)Z" } : MethodName) ({ cls := "LiarsAnswers$Code", name := "add", desc := "(I)Z" } : MethodName)) ∈ gt := gt_of (List.mem_of_getElem? (i := 568) (by decide +kernel)) (by decide +kernel)
theorem wd_567 : (Cond.instanceMethod ({ cls := "LiarsAnswers$Code", name := "add", desc := "(I)Z" } : MethodName)) ∈ gt := gt_of (List.mem_of_getElem? (i := 567) (by decide +kernel)) (by decide +kernel)
theorem c_RX11_181_2 : KV RX11 181 mX2_add 2 := ⟨TX2, 3, rfl, wd_566, wd_567, wd_568⟩
theorem wd_570 : (Cond.methodLink "LiarsAnswersLaw" (75 : Nat) ({ cls := "LiarsAnswers", name := "drop", desc := "()I" } : MethodName)) ∈ gt := gt_of (List.mem_of_getElem? (i := 570) (by decide +kernel)) (by decide +kernel)
theorem wd_572 : (Cond.selects "LiarsAnswers" ({ cls := "LiarsAnswers", name := "drop", desc := "()I" } : MethodName) ({ cls := "LiarsAnswers", name := "drop", desc := "()I" } : MethodName)) ∈ gt := gt_of (List.mem_of_getElem? (i := 572) (by decide +kernel)) (by decide +kernel)
theorem wd_571 : (Cond.instanceMethod ({ cls := "LiarsAnswers", name := "drop", desc := "()I" } : MethodName)) ∈ gt := gt_of (List.mem_of_getElem? (i := 571) (by decide +kernel)) (by decide +kernel)
theorem c_RL_75_10 : KV RL 75 mX11_drop 10 := ⟨TX11, 8, rfl, wd_570, wd_571, wd_572⟩
theorem wd_574 : (Cond.methodLink "LiarsAnswers" (187 : Nat) ({ cls := "LiarsAnswers$Code", name := "removeLatest", desc := "()Z" } : MethodName)) ∈ gt := gt_of (List.mem_of_getElem? (i := 574) (by decide +kernel)) (by decide +kernel)
theorem wd_576 : (Cond.selects "LiarsAnswers$Code" ({ cls := "LiarsAnswers$Code", name := "removeLatest", desc := "()Z" } : MethodName) ({ cls := "LiarsAnswers$Code", name := "removeLatest", desc := "()Z" } : MethodName)) ∈ gt := gt_of (List.mem_of_getElem? (i := 576) (by decide +kernel)) (by decide +kernel)
theorem wd_575 : (Cond.instanceMethod ({ cls := "LiarsAnswers$Code", name := "removeLatest", desc := "()Z" } : MethodName)) ∈ gt := gt_of (List.mem_of_getElem? (i := 575) (by decide +kernel)) (by decide +kernel)
theorem c_RX11_187_2 : KV RX11 187 mX2_removeLatest 2 := ⟨TX2, 3, rfl, wd_574, wd_575, wd_576⟩
theorem wd_578 : (Cond.methodLink "LiarsAnswersLaw" (79 : Nat) ({ cls := "LiarsAnswers", name := "word", desc := "(I)I" } : MethodName)) ∈ gt := gt_of (List.mem_of_getElem? (i := 578) (by decide +kernel)) (by decide +kernel)
theorem wd_580 : (Cond.selects "LiarsAnswers" ({ cls := "LiarsAnswers", name := "word", desc := "(I)I" } : MethodName) ({ cls := "LiarsAnswers", name := "word", desc := "(I)I" } : MethodName)) ∈ gt := gt_of (List.mem_of_getElem? (i := 580) (by decide +kernel)) (by decide +kernel)
theorem wd_579 : (Cond.instanceMethod ({ cls := "LiarsAnswers", name := "word", desc := "(I)I" } : MethodName)) ∈ gt := gt_of (List.mem_of_getElem? (i := 579) (by decide +kernel)) (by decide +kernel)
theorem c_RL_79_10 : KV RL 79 mX11_word 10 := ⟨TX11, 8, rfl, wd_578, wd_579, wd_580⟩
theorem wd_582 : (Cond.methodLink "LiarsAnswers" (191 : Nat) ({ cls := "LiarsAnswers$Code", name := "wordOf", desc := "(I)I" } : MethodName)) ∈ gt := gt_of (List.mem_of_getElem? (i := 582) (by decide +kernel)) (by decide +kernel)
theorem wd_584 : (Cond.selects "LiarsAnswers$Code" ({ cls := "LiarsAnswers$Code", name := "wordOf", desc := "(I)I" } : MethodName) ({ cls := "LiarsAnswers$Code", name := "wordOf", desc := "(I)I" } : MethodName)) ∈ gt := gt_of (List.mem_of_getElem? (i := 584) (by decide +kernel)) (by decide +kernel)
theorem wd_583 : (Cond.instanceMethod ({ cls := "LiarsAnswers$Code", name := "wordOf", desc := "(I)I" } : MethodName)) ∈ gt := gt_of (List.mem_of_getElem? (i := 583) (by decide +kernel)) (by decide +kernel)
theorem c_RX11_191_2 : KV RX11 191 mX2_wordOf 2 := ⟨TX2, 3, rfl, wd_582, wd_583, wd_584⟩
theorem wd_586 : (Cond.methodLink "LiarsAnswersLaw" (83 : Nat) ({ cls := "LiarsAnswers", name := "apart", desc := "(II)I" } : MethodName)) ∈ gt := gt_of (List.mem_of_getElem? (i := 586) (by decide +kernel)) (by decide +kernel)
theorem wd_588 : (Cond.selects "LiarsAnswers" ({ cls := "LiarsAnswers", name := "apart", desc := "(II)I" } : MethodName) ({ cls := "LiarsAnswers", name := "apart", desc := "(II)I" } : MethodName)) ∈ gt := gt_of (List.mem_of_getElem? (i := 588) (by decide +kernel)) (by decide +kernel)
theorem wd_587 : (Cond.instanceMethod ({ cls := "LiarsAnswers", name := "apart", desc := "(II)I" } : MethodName)) ∈ gt := gt_of (List.mem_of_getElem? (i := 587) (by decide +kernel)) (by decide +kernel)
theorem c_RL_83_10 : KV RL 83 mX11_apart 10 := ⟨TX11, 8, rfl, wd_586, wd_587, wd_588⟩
theorem wd_590 : (Cond.methodLink "LiarsAnswers" (194 : Nat) ({ cls := "java/lang/Integer", name := "bitCount", desc := "(I)I" } : MethodName)) ∈ gt := gt_of (List.mem_of_getElem? (i := 590) (by decide +kernel)) (by decide +kernel)
theorem wd_596 : (Cond.methodLink "LiarsAnswersLaw" (88 : Nat) ({ cls := "LiarsAnswers", name := "serves", desc := "(II)I" } : MethodName)) ∈ gt := gt_of (List.mem_of_getElem? (i := 596) (by decide +kernel)) (by decide +kernel)
theorem wd_598 : (Cond.selects "LiarsAnswers" ({ cls := "LiarsAnswers", name := "serves", desc := "(II)I" } : MethodName) ({ cls := "LiarsAnswers", name := "serves", desc := "(II)I" } : MethodName)) ∈ gt := gt_of (List.mem_of_getElem? (i := 598) (by decide +kernel)) (by decide +kernel)
theorem wd_597 : (Cond.instanceMethod ({ cls := "LiarsAnswers", name := "serves", desc := "(II)I" } : MethodName)) ∈ gt := gt_of (List.mem_of_getElem? (i := 597) (by decide +kernel)) (by decide +kernel)
theorem c_RL_88_10 : KV RL 88 mX11_serves 10 := ⟨TX11, 8, rfl, wd_596, wd_597, wd_598⟩
theorem wd_600 : (Cond.methodLink "LiarsAnswers" (199 : Nat) ({ cls := "LiarsAnswers$Code", name := "allApart", desc := "(II)Z" } : MethodName)) ∈ gt := gt_of (List.mem_of_getElem? (i := 600) (by decide +kernel)) (by decide +kernel)
theorem wd_602 : (Cond.selects "LiarsAnswers$Code" ({ cls := "LiarsAnswers$Code", name := "allApart", desc := "(II)Z" } : MethodName) ({ cls := "LiarsAnswers$Code", name := "allApart", desc := "(II)Z" } : MethodName)) ∈ gt := gt_of (List.mem_of_getElem? (i := 602) (by decide +kernel)) (by decide +kernel)
theorem wd_601 : (Cond.instanceMethod ({ cls := "LiarsAnswers$Code", name := "allApart", desc := "(II)Z" } : MethodName)) ∈ gt := gt_of (List.mem_of_getElem? (i := 601) (by decide +kernel)) (by decide +kernel)
theorem c_RX11_199_2 : KV RX11 199 mX2_allApart 2 := ⟨TX2, 3, rfl, wd_600, wd_601, wd_602⟩
theorem wd_604 : (Cond.methodLink "LiarsAnswers$Code" (22 : Nat) ({ cls := "LiarsAnswers$Code", name := "wordOf", desc := "(I)I" } : MethodName)) ∈ gt := gt_of (List.mem_of_getElem? (i := 604) (by decide +kernel)) (by decide +kernel)
theorem c_RX2_22_2 : KV RX2 22 mX2_wordOf 2 := ⟨TX2, 3, rfl, wd_604, wd_583, wd_584⟩
theorem wd_605 : (Cond.methodLink "LiarsAnswers$Code" (26 : Nat) ({ cls := "java/lang/Integer", name := "bitCount", desc := "(I)I" } : MethodName)) ∈ gt := gt_of (List.mem_of_getElem? (i := 605) (by decide +kernel)) (by decide +kernel)
theorem wd_606 : (Cond.methodLink "LiarsAnswersLaw" (92 : Nat) ({ cls := "LiarsAnswers", name := "read", desc := "(III)I" } : MethodName)) ∈ gt := gt_of (List.mem_of_getElem? (i := 606) (by decide +kernel)) (by decide +kernel)
theorem wd_608 : (Cond.selects "LiarsAnswers" ({ cls := "LiarsAnswers", name := "read", desc := "(III)I" } : MethodName) ({ cls := "LiarsAnswers", name := "read", desc := "(III)I" } : MethodName)) ∈ gt := gt_of (List.mem_of_getElem? (i := 608) (by decide +kernel)) (by decide +kernel)
theorem wd_607 : (Cond.instanceMethod ({ cls := "LiarsAnswers", name := "read", desc := "(III)I" } : MethodName)) ∈ gt := gt_of (List.mem_of_getElem? (i := 607) (by decide +kernel)) (by decide +kernel)
theorem c_RL_92_10 : KV RL 92 mX11_read 10 := ⟨TX11, 8, rfl, wd_606, wd_607, wd_608⟩
theorem wd_610 : (Cond.methodLink "LiarsAnswers" (203 : Nat) ({ cls := "LiarsAnswers$Code", name := "isWord", desc := "(I)Z" } : MethodName)) ∈ gt := gt_of (List.mem_of_getElem? (i := 610) (by decide +kernel)) (by decide +kernel)
theorem wd_612 : (Cond.selects "LiarsAnswers$Code" ({ cls := "LiarsAnswers$Code", name := "isWord", desc := "(I)Z" } : MethodName) ({ cls := "LiarsAnswers$Code", name := "isWord", desc := "(I)Z" } : MethodName)) ∈ gt := gt_of (List.mem_of_getElem? (i := 612) (by decide +kernel)) (by decide +kernel)
theorem wd_611 : (Cond.instanceMethod ({ cls := "LiarsAnswers$Code", name := "isWord", desc := "(I)Z" } : MethodName)) ∈ gt := gt_of (List.mem_of_getElem? (i := 611) (by decide +kernel)) (by decide +kernel)
theorem c_RX11_203_2 : KV RX11 203 mX2_isWord 2 := ⟨TX2, 3, rfl, wd_610, wd_611, wd_612⟩
theorem wd_614 : (Cond.methodLink "LiarsAnswers" (206 : Nat) ({ cls := "LiarsAnswers$Code", name := "onlyNear", desc := "(III)I" } : MethodName)) ∈ gt := gt_of (List.mem_of_getElem? (i := 614) (by decide +kernel)) (by decide +kernel)
theorem wd_616 : (Cond.selects "LiarsAnswers$Code" ({ cls := "LiarsAnswers$Code", name := "onlyNear", desc := "(III)I" } : MethodName) ({ cls := "LiarsAnswers$Code", name := "onlyNear", desc := "(III)I" } : MethodName)) ∈ gt := gt_of (List.mem_of_getElem? (i := 616) (by decide +kernel)) (by decide +kernel)
theorem wd_615 : (Cond.instanceMethod ({ cls := "LiarsAnswers$Code", name := "onlyNear", desc := "(III)I" } : MethodName)) ∈ gt := gt_of (List.mem_of_getElem? (i := 615) (by decide +kernel)) (by decide +kernel)
theorem c_RX11_206_2 : KV RX11 206 mX2_onlyNear 2 := ⟨TX2, 3, rfl, wd_614, wd_615, wd_616⟩
theorem wd_618 : (Cond.methodLink "LiarsAnswersLaw" (96 : Nat) ({ cls := "LiarsAnswers", name := "play", desc := "(I)I" } : MethodName)) ∈ gt := gt_of (List.mem_of_getElem? (i := 618) (by decide +kernel)) (by decide +kernel)
theorem wd_620 : (Cond.selects "LiarsAnswers" ({ cls := "LiarsAnswers", name := "play", desc := "(I)I" } : MethodName) ({ cls := "LiarsAnswers", name := "play", desc := "(I)I" } : MethodName)) ∈ gt := gt_of (List.mem_of_getElem? (i := 620) (by decide +kernel)) (by decide +kernel)
theorem wd_619 : (Cond.instanceMethod ({ cls := "LiarsAnswers", name := "play", desc := "(I)I" } : MethodName)) ∈ gt := gt_of (List.mem_of_getElem? (i := 619) (by decide +kernel)) (by decide +kernel)
theorem c_RL_96_10 : KV RL 96 mX11_play 10 := ⟨TX11, 8, rfl, wd_618, wd_619, wd_620⟩
theorem wd_622 : (Cond.methodLink "LiarsAnswers" (210 : Nat) ({ cls := "LiarsAnswers", name := "playOne", desc := "(II)Z" } : MethodName)) ∈ gt := gt_of (List.mem_of_getElem? (i := 622) (by decide +kernel)) (by decide +kernel)
theorem wd_15 : (Cond.selects "LiarsAnswers" ({ cls := "LiarsAnswers", name := "playOne", desc := "(II)Z" } : MethodName) ({ cls := "LiarsAnswers", name := "playOne", desc := "(II)Z" } : MethodName)) ∈ gt := gt_of (List.mem_of_getElem? (i := 15) (by decide +kernel)) (by decide +kernel)
theorem wd_624 : (Cond.instanceMethod ({ cls := "LiarsAnswers", name := "playOne", desc := "(II)Z" } : MethodName)) ∈ gt := gt_of (List.mem_of_getElem? (i := 624) (by decide +kernel)) (by decide +kernel)
theorem c_RX11_210_10 : KV RX11 210 mX11_playOne 10 := ⟨TX11, 8, rfl, wd_622, wd_624, wd_15⟩
theorem wd_626 : (Cond.methodLink "LiarsAnswers" (239 : Nat) ({ cls := "LiarsAnswers$Code", name := "question", desc := "(I)I" } : MethodName)) ∈ gt := gt_of (List.mem_of_getElem? (i := 626) (by decide +kernel)) (by decide +kernel)
theorem wd_628 : (Cond.selects "LiarsAnswers$Code" ({ cls := "LiarsAnswers$Code", name := "question", desc := "(I)I" } : MethodName) ({ cls := "LiarsAnswers$Code", name := "question", desc := "(I)I" } : MethodName)) ∈ gt := gt_of (List.mem_of_getElem? (i := 628) (by decide +kernel)) (by decide +kernel)
theorem wd_627 : (Cond.instanceMethod ({ cls := "LiarsAnswers$Code", name := "question", desc := "(I)I" } : MethodName)) ∈ gt := gt_of (List.mem_of_getElem? (i := 627) (by decide +kernel)) (by decide +kernel)
theorem c_RX11_239_2 : KV RX11 239 mX2_question 2 := ⟨TX2, 3, rfl, wd_626, wd_627, wd_628⟩
theorem wd_630 : (Cond.methodLink "LiarsAnswersLaw" (100 : Nat) ({ cls := "LiarsAnswers", name := "told", desc := "(I)I" } : MethodName)) ∈ gt := gt_of (List.mem_of_getElem? (i := 630) (by decide +kernel)) (by decide +kernel)
theorem wd_632 : (Cond.selects "LiarsAnswers" ({ cls := "LiarsAnswers", name := "told", desc := "(I)I" } : MethodName) ({ cls := "LiarsAnswers", name := "told", desc := "(I)I" } : MethodName)) ∈ gt := gt_of (List.mem_of_getElem? (i := 632) (by decide +kernel)) (by decide +kernel)
theorem wd_631 : (Cond.instanceMethod ({ cls := "LiarsAnswers", name := "told", desc := "(I)I" } : MethodName)) ∈ gt := gt_of (List.mem_of_getElem? (i := 631) (by decide +kernel)) (by decide +kernel)
theorem c_RL_100_10 : KV RL 100 mX11_told 10 := ⟨TX11, 8, rfl, wd_630, wd_631, wd_632⟩
theorem wd_634 : (Cond.methodLink "LiarsAnswersLaw" (104 : Nat) ({ cls := "LiarsAnswers", name := "trace", desc := "()J" } : MethodName)) ∈ gt := gt_of (List.mem_of_getElem? (i := 634) (by decide +kernel)) (by decide +kernel)
theorem wd_636 : (Cond.selects "LiarsAnswers" ({ cls := "LiarsAnswers", name := "trace", desc := "()J" } : MethodName) ({ cls := "LiarsAnswers", name := "trace", desc := "()J" } : MethodName)) ∈ gt := gt_of (List.mem_of_getElem? (i := 636) (by decide +kernel)) (by decide +kernel)
theorem wd_635 : (Cond.instanceMethod ({ cls := "LiarsAnswers", name := "trace", desc := "()J" } : MethodName)) ∈ gt := gt_of (List.mem_of_getElem? (i := 635) (by decide +kernel)) (by decide +kernel)
theorem c_RL_104_10 : KV RL 104 mX11_trace 10 := ⟨TX11, 8, rfl, wd_634, wd_635, wd_636⟩
theorem wd_640 : (Cond.methodLink "LiarsAnswersLaw" (12 : Nat) ({ cls := "LiarsAnswersModel", name := "<init>", desc := "()V" } : MethodName)) ∈ gt := gt_of (List.mem_of_getElem? (i := 640) (by decide +kernel)) (by decide +kernel)
theorem wd_641 : (Cond.instanceMethod ({ cls := "LiarsAnswersModel", name := "<init>", desc := "()V" } : MethodName)) ∈ gt := gt_of (List.mem_of_getElem? (i := 641) (by decide +kernel)) (by decide +kernel)
theorem c_RL_12 : Cond.methodLink RL 12 mX12_init.1 ∈ gt ∧ Cond.instanceMethod mX12_init.1 ∈ gt ∧ mX12_init.1.name = "<init>" ∧ mX12_init.2.2.2 = none := ⟨wd_640, wd_641, rfl, rfl⟩
theorem wd_643 : (Cond.methodLink "LiarsAnswersModel" (1 : Nat) ({ cls := "java/lang/Object", name := "<init>", desc := "()V" } : MethodName)) ∈ gt := gt_of (List.mem_of_getElem? (i := 643) (by decide +kernel)) (by decide +kernel)
theorem wd_710 : (Cond.methodLink "LiarsAnswersLaw" (22 : Nat) ({ cls := "LiarsAnswersModel", name := "cost", desc := "(IZZ)I" } : MethodName)) ∈ gt := gt_of (List.mem_of_getElem? (i := 710) (by decide +kernel)) (by decide +kernel)
theorem wd_712 : (Cond.selects "LiarsAnswersModel" ({ cls := "LiarsAnswersModel", name := "cost", desc := "(IZZ)I" } : MethodName) ({ cls := "LiarsAnswersModel", name := "cost", desc := "(IZZ)I" } : MethodName)) ∈ gt := gt_of (List.mem_of_getElem? (i := 712) (by decide +kernel)) (by decide +kernel)
theorem wd_711 : (Cond.instanceMethod ({ cls := "LiarsAnswersModel", name := "cost", desc := "(IZZ)I" } : MethodName)) ∈ gt := gt_of (List.mem_of_getElem? (i := 711) (by decide +kernel)) (by decide +kernel)
theorem c_RL_22_11 : KV RL 22 mX12_cost 11 := ⟨TX12, 21, rfl, wd_710, wd_711, wd_712⟩
theorem wd_714 : (Cond.methodLink "LiarsAnswersModel" (53 : Nat) ({ cls := "LiarsAnswersModel", name := "in", desc := "(III)Z" } : MethodName)) ∈ gt := gt_of (List.mem_of_getElem? (i := 714) (by decide +kernel)) (by decide +kernel)
theorem wd_715 : (Cond.static ({ cls := "LiarsAnswersModel", name := "in", desc := "(III)Z" } : MethodName)) ∈ gt := gt_of (List.mem_of_getElem? (i := 715) (by decide +kernel)) (by decide +kernel)
theorem c_RX12_53 : Cond.methodLink RX12 53 mX12_in.1 ∈ gt ∧ Cond.static mX12_in.1 ∈ gt := ⟨wd_714, wd_715⟩
theorem wd_719 : (Cond.methodLink "LiarsAnswersModel" (65 : Nat) ({ cls := "LiarsAnswersModel", name := "costOf", desc := "(IZZ)I" } : MethodName)) ∈ gt := gt_of (List.mem_of_getElem? (i := 719) (by decide +kernel)) (by decide +kernel)
theorem wd_720 : (Cond.static ({ cls := "LiarsAnswersModel", name := "costOf", desc := "(IZZ)I" } : MethodName)) ∈ gt := gt_of (List.mem_of_getElem? (i := 720) (by decide +kernel)) (by decide +kernel)
theorem c_RX12_65 : Cond.methodLink RX12 65 mX12_costOf.1 ∈ gt ∧ Cond.static mX12_costOf.1 ∈ gt := ⟨wd_719, wd_720⟩
theorem wd_722 : (Cond.methodLink "LiarsAnswersLaw" (17 : Nat) ({ cls := "LiarsAnswersModel", name := "begin", desc := "(III)I" } : MethodName)) ∈ gt := gt_of (List.mem_of_getElem? (i := 722) (by decide +kernel)) (by decide +kernel)
theorem wd_724 : (Cond.selects "LiarsAnswersModel" ({ cls := "LiarsAnswersModel", name := "begin", desc := "(III)I" } : MethodName) ({ cls := "LiarsAnswersModel", name := "begin", desc := "(III)I" } : MethodName)) ∈ gt := gt_of (List.mem_of_getElem? (i := 724) (by decide +kernel)) (by decide +kernel)
theorem wd_723 : (Cond.instanceMethod ({ cls := "LiarsAnswersModel", name := "begin", desc := "(III)I" } : MethodName)) ∈ gt := gt_of (List.mem_of_getElem? (i := 723) (by decide +kernel)) (by decide +kernel)
theorem c_RL_17_11 : KV RL 17 mX12_begin 11 := ⟨TX12, 21, rfl, wd_722, wd_723, wd_724⟩
theorem wd_726 : (Cond.methodLink "LiarsAnswersModel" (104 : Nat) ({ cls := "LiarsAnswersModel", name := "worthOf", desc := "([I)I" } : MethodName)) ∈ gt := gt_of (List.mem_of_getElem? (i := 726) (by decide +kernel)) (by decide +kernel)
theorem wd_16 : (Cond.selects "LiarsAnswersModel" ({ cls := "LiarsAnswersModel", name := "worthOf", desc := "([I)I" } : MethodName) ({ cls := "LiarsAnswersModel", name := "worthOf", desc := "([I)I" } : MethodName)) ∈ gt := gt_of (List.mem_of_getElem? (i := 16) (by decide +kernel)) (by decide +kernel)
theorem wd_728 : (Cond.instanceMethod ({ cls := "LiarsAnswersModel", name := "worthOf", desc := "([I)I" } : MethodName)) ∈ gt := gt_of (List.mem_of_getElem? (i := 728) (by decide +kernel)) (by decide +kernel)
theorem c_RX12_104_11 : KV RX12 104 mX12_worthOf 11 := ⟨TX12, 21, rfl, wd_726, wd_728, wd_16⟩
theorem wd_731 : (Cond.methodLink "LiarsAnswersModel" (94 : Nat) ({ cls := "LiarsAnswersModel", name := "levels", desc := "(II)V" } : MethodName)) ∈ gt := gt_of (List.mem_of_getElem? (i := 731) (by decide +kernel)) (by decide +kernel)
theorem wd_17 : (Cond.selects "LiarsAnswersModel" ({ cls := "LiarsAnswersModel", name := "levels", desc := "(II)V" } : MethodName) ({ cls := "LiarsAnswersModel", name := "levels", desc := "(II)V" } : MethodName)) ∈ gt := gt_of (List.mem_of_getElem? (i := 17) (by decide +kernel)) (by decide +kernel)
theorem wd_733 : (Cond.instanceMethod ({ cls := "LiarsAnswersModel", name := "levels", desc := "(II)V" } : MethodName)) ∈ gt := gt_of (List.mem_of_getElem? (i := 733) (by decide +kernel)) (by decide +kernel)
theorem c_RX12_94_11 : KV RX12 94 mX12_levels 11 := ⟨TX12, 21, rfl, wd_731, wd_733, wd_17⟩
theorem wd_735 : (Cond.methodLink "LiarsAnswersModel" (77 : Nat) ({ cls := "LiarsAnswersModel", name := "place", desc := "(IIII)I" } : MethodName)) ∈ gt := gt_of (List.mem_of_getElem? (i := 735) (by decide +kernel)) (by decide +kernel)
theorem wd_736 : (Cond.static ({ cls := "LiarsAnswersModel", name := "place", desc := "(IIII)I" } : MethodName)) ∈ gt := gt_of (List.mem_of_getElem? (i := 736) (by decide +kernel)) (by decide +kernel)
theorem c_RX12_77 : Cond.methodLink RX12 77 mX12_place.1 ∈ gt ∧ Cond.static mX12_place.1 ∈ gt := ⟨wd_735, wd_736⟩
theorem wd_738 : (Cond.methodLink "LiarsAnswersModel" (81 : Nat) ({ cls := "LiarsAnswersModel", name := "mayDo", desc := "(II)Z" } : MethodName)) ∈ gt := gt_of (List.mem_of_getElem? (i := 738) (by decide +kernel)) (by decide +kernel)
theorem wd_18 : (Cond.selects "LiarsAnswersModel" ({ cls := "LiarsAnswersModel", name := "mayDo", desc := "(II)Z" } : MethodName) ({ cls := "LiarsAnswersModel", name := "mayDo", desc := "(II)Z" } : MethodName)) ∈ gt := gt_of (List.mem_of_getElem? (i := 18) (by decide +kernel)) (by decide +kernel)
theorem wd_740 : (Cond.instanceMethod ({ cls := "LiarsAnswersModel", name := "mayDo", desc := "(II)Z" } : MethodName)) ∈ gt := gt_of (List.mem_of_getElem? (i := 740) (by decide +kernel)) (by decide +kernel)
theorem c_RX12_81_11 : KV RX12 81 mX12_mayDo 11 := ⟨TX12, 21, rfl, wd_738, wd_740, wd_18⟩
theorem wd_742 : (Cond.methodLink "LiarsAnswersModel" (85 : Nat) ({ cls := "LiarsAnswersModel", name := "canDo", desc := "(II)Z" } : MethodName)) ∈ gt := gt_of (List.mem_of_getElem? (i := 742) (by decide +kernel)) (by decide +kernel)
theorem wd_19 : (Cond.selects "LiarsAnswersModel" ({ cls := "LiarsAnswersModel", name := "canDo", desc := "(II)Z" } : MethodName) ({ cls := "LiarsAnswersModel", name := "canDo", desc := "(II)Z" } : MethodName)) ∈ gt := gt_of (List.mem_of_getElem? (i := 19) (by decide +kernel)) (by decide +kernel)
theorem wd_744 : (Cond.instanceMethod ({ cls := "LiarsAnswersModel", name := "canDo", desc := "(II)Z" } : MethodName)) ∈ gt := gt_of (List.mem_of_getElem? (i := 744) (by decide +kernel)) (by decide +kernel)
theorem c_RX12_85_11 : KV RX12 85 mX12_canDo 11 := ⟨TX12, 21, rfl, wd_742, wd_744, wd_19⟩
theorem wd_746 : (Cond.methodLink "LiarsAnswersModel" (69 : Nat) ({ cls := "LiarsAnswersModel", name := "behind", desc := "(IZ[I[I)I" } : MethodName)) ∈ gt := gt_of (List.mem_of_getElem? (i := 746) (by decide +kernel)) (by decide +kernel)
theorem wd_747 : (Cond.static ({ cls := "LiarsAnswersModel", name := "behind", desc := "(IZ[I[I)I" } : MethodName)) ∈ gt := gt_of (List.mem_of_getElem? (i := 747) (by decide +kernel)) (by decide +kernel)
theorem c_RX12_69 : Cond.methodLink RX12 69 mX12_behind.1 ∈ gt ∧ Cond.static mX12_behind.1 ∈ gt := ⟨wd_746, wd_747⟩
theorem wd_749 : (Cond.methodLink "LiarsAnswersModel" (73 : Nat) ({ cls := "LiarsAnswersModel", name := "isWithin", desc := "(III)Z" } : MethodName)) ∈ gt := gt_of (List.mem_of_getElem? (i := 749) (by decide +kernel)) (by decide +kernel)
theorem wd_20 : (Cond.selects "LiarsAnswersModel" ({ cls := "LiarsAnswersModel", name := "isWithin", desc := "(III)Z" } : MethodName) ({ cls := "LiarsAnswersModel", name := "isWithin", desc := "(III)Z" } : MethodName)) ∈ gt := gt_of (List.mem_of_getElem? (i := 20) (by decide +kernel)) (by decide +kernel)
theorem wd_751 : (Cond.instanceMethod ({ cls := "LiarsAnswersModel", name := "isWithin", desc := "(III)Z" } : MethodName)) ∈ gt := gt_of (List.mem_of_getElem? (i := 751) (by decide +kernel)) (by decide +kernel)
theorem c_RX12_73_11 : KV RX12 73 mX12_isWithin 11 := ⟨TX12, 21, rfl, wd_749, wd_751, wd_20⟩
theorem wd_753 : (Cond.methodLink "LiarsAnswersModel" (108 : Nat) ({ cls := "LiarsAnswersModel", name := "shown", desc := "(I)I" } : MethodName)) ∈ gt := gt_of (List.mem_of_getElem? (i := 753) (by decide +kernel)) (by decide +kernel)
theorem wd_754 : (Cond.static ({ cls := "LiarsAnswersModel", name := "shown", desc := "(I)I" } : MethodName)) ∈ gt := gt_of (List.mem_of_getElem? (i := 754) (by decide +kernel)) (by decide +kernel)
theorem c_RX12_108 : Cond.methodLink RX12 108 mX12_shown.1 ∈ gt ∧ Cond.static mX12_shown.1 ∈ gt := ⟨wd_753, wd_754⟩
theorem wd_756 : (Cond.methodLink "LiarsAnswersLaw" (27 : Nat) ({ cls := "LiarsAnswersModel", name := "ask", desc := "(I)I" } : MethodName)) ∈ gt := gt_of (List.mem_of_getElem? (i := 756) (by decide +kernel)) (by decide +kernel)
theorem wd_758 : (Cond.selects "LiarsAnswersModel" ({ cls := "LiarsAnswersModel", name := "ask", desc := "(I)I" } : MethodName) ({ cls := "LiarsAnswersModel", name := "ask", desc := "(I)I" } : MethodName)) ∈ gt := gt_of (List.mem_of_getElem? (i := 758) (by decide +kernel)) (by decide +kernel)
theorem wd_757 : (Cond.instanceMethod ({ cls := "LiarsAnswersModel", name := "ask", desc := "(I)I" } : MethodName)) ∈ gt := gt_of (List.mem_of_getElem? (i := 757) (by decide +kernel)) (by decide +kernel)
theorem c_RL_27_11 : KV RL 27 mX12_ask 11 := ⟨TX12, 21, rfl, wd_756, wd_757, wd_758⟩
theorem wd_761 : (Cond.methodLink "LiarsAnswersLaw" (32 : Nat) ({ cls := "LiarsAnswersModel", name := "answer", desc := "(Z)I" } : MethodName)) ∈ gt := gt_of (List.mem_of_getElem? (i := 761) (by decide +kernel)) (by decide +kernel)
theorem wd_763 : (Cond.selects "LiarsAnswersModel" ({ cls := "LiarsAnswersModel", name := "answer", desc := "(Z)I" } : MethodName) ({ cls := "LiarsAnswersModel", name := "answer", desc := "(Z)I" } : MethodName)) ∈ gt := gt_of (List.mem_of_getElem? (i := 763) (by decide +kernel)) (by decide +kernel)
theorem wd_762 : (Cond.instanceMethod ({ cls := "LiarsAnswersModel", name := "answer", desc := "(Z)I" } : MethodName)) ∈ gt := gt_of (List.mem_of_getElem? (i := 762) (by decide +kernel)) (by decide +kernel)
theorem c_RL_32_11 : KV RL 32 mX12_answer 11 := ⟨TX12, 21, rfl, wd_761, wd_762, wd_763⟩
theorem wd_765 : (Cond.methodLink "LiarsAnswersModel" (113 : Nat) ({ cls := "LiarsAnswersModel", name := "tries", desc := "(IZ)I" } : MethodName)) ∈ gt := gt_of (List.mem_of_getElem? (i := 765) (by decide +kernel)) (by decide +kernel)
theorem wd_21 : (Cond.selects "LiarsAnswersModel" ({ cls := "LiarsAnswersModel", name := "tries", desc := "(IZ)I" } : MethodName) ({ cls := "LiarsAnswersModel", name := "tries", desc := "(IZ)I" } : MethodName)) ∈ gt := gt_of (List.mem_of_getElem? (i := 21) (by decide +kernel)) (by decide +kernel)
theorem wd_767 : (Cond.instanceMethod ({ cls := "LiarsAnswersModel", name := "tries", desc := "(IZ)I" } : MethodName)) ∈ gt := gt_of (List.mem_of_getElem? (i := 767) (by decide +kernel)) (by decide +kernel)
theorem c_RX12_113_11 : KV RX12 113 mX12_tries 11 := ⟨TX12, 21, rfl, wd_765, wd_767, wd_21⟩
theorem wd_769 : (Cond.methodLink "LiarsAnswersLaw" (37 : Nat) ({ cls := "LiarsAnswersModel", name := "back", desc := "()I" } : MethodName)) ∈ gt := gt_of (List.mem_of_getElem? (i := 769) (by decide +kernel)) (by decide +kernel)
theorem wd_771 : (Cond.selects "LiarsAnswersModel" ({ cls := "LiarsAnswersModel", name := "back", desc := "()I" } : MethodName) ({ cls := "LiarsAnswersModel", name := "back", desc := "()I" } : MethodName)) ∈ gt := gt_of (List.mem_of_getElem? (i := 771) (by decide +kernel)) (by decide +kernel)
theorem wd_770 : (Cond.instanceMethod ({ cls := "LiarsAnswersModel", name := "back", desc := "()I" } : MethodName)) ∈ gt := gt_of (List.mem_of_getElem? (i := 770) (by decide +kernel)) (by decide +kernel)
theorem c_RL_37_11 : KV RL 37 mX12_back 11 := ⟨TX12, 21, rfl, wd_769, wd_770, wd_771⟩
theorem wd_773 : (Cond.methodLink "LiarsAnswersLaw" (41 : Nat) ({ cls := "LiarsAnswersModel", name := "left", desc := "(I)I" } : MethodName)) ∈ gt := gt_of (List.mem_of_getElem? (i := 773) (by decide +kernel)) (by decide +kernel)
theorem wd_775 : (Cond.selects "LiarsAnswersModel" ({ cls := "LiarsAnswersModel", name := "left", desc := "(I)I" } : MethodName) ({ cls := "LiarsAnswersModel", name := "left", desc := "(I)I" } : MethodName)) ∈ gt := gt_of (List.mem_of_getElem? (i := 775) (by decide +kernel)) (by decide +kernel)
theorem wd_774 : (Cond.instanceMethod ({ cls := "LiarsAnswersModel", name := "left", desc := "(I)I" } : MethodName)) ∈ gt := gt_of (List.mem_of_getElem? (i := 774) (by decide +kernel)) (by decide +kernel)
theorem c_RL_41_11 : KV RL 41 mX12_left 11 := ⟨TX12, 21, rfl, wd_773, wd_774, wd_775⟩
theorem wd_777 : (Cond.methodLink "LiarsAnswersLaw" (45 : Nat) ({ cls := "LiarsAnswersModel", name := "state", desc := "(I)I" } : MethodName)) ∈ gt := gt_of (List.mem_of_getElem? (i := 777) (by decide +kernel)) (by decide +kernel)
theorem wd_779 : (Cond.selects "LiarsAnswersModel" ({ cls := "LiarsAnswersModel", name := "state", desc := "(I)I" } : MethodName) ({ cls := "LiarsAnswersModel", name := "state", desc := "(I)I" } : MethodName)) ∈ gt := gt_of (List.mem_of_getElem? (i := 779) (by decide +kernel)) (by decide +kernel)
theorem wd_778 : (Cond.instanceMethod ({ cls := "LiarsAnswersModel", name := "state", desc := "(I)I" } : MethodName)) ∈ gt := gt_of (List.mem_of_getElem? (i := 778) (by decide +kernel)) (by decide +kernel)
theorem c_RL_45_11 : KV RL 45 mX12_state 11 := ⟨TX12, 21, rfl, wd_777, wd_778, wd_779⟩
theorem wd_781 : (Cond.methodLink "LiarsAnswersLaw" (49 : Nat) ({ cls := "LiarsAnswersModel", name := "found", desc := "()I" } : MethodName)) ∈ gt := gt_of (List.mem_of_getElem? (i := 781) (by decide +kernel)) (by decide +kernel)
theorem wd_783 : (Cond.selects "LiarsAnswersModel" ({ cls := "LiarsAnswersModel", name := "found", desc := "()I" } : MethodName) ({ cls := "LiarsAnswersModel", name := "found", desc := "()I" } : MethodName)) ∈ gt := gt_of (List.mem_of_getElem? (i := 783) (by decide +kernel)) (by decide +kernel)
theorem wd_782 : (Cond.instanceMethod ({ cls := "LiarsAnswersModel", name := "found", desc := "()I" } : MethodName)) ∈ gt := gt_of (List.mem_of_getElem? (i := 782) (by decide +kernel)) (by decide +kernel)
theorem c_RL_49_11 : KV RL 49 mX12_found 11 := ⟨TX12, 21, rfl, wd_781, wd_782, wd_783⟩
theorem wd_785 : (Cond.methodLink "LiarsAnswersModel" (120 : Nat) ({ cls := "LiarsAnswersModel", name := "many", desc := "()I" } : MethodName)) ∈ gt := gt_of (List.mem_of_getElem? (i := 785) (by decide +kernel)) (by decide +kernel)
theorem wd_22 : (Cond.selects "LiarsAnswersModel" ({ cls := "LiarsAnswersModel", name := "many", desc := "()I" } : MethodName) ({ cls := "LiarsAnswersModel", name := "many", desc := "()I" } : MethodName)) ∈ gt := gt_of (List.mem_of_getElem? (i := 22) (by decide +kernel)) (by decide +kernel)
theorem wd_787 : (Cond.instanceMethod ({ cls := "LiarsAnswersModel", name := "many", desc := "()I" } : MethodName)) ∈ gt := gt_of (List.mem_of_getElem? (i := 787) (by decide +kernel)) (by decide +kernel)
theorem c_RX12_120_11 : KV RX12 120 mX12_many 11 := ⟨TX12, 21, rfl, wd_785, wd_787, wd_22⟩
theorem wd_789 : (Cond.methodLink "LiarsAnswersLaw" (53 : Nat) ({ cls := "LiarsAnswersModel", name := "fewest", desc := "()I" } : MethodName)) ∈ gt := gt_of (List.mem_of_getElem? (i := 789) (by decide +kernel)) (by decide +kernel)
theorem wd_791 : (Cond.selects "LiarsAnswersModel" ({ cls := "LiarsAnswersModel", name := "fewest", desc := "()I" } : MethodName) ({ cls := "LiarsAnswersModel", name := "fewest", desc := "()I" } : MethodName)) ∈ gt := gt_of (List.mem_of_getElem? (i := 791) (by decide +kernel)) (by decide +kernel)
theorem wd_790 : (Cond.instanceMethod ({ cls := "LiarsAnswersModel", name := "fewest", desc := "()I" } : MethodName)) ∈ gt := gt_of (List.mem_of_getElem? (i := 790) (by decide +kernel)) (by decide +kernel)
theorem c_RL_53_11 : KV RL 53 mX12_fewest 11 := ⟨TX12, 21, rfl, wd_789, wd_790, wd_791⟩
theorem wd_793 : (Cond.methodLink "LiarsAnswersLaw" (57 : Nat) ({ cls := "LiarsAnswersModel", name := "spans", desc := "()I" } : MethodName)) ∈ gt := gt_of (List.mem_of_getElem? (i := 793) (by decide +kernel)) (by decide +kernel)
theorem wd_795 : (Cond.selects "LiarsAnswersModel" ({ cls := "LiarsAnswersModel", name := "spans", desc := "()I" } : MethodName) ({ cls := "LiarsAnswersModel", name := "spans", desc := "()I" } : MethodName)) ∈ gt := gt_of (List.mem_of_getElem? (i := 795) (by decide +kernel)) (by decide +kernel)
theorem wd_794 : (Cond.instanceMethod ({ cls := "LiarsAnswersModel", name := "spans", desc := "()I" } : MethodName)) ∈ gt := gt_of (List.mem_of_getElem? (i := 794) (by decide +kernel)) (by decide +kernel)
theorem c_RL_57_11 : KV RL 57 mX12_spans 11 := ⟨TX12, 21, rfl, wd_793, wd_794, wd_795⟩
theorem wd_797 : (Cond.methodLink "LiarsAnswersModel" (134 : Nat) ({ cls := "LiarsAnswersModel", name := "knowSpans", desc := "()V" } : MethodName)) ∈ gt := gt_of (List.mem_of_getElem? (i := 797) (by decide +kernel)) (by decide +kernel)
theorem wd_23 : (Cond.selects "LiarsAnswersModel" ({ cls := "LiarsAnswersModel", name := "knowSpans", desc := "()V" } : MethodName) ({ cls := "LiarsAnswersModel", name := "knowSpans", desc := "()V" } : MethodName)) ∈ gt := gt_of (List.mem_of_getElem? (i := 23) (by decide +kernel)) (by decide +kernel)
theorem wd_799 : (Cond.instanceMethod ({ cls := "LiarsAnswersModel", name := "knowSpans", desc := "()V" } : MethodName)) ∈ gt := gt_of (List.mem_of_getElem? (i := 799) (by decide +kernel)) (by decide +kernel)
theorem c_RX12_134_11 : KV RX12 134 mX12_knowSpans 11 := ⟨TX12, 21, rfl, wd_797, wd_799, wd_23⟩
theorem wd_801 : (Cond.methodLink "LiarsAnswersModel" (131 : Nat) ({ cls := "LiarsAnswersModel", name := "canSpan", desc := "(II)Z" } : MethodName)) ∈ gt := gt_of (List.mem_of_getElem? (i := 801) (by decide +kernel)) (by decide +kernel)
theorem wd_24 : (Cond.selects "LiarsAnswersModel" ({ cls := "LiarsAnswersModel", name := "canSpan", desc := "(II)Z" } : MethodName) ({ cls := "LiarsAnswersModel", name := "canSpan", desc := "(II)Z" } : MethodName)) ∈ gt := gt_of (List.mem_of_getElem? (i := 24) (by decide +kernel)) (by decide +kernel)
theorem wd_803 : (Cond.instanceMethod ({ cls := "LiarsAnswersModel", name := "canSpan", desc := "(II)Z" } : MethodName)) ∈ gt := gt_of (List.mem_of_getElem? (i := 803) (by decide +kernel)) (by decide +kernel)
theorem c_RX12_131_11 : KV RX12 131 mX12_canSpan 11 := ⟨TX12, 21, rfl, wd_801, wd_803, wd_24⟩
theorem wd_805 : (Cond.methodLink "LiarsAnswersModel" (124 : Nat) ({ cls := "LiarsAnswersModel", name := "spanBehind", desc := "(IIIZ)I" } : MethodName)) ∈ gt := gt_of (List.mem_of_getElem? (i := 805) (by decide +kernel)) (by decide +kernel)
theorem wd_25 : (Cond.selects "LiarsAnswersModel" ({ cls := "LiarsAnswersModel", name := "spanBehind", desc := "(IIIZ)I" } : MethodName) ({ cls := "LiarsAnswersModel", name := "spanBehind", desc := "(IIIZ)I" } : MethodName)) ∈ gt := gt_of (List.mem_of_getElem? (i := 25) (by decide +kernel)) (by decide +kernel)
theorem wd_807 : (Cond.instanceMethod ({ cls := "LiarsAnswersModel", name := "spanBehind", desc := "(IIIZ)I" } : MethodName)) ∈ gt := gt_of (List.mem_of_getElem? (i := 807) (by decide +kernel)) (by decide +kernel)
theorem c_RX12_124_11 : KV RX12 124 mX12_spanBehind 11 := ⟨TX12, 21, rfl, wd_805, wd_807, wd_25⟩
theorem wd_809 : (Cond.methodLink "LiarsAnswersLaw" (62 : Nat) ({ cls := "LiarsAnswersModel", name := "weight", desc := "(I)J" } : MethodName)) ∈ gt := gt_of (List.mem_of_getElem? (i := 809) (by decide +kernel)) (by decide +kernel)
theorem wd_811 : (Cond.selects "LiarsAnswersModel" ({ cls := "LiarsAnswersModel", name := "weight", desc := "(I)J" } : MethodName) ({ cls := "LiarsAnswersModel", name := "weight", desc := "(I)J" } : MethodName)) ∈ gt := gt_of (List.mem_of_getElem? (i := 811) (by decide +kernel)) (by decide +kernel)
theorem wd_810 : (Cond.instanceMethod ({ cls := "LiarsAnswersModel", name := "weight", desc := "(I)J" } : MethodName)) ∈ gt := gt_of (List.mem_of_getElem? (i := 810) (by decide +kernel)) (by decide +kernel)
theorem c_RL_62_11 : KV RL 62 mX12_weight 11 := ⟨TX12, 21, rfl, wd_809, wd_810, wd_811⟩
theorem wd_814 : (Cond.methodLink "LiarsAnswersModel" (139 : Nat) ({ cls := "LiarsAnswersModel", name := "choose", desc := "(II)J" } : MethodName)) ∈ gt := gt_of (List.mem_of_getElem? (i := 814) (by decide +kernel)) (by decide +kernel)
theorem wd_815 : (Cond.static ({ cls := "LiarsAnswersModel", name := "choose", desc := "(II)J" } : MethodName)) ∈ gt := gt_of (List.mem_of_getElem? (i := 815) (by decide +kernel)) (by decide +kernel)
theorem c_RX12_139 : Cond.methodLink RX12 139 mX12_choose.1 ∈ gt ∧ Cond.static mX12_choose.1 ∈ gt := ⟨wd_814, wd_815⟩
theorem wd_817 : (Cond.methodLink "LiarsAnswersLaw" (66 : Nat) ({ cls := "LiarsAnswersModel", name := "best", desc := "()I" } : MethodName)) ∈ gt := gt_of (List.mem_of_getElem? (i := 817) (by decide +kernel)) (by decide +kernel)
theorem wd_819 : (Cond.selects "LiarsAnswersModel" ({ cls := "LiarsAnswersModel", name := "best", desc := "()I" } : MethodName) ({ cls := "LiarsAnswersModel", name := "best", desc := "()I" } : MethodName)) ∈ gt := gt_of (List.mem_of_getElem? (i := 819) (by decide +kernel)) (by decide +kernel)
theorem wd_818 : (Cond.instanceMethod ({ cls := "LiarsAnswersModel", name := "best", desc := "()I" } : MethodName)) ∈ gt := gt_of (List.mem_of_getElem? (i := 818) (by decide +kernel)) (by decide +kernel)
theorem c_RL_66_11 : KV RL 66 mX12_best 11 := ⟨TX12, 21, rfl, wd_817, wd_818, wd_819⟩
theorem wd_821 : (Cond.methodLink "LiarsAnswersModel" (143 : Nat) ({ cls := "LiarsAnswersModel", name := "greater", desc := "(I)I" } : MethodName)) ∈ gt := gt_of (List.mem_of_getElem? (i := 821) (by decide +kernel)) (by decide +kernel)
theorem wd_26 : (Cond.selects "LiarsAnswersModel" ({ cls := "LiarsAnswersModel", name := "greater", desc := "(I)I" } : MethodName) ({ cls := "LiarsAnswersModel", name := "greater", desc := "(I)I" } : MethodName)) ∈ gt := gt_of (List.mem_of_getElem? (i := 26) (by decide +kernel)) (by decide +kernel)
theorem wd_823 : (Cond.instanceMethod ({ cls := "LiarsAnswersModel", name := "greater", desc := "(I)I" } : MethodName)) ∈ gt := gt_of (List.mem_of_getElem? (i := 823) (by decide +kernel)) (by decide +kernel)
theorem c_RX12_143_11 : KV RX12 143 mX12_greater 11 := ⟨TX12, 21, rfl, wd_821, wd_823, wd_26⟩
theorem wd_825 : (Cond.methodLink "LiarsAnswersLaw" (70 : Nat) ({ cls := "LiarsAnswersModel", name := "worse", desc := "()I" } : MethodName)) ∈ gt := gt_of (List.mem_of_getElem? (i := 825) (by decide +kernel)) (by decide +kernel)
theorem wd_827 : (Cond.selects "LiarsAnswersModel" ({ cls := "LiarsAnswersModel", name := "worse", desc := "()I" } : MethodName) ({ cls := "LiarsAnswersModel", name := "worse", desc := "()I" } : MethodName)) ∈ gt := gt_of (List.mem_of_getElem? (i := 827) (by decide +kernel)) (by decide +kernel)
theorem wd_826 : (Cond.instanceMethod ({ cls := "LiarsAnswersModel", name := "worse", desc := "()I" } : MethodName)) ∈ gt := gt_of (List.mem_of_getElem? (i := 826) (by decide +kernel)) (by decide +kernel)
theorem c_RL_70_11 : KV RL 70 mX12_worse 11 := ⟨TX12, 21, rfl, wd_825, wd_826, wd_827⟩
theorem wd_829 : (Cond.methodLink "LiarsAnswersLaw" (74 : Nat) ({ cls := "LiarsAnswersModel", name := "set", desc := "(I)I" } : MethodName)) ∈ gt := gt_of (List.mem_of_getElem? (i := 829) (by decide +kernel)) (by decide +kernel)
theorem wd_831 : (Cond.selects "LiarsAnswersModel" ({ cls := "LiarsAnswersModel", name := "set", desc := "(I)I" } : MethodName) ({ cls := "LiarsAnswersModel", name := "set", desc := "(I)I" } : MethodName)) ∈ gt := gt_of (List.mem_of_getElem? (i := 831) (by decide +kernel)) (by decide +kernel)
theorem wd_830 : (Cond.instanceMethod ({ cls := "LiarsAnswersModel", name := "set", desc := "(I)I" } : MethodName)) ∈ gt := gt_of (List.mem_of_getElem? (i := 830) (by decide +kernel)) (by decide +kernel)
theorem c_RL_74_11 : KV RL 74 mX12_set 11 := ⟨TX12, 21, rfl, wd_829, wd_830, wd_831⟩
theorem wd_833 : (Cond.methodLink "LiarsAnswersLaw" (78 : Nat) ({ cls := "LiarsAnswersModel", name := "drop", desc := "()I" } : MethodName)) ∈ gt := gt_of (List.mem_of_getElem? (i := 833) (by decide +kernel)) (by decide +kernel)
theorem wd_835 : (Cond.selects "LiarsAnswersModel" ({ cls := "LiarsAnswersModel", name := "drop", desc := "()I" } : MethodName) ({ cls := "LiarsAnswersModel", name := "drop", desc := "()I" } : MethodName)) ∈ gt := gt_of (List.mem_of_getElem? (i := 835) (by decide +kernel)) (by decide +kernel)
theorem wd_834 : (Cond.instanceMethod ({ cls := "LiarsAnswersModel", name := "drop", desc := "()I" } : MethodName)) ∈ gt := gt_of (List.mem_of_getElem? (i := 834) (by decide +kernel)) (by decide +kernel)
theorem c_RL_78_11 : KV RL 78 mX12_drop 11 := ⟨TX12, 21, rfl, wd_833, wd_834, wd_835⟩
theorem wd_837 : (Cond.methodLink "LiarsAnswersLaw" (82 : Nat) ({ cls := "LiarsAnswersModel", name := "word", desc := "(I)I" } : MethodName)) ∈ gt := gt_of (List.mem_of_getElem? (i := 837) (by decide +kernel)) (by decide +kernel)
theorem wd_839 : (Cond.selects "LiarsAnswersModel" ({ cls := "LiarsAnswersModel", name := "word", desc := "(I)I" } : MethodName) ({ cls := "LiarsAnswersModel", name := "word", desc := "(I)I" } : MethodName)) ∈ gt := gt_of (List.mem_of_getElem? (i := 839) (by decide +kernel)) (by decide +kernel)
theorem wd_838 : (Cond.instanceMethod ({ cls := "LiarsAnswersModel", name := "word", desc := "(I)I" } : MethodName)) ∈ gt := gt_of (List.mem_of_getElem? (i := 838) (by decide +kernel)) (by decide +kernel)
theorem c_RL_82_11 : KV RL 82 mX12_word 11 := ⟨TX12, 21, rfl, wd_837, wd_838, wd_839⟩
theorem wd_841 : (Cond.methodLink "LiarsAnswersModel" (149 : Nat) ({ cls := "LiarsAnswersModel", name := "isNumber", desc := "(I)Z" } : MethodName)) ∈ gt := gt_of (List.mem_of_getElem? (i := 841) (by decide +kernel)) (by decide +kernel)
theorem wd_842 : (Cond.static ({ cls := "LiarsAnswersModel", name := "isNumber", desc := "(I)Z" } : MethodName)) ∈ gt := gt_of (List.mem_of_getElem? (i := 842) (by decide +kernel)) (by decide +kernel)
theorem c_RX12_149 : Cond.methodLink RX12 149 mX12_isNumber.1 ∈ gt ∧ Cond.static mX12_isNumber.1 ∈ gt := ⟨wd_841, wd_842⟩
theorem wd_844 : (Cond.methodLink "LiarsAnswersModel" (153 : Nat) ({ cls := "LiarsAnswersModel", name := "wordOf", desc := "(I)I" } : MethodName)) ∈ gt := gt_of (List.mem_of_getElem? (i := 844) (by decide +kernel)) (by decide +kernel)
theorem wd_27 : (Cond.selects "LiarsAnswersModel" ({ cls := "LiarsAnswersModel", name := "wordOf", desc := "(I)I" } : MethodName) ({ cls := "LiarsAnswersModel", name := "wordOf", desc := "(I)I" } : MethodName)) ∈ gt := gt_of (List.mem_of_getElem? (i := 27) (by decide +kernel)) (by decide +kernel)
theorem wd_846 : (Cond.instanceMethod ({ cls := "LiarsAnswersModel", name := "wordOf", desc := "(I)I" } : MethodName)) ∈ gt := gt_of (List.mem_of_getElem? (i := 846) (by decide +kernel)) (by decide +kernel)
theorem c_RX12_153_11 : KV RX12 153 mX12_wordOf 11 := ⟨TX12, 21, rfl, wd_844, wd_846, wd_27⟩
theorem wd_848 : (Cond.methodLink "LiarsAnswersLaw" (87 : Nat) ({ cls := "LiarsAnswersModel", name := "apart", desc := "(II)I" } : MethodName)) ∈ gt := gt_of (List.mem_of_getElem? (i := 848) (by decide +kernel)) (by decide +kernel)
theorem wd_850 : (Cond.selects "LiarsAnswersModel" ({ cls := "LiarsAnswersModel", name := "apart", desc := "(II)I" } : MethodName) ({ cls := "LiarsAnswersModel", name := "apart", desc := "(II)I" } : MethodName)) ∈ gt := gt_of (List.mem_of_getElem? (i := 850) (by decide +kernel)) (by decide +kernel)
theorem wd_849 : (Cond.instanceMethod ({ cls := "LiarsAnswersModel", name := "apart", desc := "(II)I" } : MethodName)) ∈ gt := gt_of (List.mem_of_getElem? (i := 849) (by decide +kernel)) (by decide +kernel)
theorem c_RL_87_11 : KV RL 87 mX12_apart 11 := ⟨TX12, 21, rfl, wd_848, wd_849, wd_850⟩
theorem wd_852 : (Cond.methodLink "LiarsAnswersModel" (156 : Nat) ({ cls := "LiarsAnswersModel", name := "ones", desc := "(I)I" } : MethodName)) ∈ gt := gt_of (List.mem_of_getElem? (i := 852) (by decide +kernel)) (by decide +kernel)
theorem wd_853 : (Cond.static ({ cls := "LiarsAnswersModel", name := "ones", desc := "(I)I" } : MethodName)) ∈ gt := gt_of (List.mem_of_getElem? (i := 853) (by decide +kernel)) (by decide +kernel)
theorem c_RX12_156 : Cond.methodLink RX12 156 mX12_ones.1 ∈ gt ∧ Cond.static mX12_ones.1 ∈ gt := ⟨wd_852, wd_853⟩
theorem wd_855 : (Cond.methodLink "LiarsAnswersLaw" (91 : Nat) ({ cls := "LiarsAnswersModel", name := "serves", desc := "(II)I" } : MethodName)) ∈ gt := gt_of (List.mem_of_getElem? (i := 855) (by decide +kernel)) (by decide +kernel)
theorem wd_857 : (Cond.selects "LiarsAnswersModel" ({ cls := "LiarsAnswersModel", name := "serves", desc := "(II)I" } : MethodName) ({ cls := "LiarsAnswersModel", name := "serves", desc := "(II)I" } : MethodName)) ∈ gt := gt_of (List.mem_of_getElem? (i := 857) (by decide +kernel)) (by decide +kernel)
theorem wd_856 : (Cond.instanceMethod ({ cls := "LiarsAnswersModel", name := "serves", desc := "(II)I" } : MethodName)) ∈ gt := gt_of (List.mem_of_getElem? (i := 856) (by decide +kernel)) (by decide +kernel)
theorem c_RL_91_11 : KV RL 91 mX12_serves 11 := ⟨TX12, 21, rfl, wd_855, wd_856, wd_857⟩
theorem wd_859 : (Cond.methodLink "LiarsAnswersLaw" (95 : Nat) ({ cls := "LiarsAnswersModel", name := "read", desc := "(III)I" } : MethodName)) ∈ gt := gt_of (List.mem_of_getElem? (i := 859) (by decide +kernel)) (by decide +kernel)
theorem wd_861 : (Cond.selects "LiarsAnswersModel" ({ cls := "LiarsAnswersModel", name := "read", desc := "(III)I" } : MethodName) ({ cls := "LiarsAnswersModel", name := "read", desc := "(III)I" } : MethodName)) ∈ gt := gt_of (List.mem_of_getElem? (i := 861) (by decide +kernel)) (by decide +kernel)
theorem wd_860 : (Cond.instanceMethod ({ cls := "LiarsAnswersModel", name := "read", desc := "(III)I" } : MethodName)) ∈ gt := gt_of (List.mem_of_getElem? (i := 860) (by decide +kernel)) (by decide +kernel)
theorem c_RL_95_11 : KV RL 95 mX12_read 11 := ⟨TX12, 21, rfl, wd_859, wd_860, wd_861⟩
theorem wd_863 : (Cond.methodLink "LiarsAnswersModel" (159 : Nat) ({ cls := "LiarsAnswersModel", name := "isWord", desc := "(I)Z" } : MethodName)) ∈ gt := gt_of (List.mem_of_getElem? (i := 863) (by decide +kernel)) (by decide +kernel)
theorem wd_28 : (Cond.selects "LiarsAnswersModel" ({ cls := "LiarsAnswersModel", name := "isWord", desc := "(I)Z" } : MethodName) ({ cls := "LiarsAnswersModel", name := "isWord", desc := "(I)Z" } : MethodName)) ∈ gt := gt_of (List.mem_of_getElem? (i := 28) (by decide +kernel)) (by decide +kernel)
theorem wd_865 : (Cond.instanceMethod ({ cls := "LiarsAnswersModel", name := "isWord", desc := "(I)Z" } : MethodName)) ∈ gt := gt_of (List.mem_of_getElem? (i := 865) (by decide +kernel)) (by decide +kernel)
theorem c_RX12_159_11 : KV RX12 159 mX12_isWord 11 := ⟨TX12, 21, rfl, wd_863, wd_865, wd_28⟩
theorem wd_867 : (Cond.methodLink "LiarsAnswersLaw" (99 : Nat) ({ cls := "LiarsAnswersModel", name := "play", desc := "(I)I" } : MethodName)) ∈ gt := gt_of (List.mem_of_getElem? (i := 867) (by decide +kernel)) (by decide +kernel)
theorem wd_869 : (Cond.selects "LiarsAnswersModel" ({ cls := "LiarsAnswersModel", name := "play", desc := "(I)I" } : MethodName) ({ cls := "LiarsAnswersModel", name := "play", desc := "(I)I" } : MethodName)) ∈ gt := gt_of (List.mem_of_getElem? (i := 869) (by decide +kernel)) (by decide +kernel)
theorem wd_868 : (Cond.instanceMethod ({ cls := "LiarsAnswersModel", name := "play", desc := "(I)I" } : MethodName)) ∈ gt := gt_of (List.mem_of_getElem? (i := 868) (by decide +kernel)) (by decide +kernel)
theorem c_RL_99_11 : KV RL 99 mX12_play 11 := ⟨TX12, 21, rfl, wd_867, wd_868, wd_869⟩
theorem wd_871 : (Cond.methodLink "LiarsAnswersModel" (162 : Nat) ({ cls := "LiarsAnswersModel", name := "answer", desc := "(Z)I" } : MethodName)) ∈ gt := gt_of (List.mem_of_getElem? (i := 871) (by decide +kernel)) (by decide +kernel)
theorem c_RX12_162_11 : KV RX12 162 mX12_answer 11 := ⟨TX12, 21, rfl, wd_871, wd_762, wd_763⟩
theorem wd_872 : (Cond.methodLink "LiarsAnswersLaw" (103 : Nat) ({ cls := "LiarsAnswersModel", name := "told", desc := "(I)I" } : MethodName)) ∈ gt := gt_of (List.mem_of_getElem? (i := 872) (by decide +kernel)) (by decide +kernel)
theorem wd_874 : (Cond.selects "LiarsAnswersModel" ({ cls := "LiarsAnswersModel", name := "told", desc := "(I)I" } : MethodName) ({ cls := "LiarsAnswersModel", name := "told", desc := "(I)I" } : MethodName)) ∈ gt := gt_of (List.mem_of_getElem? (i := 874) (by decide +kernel)) (by decide +kernel)
theorem wd_873 : (Cond.instanceMethod ({ cls := "LiarsAnswersModel", name := "told", desc := "(I)I" } : MethodName)) ∈ gt := gt_of (List.mem_of_getElem? (i := 873) (by decide +kernel)) (by decide +kernel)
theorem c_RL_103_11 : KV RL 103 mX12_told 11 := ⟨TX12, 21, rfl, wd_872, wd_873, wd_874⟩
theorem wd_876 : (Cond.methodLink "LiarsAnswersLaw" (108 : Nat) ({ cls := "LiarsAnswersModel", name := "trace", desc := "()J" } : MethodName)) ∈ gt := gt_of (List.mem_of_getElem? (i := 876) (by decide +kernel)) (by decide +kernel)
theorem wd_878 : (Cond.selects "LiarsAnswersModel" ({ cls := "LiarsAnswersModel", name := "trace", desc := "()J" } : MethodName) ({ cls := "LiarsAnswersModel", name := "trace", desc := "()J" } : MethodName)) ∈ gt := gt_of (List.mem_of_getElem? (i := 878) (by decide +kernel)) (by decide +kernel)
theorem wd_877 : (Cond.instanceMethod ({ cls := "LiarsAnswersModel", name := "trace", desc := "()J" } : MethodName)) ∈ gt := gt_of (List.mem_of_getElem? (i := 877) (by decide +kernel)) (by decide +kernel)
theorem c_RL_108_11 : KV RL 108 mX12_trace 11 := ⟨TX12, 21, rfl, wd_876, wd_877, wd_878⟩
theorem wn_54 : (Cond.arrayOver (FieldType.object "LiarsAnswers$Liar")) ∈ lw_tbl := List.mem_of_getElem? (i := 54) (by decide +kernel)
theorem wn_90 : (Cond.arrayOver (FieldType.object "LiarsAnswers$HeapTable")) ∈ lw_tbl := List.mem_of_getElem? (i := 90) (by decide +kernel)
theorem wn_92 : (Cond.arrayOver (FieldType.object "LiarsAnswers$SpanTable")) ∈ lw_tbl := List.mem_of_getElem? (i := 92) (by decide +kernel)
theorem wd_134 : (Cond.arrayClass FieldType.int) ∈ gt := gt_of (List.mem_of_getElem? (i := 134) (by decide +kernel)) (by decide +kernel)
theorem wd_201 : (Cond.constantLong "LiarsAnswers$BothLiar" (15 : Nat) (10 : Int64)) ∈ gt := gt_of (List.mem_of_getElem? (i := 201) (by decide +kernel)) (by decide +kernel)
theorem wd_206 : (Cond.constantLong "LiarsAnswers$YesLiar" (15 : Nat) (100 : Int64)) ∈ gt := gt_of (List.mem_of_getElem? (i := 206) (by decide +kernel)) (by decide +kernel)
theorem wd_391 : (Cond.constant "LiarsAnswers" (217 : Nat) (65535 : Int32)) ∈ gt := gt_of (List.mem_of_getElem? (i := 391) (by decide +kernel)) (by decide +kernel)
theorem wd_526 : (Cond.constantLong "LiarsAnswers" (160 : Nat) (-1 : Int64)) ∈ gt := gt_of (List.mem_of_getElem? (i := 526) (by decide +kernel)) (by decide +kernel)
theorem wd_548 : (Cond.constant "LiarsAnswers$LeastHeap" (26 : Nat) (65535 : Int32)) ∈ gt := gt_of (List.mem_of_getElem? (i := 548) (by decide +kernel)) (by decide +kernel)
theorem wd_593 : (Cond.constant "java/lang/Integer" (265 : Nat) (1431655765 : Int32)) ∈ gt := gt_of (List.mem_of_getElem? (i := 593) (by decide +kernel)) (by decide +kernel)
theorem wd_594 : (Cond.constant "java/lang/Integer" (266 : Nat) (858993459 : Int32)) ∈ gt := gt_of (List.mem_of_getElem? (i := 594) (by decide +kernel)) (by decide +kernel)
theorem wd_595 : (Cond.constant "java/lang/Integer" (267 : Nat) (252645135 : Int32)) ∈ gt := gt_of (List.mem_of_getElem? (i := 595) (by decide +kernel)) (by decide +kernel)
theorem wd_644 : (Cond.constant "LiarsAnswersModel" (23 : Nat) (250563 : Int32)) ∈ gt := gt_of (List.mem_of_getElem? (i := 644) (by decide +kernel)) (by decide +kernel)
theorem wd_709 : (Cond.arrayClass FieldType.byte) ∈ gt := gt_of (List.mem_of_getElem? (i := 709) (by decide +kernel)) (by decide +kernel)
theorem wd_717 : (Cond.constantLong "LiarsAnswersModel" (61 : Nat) (11 : Int64)) ∈ gt := gt_of (List.mem_of_getElem? (i := 717) (by decide +kernel)) (by decide +kernel)
theorem wd_718 : (Cond.constantLong "LiarsAnswersModel" (63 : Nat) (111 : Int64)) ∈ gt := gt_of (List.mem_of_getElem? (i := 718) (by decide +kernel)) (by decide +kernel)
theorem wd_730 : (Cond.constant "LiarsAnswersModel" (76 : Nat) (83521 : Int32)) ∈ gt := gt_of (List.mem_of_getElem? (i := 730) (by decide +kernel)) (by decide +kernel)
theorem wd_760 : (Cond.constant "LiarsAnswersModel" (112 : Nat) (65535 : Int32)) ∈ gt := gt_of (List.mem_of_getElem? (i := 760) (by decide +kernel)) (by decide +kernel)
theorem wd_813 : (Cond.constantLong "LiarsAnswersModel" (137 : Nat) (-1 : Int64)) ∈ gt := gt_of (List.mem_of_getElem? (i := 813) (by decide +kernel)) (by decide +kernel)
theorem wn_882 : (Cond.castable "LiarsAnswers$BothLiar" "LiarsAnswers$Liar") ∈ lw_tbl := List.mem_of_getElem? (i := 882) (by decide +kernel)
theorem wn_883 : (Cond.castable "LiarsAnswers$YesLiar" "LiarsAnswers$Liar") ∈ lw_tbl := List.mem_of_getElem? (i := 883) (by decide +kernel)
theorem wd_221 : (Cond.static ({ cls := "java/lang/Math", name := "max", desc := "(II)I" } : MethodName)) ∈ gt := gt_of (List.mem_of_getElem? (i := 221) (by decide +kernel)) (by decide +kernel)
theorem ks_max : Cond.static Lib.Math.max.name ∈ gt ∧ Cond.initialized "java/lang/Math" ∈ gt ∧ Cond.code Lib.Math.max.name Lib.Math.max.code 2 (some .int) ∈ gt := ⟨wd_221, wd_38, wd_222⟩
theorem wd_218 : (Cond.static ({ cls := "java/lang/Math", name := "min", desc := "(II)I" } : MethodName)) ∈ gt := gt_of (List.mem_of_getElem? (i := 218) (by decide +kernel)) (by decide +kernel)
theorem ks_min : Cond.static Lib.Math.min.name ∈ gt ∧ Cond.initialized "java/lang/Math" ∈ gt ∧ Cond.code Lib.Math.min.name Lib.Math.min.code 2 (some .int) ∈ gt := ⟨wd_218, wd_38, wd_219⟩
theorem wd_51 : (Cond.instanceMethod ({ cls := "java/lang/Object", name := "<init>", desc := "()V" } : MethodName)) ∈ gt := gt_of (List.mem_of_getElem? (i := 51) (by decide +kernel)) (by decide +kernel)
theorem wd_52 : (Cond.code ({ cls := "java/lang/Object", name := "<init>", desc := "()V" } : MethodName) object_method_1_code (1 : Nat) (Option.none : Option FieldType)) ∈ gt := gt_of (List.mem_of_getElem? (i := 52) (by decide +kernel)) (by decide +kernel)
theorem ks_obj : Cond.instanceMethod Lib.objectInit ∈ gt ∧ Cond.code Lib.objectInit ⟨#[0xb1]⟩ 1 none ∈ gt := ⟨wd_51, wd_52⟩
end
section
theorem wd_591 : (Cond.static ({ cls := "java/lang/Integer", name := "bitCount", desc := "(I)I" } : MethodName)) ∈ gt := gt_of (List.mem_of_getElem? (i := 591) (by decide +kernel)) (by decide +kernel)
theorem c_RX11_194 : Cond.methodLink RX11 194 mJ6_bitCount_0f7a4.1 ∈ gt ∧ Cond.static mJ6_bitCount_0f7a4.1 ∈ gt := ⟨wd_590, wd_591⟩
theorem c_RX2_26 : Cond.methodLink RX2 26 mJ6_bitCount_0f7a4.1 ∈ gt ∧ Cond.static mJ6_bitCount_0f7a4.1 ∈ gt := ⟨wd_605, wd_591⟩
end
section
/-! numbers: bits, division; rows for arrays by natural places; the objects -/
theorem sUp_sUp (σ : St) (a : Nat) (e e' : va_E) : sUp (sUp σ a e) a e' = sUp σ a e' := by
  unfold sUp
  congr 1
  funext x
  by_cases h : x = a <;> simp [h]
theorem sUp_comm (σ : St) {a b : Nat} (e e' : va_E) (h : a ≠ b) : sUp (sUp σ a e) b e' = sUp (sUp σ b e') a e := by
  unfold sUp
  congr 1
  funext x
  by_cases h1 : x = a
  · subst h1; simp [h]
  · by_cases h2 : x = b <;> simp [h1, h2, Ne.symm h]
theorem sUp_id {σ : St} {a : Nat} {e : va_E} (h : σ.2 a = some e) : sUp σ a e = σ := by
  unfold sUp
  refine Prod.ext rfl ?_
  funext x
  by_cases h1 : x = a
  · subst h1; simp [h]
  · simp [h1]
theorem nZ (n : Nat) : iZ (n : Int) = nI n := by
  apply Int32.toBitVec_inj.mp
  simp [iZ, nI]
theorem andZ (a b : Nat) : iZ (a : Int) &&& iZ (b : Int) = iZ ((a &&& b : Nat) : Int) := by
  rw [nZ, nZ, nZ]
  apply Int32.toBitVec_inj.mp
  simp [nI]
theorem orZ (a b : Nat) : iZ (a : Int) ||| iZ (b : Int) = iZ ((a ||| b : Nat) : Int) := by
  rw [nZ, nZ, nZ]
  apply Int32.toBitVec_inj.mp
  simp [nI]
theorem xorZ (a b : Nat) : iZ (a : Int) ^^^ iZ (b : Int) = iZ ((a ^^^ b : Nat) : Int) := by
  rw [nZ, nZ, nZ]
  apply Int32.toBitVec_inj.mp
  simp [nI]
theorem amt {i : Nat} (hi : i < 32) : iZ (i : Int) &&& 31 = nI i ∧ ((nI i).toBitVec.smod 32).toNat = i := by
  have h : ∀ j : Nat, j < 32 → iZ (j : Int) &&& 31 = nI j ∧ ((nI j).toBitVec.smod 32).toNat = j := by decide +kernel
  exact h i hi
theorem shrZ {a i : Nat} (ha : a < 2 ^ 31) (hi : i < 32) : iZ (a : Int) >>> (iZ (i : Int) &&& 31) = iZ ((a / 2 ^ i : Nat) : Int) := by
  rw [(amt hi).1, nZ, nZ]
  exact pk_shrN ha _ i (amt hi).2
theorem shlZ {a i : Nat} (ha : a * 2 ^ i < 2 ^ 32) (hi : i < 32) : iZ (a : Int) <<< (iZ (i : Int) &&& 31) = iZ ((a * 2 ^ i : Nat) : Int) := by
  rw [(amt hi).1, nZ, nZ]
  exact pk_shlN _ i (amt hi).2 ha
theorem divZ {a d : Nat} (ha : a < 2 ^ 31) (h0 : 0 < d) (hd : d < 2 ^ 31) : iZ (a : Int) / iZ (d : Int) = iZ ((a / d : Nat) : Int) := by
  rw [nZ, nZ, nZ]; exact pk_div ha h0 hd
theorem remZ {a d : Nat} (ha : a < 2 ^ 31) (h0 : 0 < d) (hd : d < 2 ^ 31) : iZ (a : Int) - iZ (a : Int) / iZ (d : Int) * iZ (d : Int) = iZ ((a % d : Nat) : Int) := by
  rw [nZ, nZ, nZ]; exact pk_rem ha h0 hd
theorem neZ {d : Nat} (h0 : 0 < d) (hd : d < 2 ^ 31) : ¬ iZ (d : Int) = 0 := by
  rw [nZ]; exact nI_ne0 h0 hd
/-- bit i of h, as a number -/
def bt (h i : Nat) : Nat := h / 2 ^ i % 2
theorem bt_lt (h i : Nat) : bt h i < 2 := Nat.mod_lt _ (by decide)
theorem and1Z (a : Nat) : iZ (a : Int) &&& iZ 1 = iZ ((a % 2 : Nat) : Int) := by
  have := andZ a 1
  rw [Nat.and_one_is_mod] at this
  exact this
section VNAT
variable {κ : Kx} {k : Cx} {cc : ByteArray} {nL : Nat} {own : String} {ret : Option FieldType} {nm : String} {h MC MS : Nat} {cs ss : Nat} {Q : State → Prop} {pc : Nat} {lv lv' : List (Option Value)} {st : List Value} {σ : St}
theorem r_ialdN (S : Ok κ k cc nL own ret nm h MC MS) {a n : Nat} {f : Nat → Int} {z : Int} (i : Nat) (d : decode cc pc = .ok (.iaload, 1)) (hσ : σ.2 a = some (eI k n f)) (hz : z = (i : Int)) (hi : i < n) (hn : n ≤ 2147483647) (kk : V κ k nL cs ss Q (pc + 1) lv (.int (iZ (f i)) :: st) σ) : V κ k nL cs ss Q pc lv (.int (iZ z) :: .ref a :: st) σ := by
  subst hz
  exact r_iald S d hσ ⟨by omega, by omega⟩ hn (by rw [Int.toNat_natCast]; exact kk)
theorem r_baldN (S : Ok κ k cc nL own ret nm h MC MS) {a n : Nat} {f : Nat → Int} {z : Int} (i : Nat) (d : decode cc pc = .ok (.baload, 1)) (hσ : σ.2 a = some (eB k n f)) (hz : z = (i : Int)) (hi : i < n) (hn : n ≤ 2147483647) (kk : V κ k nL cs ss Q (pc + 1) lv (.int (iZ (f i)) :: st) σ) : V κ k nL cs ss Q pc lv (.int (iZ z) :: .ref a :: st) σ := by
  subst hz
  exact r_bald S d hσ ⟨by omega, by omega⟩ hn (by rw [Int.toNat_natCast]; exact kk)
theorem r_iastN (S : Ok κ k cc nL own ret nm h MC MS) {a n : Nat} {f : Nat → Int} {z x : Int} (i : Nat) (d : decode cc pc = .ok (.iastore, 1)) (hσ : σ.2 a = some (eI k n f)) (hz : z = (i : Int)) (hi : i < n) (hn : n ≤ 2147483647) (kk : V κ k nL cs ss Q (pc + 1) lv st (sUp σ a (eI k n (uZ f i x)))) : V κ k nL cs ss Q pc lv (.int (iZ x) :: .int (iZ z) :: .ref a :: st) σ := by
  subst hz
  exact r_iast S d hσ ⟨by omega, by omega⟩ hn (by rw [Int.toNat_natCast]; exact kk)
theorem r_bastN (S : Ok κ k cc nL own ret nm h MC MS) {a n : Nat} {f : Nat → Int} {z x : Int} (i : Nat) (d : decode cc pc = .ok (.bastore, 1)) (hσ : σ.2 a = some (eB k n f)) (hz : z = (i : Int)) (hi : i < n) (hn : n ≤ 2147483647) (hx1 : narrow .byte (.int (iZ x)) = .int (iZ x)) (kk : V κ k nL cs ss Q (pc + 1) lv st (sUp σ a (eB k n (uZ f i x)))) : V κ k nL cs ss Q pc lv (.int (iZ x) :: .int (iZ z) :: .ref a :: st) σ := by
  subst hz
  exact r_bast S d hσ ⟨by omega, by omega⟩ hn hx1 (by rw [Int.toNat_natCast]; exact kk)
theorem r_paldN (S : Ok κ k cc nL own ret nm h MC MS) {z : Int} (i : Nat) (d : decode cc pc = .ok (.iaload, 1)) (hz : z = (i : Int)) (hi : i < 68) (kk : V κ k nL cs ss Q (pc + 1) lv (.int (iZ (plF i)) :: st) σ) : V κ k nL cs ss Q pc lv (.int (iZ z) :: .ref (cPl k) :: st) σ := by
  subst hz
  exact r_pald S d ⟨by omega, by omega⟩ (by rw [Int.toNat_natCast]; exact kk)
theorem r_aaldN (S : Ok κ k cc nL own ret nm h MC MS) {a n t0 : Nat} {cA : ClassId} {C : String} {f : Nat → Option Nat} {z : Int} {v : Value} (i : Nat) (ht : (cTys k)[t0]? = some (cA, .object C)) (d : decode cc pc = .ok (.aaload, 1)) (hσ : σ.2 a = some (eQ cA n f)) (hz : z = (i : Int)) (hi : i < n) (hn : n ≤ 2147483647) (hv : va_rf (f i) = v) (kk : V κ k nL cs ss Q (pc + 1) lv (v :: st) σ) : V κ k nL cs ss Q pc lv (.int (iZ z) :: .ref a :: st) σ := by
  subst hz
  exact r_aald S ht d hσ ⟨by omega, by omega⟩ hn (by rw [Int.toNat_natCast]; exact hv) kk
/-- the number on the stack, written otherwise -/
theorem r_num {z z' : Int} (e : z = z') (kk : V κ k nL cs ss Q pc lv (.int (iZ z') :: st) σ) : V κ k nL cs ss Q pc lv (.int (iZ z) :: st) σ := by rw [e]; exact kk
end VNAT
/-- the objects: their fields in the order of the slots -/
abbrev oX (k : Cx) (tb : Int) : va_E := .inr (10, [.ref (cBase k + 1), .ref (cBase k + 5), .ref (cBase k + 6), .ref (cBase k + 7), .ref (cBase k + 8), .ref (cBase k + 9), .ref (cBase k + 11), .int (iZ tb)])
abbrev oTally (z : Int) : va_E := .inr (8, [.long (lZ z)])
abbrev oGame (k : Cx) (on kd n e an wt yp np : Int) : va_E := .inr (3, [.int (iZ on), .int (iZ kd), .int (iZ n), .int (iZ e), .int (iZ an), .int (iZ wt), .int (iZ yp), .int (iZ np), .ref (cBase k + 10)])
abbrev oCode (k : Cx) (sz : Int) : va_E := .inr (2, [.ref (cBase k + 12), .ref (cBase k + 13), .int (iZ sz)])
abbrev oModel (k : Cx) (hg kd n e an wt tb q tr sk sm : Int) : va_E := .inr (11, [.int (iZ hg), .int (iZ kd), .int (iZ n), .int (iZ e), .int (iZ an), .int (iZ wt), .ref (cBase k + 15), .ref (cBase k + 16), .int (iZ tb), .int (iZ q), .ref (cBase k + 17), .long (lZ tr), .ref (cBase k + 18), .int (iZ sk), .int (iZ sm), .ref (cBase k + 19), .ref (cBase k + 20), .ref (cBase k + 21), .ref (cBase k + 22), .ref (cBase k + 23), .ref (cBase k + 24)])
/-- how many of 0 .. n - 1 -/
def cnt (p : Nat → Bool) : Nat → Nat
  | 0 => 0
  | n + 1 => cnt p n + (if p n then 1 else 0)
theorem cnt_le (p : Nat → Bool) : ∀ n, cnt p n ≤ n
  | 0 => Nat.le_refl 0
  | n + 1 => by
    have := cnt_le p n
    rw [cnt]
    split <;> omega
theorem cnt_succ (p : Nat → Bool) (n : Nat) : cnt p (n + 1) = cnt p n + (if p n then 1 else 0) := rfl
theorem cnt_congr {p q : Nat → Bool} : ∀ {n : Nat}, (∀ i, i < n → p i = q i) → cnt p n = cnt q n
  | 0, _ => rfl
  | n + 1, h => by rw [cnt, cnt, cnt_congr (fun i hi => h i (by omega)), h n (by omega)]
theorem cnt_t {p : Nat → Bool} {i : Nat} (h : p i = true) : cnt p (i + 1) = cnt p i + 1 := by rw [cnt_succ, if_pos h]
theorem cnt_f {p : Nat → Bool} {i : Nat} (h : p i = false) : cnt p (i + 1) = cnt p i := by rw [cnt_succ, h]; rfl
/-- the price of an answer y for a NUMBER that is in the heap (b = 1) or not -/
def prc (yp np : Int) (b y : Nat) : Int := if b = y then 0 else if y = 1 then yp else np
/-- LEFT behind an answer -/
def newL (f : Nat → Int) (r : Nat) (yp np : Int) (heap y i : Nat) : Int := max (-1) (f (r + i) - prc yp np (bt heap i) y)
def layF (f : Nat → Int) (an : Nat) (yp np : Int) (heap y n : Nat) : Nat → Int := fun j => if an * 16 + 16 ≤ j ∧ j < an * 16 + 16 + n then newL f (an * 16) yp np heap y (j - (an * 16 + 16)) else f j
theorem layF_low {f : Nat → Int} {an : Nat} {yp np : Int} {heap y n j : Nat} (h : j < an * 16 + 16) : layF f an yp np heap y n j = f j := if_neg (by omega)
theorem layF_in {f : Nat → Int} {an : Nat} {yp np : Int} {heap y n i : Nat} (h : i < n) : layF f an yp np heap y n (an * 16 + 16 + i) = newL f (an * 16) yp np heap y i := by
  unfold layF
  rw [if_pos (by omega), show an * 16 + 16 + i - (an * 16 + 16) = i by omega]
theorem layF_0 (f : Nat → Int) (an : Nat) (yp np : Int) (heap y : Nat) : layF f an yp np heap y 0 = f := by
  funext j
  exact if_neg (by omega)
theorem layF_succ (f : Nat → Int) (an : Nat) (yp np : Int) (heap y i : Nat) : uZ (layF f an yp np heap y i) (an * 16 + 16 + i) (newL f (an * 16) yp np heap y i) = layF f an yp np heap y (i + 1) := by
  funext j
  unfold uZ layF
  by_cases h : j = an * 16 + 16 + i
  · subst h
    rw [if_pos rfl, if_pos (by omega), show an * 16 + 16 + i - (an * 16 + 16) = i by omega]
  · rw [if_neg h]
    by_cases h2 : an * 16 + 16 ≤ j ∧ j < an * 16 + 16 + i
    · rw [if_pos h2, if_pos (by omega)]
    · rw [if_neg h2, if_neg (by omega)]
theorem newL_rng {f : Nat → Int} (hf : ∀ j, -1 ≤ f j ∧ f j ≤ 3) {r : Nat} {yp np : Int} (hy : 0 ≤ yp ∧ yp ≤ 9) (hn : 0 ≤ np ∧ np ≤ 9) (heap y i : Nat) : -1 ≤ newL f r yp np heap y i ∧ newL f r yp np heap y i ≤ 3 := by
  have h := hf (r + i)
  unfold newL prc
  split
  · omega
  · split <;> omega
theorem layF_rng {f : Nat → Int} (hf : ∀ j, -1 ≤ f j ∧ f j ≤ 3) {an : Nat} {yp np : Int} (hy : 0 ≤ yp ∧ yp ≤ 9) (hn : 0 ≤ np ∧ np ≤ 9) (heap y n : Nat) : ∀ j, -1 ≤ layF f an yp np heap y n j ∧ layF f an yp np heap y n j ≤ 3 := by
  intro j
  unfold layF
  split
  · exact newL_rng hf hy hn _ _ _
  · exact hf j
def fillF (f : Nat → Int) (x : Int) (n : Nat) : Nat → Int := fun j => if j < n then x else f j
theorem fillF_0 (f : Nat → Int) (x : Int) : fillF f x 0 = f := by funext j; exact if_neg (by omega)
theorem fillF_succ (f : Nat → Int) (x : Int) (i : Nat) : uZ (fillF f x i) i x = fillF f x (i + 1) := by
  funext j
  unfold uZ fillF
  by_cases h : j = i
  · subst h; rw [if_pos rfl, if_pos (by omega)]
  · rw [if_neg h]
    by_cases h2 : j < i
    · rw [if_pos h2, if_pos (by omega)]
    · rw [if_neg h2, if_neg (by omega)]
/-- forgetting locals: those with false -/
def mask : List Bool → List (Option Value) → List (Option Value)
  | true :: m, x :: r => x :: mask m r
  | false :: m, _ :: r => none :: mask m r
  | _, _ => []
theorem subL_mask : ∀ (m : List Bool) (lv : List (Option Value)), subL (mask m lv) lv := by
  intro m
  induction m with
  | nil => intro lv; simp [mask, subL]
  | cons b m ih =>
    intro lv
    cases lv with
    | nil => cases b <;> simp [mask, subL]
    | cons x r =>
      cases b with
      | false => simp only [mask, subL]; exact ih r
      | true =>
        cases x with
        | none => simp only [mask, subL]; exact ih r
        | some v => simp only [mask, subL]; exact ⟨trivial, ih r⟩
theorem V.mask {κ : Kx} {k : Cx} {nL cs ss pc : Nat} {Q : State → Prop} {lv lv' : List (Option Value)} {st : List Value} {σ : St} (m : List Bool) (hm : mask m lv = lv') (kk : V κ k nL cs ss Q pc lv' st σ) : V κ k nL cs ss Q pc lv st σ := by
  subst hm
  exact V.less (subL_mask m lv) kk
def uN (f : Nat → Nat) (i x : Nat) : Nat → Nat := fun j => if j = i then x else f j
theorem uZ_uN (f : Nat → Nat) (i x : Nat) : uZ (fun j => (f j : Int)) i (x : Int) = fun j => (uN f i x j : Int) := by
  funext j
  unfold uZ uN
  by_cases h : j = i <;> simp [h]
theorem r_cast {κ : Kx} {k : Cx} {nL cs ss pc : Nat} {Q : State → Prop} {lv : List (Option Value)} {st : List Value} {σ : St} {x y : Int32} (e : x = y) (kk : V κ k nL cs ss Q pc lv (.int y :: st) σ) : V κ k nL cs ss Q pc lv (.int x :: st) σ := by rw [e]; exact kk
/-- the word of NUMBER i: bit j tells whether question j has it -/
def wd (qs : Nat → Nat) : Nat → Nat → Nat
  | 0, _ => 0
  | q + 1, i => wd qs q i + bt (qs q) i * 2 ^ q
theorem wd_lt (qs : Nat → Nat) : ∀ q i, wd qs q i < 2 ^ q
  | 0, _ => Nat.zero_lt_one
  | q + 1, i => by
    have h := wd_lt qs q i
    have hb := bt_lt (qs q) i
    rw [wd, Nat.pow_succ]
    rcases (show bt (qs q) i = 0 ∨ bt (qs q) i = 1 by omega) with e | e <;> rw [e] <;> omega
theorem wd_congr {f g : Nat → Nat} : ∀ {q : Nat}, (∀ j, j < q → f j = g j) → ∀ i, wd f q i = wd g q i
  | 0, _, _ => rfl
  | q + 1, h, i => by rw [wd, wd, wd_congr (fun j hj => h j (by omega)) i, h q (by omega)]
theorem wd_mod (qs : Nat → Nat) (q i : Nat) : wd qs (q + 1) i % 2 ^ q = wd qs q i := by
  rw [wd, Nat.add_mul_mod_self_right]
  exact Nat.mod_eq_of_lt (wd_lt qs q i)
theorem pw12 {q : Nat} (h : q ≤ 12) : 2 ^ q ≤ 4096 := Nat.pow_le_pow_right (by decide) h
theorem orW {a q b : Nat} (h : a < 2 ^ q) : iZ (a : Int) ||| iZ ((b * 2 ^ q : Nat) : Int) = iZ ((a + b * 2 ^ q : Nat) : Int) := by
  rw [orZ, Nat.or_comm, Nat.mul_comm, ← Nat.two_pow_add_eq_or_of_lt h, Nat.add_comm]
def addW (w : Nat → Int) (heap q n : Nat) : Nat → Int := fun j => if j < n then w j + ((bt heap j * 2 ^ q : Nat) : Int) else w j
theorem addW_0 (w : Nat → Int) (heap q : Nat) : addW w heap q 0 = w := by funext j; exact if_neg (by omega)
theorem addW_succ (w : Nat → Int) (heap q i : Nat) : uZ (addW w heap q i) i (w i + ((bt heap i * 2 ^ q : Nat) : Int)) = addW w heap q (i + 1) := by
  funext j
  unfold uZ addW
  by_cases h : j = i
  · subst h; rw [if_pos rfl, if_pos (by omega)]
  · rw [if_neg h]
    by_cases h2 : j < i
    · rw [if_pos h2, if_pos (by omega)]
    · rw [if_neg h2, if_neg (by omega)]
theorem addW_at (w : Nat → Int) (heap q i : Nat) : addW w heap q i i = w i := if_neg (by omega)
def cutW (w : Nat → Int) (q n : Nat) : Nat → Int := fun j => if j < n then (((w j).toNat % 2 ^ q : Nat) : Int) else w j
theorem cutW_0 (w : Nat → Int) (q : Nat) : cutW w q 0 = w := by funext j; exact if_neg (by omega)
theorem cutW_succ (w : Nat → Int) (q i : Nat) : uZ (cutW w q i) i (((w i).toNat % 2 ^ q : Nat) : Int) = cutW w q (i + 1) := by
  funext j
  unfold uZ cutW
  by_cases h : j = i
  · subst h; rw [if_pos rfl, if_pos (by omega)]
  · rw [if_neg h]
    by_cases h2 : j < i
    · rw [if_pos h2, if_pos (by omega)]
    · rw [if_neg h2, if_neg (by omega)]
theorem cutW_at (w : Nat → Int) (q i : Nat) : cutW w q i i = w i := if_neg (by omega)
end
section
/-- how many bits of a word below 4096 -/
def popc (x : Nat) : Nat := cnt (fun i => decide (bt x i = 1)) 12
def bcF (x : Int32) : Int32 :=
  let a := x - ((x.toUInt32 >>> ((iZ 1).toUInt32 &&& Int32.toUInt32 31)).toInt32 &&& iZ 1431655765)
  let b := (a &&& iZ 858993459) + ((a.toUInt32 >>> ((iZ 2).toUInt32 &&& Int32.toUInt32 31)).toInt32 &&& iZ 858993459)
  let c := (b + (b.toUInt32 >>> ((iZ 4).toUInt32 &&& Int32.toUInt32 31)).toInt32) &&& iZ 252645135
  let d := c + (c.toUInt32 >>> ((iZ 8).toUInt32 &&& Int32.toUInt32 31)).toInt32
  let e := d + (d.toUInt32 >>> ((iZ 16).toUInt32 &&& Int32.toUInt32 31)).toInt32
  e &&& iZ 63
theorem bcF_all : (List.range 4096).all (fun n => decide (bcF (iZ (n : Int)) = iZ (popc n : Int))) = true := by decide +kernel
theorem bcF_ok {n : Nat} (h : n < 4096) : bcF (iZ (n : Int)) = iZ (popc n : Int) := of_decide_eq_true (List.all_eq_true.mp bcF_all n (List.mem_range.mpr h))
theorem popc_all : (List.range 4096).all (fun n => decide (n = 0 ∨ (popc (n &&& (n - 1)) + 1 = popc n ∧ n &&& (n - 1) < 4096))) = true := by decide +kernel
theorem popc_step {n : Nat} (h : n < 4096) (h0 : n ≠ 0) : popc (n &&& (n - 1)) + 1 = popc n ∧ n &&& (n - 1) < 4096 := (of_decide_eq_true (List.all_eq_true.mp popc_all n (List.mem_range.mpr h))).resolve_left h0
theorem popc_le (n : Nat) : popc n ≤ 12 := cnt_le _ 12
theorem popc_0 : popc 0 = 0 := by decide +kernel
theorem xor_lt {a b : Nat} (ha : a < 4096) (hb : b < 4096) : a ^^^ b < 4096 := Nat.xor_lt_two_pow (n := 12) ha hb
end
section
/-- a truth as a number -/
def b01 (p : Prop) [Decidable p] : Int := if p then 1 else 0
theorem b01_R (p : Prop) [Decidable p] : zR (b01 p) := by unfold b01; split <;> exact ⟨by decide, by decide⟩
theorem b01_z (p : Prop) [Decidable p] : b01 p = 0 ↔ ¬ p := by unfold b01; split <;> simp_all
theorem b01_t {p : Prop} [Decidable p] (h : p) : b01 p = 1 := if_pos h
theorem b01_f {p : Prop} [Decidable p] (h : ¬ p) : b01 p = 0 := if_neg h
theorem b01_01 (p : Prop) [Decidable p] : b01 p = 0 ∨ b01 p = 1 := by unfold b01; split <;> simp
theorem b01_congr {p q : Prop} [Decidable p] [Decidable q] (h : p ↔ q) : b01 p = b01 q := by unfold b01; by_cases hp : p <;> simp [hp, h.symm] <;> simp_all
/-- READ: the one NUMBER that p holds of, of those from i on; -9: none, or more -/
def rdF (p : Nat → Bool) : Nat → Nat → Int → Int
  | 0, _, near => near
  | m + 1, i, near => if p i then (if near = -9 then rdF p m (i + 1) i else -9) else rdF p m (i + 1) near
def allP (w : Nat → Nat) (more n : Nat) : Prop := ∀ a, a < n → ∀ b, b < a → more < popc (w a ^^^ w b)
def costK (kd y b : Nat) : Int := if y = b then 0 else if kd = 0 then 9 else if kd = 2 ∧ y = 0 then 9 else 1
theorem costK_rng (kd y b : Nat) : 0 ≤ costK kd y b ∧ costK kd y b ≤ 9 := by unfold costK; split <;> (try split) <;> (try split) <;> omega
def trK (kd : Nat) : Int := if kd = 0 then 1 else if kd = 1 then 11 else 111
theorem cK1 {y b : Nat} (hy : y < 2) (hb : b < 2) : (costK 0 y b = 9 → costK 1 y b = 1) ∧ (¬ costK 0 y b = 9 → costK 1 y b = costK 0 y b) := by
  rcases (show y = 0 ∨ y = 1 by omega) with e | e <;> rcases (show b = 0 ∨ b = 1 by omega) with e2 | e2 <;> subst e <;> subst e2 <;> decide
theorem cK2 {y b : Nat} (hy : y < 2) (hb : b < 2) : ((b = 0 ∨ y ≠ 0) → costK 2 y b = costK 1 y b) ∧ (b ≠ 0 → y = 0 → costK 2 y b = 9) := by
  rcases (show y = 0 ∨ y = 1 by omega) with e | e <;> rcases (show b = 0 ∨ b = 1 by omega) with e2 | e2 <;> subst e <;> subst e2 <;> decide
/-- LEFT behind an answer -/
def nv (l : Nat → Int) (kd heap y j : Nat) : Int := max (-1) (l j - costK kd y (bt heap j))
theorem nv_rng {l : Nat → Int} (hl : ∀ j, -1 ≤ l j ∧ l j ≤ 3) (kd heap y j : Nat) : -1 ≤ nv l kd heap y j ∧ nv l kd heap y j ≤ 3 := by
  have h := hl j
  have h2 := costK_rng kd y (bt heap j)
  unfold nv
  omega
/-- the first n places taken from g -/
def tkF (g t : Nat → Int) (n : Nat) : Nat → Int := fun j => if j < n then g j else t j
theorem tkF_0 (g t : Nat → Int) : tkF g t 0 = t := by funext j; exact if_neg (by omega)
theorem tkF_succ (g t : Nat → Int) (i : Nat) : uZ (tkF g t i) i (g i) = tkF g t (i + 1) := by
  funext j
  unfold uZ tkF
  by_cases h : j = i
  · subst h; rw [if_pos rfl, if_pos (by omega)]
  · rw [if_neg h]
    by_cases h2 : j < i
    · rw [if_pos h2, if_pos (by omega)]
    · rw [if_neg h2, if_neg (by omega)]
theorem tkF_in {g t : Nat → Int} {n j : Nat} (h : j < n) : tkF g t n j = g j := if_pos h
theorem tkF_out {g t : Nat → Int} {n j : Nat} (h : n ≤ j) : tkF g t n j = t j := if_neg (by omega)
theorem tkF_rng {g t : Nat → Int} (hg : ∀ j, -1 ≤ g j ∧ g j ≤ 3) (ht : ∀ j, -1 ≤ t j ∧ t j ≤ 3) (n : Nat) : ∀ j, -1 ≤ tkF g t n j ∧ tkF g t n j ≤ 3 := by
  intro j
  unfold tkF
  split
  · exact hg j
  · exact ht j
/-- n places from 'at' on taken from g -/
def tkA (g t : Nat → Int) (at_ n : Nat) : Nat → Int := fun j => if at_ ≤ j ∧ j < at_ + n then g (j - at_) else t j
theorem tkA_0 (g t : Nat → Int) (a : Nat) : tkA g t a 0 = t := by funext j; exact if_neg (by omega)
theorem tkA_succ (g t : Nat → Int) (a i : Nat) : uZ (tkA g t a i) (a + i) (g i) = tkA g t a (i + 1) := by
  funext j
  unfold uZ tkA
  by_cases h : j = a + i
  · subst h; rw [if_pos rfl, if_pos (by omega), show a + i - a = i by omega]
  · rw [if_neg h]
    by_cases h2 : a ≤ j ∧ j < a + i
    · rw [if_pos h2, if_pos (by omega)]
    · rw [if_neg h2, if_neg (by omega)]
theorem tkA_in {g t : Nat → Int} {a n i : Nat} (h : i < n) : tkA g t a n (a + i) = g i := by
  unfold tkA; rw [if_pos (by omega), show a + i - a = i by omega]
theorem tkA_out {g t : Nat → Int} {a n j : Nat} (h : j < a ∨ a + n ≤ j) : tkA g t a n j = t j := if_neg (by omega)
end
section
theorem pw1 {n : Nat} (hn : n ≤ 16) : 1 * 2 ^ n < 2 ^ 32 := by
  rw [Nat.one_mul]
  exact Nat.pow_lt_pow_right (by decide) (by omega)
theorem maskZ {heap n : Nat} (hn : n ≤ 16) : iZ (heap : Int) &&& iZ (((1 * 2 ^ n : Nat) : Int) - 1) = iZ ((heap % 2 ^ n : Nat) : Int) := by
  have h0 : 0 < 2 ^ n := Nat.two_pow_pos n
  have e : ((1 * 2 ^ n : Nat) : Int) - 1 = ((2 ^ n - 1 : Nat) : Int) := by omega
  rw [e, andZ, Nat.and_two_pow_sub_one_eq_mod]
set_option maxRecDepth 100000 in
set_option maxHeartbeats 4000000 in
theorem c_row {k : Cx} {L0 : Launch} {σ : St} {on kd e wt yp np : Int} {n an : Nat} (hG : σ.2 (cBase k + 9) = some (oGame k on kd n e an wt yp np)) : CtrV k L0 mX3_row 1 0 0 [.ref (cBase k + 9)] σ (fun v σ' => v = .int (iZ ((an : Int) * 16)) ∧ σ' = σ) := by
  refine Ctr.of (by decide +kernel) rfl (Nat.le_of_ble_eq_true rfl) ?_
  intro κ hl0 S
  subst hl0
  refine r_aload_n S dX3_row_0 rfl ?_
  refine r_getf S g_RX3_25_3 dX3_row_1 (by repeat (first | assumption | exact sUp_same | exact sNew_same | refine sUp_ne (by first | assumption | omega) ?_)) rfl ?_
  refine r_bipush S dX3_row_4 (by decide) ?_
  refine r_imul S dX3_row_6 ?_
  exact r_iret S dX3_row_7 (by omega) (by omega) (⟨_, rfl, rfl, rfl⟩)

set_option maxRecDepth 100000 in
set_option maxHeartbeats 4000000 in
theorem c_rowBehind {k : Cx} {L0 : Launch} {σ : St} {on kd e wt yp np : Int} {n an : Nat} (hG : σ.2 (cBase k + 9) = some (oGame k on kd n e an wt yp np)) : CtrV k L0 mX3_rowBehind 2 0 0 [.ref (cBase k + 9)] σ (fun v σ' => v = .int (iZ ((an : Int) * 16 + 16)) ∧ σ' = σ) := by
  refine Ctr.of (by decide +kernel) rfl (Nat.le_of_ble_eq_true rfl) ?_
  intro κ hl0 S
  subst hl0
  refine r_aload_n S dX3_rowBehind_0 rfl ?_
  refine r_callV S (c_row hG) k_mX3_row c_RX3_50_3 dX3_rowBehind_1 (by decide) ⟨by omega, by omega⟩ (by repeat (first | assumption | exact sUp_same | exact sNew_same | refine sUp_ne (by first | assumption | omega) ?_)) rfl rfl (Nat.le_of_ble_eq_true rfl) (fun r σ' hp => ?_)
  obtain ⟨_, rfl, rfl, rfl⟩ := hp
  try simp only [Option.toList_some, Option.toList_none, List.cons_append, List.nil_append]
  refine r_bipush S dX3_rowBehind_4 (by decide) ?_
  refine r_iadd S dX3_rowBehind_6 ?_
  exact r_iret S dX3_rowBehind_7 (by omega) (by omega) (⟨_, rfl, rfl, rfl⟩)

set_option maxRecDepth 100000 in
set_option maxHeartbeats 4000000 in
theorem c_within {k : Cx} {L0 : Launch} {σ : St} {on kd e wt yp np : Int} {n an : Nat} (hG : σ.2 (cBase k + 9) = some (oGame k on kd n e an wt yp np)) (hn : n ≤ 16) {heap : Nat} (hh : heap < 65536) : CtrV k L0 mX3_within 1 0 0 [.ref (cBase k + 9), .int (iZ (heap : Int))] σ (fun v σ' => v = .int (iZ (((heap % 2 ^ n : Nat) : Int))) ∧ σ' = σ) := by
  refine Ctr.of (by decide +kernel) rfl (Nat.le_of_ble_eq_true rfl) ?_
  intro κ hl0 S
  subst hl0
  refine r_iload_n S dX3_within_0 rfl ?_
  refine r_iconst S dX3_within_1 ?_
  refine r_aload_n S dX3_within_2 rfl ?_
  refine r_getf S g_RX3_19_3 dX3_within_3 (by repeat (first | assumption | exact sUp_same | exact sNew_same | refine sUp_ne (by first | assumption | omega) ?_)) rfl ?_
  refine r_ishl S dX3_within_6 (shlZ (a := 1) (i := n) (pw1 hn) (by omega)) ?_
  refine r_iconst S dX3_within_7 ?_
  refine r_isub S dX3_within_8 ?_
  refine r_iand S dX3_within_9 (maskZ hn) ?_
  exact r_iret S dX3_within_10 (by omega) (by omega) (⟨_, rfl, rfl, rfl⟩)

set_option maxRecDepth 100000 in
set_option maxHeartbeats 4000000 in
theorem c_leftOf {k : Cx} {L0 : Launch} {σ : St} {on kd e wt yp np : Int} {n an : Nat} (hG : σ.2 (cBase k + 9) = some (oGame k on kd n e an wt yp np)) {f : Nat → Int} (hL : σ.2 (cBase k + 10) = some (eI k 992 f)) (han : an ≤ 60) (hn : n ≤ 16) {i : Nat} (hi : i < n) : CtrV k L0 mX3_leftOf 2 0 0 [.ref (cBase k + 9), .int (iZ (i : Int))] σ (fun v σ' => v = .int (iZ (f (an * 16 + i))) ∧ σ' = σ) := by
  refine Ctr.of (by decide +kernel) rfl (Nat.le_of_ble_eq_true rfl) ?_
  intro κ hl0 S
  subst hl0
  refine r_iload_n S dX3_leftOf_0 rfl ?_
  refine r_if_lt S dX3_leftOf_1 (tgt := 26) (by decide) ⟨by omega, by omega⟩ (fun h_1 => ?_) (fun h_1 => ?_)
  · omega
  · refine r_iload_n S dX3_leftOf_4 rfl ?_
    refine r_aload_n S dX3_leftOf_5 rfl ?_
    refine r_getf S g_RX3_19_3 dX3_leftOf_6 (by repeat (first | assumption | exact sUp_same | exact sNew_same | refine sUp_ne (by first | assumption | omega) ?_)) rfl ?_
    refine r_icmp_ge S dX3_leftOf_9 (tgt := 26) (by decide) ⟨by omega, by omega⟩ ⟨by omega, by omega⟩ (fun h_9 => ?_) (fun h_9 => ?_)
    · omega
    · refine r_aload_n S dX3_leftOf_12 rfl ?_
      refine r_getf S g_RX3_37_3 dX3_leftOf_13 (by repeat (first | assumption | exact sUp_same | exact sNew_same | refine sUp_ne (by first | assumption | omega) ?_)) rfl ?_
      refine r_aload_n S dX3_leftOf_16 rfl ?_
      refine r_callV S (c_row hG) k_mX3_row c_RX3_50_3 dX3_leftOf_17 (by decide) ⟨by omega, by omega⟩ (by repeat (first | assumption | exact sUp_same | exact sNew_same | refine sUp_ne (by first | assumption | omega) ?_)) rfl rfl (Nat.le_of_ble_eq_true rfl) (fun r σ' hp => ?_)
      obtain ⟨_, rfl, rfl, rfl⟩ := hp
      try simp only [Option.toList_some, Option.toList_none, List.cons_append, List.nil_append]
      refine r_iload_n S dX3_leftOf_20 rfl ?_
      refine r_iadd S dX3_leftOf_21 ?_
      refine r_ialdN S (an * 16 + i) dX3_leftOf_22 (by repeat (first | assumption | exact sUp_same | exact sNew_same | refine sUp_ne (by first | assumption | omega) ?_)) (by omega) (by omega) (by decide) ?_
      refine r_goto S dX3_leftOf_23 (tgt := 27) (by decide) ?_
      exact r_iret S dX3_leftOf_27 (by omega) (by omega) (⟨_, rfl, rfl, rfl⟩)

set_option maxRecDepth 100000 in
set_option maxHeartbeats 4000000 in
theorem l_countOf {κ : Kx} {k : Cx} {σ : St} {on kd e wt yp np : Int} {n an : Nat} (hG : σ.2 (cBase k + 9) = some (oGame k on kd n e an wt yp np)) {f : Nat → Int} (hL : σ.2 (cBase k + 10) = some (eI k 992 f)) (han : an ≤ 60) (hn : n ≤ 16) {c : Int} (hf : ∀ j, zR (f j)) (hc : zR c) (S : Ok κ k cX3_countOf 4 RX3 (some .int) "countOf" 3 0 0) : ∀ (m i : Nat), i + m = n → V κ k 4 0 0 (QR κ k (fun r σ' => ∃ v, r = some v ∧ (v = .int (iZ (cnt (fun j => f (an * 16 + j) == c) n : Int)) ∧ σ' = σ)) 0 0) 4 [some (.ref (cBase k + 9)), some (.int (iZ c)), some (.int (iZ (cnt (fun j => f (an * 16 + j) == c) i : Int))), some (.int (iZ (i : Int)))] [] σ := by
  intro m
  induction m with
  | zero =>
    intro i hi
    have hin : i = n := by omega
    subst hin
    have hcl := cnt_le (fun j => f (an * 16 + j) == c) i
    refine r_iload_n S dX3_countOf_4 rfl ?_
    refine r_aload_n S dX3_countOf_5 rfl ?_
    refine r_getf S g_RX3_19_3 dX3_countOf_6 (by repeat (first | assumption | exact sUp_same | exact sNew_same | refine sUp_ne (by first | assumption | omega) ?_)) rfl ?_
    refine r_icmp_ge S dX3_countOf_9 (tgt := 30) (by decide) ⟨by omega, by omega⟩ ⟨by omega, by omega⟩ (fun h_9 => ?_) (fun h_9 => ?_)
    · refine r_iload_n S dX3_countOf_30 rfl ?_
      exact r_iret S dX3_countOf_31 (by omega) (by omega) (⟨_, rfl, rfl, rfl⟩)
    · omega
  | succ m ih =>
    intro i hi
    have hcl := cnt_le (fun j => f (an * 16 + j) == c) i
    have hfi := hf (an * 16 + i)
    refine r_iload_n S dX3_countOf_4 rfl ?_
    refine r_aload_n S dX3_countOf_5 rfl ?_
    refine r_getf S g_RX3_19_3 dX3_countOf_6 (by repeat (first | assumption | exact sUp_same | exact sNew_same | refine sUp_ne (by first | assumption | omega) ?_)) rfl ?_
    refine r_icmp_ge S dX3_countOf_9 (tgt := 30) (by decide) ⟨by omega, by omega⟩ ⟨by omega, by omega⟩ (fun h_9 => ?_) (fun h_9 => ?_)
    · omega
    · refine r_aload_n S dX3_countOf_12 rfl ?_
      refine r_iload_n S dX3_countOf_13 rfl ?_
      refine r_callV S (c_leftOf hG hL han hn (by omega)) k_mX3_leftOf c_RX3_54_3 dX3_countOf_14 (by decide) ⟨by omega, by omega⟩ (by repeat (first | assumption | exact sUp_same | exact sNew_same | refine sUp_ne (by first | assumption | omega) ?_)) rfl rfl (Nat.le_of_ble_eq_true rfl) (fun r σ' hp => ?_)
      obtain ⟨_, rfl, rfl, rfl⟩ := hp
      try simp only [Option.toList_some, Option.toList_none, List.cons_append, List.nil_append]
      refine r_iload_n S dX3_countOf_17 rfl ?_
      refine r_icmp_ne S dX3_countOf_18 (tgt := 24) (by decide) hfi hc (fun h_18 => ?_) (fun h_18 => ?_)
      · have hcs : cnt (fun j => f (an * 16 + j) == c) (i + 1) = cnt (fun j => f (an * 16 + j) == c) i := by rw [cnt_succ, if_neg (by simpa using h_18)]; rfl
        refine r_iinc S dX3_countOf_24 rfl rfl (by decide) (lv' := [_, _, _, _]) rfl ?_
        refine r_goto S dX3_countOf_27 (tgt := 4) (by decide) ?_
        have h9 := ih (i + 1) (by omega)
        rw [hcs] at h9
        exact h9
      · refine r_iinc S dX3_countOf_21 rfl rfl (by decide) (lv' := [_, _, _, _]) rfl ?_
        have hcs : cnt (fun j => f (an * 16 + j) == c) (i + 1) = cnt (fun j => f (an * 16 + j) == c) i + 1 := by rw [cnt_succ, if_pos (by simpa using h_18)]
        refine r_iinc S dX3_countOf_24 rfl rfl (by decide) (lv' := [_, _, _, _]) rfl ?_
        refine r_goto S dX3_countOf_27 (tgt := 4) (by decide) ?_
        have h9 := ih (i + 1) (by omega)
        rw [hcs] at h9
        exact h9

set_option maxRecDepth 100000 in
set_option maxHeartbeats 4000000 in
theorem c_countOf {k : Cx} {L0 : Launch} {σ : St} {on kd e wt yp np : Int} {n an : Nat} (hG : σ.2 (cBase k + 9) = some (oGame k on kd n e an wt yp np)) {f : Nat → Int} (hL : σ.2 (cBase k + 10) = some (eI k 992 f)) (han : an ≤ 60) (hn : n ≤ 16) {c : Int} (hf : ∀ j, zR (f j)) (hc : zR c) : CtrV k L0 mX3_countOf 3 0 0 [.ref (cBase k + 9), .int (iZ c)] σ (fun v σ' => v = .int (iZ ((cnt (fun j => f (an * 16 + j) == c) n : Int))) ∧ σ' = σ) := by
  refine Ctr.of (by decide +kernel) rfl (Nat.le_of_ble_eq_true rfl) ?_
  intro κ hl0 S
  subst hl0
  refine r_iconst S dX3_countOf_0 ?_
  refine r_istore_n S dX3_countOf_1 rfl (by decide) (lv' := [_, _, _, _]) rfl ?_
  refine r_iconst S dX3_countOf_2 ?_
  refine r_istore_n S dX3_countOf_3 rfl (by decide) (lv' := [_, _, _, _]) rfl ?_
  exact l_countOf hG hL han hn hf hc S n 0 (by omega)
end
section
set_option maxRecDepth 100000 in
set_option maxHeartbeats 4000000 in
theorem l_standingIn {κ : Kx} {k : Cx} {σ : St} {on kd e wt yp np : Int} {n an : Nat} (hG : σ.2 (cBase k + 9) = some (oGame k on kd n e an wt yp np)) {f : Nat → Int} (hL : σ.2 (cBase k + 10) = some (eI k 992 f)) (han : an ≤ 60) (hn : n ≤ 16) (hf : ∀ j, -1 ≤ f j ∧ f j ≤ 3) {heap : Nat} (hh : heap < 65536) (S : Ok κ k cX3_standingIn 4 RX3 (some .int) "standingIn" 3 0 0) : ∀ (m i : Nat), i + m = n → V κ k 4 0 0 (QR κ k (fun r σ' => ∃ v, r = some v ∧ (v = .int (iZ (cnt (fun j => decide (bt heap j = 1 ∧ f (an * 16 + j) ≠ -1)) n : Int)) ∧ σ' = σ)) 0 0) 4 [some (.ref (cBase k + 9)), some (.int (iZ (heap : Int))), some (.int (iZ (cnt (fun j => decide (bt heap j = 1 ∧ f (an * 16 + j) ≠ -1)) i : Int))), some (.int (iZ (i : Int)))] [] σ := by
  intro m
  induction m with
  | zero =>
    intro i hi
    have hin : i = n := by omega
    subst hin
    have hcl := cnt_le (fun j => decide (bt heap j = 1 ∧ f (an * 16 + j) ≠ -1)) i
    refine r_iload_n S dX3_standingIn_4 rfl ?_
    refine r_aload_n S dX3_standingIn_5 rfl ?_
    refine r_getf S g_RX3_19_3 dX3_standingIn_6 (by repeat (first | assumption | exact sUp_same | exact sNew_same | refine sUp_ne (by first | assumption | omega) ?_)) rfl ?_
    refine r_icmp_ge S dX3_standingIn_9 (tgt := 39) (by decide) ⟨by omega, by omega⟩ ⟨by omega, by omega⟩ (fun h_9 => ?_) (fun h_9 => ?_)
    · refine r_iload_n S dX3_standingIn_39 rfl ?_
      exact r_iret S dX3_standingIn_40 (by omega) (by omega) (⟨_, rfl, rfl, rfl⟩)
    · omega
  | succ m ih =>
    intro i hi
    have hcl := cnt_le (fun j => decide (bt heap j = 1 ∧ f (an * 16 + j) ≠ -1)) i
    have hfi := hf (an * 16 + i)
    have hb := bt_lt heap i
    refine r_iload_n S dX3_standingIn_4 rfl ?_
    refine r_aload_n S dX3_standingIn_5 rfl ?_
    refine r_getf S g_RX3_19_3 dX3_standingIn_6 (by repeat (first | assumption | exact sUp_same | exact sNew_same | refine sUp_ne (by first | assumption | omega) ?_)) rfl ?_
    refine r_icmp_ge S dX3_standingIn_9 (tgt := 39) (by decide) ⟨by omega, by omega⟩ ⟨by omega, by omega⟩ (fun h_9 => ?_) (fun h_9 => ?_)
    · omega
    · refine r_iload_n S dX3_standingIn_12 rfl ?_
      refine r_iload_n S dX3_standingIn_13 rfl ?_
      refine r_ishr S dX3_standingIn_14 (shrZ (by omega) (by omega)) ?_
      refine r_iconst S dX3_standingIn_15 ?_
      refine r_iand S dX3_standingIn_16 (v := iZ ((bt heap i : Nat) : Int)) (and1Z _) ?_
      refine r_iconst S dX3_standingIn_17 ?_
      refine r_icmp_ne S dX3_standingIn_18 (tgt := 33) (by decide) ⟨by omega, by omega⟩ ⟨by omega, by omega⟩ (fun h_18 => ?_) (fun h_18 => ?_)
      · refine r_iinc S dX3_standingIn_33 rfl rfl (by decide) (lv' := [_, _, _, _]) rfl ?_
        refine r_goto S dX3_standingIn_36 (tgt := 4) (by decide) ?_
        first
          | (have h9 := ih (i + 1) (by omega); rw [cnt_t (p := fun j => decide (bt heap j = 1 ∧ f (an * 16 + j) ≠ -1)) (decide_eq_true (by omega))] at h9; exact h9)
          | (have h9 := ih (i + 1) (by omega); rw [cnt_f (p := fun j => decide (bt heap j = 1 ∧ f (an * 16 + j) ≠ -1)) (decide_eq_false (by omega))] at h9; exact h9)
      · refine r_aload_n S dX3_standingIn_21 rfl ?_
        refine r_iload_n S dX3_standingIn_22 rfl ?_
        refine r_callV S (c_leftOf hG hL han hn (by omega)) k_mX3_leftOf c_RX3_54_3 dX3_standingIn_23 (by decide) ⟨by omega, by omega⟩ (by repeat (first | assumption | exact sUp_same | exact sNew_same | refine sUp_ne (by first | assumption | omega) ?_)) rfl rfl (Nat.le_of_ble_eq_true rfl) (fun r σ' hp => ?_)
        obtain ⟨_, rfl, rfl, rfl⟩ := hp
        try simp only [Option.toList_some, Option.toList_none, List.cons_append, List.nil_append]
        refine r_iconst S dX3_standingIn_26 ?_
        refine r_icmp_eq S dX3_standingIn_27 (tgt := 33) (by decide) ⟨by omega, by omega⟩ ⟨by omega, by omega⟩ (fun h_27 => ?_) (fun h_27 => ?_)
        · refine r_iinc S dX3_standingIn_33 rfl rfl (by decide) (lv' := [_, _, _, _]) rfl ?_
          refine r_goto S dX3_standingIn_36 (tgt := 4) (by decide) ?_
          first
            | (have h9 := ih (i + 1) (by omega); rw [cnt_t (p := fun j => decide (bt heap j = 1 ∧ f (an * 16 + j) ≠ -1)) (decide_eq_true (by omega))] at h9; exact h9)
            | (have h9 := ih (i + 1) (by omega); rw [cnt_f (p := fun j => decide (bt heap j = 1 ∧ f (an * 16 + j) ≠ -1)) (decide_eq_false (by omega))] at h9; exact h9)
        · refine r_iinc S dX3_standingIn_30 rfl rfl (by decide) (lv' := [_, _, _, _]) rfl ?_
          refine r_iinc S dX3_standingIn_33 rfl rfl (by decide) (lv' := [_, _, _, _]) rfl ?_
          refine r_goto S dX3_standingIn_36 (tgt := 4) (by decide) ?_
          first
            | (have h9 := ih (i + 1) (by omega); rw [cnt_t (p := fun j => decide (bt heap j = 1 ∧ f (an * 16 + j) ≠ -1)) (decide_eq_true (by omega))] at h9; exact h9)
            | (have h9 := ih (i + 1) (by omega); rw [cnt_f (p := fun j => decide (bt heap j = 1 ∧ f (an * 16 + j) ≠ -1)) (decide_eq_false (by omega))] at h9; exact h9)

set_option maxRecDepth 100000 in
set_option maxHeartbeats 4000000 in
theorem c_standingIn {k : Cx} {L0 : Launch} {σ : St} {on kd e wt yp np : Int} {n an : Nat} (hG : σ.2 (cBase k + 9) = some (oGame k on kd n e an wt yp np)) {f : Nat → Int} (hL : σ.2 (cBase k + 10) = some (eI k 992 f)) (han : an ≤ 60) (hn : n ≤ 16) (hf : ∀ j, -1 ≤ f j ∧ f j ≤ 3) {heap : Nat} (hh : heap < 65536) : CtrV k L0 mX3_standingIn 3 0 0 [.ref (cBase k + 9), .int (iZ (heap : Int))] σ (fun v σ' => v = .int (iZ ((cnt (fun j => decide (bt heap j = 1 ∧ f (an * 16 + j) ≠ -1)) n : Int))) ∧ σ' = σ) := by
  refine Ctr.of (by decide +kernel) rfl (Nat.le_of_ble_eq_true rfl) ?_
  intro κ hl0 S
  subst hl0
  refine r_iconst S dX3_standingIn_0 ?_
  refine r_istore_n S dX3_standingIn_1 rfl (by decide) (lv' := [_, _, _, _]) rfl ?_
  refine r_iconst S dX3_standingIn_2 ?_
  refine r_istore_n S dX3_standingIn_3 rfl (by decide) (lv' := [_, _, _, _]) rfl ?_
  exact l_standingIn hG hL han hn hf hh S n 0 (by omega)

set_option maxRecDepth 100000 in
set_option maxHeartbeats 4000000 in
theorem c_waitFor {k : Cx} {L0 : Launch} {σ : St} {on kd e wt yp np : Int} {n an : Nat} (hG : σ.2 (cBase k + 9) = some (oGame k on kd n e an wt yp np)) {w : Int} : CtrU k L0 mX3_waitFor 1 0 0 [.ref (cBase k + 9), .int (iZ w)] σ (fun σ' => σ' = sUp σ (cBase k + 9) (oGame k on kd n e an w yp np)) := by
  refine Ctr.of (by decide +kernel) rfl (Nat.le_of_ble_eq_true rfl) ?_
  intro κ hl0 S
  subst hl0
  refine r_aload_n S dX3_waitFor_0 rfl ?_
  refine r_iload_n S dX3_waitFor_1 rfl ?_
  refine r_putf S p_RX3_28_3 dX3_waitFor_2 (by first | rfl | decide) (by first | rfl | decide) (by repeat (first | assumption | exact sUp_same | exact sNew_same | refine sUp_ne (by first | assumption | omega) ?_)) (Nat.le_of_ble_eq_true rfl) (fs' := [_, _, _, _, _, _, _, _, _]) rfl ?_
  try simp only [sUp_sUp]
  exact r_vret S dX3_waitFor_5 (by omega) (by omega) (⟨rfl, rfl⟩)

set_option maxRecDepth 100000 in
set_option maxHeartbeats 4000000 in
theorem c_forgetLatest {k : Cx} {L0 : Launch} {σ : St} {on kd e wt yp np : Int} {n an : Nat} (hG : σ.2 (cBase k + 9) = some (oGame k on kd n e an wt yp np)) (han : 1 ≤ an ∧ an ≤ 60) : CtrU k L0 mX3_forgetLatest 1 0 0 [.ref (cBase k + 9)] σ (fun σ' => σ' = sUp σ (cBase k + 9) (oGame k on kd n e ((an : Int) - 1) (-1) yp np)) := by
  refine Ctr.of (by decide +kernel) rfl (Nat.le_of_ble_eq_true rfl) ?_
  intro κ hl0 S
  subst hl0
  refine r_aload_n S dX3_forgetLatest_0 rfl ?_
  refine r_iconst S dX3_forgetLatest_1 ?_
  refine r_aload_n S dX3_forgetLatest_2 rfl ?_
  refine r_getf S g_RX3_25_3 dX3_forgetLatest_3 (by repeat (first | assumption | exact sUp_same | exact sNew_same | refine sUp_ne (by first | assumption | omega) ?_)) rfl ?_
  refine r_iconst S dX3_forgetLatest_6 ?_
  refine r_isub S dX3_forgetLatest_7 ?_
  refine r_mmax S wd_220 ks_max dX3_forgetLatest_8 (by decide) ⟨by omega, by omega⟩ ⟨by omega, by omega⟩ ⟨by omega, by omega⟩ (Nat.le_of_ble_eq_true rfl) ?_
  refine r_num (z' := (an : Int) - 1) (by omega) ?_
  refine r_putf S p_RX3_25_3 dX3_forgetLatest_11 (by first | rfl | decide) (by first | rfl | decide) (by repeat (first | assumption | exact sUp_same | exact sNew_same | refine sUp_ne (by first | assumption | omega) ?_)) (Nat.le_of_ble_eq_true rfl) (fs' := [_, _, _, _, _, _, _, _, _]) rfl ?_
  try simp only [sUp_sUp]
  refine r_aload_n S dX3_forgetLatest_14 rfl ?_
  refine r_iconst S dX3_forgetLatest_15 ?_
  refine r_putf S p_RX3_28_3 dX3_forgetLatest_16 (by first | rfl | decide) (by first | rfl | decide) (by repeat (first | assumption | exact sUp_same | exact sNew_same | refine sUp_ne (by first | assumption | omega) ?_)) (Nat.le_of_ble_eq_true rfl) (fs' := [_, _, _, _, _, _, _, _, _]) rfl ?_
  try simp only [sUp_sUp]
  exact r_vret S dX3_forgetLatest_19 (by omega) (by omega) (⟨rfl, rfl⟩)

set_option maxRecDepth 100000 in
set_option maxHeartbeats 4000000 in
theorem c_priceFor {k : Cx} {L0 : Launch} {σ : St} {on kd e wt yp np : Int} {n an : Nat} (hG : σ.2 (cBase k + 9) = some (oGame k on kd n e an wt yp np)) (hy : 0 ≤ yp ∧ yp ≤ 9) (hnp : 0 ≤ np ∧ np ≤ 9) {b y : Nat} (hb : b < 2) (hyy : y < 2) : CtrV k L0 mX3_priceFor 1 0 0 [.ref (cBase k + 9), .int (iZ (b : Int)), .int (iZ (y : Int))] σ (fun v σ' => v = .int (iZ (prc yp np b y)) ∧ σ' = σ) := by
  refine Ctr.of (by decide +kernel) rfl (Nat.le_of_ble_eq_true rfl) ?_
  intro κ hl0 S
  subst hl0
  refine r_iload_n S dX3_priceFor_0 rfl ?_
  refine r_iload_n S dX3_priceFor_1 rfl ?_
  refine r_icmp_ne S dX3_priceFor_2 (tgt := 7) (by decide) ⟨by omega, by omega⟩ ⟨by omega, by omega⟩ (fun h_2 => ?_) (fun h_2 => ?_)
  · refine r_iload_n S dX3_priceFor_7 rfl ?_
    refine r_if_eq S dX3_priceFor_8 (tgt := 18) (by decide) ⟨by omega, by omega⟩ (fun h_8 => ?_) (fun h_8 => ?_)
    · refine r_aload_n S dX3_priceFor_18 rfl ?_
      refine r_getf S g_RX3_34_3 dX3_priceFor_19 (by repeat (first | assumption | exact sUp_same | exact sNew_same | refine sUp_ne (by first | assumption | omega) ?_)) rfl ?_
      exact r_iret S dX3_priceFor_22 (by omega) (by omega) (⟨_, rfl, by unfold prc; first | rw [if_pos (by omega)] | rw [if_neg (by omega), if_pos (by omega)] | rw [if_neg (by omega), if_neg (by omega)], rfl⟩)
    · refine r_aload_n S dX3_priceFor_11 rfl ?_
      refine r_getf S g_RX3_31_3 dX3_priceFor_12 (by repeat (first | assumption | exact sUp_same | exact sNew_same | refine sUp_ne (by first | assumption | omega) ?_)) rfl ?_
      refine r_goto S dX3_priceFor_15 (tgt := 22) (by decide) ?_
      exact r_iret S dX3_priceFor_22 (by omega) (by omega) (⟨_, rfl, by unfold prc; first | rw [if_pos (by omega)] | rw [if_neg (by omega), if_pos (by omega)] | rw [if_neg (by omega), if_neg (by omega)], rfl⟩)
  · refine r_iconst S dX3_priceFor_5 ?_
    exact r_iret S dX3_priceFor_6 (by omega) (by omega) (⟨_, rfl, by unfold prc; first | rw [if_pos (by omega)] | rw [if_neg (by omega), if_pos (by omega)] | rw [if_neg (by omega), if_neg (by omega)], rfl⟩)

set_option maxRecDepth 100000 in
set_option maxHeartbeats 4000000 in
theorem l_layBehind {κ : Kx} {k : Cx} {σ : St} {on kd e wt yp np : Int} {n an : Nat} (hG : σ.2 (cBase k + 9) = some (oGame k on kd n e an wt yp np)) {f : Nat → Int} (hL : σ.2 (cBase k + 10) = some (eI k 992 f)) (han : an ≤ 60) (hn : n ≤ 16) (hf : ∀ j, -1 ≤ f j ∧ f j ≤ 3) (hy : 0 ≤ yp ∧ yp ≤ 9) (hnp : 0 ≤ np ∧ np ≤ 9) {heap y : Nat} (hh : heap < 65536) (hyy : y < 2) (S : Ok κ k cX3_layBehind 7 RX3 (some .int) "layBehind" 3 0 0) : ∀ (m i : Nat), i + m = n → V κ k 7 0 0 (QR κ k (fun r σ' => ∃ v, r = some v ∧ (v = .int (iZ (cnt (fun j => decide (newL f (an * 16) yp np heap y j ≠ -1)) n : Int)) ∧ σ' = (sUp σ (cBase k + 10) (eI k 992 (layF f an yp np heap y (n)))))) 0 0) 11 [some (.ref (cBase k + 9)), some (.int (iZ (heap : Int))), some (.int (iZ (y : Int))), some (.int (iZ ((an : Int) * 16 + 16))), some (.int (iZ (cnt (fun j => decide (newL f (an * 16) yp np heap y j ≠ -1)) i : Int))), some (.int (iZ (i : Int))), none] [] (sUp σ (cBase k + 10) (eI k 992 (layF f an yp np heap y (i)))) := by
  intro m
  induction m with
  | zero =>
    intro i hi
    have hin : i = n := by omega
    subst hin
    have hcl := cnt_le (fun j => decide (newL f (an * 16) yp np heap y j ≠ -1)) i
    refine r_iload S dX3_layBehind_11 rfl ?_
    refine r_aload_n S dX3_layBehind_13 rfl ?_
    refine r_getf S g_RX3_19_3 dX3_layBehind_14 (by repeat (first | assumption | exact sUp_same | exact sNew_same | refine sUp_ne (by first | assumption | omega) ?_)) rfl ?_
    refine r_icmp_ge S dX3_layBehind_17 (tgt := 79) (by decide) ⟨by omega, by omega⟩ ⟨by omega, by omega⟩ (fun h_17 => ?_) (fun h_17 => ?_)
    · refine r_iload S dX3_layBehind_79 rfl ?_
      exact r_iret S dX3_layBehind_81 (by omega) (by omega) (⟨_, rfl, rfl, rfl⟩)
    · omega
  | succ m ih =>
    intro i hi
    have hcl := cnt_le (fun j => decide (newL f (an * 16) yp np heap y j ≠ -1)) i
    have hfi := hf (an * 16 + i)
    have hb := bt_lt heap i
    have hpr : 0 ≤ prc yp np (bt heap i) y ∧ prc yp np (bt heap i) y ≤ 9 := by unfold prc; split <;> (try split) <;> omega
    have hnl := newL_rng hf (r := an * 16) hy hnp heap y i
    refine r_iload S dX3_layBehind_11 rfl ?_
    refine r_aload_n S dX3_layBehind_13 rfl ?_
    refine r_getf S g_RX3_19_3 dX3_layBehind_14 (by repeat (first | assumption | exact sUp_same | exact sNew_same | refine sUp_ne (by first | assumption | omega) ?_)) rfl ?_
    refine r_icmp_ge S dX3_layBehind_17 (tgt := 79) (by decide) ⟨by omega, by omega⟩ ⟨by omega, by omega⟩ (fun h_17 => ?_) (fun h_17 => ?_)
    · omega
    · refine r_iconst S dX3_layBehind_20 ?_
      refine r_aload_n S dX3_layBehind_21 rfl ?_
      refine r_iload S dX3_layBehind_22 rfl ?_
      refine r_callV S (c_leftOf (sUp_ne (by omega) hG) sUp_same han hn (by omega)) k_mX3_leftOf c_RX3_54_3 dX3_layBehind_24 (by decide) ⟨by omega, by omega⟩ (by repeat (first | assumption | exact sUp_same | exact sNew_same | refine sUp_ne (by first | assumption | omega) ?_)) rfl rfl (Nat.le_of_ble_eq_true rfl) (fun r σ' hp => ?_)
      obtain ⟨_, rfl, rfl, rfl⟩ := hp
      try simp only [Option.toList_some, Option.toList_none, List.cons_append, List.nil_append]
      rw [layF_low (by omega)]
      refine r_aload_n S dX3_layBehind_27 rfl ?_
      refine r_iload_n S dX3_layBehind_28 rfl ?_
      refine r_iload S dX3_layBehind_29 rfl ?_
      refine r_ishr S dX3_layBehind_31 (shrZ (by omega) (by omega)) ?_
      refine r_iconst S dX3_layBehind_32 ?_
      refine r_iand S dX3_layBehind_33 (v := iZ ((bt heap i : Nat) : Int)) (and1Z _) ?_
      refine r_iconst S dX3_layBehind_34 ?_
      refine r_icmp_ne S dX3_layBehind_35 (tgt := 42) (by decide) ⟨by omega, by omega⟩ ⟨by omega, by omega⟩ (fun h_35 => ?_) (fun h_35 => ?_)
      · refine r_iconst S dX3_layBehind_42 ?_
        refine r_num (z' := ((bt heap i : Nat) : Int)) (by omega) ?_
        refine r_iload_n S dX3_layBehind_43 rfl ?_
        refine r_callV S (c_priceFor (sUp_ne (by omega) hG) hy hnp hb hyy) k_mX3_priceFor c_RX3_65_3 dX3_layBehind_44 (by decide) ⟨by omega, by omega⟩ (by repeat (first | assumption | exact sUp_same | exact sNew_same | refine sUp_ne (by first | assumption | omega) ?_)) rfl rfl (Nat.le_of_ble_eq_true rfl) (fun r σ' hp => ?_)
        obtain ⟨_, rfl, rfl, rfl⟩ := hp
        try simp only [Option.toList_some, Option.toList_none, List.cons_append, List.nil_append]
        refine r_isub S dX3_layBehind_47 ?_
        refine r_mmax S wd_220 ks_max dX3_layBehind_48 (by decide) ⟨by omega, by omega⟩ ⟨by omega, by omega⟩ ⟨by omega, by omega⟩ (Nat.le_of_ble_eq_true rfl) ?_
        refine r_num (z' := newL f (an * 16) yp np heap y i) rfl ?_
        refine r_istore S dX3_layBehind_51 rfl (by decide) (lv' := [_, _, _, _, _, _, _]) rfl ?_
        refine r_aload_n S dX3_layBehind_53 rfl ?_
        refine r_getf S g_RX3_37_3 dX3_layBehind_54 (by repeat (first | assumption | exact sUp_same | exact sNew_same | refine sUp_ne (by first | assumption | omega) ?_)) rfl ?_
        refine r_iload_n S dX3_layBehind_57 rfl ?_
        refine r_iload S dX3_layBehind_58 rfl ?_
        refine r_iadd S dX3_layBehind_60 ?_
        refine r_iload S dX3_layBehind_61 rfl ?_
        refine r_iastN S (an * 16 + 16 + i) dX3_layBehind_63 (by repeat (first | assumption | exact sUp_same | exact sNew_same | refine sUp_ne (by first | assumption | omega) ?_)) (by omega) (by omega) (by decide) ?_
        refine r_iload S dX3_layBehind_64 rfl ?_
        refine r_iconst S dX3_layBehind_66 ?_
        refine r_icmp_eq S dX3_layBehind_67 (tgt := 73) (by decide) ⟨by omega, by omega⟩ ⟨by omega, by omega⟩ (fun h_67 => ?_) (fun h_67 => ?_)
        · refine r_iinc S dX3_layBehind_73 rfl rfl (by decide) (lv' := [_, _, _, _, _, _, _]) rfl ?_
          refine r_goto S dX3_layBehind_76 (tgt := 11) (by decide) ?_
          refine V.mask [true, true, true, true, true, true, false] (lv' := [_, _, _, _, _, _, none]) rfl ?_
          have h9 := ih (i + 1) (by omega)
          rw [← layF_succ] at h9
          simp only [sUp_sUp]
          first
            | (rw [cnt_t (p := fun j => decide (newL f (an * 16) yp np heap y j ≠ -1)) (decide_eq_true (by omega))] at h9; exact h9)
            | (rw [cnt_f (p := fun j => decide (newL f (an * 16) yp np heap y j ≠ -1)) (decide_eq_false (by omega))] at h9; exact h9)
        · refine r_iinc S dX3_layBehind_70 rfl rfl (by decide) (lv' := [_, _, _, _, _, _, _]) rfl ?_
          refine r_iinc S dX3_layBehind_73 rfl rfl (by decide) (lv' := [_, _, _, _, _, _, _]) rfl ?_
          refine r_goto S dX3_layBehind_76 (tgt := 11) (by decide) ?_
          refine V.mask [true, true, true, true, true, true, false] (lv' := [_, _, _, _, _, _, none]) rfl ?_
          have h9 := ih (i + 1) (by omega)
          rw [← layF_succ] at h9
          simp only [sUp_sUp]
          first
            | (rw [cnt_t (p := fun j => decide (newL f (an * 16) yp np heap y j ≠ -1)) (decide_eq_true (by omega))] at h9; exact h9)
            | (rw [cnt_f (p := fun j => decide (newL f (an * 16) yp np heap y j ≠ -1)) (decide_eq_false (by omega))] at h9; exact h9)
      · refine r_iconst S dX3_layBehind_38 ?_
        refine r_goto S dX3_layBehind_39 (tgt := 43) (by decide) ?_
        refine r_num (z' := ((bt heap i : Nat) : Int)) (by omega) ?_
        refine r_iload_n S dX3_layBehind_43 rfl ?_
        refine r_callV S (c_priceFor (sUp_ne (by omega) hG) hy hnp hb hyy) k_mX3_priceFor c_RX3_65_3 dX3_layBehind_44 (by decide) ⟨by omega, by omega⟩ (by repeat (first | assumption | exact sUp_same | exact sNew_same | refine sUp_ne (by first | assumption | omega) ?_)) rfl rfl (Nat.le_of_ble_eq_true rfl) (fun r σ' hp => ?_)
        obtain ⟨_, rfl, rfl, rfl⟩ := hp
        try simp only [Option.toList_some, Option.toList_none, List.cons_append, List.nil_append]
        refine r_isub S dX3_layBehind_47 ?_
        refine r_mmax S wd_220 ks_max dX3_layBehind_48 (by decide) ⟨by omega, by omega⟩ ⟨by omega, by omega⟩ ⟨by omega, by omega⟩ (Nat.le_of_ble_eq_true rfl) ?_
        refine r_num (z' := newL f (an * 16) yp np heap y i) rfl ?_
        refine r_istore S dX3_layBehind_51 rfl (by decide) (lv' := [_, _, _, _, _, _, _]) rfl ?_
        refine r_aload_n S dX3_layBehind_53 rfl ?_
        refine r_getf S g_RX3_37_3 dX3_layBehind_54 (by repeat (first | assumption | exact sUp_same | exact sNew_same | refine sUp_ne (by first | assumption | omega) ?_)) rfl ?_
        refine r_iload_n S dX3_layBehind_57 rfl ?_
        refine r_iload S dX3_layBehind_58 rfl ?_
        refine r_iadd S dX3_layBehind_60 ?_
        refine r_iload S dX3_layBehind_61 rfl ?_
        refine r_iastN S (an * 16 + 16 + i) dX3_layBehind_63 (by repeat (first | assumption | exact sUp_same | exact sNew_same | refine sUp_ne (by first | assumption | omega) ?_)) (by omega) (by omega) (by decide) ?_
        refine r_iload S dX3_layBehind_64 rfl ?_
        refine r_iconst S dX3_layBehind_66 ?_
        refine r_icmp_eq S dX3_layBehind_67 (tgt := 73) (by decide) ⟨by omega, by omega⟩ ⟨by omega, by omega⟩ (fun h_67 => ?_) (fun h_67 => ?_)
        · refine r_iinc S dX3_layBehind_73 rfl rfl (by decide) (lv' := [_, _, _, _, _, _, _]) rfl ?_
          refine r_goto S dX3_layBehind_76 (tgt := 11) (by decide) ?_
          refine V.mask [true, true, true, true, true, true, false] (lv' := [_, _, _, _, _, _, none]) rfl ?_
          have h9 := ih (i + 1) (by omega)
          rw [← layF_succ] at h9
          simp only [sUp_sUp]
          first
            | (rw [cnt_t (p := fun j => decide (newL f (an * 16) yp np heap y j ≠ -1)) (decide_eq_true (by omega))] at h9; exact h9)
            | (rw [cnt_f (p := fun j => decide (newL f (an * 16) yp np heap y j ≠ -1)) (decide_eq_false (by omega))] at h9; exact h9)
        · refine r_iinc S dX3_layBehind_70 rfl rfl (by decide) (lv' := [_, _, _, _, _, _, _]) rfl ?_
          refine r_iinc S dX3_layBehind_73 rfl rfl (by decide) (lv' := [_, _, _, _, _, _, _]) rfl ?_
          refine r_goto S dX3_layBehind_76 (tgt := 11) (by decide) ?_
          refine V.mask [true, true, true, true, true, true, false] (lv' := [_, _, _, _, _, _, none]) rfl ?_
          have h9 := ih (i + 1) (by omega)
          rw [← layF_succ] at h9
          simp only [sUp_sUp]
          first
            | (rw [cnt_t (p := fun j => decide (newL f (an * 16) yp np heap y j ≠ -1)) (decide_eq_true (by omega))] at h9; exact h9)
            | (rw [cnt_f (p := fun j => decide (newL f (an * 16) yp np heap y j ≠ -1)) (decide_eq_false (by omega))] at h9; exact h9)

set_option maxRecDepth 100000 in
set_option maxHeartbeats 4000000 in
theorem c_layBehind {k : Cx} {L0 : Launch} {σ : St} {on kd e wt yp np : Int} {n an : Nat} (hG : σ.2 (cBase k + 9) = some (oGame k on kd n e an wt yp np)) {f : Nat → Int} (hL : σ.2 (cBase k + 10) = some (eI k 992 f)) (han : an ≤ 60) (hn : n ≤ 16) (hf : ∀ j, -1 ≤ f j ∧ f j ≤ 3) (hy : 0 ≤ yp ∧ yp ≤ 9) (hnp : 0 ≤ np ∧ np ≤ 9) {heap y : Nat} (hh : heap < 65536) (hyy : y < 2) : CtrV k L0 mX3_layBehind 3 0 0 [.ref (cBase k + 9), .int (iZ (heap : Int)), .int (iZ (y : Int))] σ (fun v σ' => v = .int (iZ (cnt (fun j => decide (newL f (an * 16) yp np heap y j ≠ -1)) n : Int)) ∧ σ' = (sUp σ (cBase k + 10) (eI k 992 (layF f an yp np heap y (n))))) := by
  refine Ctr.of (by decide +kernel) rfl (Nat.le_of_ble_eq_true rfl) ?_
  intro κ hl0 S
  subst hl0
  refine r_aload_n S dX3_layBehind_0 rfl ?_
  refine r_callV S (c_rowBehind hG) k_mX3_rowBehind c_RX3_62_3 dX3_layBehind_1 (by decide) ⟨by omega, by omega⟩ (by repeat (first | assumption | exact sUp_same | exact sNew_same | refine sUp_ne (by first | assumption | omega) ?_)) rfl rfl (Nat.le_of_ble_eq_true rfl) (fun r σ' hp => ?_)
  obtain ⟨_, rfl, rfl, rfl⟩ := hp
  try simp only [Option.toList_some, Option.toList_none, List.cons_append, List.nil_append]
  refine r_istore_n S dX3_layBehind_4 rfl (by decide) (lv' := [_, _, _, _, _, _, _]) rfl ?_
  refine r_iconst S dX3_layBehind_5 ?_
  refine r_istore S dX3_layBehind_6 rfl (by decide) (lv' := [_, _, _, _, _, _, _]) rfl ?_
  refine r_iconst S dX3_layBehind_8 ?_
  refine r_istore S dX3_layBehind_9 rfl (by decide) (lv' := [_, _, _, _, _, _, _]) rfl ?_
  have h9 := l_layBehind hG hL han hn hf hy hnp hh hyy S n 0 (by omega)
  rw [layF_0, sUp_id hL] at h9
  exact h9

set_option maxRecDepth 100000 in
set_option maxHeartbeats 4000000 in
theorem c_reply {k : Cx} {L0 : Launch} {σ : St} {on kd e wt yp np : Int} {n an : Nat} (hG : σ.2 (cBase k + 9) = some (oGame k on kd n e an wt yp np)) {f : Nat → Int} (hL : σ.2 (cBase k + 10) = some (eI k 992 f)) (han : an ≤ 60) (hn : n ≤ 16) (hf : ∀ j, -1 ≤ f j ∧ f j ≤ 3) (hy : 0 ≤ yp ∧ yp ≤ 9) (hnp : 0 ≤ np ∧ np ≤ 9) {heap y : Nat} (hh : heap < 65536) (hyy : y < 2) (hkd : zR kd) : CtrV k L0 mX3_reply 4 0 0 [.ref (cBase k + 9), .int (iZ (heap : Int)), .int (iZ (y : Int))] σ (fun v σ' => (cnt (fun j => decide (newL f (an * 16) yp np heap y j ≠ -1)) n = 0 ∧ v = .int (iZ (-2)) ∧ σ' = (sUp σ (cBase k + 10) (eI k 992 (layF f an yp np heap y (n))))) ∨ (cnt (fun j => decide (newL f (an * 16) yp np heap y j ≠ -1)) n ≠ 0 ∧ 60 ≤ an ∧ v = .int (iZ (-3)) ∧ σ' = (sUp σ (cBase k + 10) (eI k 992 (layF f an yp np heap y (n))))) ∨ (cnt (fun j => decide (newL f (an * 16) yp np heap y j ≠ -1)) n ≠ 0 ∧ an < 60 ∧ v = .int (iZ (cnt (fun j => decide (newL f (an * 16) yp np heap y j ≠ -1)) n : Int)) ∧ σ' = sUp (sUp σ (cBase k + 10) (eI k 992 (layF f an yp np heap y (n)))) (cBase k + 9) (oGame k on kd n e ((an : Int) + 1) (-1) yp np))) := by
  refine Ctr.of (by decide +kernel) rfl (Nat.le_of_ble_eq_true rfl) ?_
  intro κ hl0 S
  subst hl0
  have hcl := cnt_le (fun j => decide (newL f (an * 16) yp np heap y j ≠ -1)) n
  refine r_aload_n S dX3_reply_0 rfl ?_
  refine r_iload_n S dX3_reply_1 rfl ?_
  refine r_iload_n S dX3_reply_2 rfl ?_
  refine r_callV S (c_layBehind hG hL han hn hf hy hnp hh hyy) k_mX3_layBehind c_RX3_58_3 dX3_reply_3 (by decide) ⟨by omega, by omega⟩ (by repeat (first | assumption | exact sUp_same | exact sNew_same | refine sUp_ne (by first | assumption | omega) ?_)) rfl rfl (Nat.le_of_ble_eq_true rfl) (fun r σ' hp => ?_)
  obtain ⟨_, rfl, rfl, rfl⟩ := hp
  try simp only [Option.toList_some, Option.toList_none, List.cons_append, List.nil_append]
  refine r_istore_n S dX3_reply_6 rfl (by decide) (lv' := [_, _, _, _]) rfl ?_
  refine r_iload_n S dX3_reply_7 rfl ?_
  refine r_if_ne S dX3_reply_8 (tgt := 14) (by decide) ⟨by omega, by omega⟩ (fun h_8 => ?_) (fun h_8 => ?_)
  · refine r_aload_n S dX3_reply_14 rfl ?_
    refine r_getf S g_RX3_25_3 dX3_reply_15 (by repeat (first | assumption | exact sUp_same | exact sNew_same | refine sUp_ne (by first | assumption | omega) ?_)) rfl ?_
    refine r_bipush S dX3_reply_18 (by decide) ?_
    refine r_icmp_lt S dX3_reply_20 (tgt := 26) (by decide) ⟨by omega, by omega⟩ ⟨by omega, by omega⟩ (fun h_20 => ?_) (fun h_20 => ?_)
    · refine r_aload_n S dX3_reply_26 rfl ?_
      refine r_dup S dX3_reply_27 rfl ?_
      refine r_getf S g_RX3_25_3 dX3_reply_28 (by repeat (first | assumption | exact sUp_same | exact sNew_same | refine sUp_ne (by first | assumption | omega) ?_)) rfl ?_
      refine r_iconst S dX3_reply_31 ?_
      refine r_iadd S dX3_reply_32 ?_
      refine r_putf S p_RX3_25_3 dX3_reply_33 (by first | rfl | decide) (by first | rfl | decide) (by repeat (first | assumption | exact sUp_same | exact sNew_same | refine sUp_ne (by first | assumption | omega) ?_)) (Nat.le_of_ble_eq_true rfl) (fs' := [_, _, _, _, _, _, _, _, _]) rfl ?_
      try simp only [sUp_sUp]
      refine r_aload_n S dX3_reply_36 rfl ?_
      refine r_iconst S dX3_reply_37 ?_
      refine r_putf S p_RX3_28_3 dX3_reply_38 (by first | rfl | decide) (by first | rfl | decide) (by repeat (first | assumption | exact sUp_same | exact sNew_same | refine sUp_ne (by first | assumption | omega) ?_)) (Nat.le_of_ble_eq_true rfl) (fs' := [_, _, _, _, _, _, _, _, _]) rfl ?_
      try simp only [sUp_sUp]
      refine r_iload_n S dX3_reply_41 rfl ?_
      exact r_iret S dX3_reply_42 (by omega) (by omega) (⟨_, rfl, Or.inr (Or.inr ⟨by omega, by omega, rfl, rfl⟩)⟩)
    · refine r_bipush S dX3_reply_23 (by decide) ?_
      exact r_iret S dX3_reply_25 (by omega) (by omega) (⟨_, rfl, Or.inr (Or.inl ⟨by omega, by omega, rfl, rfl⟩)⟩)
  · refine r_bipush S dX3_reply_11 (by decide) ?_
    exact r_iret S dX3_reply_13 (by omega) (by omega) (⟨_, rfl, Or.inl ⟨by omega, rfl, rfl⟩⟩)

set_option maxRecDepth 100000 in
set_option maxHeartbeats 4000000 in
theorem l_start {κ : Kx} {k : Cx} {σ : St} {kd2 yp2 np2 : Int} {n2 e2 : Nat} {f : Nat → Int} (hn : n2 ≤ 16) (hG : σ.2 (cBase k + 9) = some (oGame k 1 kd2 (n2 : Int) (e2 : Int) 0 (-1) yp2 np2)) (hL : σ.2 (cBase k + 10) = some (eI k 992 f)) (S : Ok κ k cX3_start 7 RX3 none "start" 1 0 0) : ∀ (m i : Nat), i + m = n2 → V κ k 7 0 0 (QR κ k (fun r σ' => r = none ∧ σ' = sUp σ (cBase k + 10) (eI k 992 (fillF f (e2 : Int) n2))) 0 0) 54 [some (.ref (cBase k + 9)), some (.int (iZ kd2)), some (.int (iZ (n2 : Int))), some (.int (iZ (e2 : Int))), some (.int (iZ yp2)), some (.int (iZ np2)), some (.int (iZ (i : Int)))] [] (sUp σ (cBase k + 10) (eI k 992 (fillF f (e2 : Int) i))) := by
  intro m
  induction m with
  | zero =>
    intro i hi
    have hin : i = n2 := by omega
    subst hin
    refine r_iload S dX3_start_54 rfl ?_
    refine r_aload_n S dX3_start_56 rfl ?_
    refine r_getf S g_RX3_19_3 dX3_start_57 (by repeat (first | assumption | exact sUp_same | exact sNew_same | refine sUp_ne (by first | assumption | omega) ?_)) rfl ?_
    refine r_icmp_ge S dX3_start_60 (tgt := 77) (by decide) ⟨by omega, by omega⟩ ⟨by omega, by omega⟩ (fun h_60 => ?_) (fun h_60 => ?_)
    · exact r_vret S dX3_start_77 (by omega) (by omega) (⟨rfl, rfl⟩)
    · omega
  | succ m ih =>
    intro i hi
    refine r_iload S dX3_start_54 rfl ?_
    refine r_aload_n S dX3_start_56 rfl ?_
    refine r_getf S g_RX3_19_3 dX3_start_57 (by repeat (first | assumption | exact sUp_same | exact sNew_same | refine sUp_ne (by first | assumption | omega) ?_)) rfl ?_
    refine r_icmp_ge S dX3_start_60 (tgt := 77) (by decide) ⟨by omega, by omega⟩ ⟨by omega, by omega⟩ (fun h_60 => ?_) (fun h_60 => ?_)
    · omega
    · refine r_aload_n S dX3_start_63 rfl ?_
      refine r_getf S g_RX3_37_3 dX3_start_64 (by repeat (first | assumption | exact sUp_same | exact sNew_same | refine sUp_ne (by first | assumption | omega) ?_)) rfl ?_
      refine r_iload S dX3_start_67 rfl ?_
      refine r_iload_n S dX3_start_69 rfl ?_
      refine r_iastN S (i) dX3_start_70 (by repeat (first | assumption | exact sUp_same | exact sNew_same | refine sUp_ne (by first | assumption | omega) ?_)) (by omega) (by omega) (by decide) ?_
      refine r_iinc S dX3_start_71 rfl rfl (by decide) (lv' := [_, _, _, _, _, _, _]) rfl ?_
      refine r_goto S dX3_start_74 (tgt := 54) (by decide) ?_
      have h9 := ih (i + 1) (by omega)
      rw [← fillF_succ] at h9
      simp only [sUp_sUp]
      exact h9

set_option maxRecDepth 100000 in
set_option maxHeartbeats 4000000 in
theorem c_start {k : Cx} {L0 : Launch} {σ : St} {on kd e wt yp np : Int} {n an : Nat} (hG : σ.2 (cBase k + 9) = some (oGame k on kd n e an wt yp np)) {kd2 yp2 np2 : Int} {n2 e2 : Nat} {f : Nat → Int} (hL : σ.2 (cBase k + 10) = some (eI k 992 f)) (hn : 1 ≤ n2 ∧ n2 ≤ 16) : CtrU k L0 mX3_start 1 0 0 [.ref (cBase k + 9), .int (iZ kd2), .int (iZ (n2 : Int)), .int (iZ (e2 : Int)), .int (iZ yp2), .int (iZ np2)] σ (fun σ' => σ' = sUp (sUp σ (cBase k + 9) (oGame k 1 kd2 (n2 : Int) (e2 : Int) 0 (-1) yp2 np2)) (cBase k + 10) (eI k 992 (fillF f (e2 : Int) n2))) := by
  refine Ctr.of (by decide +kernel) rfl (Nat.le_of_ble_eq_true rfl) ?_
  intro κ hl0 S
  subst hl0
  refine r_aload_n S dX3_start_0 rfl ?_
  refine r_iconst S dX3_start_1 ?_
  refine r_putf S p_RX3_9_3 dX3_start_2 (by first | rfl | decide) (by first | rfl | decide) (by repeat (first | assumption | exact sUp_same | exact sNew_same | refine sUp_ne (by first | assumption | omega) ?_)) (Nat.le_of_ble_eq_true rfl) (fs' := [_, _, _, _, _, _, _, _, _]) rfl ?_
  try simp only [sUp_sUp]
  refine r_aload_n S dX3_start_5 rfl ?_
  refine r_iload_n S dX3_start_6 rfl ?_
  refine r_putf S p_RX3_15_3 dX3_start_7 (by first | rfl | decide) (by first | rfl | decide) (by repeat (first | assumption | exact sUp_same | exact sNew_same | refine sUp_ne (by first | assumption | omega) ?_)) (Nat.le_of_ble_eq_true rfl) (fs' := [_, _, _, _, _, _, _, _, _]) rfl ?_
  try simp only [sUp_sUp]
  refine r_aload_n S dX3_start_10 rfl ?_
  refine r_iconst S dX3_start_11 ?_
  refine r_iload_n S dX3_start_12 rfl ?_
  refine r_bipush S dX3_start_13 (by decide) ?_
  refine r_mmin S wd_217 ks_min dX3_start_15 (by decide) ⟨by omega, by omega⟩ ⟨by omega, by omega⟩ ⟨by omega, by omega⟩ (Nat.le_of_ble_eq_true rfl) ?_
  refine r_mmax S wd_220 ks_max dX3_start_18 (by decide) ⟨by omega, by omega⟩ ⟨by omega, by omega⟩ ⟨by omega, by omega⟩ (Nat.le_of_ble_eq_true rfl) ?_
  refine r_num (z' := (n2 : Int)) (by omega) ?_
  refine r_putf S p_RX3_19_3 dX3_start_21 (by first | rfl | decide) (by first | rfl | decide) (by repeat (first | assumption | exact sUp_same | exact sNew_same | refine sUp_ne (by first | assumption | omega) ?_)) (Nat.le_of_ble_eq_true rfl) (fs' := [_, _, _, _, _, _, _, _, _]) rfl ?_
  try simp only [sUp_sUp]
  refine r_aload_n S dX3_start_24 rfl ?_
  refine r_iload_n S dX3_start_25 rfl ?_
  refine r_putf S p_RX3_22_3 dX3_start_26 (by first | rfl | decide) (by first | rfl | decide) (by repeat (first | assumption | exact sUp_same | exact sNew_same | refine sUp_ne (by first | assumption | omega) ?_)) (Nat.le_of_ble_eq_true rfl) (fs' := [_, _, _, _, _, _, _, _, _]) rfl ?_
  try simp only [sUp_sUp]
  refine r_aload_n S dX3_start_29 rfl ?_
  refine r_iconst S dX3_start_30 ?_
  refine r_putf S p_RX3_25_3 dX3_start_31 (by first | rfl | decide) (by first | rfl | decide) (by repeat (first | assumption | exact sUp_same | exact sNew_same | refine sUp_ne (by first | assumption | omega) ?_)) (Nat.le_of_ble_eq_true rfl) (fs' := [_, _, _, _, _, _, _, _, _]) rfl ?_
  try simp only [sUp_sUp]
  refine r_aload_n S dX3_start_34 rfl ?_
  refine r_iconst S dX3_start_35 ?_
  refine r_putf S p_RX3_28_3 dX3_start_36 (by first | rfl | decide) (by first | rfl | decide) (by repeat (first | assumption | exact sUp_same | exact sNew_same | refine sUp_ne (by first | assumption | omega) ?_)) (Nat.le_of_ble_eq_true rfl) (fs' := [_, _, _, _, _, _, _, _, _]) rfl ?_
  try simp only [sUp_sUp]
  refine r_aload_n S dX3_start_39 rfl ?_
  refine r_iload S dX3_start_40 rfl ?_
  refine r_putf S p_RX3_31_3 dX3_start_42 (by first | rfl | decide) (by first | rfl | decide) (by repeat (first | assumption | exact sUp_same | exact sNew_same | refine sUp_ne (by first | assumption | omega) ?_)) (Nat.le_of_ble_eq_true rfl) (fs' := [_, _, _, _, _, _, _, _, _]) rfl ?_
  try simp only [sUp_sUp]
  refine r_aload_n S dX3_start_45 rfl ?_
  refine r_iload S dX3_start_46 rfl ?_
  refine r_putf S p_RX3_34_3 dX3_start_48 (by first | rfl | decide) (by first | rfl | decide) (by repeat (first | assumption | exact sUp_same | exact sNew_same | refine sUp_ne (by first | assumption | omega) ?_)) (Nat.le_of_ble_eq_true rfl) (fs' := [_, _, _, _, _, _, _, _, _]) rfl ?_
  try simp only [sUp_sUp]
  refine r_iconst S dX3_start_51 ?_
  refine r_istore S dX3_start_52 rfl (by decide) (lv' := [_, _, _, _, _, _, _]) rfl ?_
  have h9 := l_start (σ := sUp σ (cBase k + 9) (oGame k 1 kd2 (n2 : Int) (e2 : Int) 0 (-1) yp2 np2)) (f := f) hn.2 sUp_same (sUp_ne (by omega) hL) S n2 0 (by omega)
  rw [fillF_0, sUp_id (sUp_ne (by omega) hL)] at h9
  exact h9
end
section
set_option maxRecDepth 100000 in
set_option maxHeartbeats 4000000 in
theorem c_bitCount {k : Cx} {L0 : Launch} {σ : St} {x : Nat} (hx : x < 4096) : CtrV k L0 mJ6_bitCount_0f7a4 1 0 0 [.int (iZ (x : Int))] σ (fun v σ' => v = .int (iZ ((popc x : Int))) ∧ σ' = σ) := by
  refine Ctr.of (by decide +kernel) rfl (Nat.le_of_ble_eq_true rfl) ?_
  intro κ hl0 S
  subst hl0
  refine r_iload_n S dJ6_bitCount_0f7a4_0 rfl ?_
  refine r_iload_n S dJ6_bitCount_0f7a4_1 rfl ?_
  refine r_iconst S dJ6_bitCount_0f7a4_2 ?_
  refine r_iushr S dJ6_bitCount_0f7a4_3 (rfl) ?_
  refine r_ldcw S (n := 1431655765) (by exact wd_593) dJ6_bitCount_0f7a4_4 ?_
  refine r_iand S dJ6_bitCount_0f7a4_7 (rfl) ?_
  refine r_isubx S dJ6_bitCount_0f7a4_8 (rfl) ?_
  refine r_istore_n S dJ6_bitCount_0f7a4_9 rfl (by decide) (lv' := [_]) rfl ?_
  refine r_iload_n S dJ6_bitCount_0f7a4_10 rfl ?_
  refine r_ldcw S (n := 858993459) (by exact wd_594) dJ6_bitCount_0f7a4_11 ?_
  refine r_iand S dJ6_bitCount_0f7a4_14 (rfl) ?_
  refine r_iload_n S dJ6_bitCount_0f7a4_15 rfl ?_
  refine r_iconst S dJ6_bitCount_0f7a4_16 ?_
  refine r_iushr S dJ6_bitCount_0f7a4_17 (rfl) ?_
  refine r_ldcw S (n := 858993459) (by exact wd_594) dJ6_bitCount_0f7a4_18 ?_
  refine r_iand S dJ6_bitCount_0f7a4_21 (rfl) ?_
  refine r_iaddx S dJ6_bitCount_0f7a4_22 (rfl) ?_
  refine r_istore_n S dJ6_bitCount_0f7a4_23 rfl (by decide) (lv' := [_]) rfl ?_
  refine r_iload_n S dJ6_bitCount_0f7a4_24 rfl ?_
  refine r_iload_n S dJ6_bitCount_0f7a4_25 rfl ?_
  refine r_iconst S dJ6_bitCount_0f7a4_26 ?_
  refine r_iushr S dJ6_bitCount_0f7a4_27 (rfl) ?_
  refine r_iaddx S dJ6_bitCount_0f7a4_28 (rfl) ?_
  refine r_ldcw S (n := 252645135) (by exact wd_595) dJ6_bitCount_0f7a4_29 ?_
  refine r_iand S dJ6_bitCount_0f7a4_32 (rfl) ?_
  refine r_istore_n S dJ6_bitCount_0f7a4_33 rfl (by decide) (lv' := [_]) rfl ?_
  refine r_iload_n S dJ6_bitCount_0f7a4_34 rfl ?_
  refine r_iload_n S dJ6_bitCount_0f7a4_35 rfl ?_
  refine r_bipush S dJ6_bitCount_0f7a4_36 (by decide) ?_
  refine r_iushr S dJ6_bitCount_0f7a4_38 (rfl) ?_
  refine r_iaddx S dJ6_bitCount_0f7a4_39 (rfl) ?_
  refine r_istore_n S dJ6_bitCount_0f7a4_40 rfl (by decide) (lv' := [_]) rfl ?_
  refine r_iload_n S dJ6_bitCount_0f7a4_41 rfl ?_
  refine r_iload_n S dJ6_bitCount_0f7a4_42 rfl ?_
  refine r_bipush S dJ6_bitCount_0f7a4_43 (by decide) ?_
  refine r_iushr S dJ6_bitCount_0f7a4_45 (rfl) ?_
  refine r_iaddx S dJ6_bitCount_0f7a4_46 (rfl) ?_
  refine r_istore_n S dJ6_bitCount_0f7a4_47 rfl (by decide) (lv' := [_]) rfl ?_
  refine r_iload_n S dJ6_bitCount_0f7a4_48 rfl ?_
  refine r_bipush S dJ6_bitCount_0f7a4_49 (by decide) ?_
  refine r_iand S dJ6_bitCount_0f7a4_51 (rfl) ?_
  refine r_cast (bcF_ok hx) ?_
  exact r_iret S dJ6_bitCount_0f7a4_52 (by omega) (by omega) (⟨_, rfl, rfl, rfl⟩)

set_option maxRecDepth 100000 in
set_option maxHeartbeats 4000000 in
theorem c_question {k : Cx} {L0 : Launch} {σ : St} {q : Nat} (hC : σ.2 (cBase k + 11) = some (oCode k q)) (hq : q ≤ 12) {qs : Nat → Nat} (hQ : σ.2 (cBase k + 12) = some (eI k 12 (fun j => (qs j : Int)))) {j : Nat} (hj : j < q) : CtrV k L0 mX2_question 1 0 0 [.ref (cBase k + 11), .int (iZ (j : Int))] σ (fun v σ' => v = .int (iZ ((qs j : Int))) ∧ σ' = σ) := by
  refine Ctr.of (by decide +kernel) rfl (Nat.le_of_ble_eq_true rfl) ?_
  intro κ hl0 S
  subst hl0
  refine r_iload_n S dX2_question_0 rfl ?_
  refine r_if_lt S dX2_question_1 (tgt := 21) (by decide) ⟨by omega, by omega⟩ (fun h_1 => ?_) (fun h_1 => ?_)
  · omega
  · refine r_iload_n S dX2_question_4 rfl ?_
    refine r_aload_n S dX2_question_5 rfl ?_
    refine r_getf S g_RX2_18_2 dX2_question_6 (by repeat (first | assumption | exact sUp_same | exact sNew_same | refine sUp_ne (by first | assumption | omega) ?_)) rfl ?_
    refine r_icmp_ge S dX2_question_9 (tgt := 21) (by decide) ⟨by omega, by omega⟩ ⟨by omega, by omega⟩ (fun h_9 => ?_) (fun h_9 => ?_)
    · omega
    · refine r_aload_n S dX2_question_12 rfl ?_
      refine r_getf S g_RX2_9_2 dX2_question_13 (by repeat (first | assumption | exact sUp_same | exact sNew_same | refine sUp_ne (by first | assumption | omega) ?_)) rfl ?_
      refine r_iload_n S dX2_question_16 rfl ?_
      refine r_ialdN S (j) dX2_question_17 (by repeat (first | assumption | exact sUp_same | exact sNew_same | refine sUp_ne (by first | assumption | omega) ?_)) (by omega) (by omega) (by decide) ?_
      refine r_goto S dX2_question_18 (tgt := 22) (by decide) ?_
      exact r_iret S dX2_question_22 (by omega) (by omega) (⟨_, rfl, rfl, rfl⟩)

set_option maxRecDepth 100000 in
set_option maxHeartbeats 4000000 in
theorem c_isWordT {k : Cx} {L0 : Launch} {σ : St} {q : Nat} (hC : σ.2 (cBase k + 11) = some (oCode k q)) (hq : q ≤ 12) {b : Nat} (hb : b < 2 ^ q) : CtrV k L0 mX2_isWord 1 0 0 [.ref (cBase k + 11), .int (iZ (b : Int))] σ (fun v σ' => v = .int (iZ (1)) ∧ σ' = σ) := by
  refine Ctr.of (by decide +kernel) rfl (Nat.le_of_ble_eq_true rfl) ?_
  intro κ hl0 S
  subst hl0
  have hp := pw12 hq
  refine r_iload_n S dX2_isWord_0 rfl ?_
  refine r_if_lt S dX2_isWord_1 (tgt := 17) (by decide) ⟨by omega, by omega⟩ (fun h_1 => ?_) (fun h_1 => ?_)
  · omega
  · refine r_iload_n S dX2_isWord_4 rfl ?_
    refine r_aload_n S dX2_isWord_5 rfl ?_
    refine r_getf S g_RX2_18_2 dX2_isWord_6 (by repeat (first | assumption | exact sUp_same | exact sNew_same | refine sUp_ne (by first | assumption | omega) ?_)) rfl ?_
    refine r_ishr S dX2_isWord_9 (shrZ (by omega) (by omega)) ?_
    refine r_num (z' := 0) (by rw [Nat.div_eq_of_lt hb]; rfl) ?_
    refine r_if_ne S dX2_isWord_10 (tgt := 17) (by decide) ⟨by omega, by omega⟩ (fun h_10 => ?_) (fun h_10 => ?_)
    · omega
    · refine r_iconst S dX2_isWord_13 ?_
      refine r_goto S dX2_isWord_14 (tgt := 18) (by decide) ?_
      exact r_zret S dX2_isWord_18 (by omega) (by omega) (by first | exact Or.inl rfl | exact Or.inr rfl | omega) (⟨_, rfl, rfl, rfl⟩)

set_option maxRecDepth 100000 in
set_option maxHeartbeats 4000000 in
theorem c_isWordF {k : Cx} {L0 : Launch} {σ : St} {q : Nat} (hC : σ.2 (cBase k + 11) = some (oCode k q)) (hq : q ≤ 12) {b : Int} (hz : zR b) (hb : b < 0 ∨ ((2 ^ q : Nat) : Int) ≤ b) : CtrV k L0 mX2_isWord 1 0 0 [.ref (cBase k + 11), .int (iZ b)] σ (fun v σ' => v = .int (iZ (0)) ∧ σ' = σ) := by
  refine Ctr.of (by decide +kernel) rfl (Nat.le_of_ble_eq_true rfl) ?_
  intro κ hl0 S
  subst hl0
  refine r_iload_n S dX2_isWord_0 rfl ?_
  refine r_if_lt S dX2_isWord_1 (tgt := 17) (by decide) hz (fun h_1 => ?_) (fun h_1 => ?_)
  · refine r_iconst S dX2_isWord_17 ?_
    exact r_zret S dX2_isWord_18 (by omega) (by omega) (by first | exact Or.inl rfl | exact Or.inr rfl | omega) (⟨_, rfl, rfl, rfl⟩)
  · obtain ⟨bn, rfl⟩ := Int.eq_ofNat_of_zero_le h_1
    refine r_iload_n S dX2_isWord_4 rfl ?_
    refine r_aload_n S dX2_isWord_5 rfl ?_
    refine r_getf S g_RX2_18_2 dX2_isWord_6 (by repeat (first | assumption | exact sUp_same | exact sNew_same | refine sUp_ne (by first | assumption | omega) ?_)) rfl ?_
    refine r_ishr S dX2_isWord_9 (shrZ (by have := hz.2; omega) (by omega)) ?_
    refine r_if_ne S dX2_isWord_10 (tgt := 17) (by decide) ⟨by generalize bn / 2 ^ q = z9; omega, by have h8 := Nat.div_le_self bn (2 ^ q); generalize bn / 2 ^ q = z9 at h8 ⊢; have := hz.2; omega⟩ (fun h_10 => ?_) (fun h_10 => ?_)
    · refine r_iconst S dX2_isWord_17 ?_
      exact r_zret S dX2_isWord_18 (by omega) (by omega) (by first | exact Or.inl rfl | exact Or.inr rfl | omega) (⟨_, rfl, rfl, rfl⟩)
    · exfalso
      have h7 : 2 ^ q ≤ bn := by omega
      have h8 := (Nat.div_pos_iff.mpr ⟨Nat.two_pow_pos q, h7⟩)
      generalize bn / 2 ^ q = z9 at h8 h_10
      omega

set_option maxRecDepth 100000 in
set_option maxHeartbeats 4000000 in
theorem c_wordOf {k : Cx} {L0 : Launch} {σ : St} {q : Nat} (hC : σ.2 (cBase k + 11) = some (oCode k q)) (hq : q ≤ 12) {w : Nat → Int} {qs : Nat → Nat} (hW : σ.2 (cBase k + 13) = some (eI k 16 w)) (hw : ∀ i, i < 16 → w i = (wd qs q i : Int)) {i : Nat} (hi : i < 16) : CtrV k L0 mX2_wordOf 1 0 0 [.ref (cBase k + 11), .int (iZ (i : Int))] σ (fun v σ' => v = .int (iZ ((wd qs q i : Int))) ∧ σ' = σ) := by
  refine Ctr.of (by decide +kernel) rfl (Nat.le_of_ble_eq_true rfl) ?_
  intro κ hl0 S
  subst hl0
  refine r_iload_n S dX2_wordOf_0 rfl ?_
  refine r_if_lt S dX2_wordOf_1 (tgt := 19) (by decide) ⟨by omega, by omega⟩ (fun h_1 => ?_) (fun h_1 => ?_)
  · omega
  · refine r_iload_n S dX2_wordOf_4 rfl ?_
    refine r_bipush S dX2_wordOf_5 (by decide) ?_
    refine r_icmp_ge S dX2_wordOf_7 (tgt := 19) (by decide) ⟨by omega, by omega⟩ ⟨by omega, by omega⟩ (fun h_7 => ?_) (fun h_7 => ?_)
    · omega
    · refine r_aload_n S dX2_wordOf_10 rfl ?_
      refine r_getf S g_RX2_15_2 dX2_wordOf_11 (by repeat (first | assumption | exact sUp_same | exact sNew_same | refine sUp_ne (by first | assumption | omega) ?_)) rfl ?_
      refine r_iload_n S dX2_wordOf_14 rfl ?_
      refine r_ialdN S (i) dX2_wordOf_15 (by repeat (first | assumption | exact sUp_same | exact sNew_same | refine sUp_ne (by first | assumption | omega) ?_)) (by omega) (by omega) (by decide) ?_
      rw [hw i hi]
      refine r_goto S dX2_wordOf_16 (tgt := 20) (by decide) ?_
      exact r_iret S dX2_wordOf_20 (by omega) (by omega) (⟨_, rfl, rfl, rfl⟩)

set_option maxRecDepth 100000 in
set_option maxHeartbeats 4000000 in
theorem l_add {κ : Kx} {k : Cx} {σ : St} {q : Nat} (hC : σ.2 (cBase k + 11) = some (oCode k q)) (hq : q ≤ 12) {qs : Nat → Nat} (hQ : σ.2 (cBase k + 12) = some (eI k 12 (fun j => (qs j : Int)))) {w : Nat → Int} (hW : σ.2 (cBase k + 13) = some (eI k 16 w)) (hw : ∀ i, i < 16 → w i = (wd qs q i : Int)) {heap : Nat} (hh : heap < 65536) (hq2 : q < 12) (S : Ok κ k cX2_add 3 RX2 (some .boolean) "add" 1 0 0) : ∀ (m i : Nat), i + m = 16 → V κ k 3 0 0 (QR κ k (fun r σ' => ∃ v, r = some v ∧ (v = .int (iZ 1) ∧ σ' = sUp (sUp (sUp σ (cBase k + 12) (eI k 12 (fun j => (uN qs q heap j : Int)))) (cBase k + 13) (eI k 16 (addW w heap q 16))) (cBase k + 11) (oCode k ((q : Int) + 1)))) 0 0) 23 [some (.ref (cBase k + 11)), some (.int (iZ (heap : Int))), some (.int (iZ (i : Int)))] [] (sUp (sUp σ (cBase k + 12) (eI k 12 (fun j => (uN qs q heap j : Int)))) (cBase k + 13) (eI k 16 (addW w heap q i))) := by
  intro m
  induction m with
  | zero =>
    intro i hi
    have hin : i = 16 := by omega
    subst hin
    refine r_iload_n S dX2_add_23 rfl ?_
    refine r_bipush S dX2_add_24 (by decide) ?_
    refine r_icmp_ge S dX2_add_26 (tgt := 54) (by decide) ⟨by omega, by omega⟩ ⟨by omega, by omega⟩ (fun h_26 => ?_) (fun h_26 => ?_)
    · refine r_aload_n S dX2_add_54 rfl ?_
      refine r_dup S dX2_add_55 rfl ?_
      refine r_getf S g_RX2_18_2 dX2_add_56 (by repeat (first | assumption | exact sUp_same | exact sNew_same | refine sUp_ne (by first | assumption | omega) ?_)) rfl ?_
      refine r_iconst S dX2_add_59 ?_
      refine r_iadd S dX2_add_60 ?_
      refine r_putf S p_RX2_18_2 dX2_add_61 (by first | rfl | decide) (by first | rfl | decide) (by repeat (first | assumption | exact sUp_same | exact sNew_same | refine sUp_ne (by first | assumption | omega) ?_)) (Nat.le_of_ble_eq_true rfl) (fs' := [_, _, _]) rfl ?_
      try simp only [sUp_sUp]
      refine r_iconst S dX2_add_64 ?_
      exact r_zret S dX2_add_65 (by omega) (by omega) (by first | exact Or.inl rfl | exact Or.inr rfl | omega) (⟨_, rfl, rfl, rfl⟩)
    · omega
  | succ m ih =>
    intro i hi
    have hb := bt_lt heap i
    refine r_iload_n S dX2_add_23 rfl ?_
    refine r_bipush S dX2_add_24 (by decide) ?_
    refine r_icmp_ge S dX2_add_26 (tgt := 54) (by decide) ⟨by omega, by omega⟩ ⟨by omega, by omega⟩ (fun h_26 => ?_) (fun h_26 => ?_)
    · omega
    · refine r_aload_n S dX2_add_29 rfl ?_
      refine r_getf S g_RX2_15_2 dX2_add_30 (by repeat (first | assumption | exact sUp_same | exact sNew_same | refine sUp_ne (by first | assumption | omega) ?_)) rfl ?_
      refine r_iload_n S dX2_add_33 rfl ?_
      refine r_dup2 S dX2_add_34 rfl rfl ?_
      refine r_ialdN S (i) dX2_add_35 (by repeat (first | assumption | exact sUp_same | exact sNew_same | refine sUp_ne (by first | assumption | omega) ?_)) (by omega) (by omega) (by decide) ?_
      rw [addW_at, hw i (by omega)]
      refine r_iload_n S dX2_add_36 rfl ?_
      refine r_iload_n S dX2_add_37 rfl ?_
      refine r_ishr S dX2_add_38 (shrZ (by omega) (by omega)) ?_
      refine r_iconst S dX2_add_39 ?_
      refine r_iand S dX2_add_40 (v := iZ ((bt heap i : Nat) : Int)) (and1Z _) ?_
      refine r_aload_n S dX2_add_41 rfl ?_
      refine r_getf S g_RX2_18_2 dX2_add_42 (by repeat (first | assumption | exact sUp_same | exact sNew_same | refine sUp_ne (by first | assumption | omega) ?_)) rfl ?_
      refine r_ishl S dX2_add_45 (shlZ (by have h5 := pw12 (show q ≤ 12 by omega); have h6 : bt heap i * 2 ^ q ≤ 1 * 2 ^ q := Nat.mul_le_mul_right _ (by omega); omega) (by omega)) ?_
      refine r_ior S dX2_add_46 (orW (wd_lt qs q i)) ?_
      refine r_iastN S (i) dX2_add_47 (by repeat (first | assumption | exact sUp_same | exact sNew_same | refine sUp_ne (by first | assumption | omega) ?_)) (by omega) (by omega) (by decide) ?_
      refine r_iinc S dX2_add_48 rfl rfl (by decide) (lv' := [_, _, _]) rfl ?_
      refine r_goto S dX2_add_51 (tgt := 23) (by decide) ?_
      have h9 := ih (i + 1) (by omega)
      rw [← addW_succ w heap q i, hw i (by omega)] at h9
      rw [Int.natCast_add]
      simp only [sUp_sUp]
      exact h9

set_option maxRecDepth 100000 in
set_option maxHeartbeats 4000000 in
theorem c_add {k : Cx} {L0 : Launch} {σ : St} {q : Nat} (hC : σ.2 (cBase k + 11) = some (oCode k q)) (hq : q ≤ 12) {qs : Nat → Nat} (hQ : σ.2 (cBase k + 12) = some (eI k 12 (fun j => (qs j : Int)))) {w : Nat → Int} (hW : σ.2 (cBase k + 13) = some (eI k 16 w)) (hw : ∀ i, i < 16 → w i = (wd qs q i : Int)) {heap : Nat} (hh : heap < 65536) (hq2 : q < 12) : CtrV k L0 mX2_add 1 0 0 [.ref (cBase k + 11), .int (iZ (heap : Int))] σ (fun v σ' => v = .int (iZ 1) ∧ σ' = sUp (sUp (sUp σ (cBase k + 12) (eI k 12 (fun j => (uN qs q heap j : Int)))) (cBase k + 13) (eI k 16 (addW w heap q 16))) (cBase k + 11) (oCode k ((q : Int) + 1))) := by
  refine Ctr.of (by decide +kernel) rfl (Nat.le_of_ble_eq_true rfl) ?_
  intro κ hl0 S
  subst hl0
  refine r_aload_n S dX2_add_0 rfl ?_
  refine r_getf S g_RX2_18_2 dX2_add_1 (by repeat (first | assumption | exact sUp_same | exact sNew_same | refine sUp_ne (by first | assumption | omega) ?_)) rfl ?_
  refine r_bipush S dX2_add_4 (by decide) ?_
  refine r_icmp_lt S dX2_add_6 (tgt := 11) (by decide) ⟨by omega, by omega⟩ ⟨by omega, by omega⟩ (fun h_6 => ?_) (fun h_6 => ?_)
  · refine r_aload_n S dX2_add_11 rfl ?_
    refine r_getf S g_RX2_9_2 dX2_add_12 (by repeat (first | assumption | exact sUp_same | exact sNew_same | refine sUp_ne (by first | assumption | omega) ?_)) rfl ?_
    refine r_aload_n S dX2_add_15 rfl ?_
    refine r_getf S g_RX2_18_2 dX2_add_16 (by repeat (first | assumption | exact sUp_same | exact sNew_same | refine sUp_ne (by first | assumption | omega) ?_)) rfl ?_
    refine r_iload_n S dX2_add_19 rfl ?_
    refine r_iastN S (q) dX2_add_20 (by repeat (first | assumption | exact sUp_same | exact sNew_same | refine sUp_ne (by first | assumption | omega) ?_)) (by omega) (by omega) (by decide) ?_
    refine r_iconst S dX2_add_21 ?_
    refine r_istore_n S dX2_add_22 rfl (by decide) (lv' := [_, _, _]) rfl ?_
    have h9 := l_add hC hq hQ hW hw hh hq2 S 16 0 (by omega)
    rw [addW_0, sUp_id (sUp_ne (by omega) hW)] at h9
    rw [uZ_uN]
    exact h9
  · omega

set_option maxRecDepth 100000 in
set_option maxHeartbeats 4000000 in
theorem c_addF {k : Cx} {L0 : Launch} {σ : St} {q : Nat} (hC : σ.2 (cBase k + 11) = some (oCode k q)) (hq : q ≤ 12) {heap : Int} (hq2 : q = 12) : CtrV k L0 mX2_add 1 0 0 [.ref (cBase k + 11), .int (iZ heap)] σ (fun v σ' => v = .int (iZ (0)) ∧ σ' = σ) := by
  refine Ctr.of (by decide +kernel) rfl (Nat.le_of_ble_eq_true rfl) ?_
  intro κ hl0 S
  subst hl0
  refine r_aload_n S dX2_add_0 rfl ?_
  refine r_getf S g_RX2_18_2 dX2_add_1 (by repeat (first | assumption | exact sUp_same | exact sNew_same | refine sUp_ne (by first | assumption | omega) ?_)) rfl ?_
  refine r_bipush S dX2_add_4 (by decide) ?_
  refine r_icmp_lt S dX2_add_6 (tgt := 11) (by decide) ⟨by omega, by omega⟩ ⟨by omega, by omega⟩ (fun h_6 => ?_) (fun h_6 => ?_)
  · omega
  · refine r_iconst S dX2_add_9 ?_
    exact r_zret S dX2_add_10 (by omega) (by omega) (by first | exact Or.inl rfl | exact Or.inr rfl | omega) (⟨_, rfl, rfl, rfl⟩)

set_option maxRecDepth 100000 in
set_option maxHeartbeats 4000000 in
theorem l_remove {κ : Kx} {k : Cx} {σ : St} {q : Nat} (hC : σ.2 (cBase k + 11) = some (oCode k q)) (hq : q ≤ 12) {w : Nat → Int} {qs : Nat → Nat} (hW : σ.2 (cBase k + 13) = some (eI k 16 w)) (hw : ∀ i, i < 16 → w i = (wd qs q i : Int)) (hq2 : 0 < q) (S : Ok κ k cX2_removeLatest 2 RX2 (some .boolean) "removeLatest" 1 0 0) : ∀ (m i : Nat), i + m = 16 → V κ k 2 0 0 (QR κ k (fun r σ' => ∃ v, r = some v ∧ (v = .int (iZ 1) ∧ σ' = (sUp (sUp σ (cBase k + 11) (oCode k ((q : Int) - 1))) (cBase k + 13) (eI k 16 (cutW w (q - 1) 16))))) 0 0) 21 [some (.ref (cBase k + 11)), some (.int (iZ (i : Int)))] [] (sUp (sUp σ (cBase k + 11) (oCode k ((q : Int) - 1))) (cBase k + 13) (eI k 16 (cutW w (q - 1) i))) := by
  intro m
  induction m with
  | zero =>
    intro i hi
    have hin : i = 16 := by omega
    subst hin
    refine r_iload_n S dX2_removeLatest_21 rfl ?_
    refine r_bipush S dX2_removeLatest_22 (by decide) ?_
    refine r_icmp_ge S dX2_removeLatest_24 (tgt := 50) (by decide) ⟨by omega, by omega⟩ ⟨by omega, by omega⟩ (fun h_24 => ?_) (fun h_24 => ?_)
    · refine r_iconst S dX2_removeLatest_50 ?_
      exact r_zret S dX2_removeLatest_51 (by omega) (by omega) (by first | exact Or.inl rfl | exact Or.inr rfl | omega) (⟨_, rfl, rfl, rfl⟩)
    · omega
  | succ m ih =>
    intro i hi
    refine r_iload_n S dX2_removeLatest_21 rfl ?_
    refine r_bipush S dX2_removeLatest_22 (by decide) ?_
    refine r_icmp_ge S dX2_removeLatest_24 (tgt := 50) (by decide) ⟨by omega, by omega⟩ ⟨by omega, by omega⟩ (fun h_24 => ?_) (fun h_24 => ?_)
    · omega
    · refine r_aload_n S dX2_removeLatest_27 rfl ?_
      refine r_getf S g_RX2_15_2 dX2_removeLatest_28 (by repeat (first | assumption | exact sUp_same | exact sNew_same | refine sUp_ne (by first | assumption | omega) ?_)) rfl ?_
      refine r_iload_n S dX2_removeLatest_31 rfl ?_
      refine r_dup2 S dX2_removeLatest_32 rfl rfl ?_
      refine r_ialdN S (i) dX2_removeLatest_33 (by repeat (first | assumption | exact sUp_same | exact sNew_same | refine sUp_ne (by first | assumption | omega) ?_)) (by omega) (by omega) (by decide) ?_
      rw [cutW_at, hw i (by omega)]
      refine r_iconst S dX2_removeLatest_34 ?_
      refine r_aload_n S dX2_removeLatest_35 rfl ?_
      refine r_getf S g_RX2_18_2 dX2_removeLatest_36 (by repeat (first | assumption | exact sUp_same | exact sNew_same | refine sUp_ne (by first | assumption | omega) ?_)) rfl ?_
      refine r_num (z' := ((q - 1 : Nat) : Int)) (by omega) ?_
      refine r_ishl S dX2_removeLatest_39 (shlZ (a := 1) (pw1 (by omega)) (by omega)) ?_
      refine r_iconst S dX2_removeLatest_40 ?_
      refine r_isub S dX2_removeLatest_41 ?_
      refine r_iand S dX2_removeLatest_42 (maskZ (by omega)) ?_
      refine r_iastN S (i) dX2_removeLatest_43 (by repeat (first | assumption | exact sUp_same | exact sNew_same | refine sUp_ne (by first | assumption | omega) ?_)) (by omega) (by omega) (by decide) ?_
      refine r_iinc S dX2_removeLatest_44 rfl rfl (by decide) (lv' := [_, _]) rfl ?_
      refine r_goto S dX2_removeLatest_47 (tgt := 21) (by decide) ?_
      have h9 := ih (i + 1) (by omega)
      rw [← cutW_succ w (q - 1) i, hw i (by omega), Int.toNat_natCast] at h9
      simp only [sUp_sUp]
      exact h9

set_option maxRecDepth 100000 in
set_option maxHeartbeats 4000000 in
theorem c_remove {k : Cx} {L0 : Launch} {σ : St} {q : Nat} (hC : σ.2 (cBase k + 11) = some (oCode k q)) (hq : q ≤ 12) {w : Nat → Int} {qs : Nat → Nat} (hW : σ.2 (cBase k + 13) = some (eI k 16 w)) (hw : ∀ i, i < 16 → w i = (wd qs q i : Int)) (hq2 : 0 < q) : CtrV k L0 mX2_removeLatest 1 0 0 [.ref (cBase k + 11)] σ (fun v σ' => v = .int (iZ 1) ∧ σ' = (sUp (sUp σ (cBase k + 11) (oCode k ((q : Int) - 1))) (cBase k + 13) (eI k 16 (cutW w (q - 1) 16)))) := by
  refine Ctr.of (by decide +kernel) rfl (Nat.le_of_ble_eq_true rfl) ?_
  intro κ hl0 S
  subst hl0
  refine r_aload_n S dX2_removeLatest_0 rfl ?_
  refine r_getf S g_RX2_18_2 dX2_removeLatest_1 (by repeat (first | assumption | exact sUp_same | exact sNew_same | refine sUp_ne (by first | assumption | omega) ?_)) rfl ?_
  refine r_if_gt S dX2_removeLatest_4 (tgt := 9) (by decide) ⟨by omega, by omega⟩ (fun h_4 => ?_) (fun h_4 => ?_)
  · refine r_aload_n S dX2_removeLatest_9 rfl ?_
    refine r_dup S dX2_removeLatest_10 rfl ?_
    refine r_getf S g_RX2_18_2 dX2_removeLatest_11 (by repeat (first | assumption | exact sUp_same | exact sNew_same | refine sUp_ne (by first | assumption | omega) ?_)) rfl ?_
    refine r_iconst S dX2_removeLatest_14 ?_
    refine r_isub S dX2_removeLatest_15 ?_
    refine r_putf S p_RX2_18_2 dX2_removeLatest_16 (by first | rfl | decide) (by first | rfl | decide) (by repeat (first | assumption | exact sUp_same | exact sNew_same | refine sUp_ne (by first | assumption | omega) ?_)) (Nat.le_of_ble_eq_true rfl) (fs' := [_, _, _]) rfl ?_
    try simp only [sUp_sUp]
    refine r_iconst S dX2_removeLatest_19 ?_
    refine r_istore_n S dX2_removeLatest_20 rfl (by decide) (lv' := [_, _]) rfl ?_
    have h9 := l_remove hC hq hW hw hq2 S 16 0 (by omega)
    rw [cutW_0, sUp_id (sUp_ne (by omega) hW)] at h9
    exact h9
  · omega

set_option maxRecDepth 100000 in
set_option maxHeartbeats 4000000 in
theorem c_removeF {k : Cx} {L0 : Launch} {σ : St} {q : Nat} (hC : σ.2 (cBase k + 11) = some (oCode k q)) (hq : q ≤ 12) (hq2 : q = 0) : CtrV k L0 mX2_removeLatest 1 0 0 [.ref (cBase k + 11)] σ (fun v σ' => v = .int (iZ (0)) ∧ σ' = σ) := by
  refine Ctr.of (by decide +kernel) rfl (Nat.le_of_ble_eq_true rfl) ?_
  intro κ hl0 S
  subst hl0
  refine r_aload_n S dX2_removeLatest_0 rfl ?_
  refine r_getf S g_RX2_18_2 dX2_removeLatest_1 (by repeat (first | assumption | exact sUp_same | exact sNew_same | refine sUp_ne (by first | assumption | omega) ?_)) rfl ?_
  refine r_if_gt S dX2_removeLatest_4 (tgt := 9) (by decide) ⟨by omega, by omega⟩ (fun h_4 => ?_) (fun h_4 => ?_)
  · omega
  · refine r_iconst S dX2_removeLatest_7 ?_
    exact r_zret S dX2_removeLatest_8 (by omega) (by omega) (by first | exact Or.inl rfl | exact Or.inr rfl | omega) (⟨_, rfl, rfl, rfl⟩)
end
section
set_option maxRecDepth 100000 in
set_option maxHeartbeats 4000000 in
theorem c_isKind {k : Cx} {L0 : Launch} {σ : St} {x : Int} (hx : zR x) : CtrV k L0 mX11_isKind 1 0 0 [.int (iZ x)] σ (fun v σ' => v = .int (iZ (b01 (0 ≤ x ∧ x < 3))) ∧ σ' = σ) := by
  refine Ctr.of (by decide +kernel) rfl (Nat.le_of_ble_eq_true rfl) ?_
  intro κ hl0 S
  subst hl0
  obtain ⟨hx1, hx2⟩ := hx
  refine r_iload_n S dX11_isKind_0 rfl ?_
  refine r_if_lt S dX11_isKind_1 (tgt := 13) (by decide) ⟨by omega, by omega⟩ (fun h_1 => ?_) (fun h_1 => ?_)
  · refine r_iconst S dX11_isKind_13 ?_
    exact r_zret S dX11_isKind_14 (by omega) (by omega) (by first | exact Or.inl rfl | exact Or.inr rfl | omega) (⟨_, rfl, by first | rw [b01_t (by omega)] | rw [b01_f (by omega)], rfl⟩)
  · refine r_iload_n S dX11_isKind_4 rfl ?_
    refine r_iconst S dX11_isKind_5 ?_
    refine r_icmp_ge S dX11_isKind_6 (tgt := 13) (by decide) ⟨by omega, by omega⟩ ⟨by omega, by omega⟩ (fun h_6 => ?_) (fun h_6 => ?_)
    · refine r_iconst S dX11_isKind_13 ?_
      exact r_zret S dX11_isKind_14 (by omega) (by omega) (by first | exact Or.inl rfl | exact Or.inr rfl | omega) (⟨_, rfl, by first | rw [b01_t (by omega)] | rw [b01_f (by omega)], rfl⟩)
    · refine r_iconst S dX11_isKind_9 ?_
      refine r_goto S dX11_isKind_10 (tgt := 14) (by decide) ?_
      exact r_zret S dX11_isKind_14 (by omega) (by omega) (by first | exact Or.inl rfl | exact Or.inr rfl | omega) (⟨_, rfl, by first | rw [b01_t (by omega)] | rw [b01_f (by omega)], rfl⟩)

set_option maxRecDepth 100000 in
set_option maxHeartbeats 4000000 in
theorem c_isNumber {k : Cx} {L0 : Launch} {σ : St} {x : Int} (hx : zR x) : CtrV k L0 mX11_isNumber 1 0 0 [.int (iZ x)] σ (fun v σ' => v = .int (iZ (b01 (0 ≤ x ∧ x < 16))) ∧ σ' = σ) := by
  refine Ctr.of (by decide +kernel) rfl (Nat.le_of_ble_eq_true rfl) ?_
  intro κ hl0 S
  subst hl0
  obtain ⟨hx1, hx2⟩ := hx
  refine r_iload_n S dX11_isNumber_0 rfl ?_
  refine r_if_lt S dX11_isNumber_1 (tgt := 14) (by decide) ⟨by omega, by omega⟩ (fun h_1 => ?_) (fun h_1 => ?_)
  · refine r_iconst S dX11_isNumber_14 ?_
    exact r_zret S dX11_isNumber_15 (by omega) (by omega) (by first | exact Or.inl rfl | exact Or.inr rfl | omega) (⟨_, rfl, by first | rw [b01_t (by omega)] | rw [b01_f (by omega)], rfl⟩)
  · refine r_iload_n S dX11_isNumber_4 rfl ?_
    refine r_bipush S dX11_isNumber_5 (by decide) ?_
    refine r_icmp_ge S dX11_isNumber_7 (tgt := 14) (by decide) ⟨by omega, by omega⟩ ⟨by omega, by omega⟩ (fun h_7 => ?_) (fun h_7 => ?_)
    · refine r_iconst S dX11_isNumber_14 ?_
      exact r_zret S dX11_isNumber_15 (by omega) (by omega) (by first | exact Or.inl rfl | exact Or.inr rfl | omega) (⟨_, rfl, by first | rw [b01_t (by omega)] | rw [b01_f (by omega)], rfl⟩)
    · refine r_iconst S dX11_isNumber_10 ?_
      refine r_goto S dX11_isNumber_11 (tgt := 15) (by decide) ?_
      exact r_zret S dX11_isNumber_15 (by omega) (by omega) (by first | exact Or.inl rfl | exact Or.inr rfl | omega) (⟨_, rfl, by first | rw [b01_t (by omega)] | rw [b01_f (by omega)], rfl⟩)

set_option maxRecDepth 100000 in
set_option maxHeartbeats 4000000 in
theorem c_isCount {k : Cx} {L0 : Launch} {σ : St} {x : Int} (hx : zR x) : CtrV k L0 mX11_isCount 1 0 0 [.int (iZ x)] σ (fun v σ' => v = .int (iZ (b01 (1 ≤ x ∧ x ≤ 16))) ∧ σ' = σ) := by
  refine Ctr.of (by decide +kernel) rfl (Nat.le_of_ble_eq_true rfl) ?_
  intro κ hl0 S
  subst hl0
  obtain ⟨hx1, hx2⟩ := hx
  refine r_iload_n S dX11_isCount_0 rfl ?_
  refine r_iconst S dX11_isCount_1 ?_
  refine r_icmp_lt S dX11_isCount_2 (tgt := 15) (by decide) ⟨by omega, by omega⟩ ⟨by omega, by omega⟩ (fun h_2 => ?_) (fun h_2 => ?_)
  · refine r_iconst S dX11_isCount_15 ?_
    exact r_zret S dX11_isCount_16 (by omega) (by omega) (by first | exact Or.inl rfl | exact Or.inr rfl | omega) (⟨_, rfl, by first | rw [b01_t (by omega)] | rw [b01_f (by omega)], rfl⟩)
  · refine r_iload_n S dX11_isCount_5 rfl ?_
    refine r_bipush S dX11_isCount_6 (by decide) ?_
    refine r_icmp_gt S dX11_isCount_8 (tgt := 15) (by decide) ⟨by omega, by omega⟩ ⟨by omega, by omega⟩ (fun h_8 => ?_) (fun h_8 => ?_)
    · refine r_iconst S dX11_isCount_15 ?_
      exact r_zret S dX11_isCount_16 (by omega) (by omega) (by first | exact Or.inl rfl | exact Or.inr rfl | omega) (⟨_, rfl, by first | rw [b01_t (by omega)] | rw [b01_f (by omega)], rfl⟩)
    · refine r_iconst S dX11_isCount_11 ?_
      refine r_goto S dX11_isCount_12 (tgt := 16) (by decide) ?_
      exact r_zret S dX11_isCount_16 (by omega) (by omega) (by first | exact Or.inl rfl | exact Or.inr rfl | omega) (⟨_, rfl, by first | rw [b01_t (by omega)] | rw [b01_f (by omega)], rfl⟩)

set_option maxRecDepth 100000 in
set_option maxHeartbeats 4000000 in
theorem c_isLies {k : Cx} {L0 : Launch} {σ : St} {x : Int} (hx : zR x) : CtrV k L0 mX11_isLies 1 0 0 [.int (iZ x)] σ (fun v σ' => v = .int (iZ (b01 (0 ≤ x ∧ x ≤ 3))) ∧ σ' = σ) := by
  refine Ctr.of (by decide +kernel) rfl (Nat.le_of_ble_eq_true rfl) ?_
  intro κ hl0 S
  subst hl0
  obtain ⟨hx1, hx2⟩ := hx
  refine r_iload_n S dX11_isLies_0 rfl ?_
  refine r_if_lt S dX11_isLies_1 (tgt := 13) (by decide) ⟨by omega, by omega⟩ (fun h_1 => ?_) (fun h_1 => ?_)
  · refine r_iconst S dX11_isLies_13 ?_
    exact r_zret S dX11_isLies_14 (by omega) (by omega) (by first | exact Or.inl rfl | exact Or.inr rfl | omega) (⟨_, rfl, by first | rw [b01_t (by omega)] | rw [b01_f (by omega)], rfl⟩)
  · refine r_iload_n S dX11_isLies_4 rfl ?_
    refine r_iconst S dX11_isLies_5 ?_
    refine r_icmp_gt S dX11_isLies_6 (tgt := 13) (by decide) ⟨by omega, by omega⟩ ⟨by omega, by omega⟩ (fun h_6 => ?_) (fun h_6 => ?_)
    · refine r_iconst S dX11_isLies_13 ?_
      exact r_zret S dX11_isLies_14 (by omega) (by omega) (by first | exact Or.inl rfl | exact Or.inr rfl | omega) (⟨_, rfl, by first | rw [b01_t (by omega)] | rw [b01_f (by omega)], rfl⟩)
    · refine r_iconst S dX11_isLies_9 ?_
      refine r_goto S dX11_isLies_10 (tgt := 14) (by decide) ?_
      exact r_zret S dX11_isLies_14 (by omega) (by omega) (by first | exact Or.inl rfl | exact Or.inr rfl | omega) (⟨_, rfl, by first | rw [b01_t (by omega)] | rw [b01_f (by omega)], rfl⟩)

set_option maxRecDepth 100000 in
set_option maxHeartbeats 4000000 in
theorem c_isHeap {k : Cx} {L0 : Launch} {σ : St} {x : Int} (hx : zR x) : CtrV k L0 mX11_isHeap 1 0 0 [.int (iZ x)] σ (fun v σ' => v = .int (iZ (b01 (0 ≤ x ∧ x ≤ 65535))) ∧ σ' = σ) := by
  refine Ctr.of (by decide +kernel) rfl (Nat.le_of_ble_eq_true rfl) ?_
  intro κ hl0 S
  subst hl0
  obtain ⟨hx1, hx2⟩ := hx
  refine r_iload_n S dX11_isHeap_0 rfl ?_
  refine r_if_lt S dX11_isHeap_1 (tgt := 14) (by decide) ⟨by omega, by omega⟩ (fun h_1 => ?_) (fun h_1 => ?_)
  · refine r_iconst S dX11_isHeap_14 ?_
    exact r_zret S dX11_isHeap_15 (by omega) (by omega) (by first | exact Or.inl rfl | exact Or.inr rfl | omega) (⟨_, rfl, by first | rw [b01_t (by omega)] | rw [b01_f (by omega)], rfl⟩)
  · refine r_iload_n S dX11_isHeap_4 rfl ?_
    refine r_ldc S (n := 65535) (by exact wd_391) dX11_isHeap_5 ?_
    refine r_icmp_gt S dX11_isHeap_7 (tgt := 14) (by decide) ⟨by omega, by omega⟩ ⟨by omega, by omega⟩ (fun h_7 => ?_) (fun h_7 => ?_)
    · refine r_iconst S dX11_isHeap_14 ?_
      exact r_zret S dX11_isHeap_15 (by omega) (by omega) (by first | exact Or.inl rfl | exact Or.inr rfl | omega) (⟨_, rfl, by first | rw [b01_t (by omega)] | rw [b01_f (by omega)], rfl⟩)
    · refine r_iconst S dX11_isHeap_10 ?_
      refine r_goto S dX11_isHeap_11 (tgt := 15) (by decide) ?_
      exact r_zret S dX11_isHeap_15 (by omega) (by omega) (by first | exact Or.inl rfl | exact Or.inr rfl | omega) (⟨_, rfl, by first | rw [b01_t (by omega)] | rw [b01_f (by omega)], rfl⟩)

set_option maxRecDepth 100000 in
set_option maxHeartbeats 4000000 in
theorem c_toldOrNone {k : Cx} {L0 : Launch} {σ : St} {x : Int} (hx : zR x) : CtrV k L0 mX11_toldOrNone 1 0 0 [.int (iZ x)] σ (fun v σ' => v = .int (iZ (if x ≤ 12 then x else -9)) ∧ σ' = σ) := by
  refine Ctr.of (by decide +kernel) rfl (Nat.le_of_ble_eq_true rfl) ?_
  intro κ hl0 S
  subst hl0
  obtain ⟨hx1, hx2⟩ := hx
  refine r_iload_n S dX11_toldOrNone_0 rfl ?_
  refine r_bipush S dX11_toldOrNone_1 (by decide) ?_
  refine r_icmp_le S dX11_toldOrNone_3 (tgt := 11) (by decide) ⟨by omega, by omega⟩ ⟨by omega, by omega⟩ (fun h_3 => ?_) (fun h_3 => ?_)
  · refine r_iload_n S dX11_toldOrNone_11 rfl ?_
    exact r_iret S dX11_toldOrNone_12 (by omega) (by omega) (⟨_, rfl, by first | rw [if_pos (by omega)] | rw [if_neg (by omega)], rfl⟩)
  · refine r_bipush S dX11_toldOrNone_6 (by decide) ?_
    refine r_goto S dX11_toldOrNone_8 (tgt := 12) (by decide) ?_
    exact r_iret S dX11_toldOrNone_12 (by omega) (by omega) (⟨_, rfl, by first | rw [if_pos (by omega)] | rw [if_neg (by omega)], rfl⟩)

set_option maxRecDepth 100000 in
set_option maxHeartbeats 4000000 in
theorem c_shown {k : Cx} {L0 : Launch} {σ : St} {x : Int} (hx : zR x) : CtrV k L0 mX12_shown 1 0 0 [.int (iZ x)] σ (fun v σ' => v = .int (iZ (if x = 13 then -9 else x)) ∧ σ' = σ) := by
  refine Ctr.of (by decide +kernel) rfl (Nat.le_of_ble_eq_true rfl) ?_
  intro κ hl0 S
  subst hl0
  obtain ⟨hx1, hx2⟩ := hx
  refine r_iload_n S dX12_shown_0 rfl ?_
  refine r_bipush S dX12_shown_1 (by decide) ?_
  refine r_icmp_ne S dX12_shown_3 (tgt := 11) (by decide) ⟨by omega, by omega⟩ ⟨by omega, by omega⟩ (fun h_3 => ?_) (fun h_3 => ?_)
  · refine r_iload_n S dX12_shown_11 rfl ?_
    exact r_iret S dX12_shown_12 (by omega) (by omega) (⟨_, rfl, by first | rw [if_pos (by omega)] | rw [if_neg (by omega)], rfl⟩)
  · refine r_bipush S dX12_shown_6 (by decide) ?_
    refine r_goto S dX12_shown_8 (tgt := 12) (by decide) ?_
    exact r_iret S dX12_shown_12 (by omega) (by omega) (⟨_, rfl, by first | rw [if_pos (by omega)] | rw [if_neg (by omega)], rfl⟩)

set_option maxRecDepth 100000 in
set_option maxHeartbeats 4000000 in
theorem c_in {k : Cx} {L0 : Launch} {σ : St} {x a b : Int} (hx : zR x) (ha : zR a) (hb : zR b) : CtrV k L0 mX12_in 1 0 0 [.int (iZ x), .int (iZ a), .int (iZ b)] σ (fun v σ' => v = .int (iZ (b01 (a ≤ x ∧ x ≤ b))) ∧ σ' = σ) := by
  refine Ctr.of (by decide +kernel) rfl (Nat.le_of_ble_eq_true rfl) ?_
  intro κ hl0 S
  subst hl0
  refine r_iload_n S dX12_in_0 rfl ?_
  refine r_iload_n S dX12_in_1 rfl ?_
  refine r_icmp_lt S dX12_in_2 (tgt := 14) (by decide) hx ha (fun h_2 => ?_) (fun h_2 => ?_)
  · refine r_iconst S dX12_in_14 ?_
    exact r_zret S dX12_in_15 (by omega) (by omega) (by first | exact Or.inl rfl | exact Or.inr rfl | omega) (⟨_, rfl, by first | rw [b01_t (by omega)] | rw [b01_f (by omega)], rfl⟩)
  · refine r_iload_n S dX12_in_5 rfl ?_
    refine r_iload_n S dX12_in_6 rfl ?_
    refine r_icmp_gt S dX12_in_7 (tgt := 14) (by decide) hx hb (fun h_7 => ?_) (fun h_7 => ?_)
    · refine r_iconst S dX12_in_14 ?_
      exact r_zret S dX12_in_15 (by omega) (by omega) (by first | exact Or.inl rfl | exact Or.inr rfl | omega) (⟨_, rfl, by first | rw [b01_t (by omega)] | rw [b01_f (by omega)], rfl⟩)
    · refine r_iconst S dX12_in_10 ?_
      refine r_goto S dX12_in_11 (tgt := 15) (by decide) ?_
      exact r_zret S dX12_in_15 (by omega) (by omega) (by first | exact Or.inl rfl | exact Or.inr rfl | omega) (⟨_, rfl, by first | rw [b01_t (by omega)] | rw [b01_f (by omega)], rfl⟩)

set_option maxRecDepth 100000 in
set_option maxHeartbeats 4000000 in
theorem c_isNumberM {k : Cx} {L0 : Launch} {σ : St} {x : Int} (hx : zR x) : CtrV k L0 mX12_isNumber 2 0 0 [.int (iZ x)] σ (fun v σ' => v = .int (iZ (b01 (0 ≤ x ∧ x ≤ 15))) ∧ σ' = σ) := by
  refine Ctr.of (by decide +kernel) rfl (Nat.le_of_ble_eq_true rfl) ?_
  intro κ hl0 S
  subst hl0
  refine r_iload_n S dX12_isNumber_0 rfl ?_
  refine r_iconst S dX12_isNumber_1 ?_
  refine r_bipush S dX12_isNumber_2 (by decide) ?_
  refine r_callS S (c_in hx ⟨by decide, by decide⟩ ⟨by decide, by decide⟩) k_mX12_in c_RX12_53 dX12_isNumber_4 (by decide) ⟨by omega, by omega⟩ rfl rfl (Nat.le_of_ble_eq_true rfl) (fun r σ' hp => ?_)
  obtain ⟨_, rfl, rfl, rfl⟩ := hp
  try simp only [Option.toList_some, Option.toList_none, List.cons_append, List.nil_append]
  exact r_zret S dX12_isNumber_7 (by omega) (by omega) (b01_01 _) (⟨_, rfl, rfl, rfl⟩)

set_option maxRecDepth 100000 in
set_option maxHeartbeats 4000000 in
theorem c_costOf {k : Cx} {L0 : Launch} {σ : St} {kd y b : Nat} (hk : kd < 3) (hy : y < 2) (hb : b < 2) : CtrV k L0 mX12_costOf 1 0 0 [.int (iZ (kd : Int)), .int (iZ (y : Int)), .int (iZ (b : Int))] σ (fun v σ' => v = .int (iZ (costK kd y b)) ∧ σ' = σ) := by
  refine Ctr.of (by decide +kernel) rfl (Nat.le_of_ble_eq_true rfl) ?_
  intro κ hl0 S
  subst hl0
  refine r_iload_n S dX12_costOf_0 rfl ?_
  refine r_iload_n S dX12_costOf_1 rfl ?_
  refine r_icmp_ne S dX12_costOf_2 (tgt := 9) (by decide) ⟨by omega, by omega⟩ ⟨by omega, by omega⟩ (fun h_2 => ?_) (fun h_2 => ?_)
  · refine r_iconst S dX12_costOf_9 ?_
    refine r_istore_n S dX12_costOf_10 rfl (by decide) (lv' := [_, _, _, _]) rfl ?_
    refine r_iload_n S dX12_costOf_11 rfl ?_
    refine r_if_eq S dX12_costOf_12 (tgt := 17) (by decide) ⟨by decide, by decide⟩ (fun h_12 => ?_) (fun h_12 => ?_)
    · refine r_iload_n S dX12_costOf_17 rfl ?_
      refine r_if_eq S dX12_costOf_18 (tgt := 30) (by decide) ⟨by omega, by omega⟩ (fun h_18 => ?_) (fun h_18 => ?_)
      · refine r_bipush S dX12_costOf_30 (by decide) ?_
        refine r_goto S dX12_costOf_32 (tgt := 36) (by decide) ?_
        exact r_iret S dX12_costOf_36 (by omega) (by omega) (⟨_, rfl, by unfold costK; rw [if_neg (by omega)]; first | rw [if_pos (by omega)] | rw [if_neg (by omega), if_pos (by omega)] | rw [if_neg (by omega), if_neg (by omega)], rfl⟩)
      · refine r_iload_n S dX12_costOf_21 rfl ?_
        refine r_iconst S dX12_costOf_22 ?_
        refine r_icmp_ne S dX12_costOf_23 (tgt := 35) (by decide) ⟨by omega, by omega⟩ ⟨by omega, by omega⟩ (fun h_23 => ?_) (fun h_23 => ?_)
        · refine r_iconst S dX12_costOf_35 ?_
          exact r_iret S dX12_costOf_36 (by omega) (by omega) (⟨_, rfl, by unfold costK; rw [if_neg (by omega)]; first | rw [if_pos (by omega)] | rw [if_neg (by omega), if_pos (by omega)] | rw [if_neg (by omega), if_neg (by omega)], rfl⟩)
        · refine r_iload_n S dX12_costOf_26 rfl ?_
          refine r_if_ne S dX12_costOf_27 (tgt := 35) (by decide) ⟨by omega, by omega⟩ (fun h_27 => ?_) (fun h_27 => ?_)
          · refine r_iconst S dX12_costOf_35 ?_
            exact r_iret S dX12_costOf_36 (by omega) (by omega) (⟨_, rfl, by unfold costK; rw [if_neg (by omega)]; first | rw [if_pos (by omega)] | rw [if_neg (by omega), if_pos (by omega)] | rw [if_neg (by omega), if_neg (by omega)], rfl⟩)
          · refine r_bipush S dX12_costOf_30 (by decide) ?_
            refine r_goto S dX12_costOf_32 (tgt := 36) (by decide) ?_
            exact r_iret S dX12_costOf_36 (by omega) (by omega) (⟨_, rfl, by unfold costK; rw [if_neg (by omega)]; first | rw [if_pos (by omega)] | rw [if_neg (by omega), if_pos (by omega)] | rw [if_neg (by omega), if_neg (by omega)], rfl⟩)
    · exact absurd rfl h_12
  · refine r_iconst S dX12_costOf_5 ?_
    refine r_goto S dX12_costOf_6 (tgt := 10) (by decide) ?_
    refine r_istore_n S dX12_costOf_10 rfl (by decide) (lv' := [_, _, _, _]) rfl ?_
    refine r_iload_n S dX12_costOf_11 rfl ?_
    refine r_if_eq S dX12_costOf_12 (tgt := 17) (by decide) ⟨by decide, by decide⟩ (fun h_12 => ?_) (fun h_12 => ?_)
    · exact absurd h_12 (by decide)
    · refine r_iconst S dX12_costOf_15 ?_
      exact r_iret S dX12_costOf_16 (by omega) (by omega) (⟨_, rfl, by unfold costK; rw [if_pos (by omega)], rfl⟩)

set_option maxRecDepth 100000 in
set_option maxHeartbeats 4000000 in
theorem c_price0 {k : Cx} {L0 : Launch} {σ : St} {t a : Nat} {z : Int} (hT : σ.2 t = some (oTally z)) {y b : Nat} (hy : y < 2) (hb : b < 2) : CtrV k L0 mX7_price 1 0 0 [.ref a, .int (iZ (y : Int)), .int (iZ (b : Int)), .ref t] σ (fun v σ' => v = .int (iZ (costK 0 y b)) ∧ σ' = sUp σ t (oTally (z + 1))) := by
  refine Ctr.of (by decide +kernel) rfl (Nat.le_of_ble_eq_true rfl) ?_
  intro κ hl0 S
  subst hl0
  refine r_aload_n S dX7_price_0 rfl ?_
  refine r_dup S dX7_price_1 rfl ?_
  refine r_getf S g_RX7_9_8 dX7_price_2 (by repeat (first | assumption | exact sUp_same | exact sNew_same | refine sUp_ne (by first | assumption | omega) ?_)) rfl ?_
  refine r_lconst S (z := 1) dX7_price_5 (by decide) ?_
  refine r_ladd S dX7_price_6 ?_
  refine r_putf S p_RX7_9_8 dX7_price_7 (by first | rfl | decide) (by first | rfl | decide) (by repeat (first | assumption | exact sUp_same | exact sNew_same | refine sUp_ne (by first | assumption | omega) ?_)) (Nat.le_of_ble_eq_true rfl) (fs' := [_]) rfl ?_
  try simp only [sUp_sUp]
  refine r_iload_n S dX7_price_10 rfl ?_
  refine r_iload_n S dX7_price_11 rfl ?_
  refine r_icmp_ne S dX7_price_12 (tgt := 19) (by decide) ⟨by omega, by omega⟩ ⟨by omega, by omega⟩ (fun h_12 => ?_) (fun h_12 => ?_)
  · refine r_bipush S dX7_price_19 (by decide) ?_
    exact r_iret S dX7_price_21 (by omega) (by omega) (⟨_, rfl, by unfold costK; first | rw [if_pos (by omega)] | rw [if_neg (by omega), if_pos (by omega)] | rw [if_neg (by omega), if_neg (by omega), if_pos (by omega)] | rw [if_neg (by omega), if_neg (by omega), if_neg (by omega)], rfl⟩)
  · refine r_iconst S dX7_price_15 ?_
    refine r_goto S dX7_price_16 (tgt := 21) (by decide) ?_
    exact r_iret S dX7_price_21 (by omega) (by omega) (⟨_, rfl, by unfold costK; first | rw [if_pos (by omega)] | rw [if_neg (by omega), if_pos (by omega)] | rw [if_neg (by omega), if_neg (by omega), if_pos (by omega)] | rw [if_neg (by omega), if_neg (by omega), if_neg (by omega)], rfl⟩)

set_option maxRecDepth 100000 in
set_option maxHeartbeats 4000000 in
theorem c_price1_1 {k : Cx} {L0 : Launch} {σ : St} {t a : Nat} {z : Int} (hT : σ.2 t = some (oTally z)) {y b : Nat} (hy : y < 2) (hb : b < 2) (hA : σ.2 a = some (.inr (1, []))) (hne : a ≠ t) : CtrV k L0 mX1_price 2 0 0 [.ref a, .int (iZ (y : Int)), .int (iZ (b : Int)), .ref t] σ (fun v σ' => v = .int (iZ (costK 1 y b)) ∧ σ' = sUp σ t (oTally (z + 11))) := by
  refine Ctr.of (by decide +kernel) rfl (Nat.le_of_ble_eq_true rfl) ?_
  intro κ hl0 S
  subst hl0
  refine r_aload_n S dX1_price_0 rfl ?_
  refine r_dup S dX1_price_1 rfl ?_
  refine r_getf S g_RX1_9_8 dX1_price_2 (by repeat (first | assumption | exact sUp_same | exact sNew_same | refine sUp_ne (by first | assumption | omega) ?_)) rfl ?_
  refine r_ldc2 S (n := 10) (by exact wd_201) dX1_price_5 ?_
  refine r_ladd S dX1_price_8 ?_
  refine r_putf S p_RX1_9_8 dX1_price_9 (by first | rfl | decide) (by first | rfl | decide) (by repeat (first | assumption | exact sUp_same | exact sNew_same | refine sUp_ne (by first | assumption | omega) ?_)) (Nat.le_of_ble_eq_true rfl) (fs' := [_]) rfl ?_
  try simp only [sUp_sUp]
  refine r_aload_n S dX1_price_12 rfl ?_
  refine r_iload_n S dX1_price_13 rfl ?_
  refine r_iload_n S dX1_price_14 rfl ?_
  refine r_aload_n S dX1_price_15 rfl ?_
  refine r_callP S (ci := 1) (c_price0 sUp_same hy hb) k_mX7_price c_RX1_17_s rfl dX1_price_16 (by decide) ⟨by omega, by omega⟩ (by repeat (first | assumption | exact sUp_same | exact sNew_same | refine sUp_ne (by first | assumption | omega) ?_)) rfl rfl (Nat.le_of_ble_eq_true rfl) (fun r σ' hp => ?_)
  obtain ⟨_, rfl, rfl, rfl⟩ := hp
  try simp only [Option.toList_some, Option.toList_none, List.cons_append, List.nil_append]
  simp only [sUp_sUp]
  have hc := costK_rng 0 y b
  obtain ⟨hk1, hk2⟩ := cK1 hy hb
  refine r_istore S dX1_price_19 rfl (by decide) (lv' := [_, _, _, _, _]) rfl ?_
  refine r_iload S dX1_price_21 rfl ?_
  refine r_bipush S dX1_price_23 (by decide) ?_
  refine r_icmp_ne S dX1_price_25 (tgt := 32) (by decide) ⟨by omega, by omega⟩ ⟨by omega, by omega⟩ (fun h_25 => ?_) (fun h_25 => ?_)
  · refine r_iload S dX1_price_32 rfl ?_
    exact r_iret S dX1_price_34 (by omega) (by omega) (⟨_, rfl, by first | rw [hk1 h_25] | rw [hk2 h_25], by rw [show z + 11 = z + 10 + 1 by omega]⟩)
  · refine r_iconst S dX1_price_28 ?_
    refine r_goto S dX1_price_29 (tgt := 34) (by decide) ?_
    exact r_iret S dX1_price_34 (by omega) (by omega) (⟨_, rfl, by first | rw [hk1 h_25] | rw [hk2 h_25], by rw [show z + 11 = z + 10 + 1 by omega]⟩)

set_option maxRecDepth 100000 in
set_option maxHeartbeats 4000000 in
theorem c_price1_9 {k : Cx} {L0 : Launch} {σ : St} {t a : Nat} {z : Int} (hT : σ.2 t = some (oTally z)) {y b : Nat} (hy : y < 2) (hb : b < 2) (hA : σ.2 a = some (.inr (9, []))) (hne : a ≠ t) : CtrV k L0 mX1_price 2 0 0 [.ref a, .int (iZ (y : Int)), .int (iZ (b : Int)), .ref t] σ (fun v σ' => v = .int (iZ (costK 1 y b)) ∧ σ' = sUp σ t (oTally (z + 11))) := by
  refine Ctr.of (by decide +kernel) rfl (Nat.le_of_ble_eq_true rfl) ?_
  intro κ hl0 S
  subst hl0
  refine r_aload_n S dX1_price_0 rfl ?_
  refine r_dup S dX1_price_1 rfl ?_
  refine r_getf S g_RX1_9_8 dX1_price_2 (by repeat (first | assumption | exact sUp_same | exact sNew_same | refine sUp_ne (by first | assumption | omega) ?_)) rfl ?_
  refine r_ldc2 S (n := 10) (by exact wd_201) dX1_price_5 ?_
  refine r_ladd S dX1_price_8 ?_
  refine r_putf S p_RX1_9_8 dX1_price_9 (by first | rfl | decide) (by first | rfl | decide) (by repeat (first | assumption | exact sUp_same | exact sNew_same | refine sUp_ne (by first | assumption | omega) ?_)) (Nat.le_of_ble_eq_true rfl) (fs' := [_]) rfl ?_
  try simp only [sUp_sUp]
  refine r_aload_n S dX1_price_12 rfl ?_
  refine r_iload_n S dX1_price_13 rfl ?_
  refine r_iload_n S dX1_price_14 rfl ?_
  refine r_aload_n S dX1_price_15 rfl ?_
  refine r_callP S (ci := 9) (c_price0 sUp_same hy hb) k_mX7_price c_RX1_17_s rfl dX1_price_16 (by decide) ⟨by omega, by omega⟩ (by repeat (first | assumption | exact sUp_same | exact sNew_same | refine sUp_ne (by first | assumption | omega) ?_)) rfl rfl (Nat.le_of_ble_eq_true rfl) (fun r σ' hp => ?_)
  obtain ⟨_, rfl, rfl, rfl⟩ := hp
  try simp only [Option.toList_some, Option.toList_none, List.cons_append, List.nil_append]
  simp only [sUp_sUp]
  have hc := costK_rng 0 y b
  obtain ⟨hk1, hk2⟩ := cK1 hy hb
  refine r_istore S dX1_price_19 rfl (by decide) (lv' := [_, _, _, _, _]) rfl ?_
  refine r_iload S dX1_price_21 rfl ?_
  refine r_bipush S dX1_price_23 (by decide) ?_
  refine r_icmp_ne S dX1_price_25 (tgt := 32) (by decide) ⟨by omega, by omega⟩ ⟨by omega, by omega⟩ (fun h_25 => ?_) (fun h_25 => ?_)
  · refine r_iload S dX1_price_32 rfl ?_
    exact r_iret S dX1_price_34 (by omega) (by omega) (⟨_, rfl, by first | rw [hk1 h_25] | rw [hk2 h_25], by rw [show z + 11 = z + 10 + 1 by omega]⟩)
  · refine r_iconst S dX1_price_28 ?_
    refine r_goto S dX1_price_29 (tgt := 34) (by decide) ?_
    exact r_iret S dX1_price_34 (by omega) (by omega) (⟨_, rfl, by first | rw [hk1 h_25] | rw [hk2 h_25], by rw [show z + 11 = z + 10 + 1 by omega]⟩)

set_option maxRecDepth 100000 in
set_option maxHeartbeats 4000000 in
theorem c_price2 {k : Cx} {L0 : Launch} {σ : St} {t a : Nat} {z : Int} (hT : σ.2 t = some (oTally z)) {y b : Nat} (hy : y < 2) (hb : b < 2) (hA : σ.2 a = some (.inr (9, []))) (hne : a ≠ t) : CtrV k L0 mX10_price 3 0 0 [.ref a, .int (iZ (y : Int)), .int (iZ (b : Int)), .ref t] σ (fun v σ' => v = .int (iZ (costK 2 y b)) ∧ σ' = sUp σ t (oTally (z + 111))) := by
  refine Ctr.of (by decide +kernel) rfl (Nat.le_of_ble_eq_true rfl) ?_
  intro κ hl0 S
  subst hl0
  refine r_aload_n S dX10_price_0 rfl ?_
  refine r_dup S dX10_price_1 rfl ?_
  refine r_getf S g_RX10_9_8 dX10_price_2 (by repeat (first | assumption | exact sUp_same | exact sNew_same | refine sUp_ne (by first | assumption | omega) ?_)) rfl ?_
  refine r_ldc2 S (n := 100) (by exact wd_206) dX10_price_5 ?_
  refine r_ladd S dX10_price_8 ?_
  refine r_putf S p_RX10_9_8 dX10_price_9 (by first | rfl | decide) (by first | rfl | decide) (by repeat (first | assumption | exact sUp_same | exact sNew_same | refine sUp_ne (by first | assumption | omega) ?_)) (Nat.le_of_ble_eq_true rfl) (fs' := [_]) rfl ?_
  try simp only [sUp_sUp]
  refine r_aload_n S dX10_price_12 rfl ?_
  refine r_iload_n S dX10_price_13 rfl ?_
  refine r_iload_n S dX10_price_14 rfl ?_
  refine r_aload_n S dX10_price_15 rfl ?_
  refine r_callP S (ci := 9) (c_price1_9 sUp_same hy hb (sUp_ne hne hA) hne) k_mX1_price c_RX10_17_s rfl dX10_price_16 (by decide) ⟨by omega, by omega⟩ (by repeat (first | assumption | exact sUp_same | exact sNew_same | refine sUp_ne (by first | assumption | omega) ?_)) rfl rfl (Nat.le_of_ble_eq_true rfl) (fun r σ' hp => ?_)
  obtain ⟨_, rfl, rfl, rfl⟩ := hp
  try simp only [Option.toList_some, Option.toList_none, List.cons_append, List.nil_append]
  simp only [sUp_sUp]
  have hc := costK_rng 1 y b
  obtain ⟨hk1, hk2⟩ := cK2 hy hb
  refine r_istore S dX10_price_19 rfl (by decide) (lv' := [_, _, _, _, _]) rfl ?_
  refine r_iload_n S dX10_price_21 rfl ?_
  refine r_if_eq S dX10_price_22 (tgt := 34) (by decide) ⟨by omega, by omega⟩ (fun h_22 => ?_) (fun h_22 => ?_)
  · refine r_iload S dX10_price_34 rfl ?_
    exact r_iret S dX10_price_36 (by omega) (by omega) (⟨_, rfl, by first | rw [hk1 (by omega)] | rw [hk2 (by omega) (by omega)], by rw [show z + 111 = z + 100 + 11 by omega]⟩)
  · refine r_iload_n S dX10_price_25 rfl ?_
    refine r_if_ne S dX10_price_26 (tgt := 34) (by decide) ⟨by omega, by omega⟩ (fun h_26 => ?_) (fun h_26 => ?_)
    · refine r_iload S dX10_price_34 rfl ?_
      exact r_iret S dX10_price_36 (by omega) (by omega) (⟨_, rfl, by first | rw [hk1 (by omega)] | rw [hk2 (by omega) (by omega)], by rw [show z + 111 = z + 100 + 11 by omega]⟩)
    · refine r_bipush S dX10_price_29 (by decide) ?_
      refine r_goto S dX10_price_31 (tgt := 36) (by decide) ?_
      exact r_iret S dX10_price_36 (by omega) (by omega) (⟨_, rfl, by first | rw [hk1 (by omega)] | rw [hk2 (by omega) (by omega)], by rw [show z + 111 = z + 100 + 11 by omega]⟩)

set_option maxRecDepth 100000 in
set_option maxHeartbeats 4000000 in
theorem c_yesPrice0 {k : Cx} {L0 : Launch} {σ : St} {tb z : Int} {lq : Nat → Option Nat} (hX : σ.2 (cBase k) = some (oX k tb)) (hLI : σ.2 (cBase k + 1) = some (eQ (cQL k) 3 lq)) (hl0 : lq 0 = some (cBase k + 2)) (hl1 : lq 1 = some (cBase k + 3)) (hl2 : lq 2 = some (cBase k + 4)) (hA0 : σ.2 (cBase k + 2) = some (.inr (6, []))) (hA1 : σ.2 (cBase k + 3) = some (.inr (1, []))) (hA2 : σ.2 (cBase k + 4) = some (.inr (9, []))) (hU : σ.2 (cBase k + 6) = some (oTally z)) : CtrV k L0 mX11_yesPrice 4 0 0 [.ref (cBase k), .int (iZ 0)] σ (fun v σ' => v = .int (iZ (costK 0 1 0)) ∧ σ' = sUp σ (cBase k + 6) (oTally (z + 1))) := by
  refine Ctr.of (by decide +kernel) rfl (Nat.le_of_ble_eq_true rfl) ?_
  intro κ hl0 S
  subst hl0
  refine r_aload_n S dX11_yesPrice_0 rfl ?_
  refine r_getf S g_RX11_18_10 dX11_yesPrice_1 (by repeat (first | assumption | exact sUp_same | exact sNew_same | refine sUp_ne (by first | assumption | omega) ?_)) rfl ?_
  refine r_iload_n S dX11_yesPrice_4 rfl ?_
  refine r_aaldN S (0) (t0 := 2) (v := .ref (cBase k + 2)) rfl dX11_yesPrice_5 (by repeat (first | assumption | exact sUp_same | exact sNew_same | refine sUp_ne (by first | assumption | omega) ?_)) (by decide) (by omega) (by decide) (by rw [hl0]; rfl) ?_
  refine r_iconst S dX11_yesPrice_6 ?_
  refine r_iconst S dX11_yesPrice_7 ?_
  refine r_aload_n S dX11_yesPrice_8 rfl ?_
  refine r_getf S g_RX11_29_10 dX11_yesPrice_9 (by repeat (first | assumption | exact sUp_same | exact sNew_same | refine sUp_ne (by first | assumption | omega) ?_)) rfl ?_
  refine r_callV S (c_price0 (y := 1) (b := 0) hU (by decide) (by decide)) k_mX7_price c_RX11_98_6 dX11_yesPrice_12 (by decide) ⟨by omega, by omega⟩ (by repeat (first | assumption | exact sUp_same | exact sNew_same | refine sUp_ne (by first | assumption | omega) ?_)) rfl rfl (Nat.le_of_ble_eq_true rfl) (fun r σ' hp => ?_)
  obtain ⟨_, rfl, rfl, rfl⟩ := hp
  try simp only [Option.toList_some, Option.toList_none, List.cons_append, List.nil_append]
  exact r_iret S dX11_yesPrice_15 (by omega) (by omega) (⟨_, rfl, rfl, rfl⟩)

set_option maxRecDepth 100000 in
set_option maxHeartbeats 4000000 in
theorem c_yesPrice1 {k : Cx} {L0 : Launch} {σ : St} {tb z : Int} {lq : Nat → Option Nat} (hX : σ.2 (cBase k) = some (oX k tb)) (hLI : σ.2 (cBase k + 1) = some (eQ (cQL k) 3 lq)) (hl0 : lq 0 = some (cBase k + 2)) (hl1 : lq 1 = some (cBase k + 3)) (hl2 : lq 2 = some (cBase k + 4)) (hA0 : σ.2 (cBase k + 2) = some (.inr (6, []))) (hA1 : σ.2 (cBase k + 3) = some (.inr (1, []))) (hA2 : σ.2 (cBase k + 4) = some (.inr (9, []))) (hU : σ.2 (cBase k + 6) = some (oTally z)) : CtrV k L0 mX11_yesPrice 4 0 0 [.ref (cBase k), .int (iZ 1)] σ (fun v σ' => v = .int (iZ (costK 1 1 0)) ∧ σ' = sUp σ (cBase k + 6) (oTally (z + 11))) := by
  refine Ctr.of (by decide +kernel) rfl (Nat.le_of_ble_eq_true rfl) ?_
  intro κ hl0 S
  subst hl0
  refine r_aload_n S dX11_yesPrice_0 rfl ?_
  refine r_getf S g_RX11_18_10 dX11_yesPrice_1 (by repeat (first | assumption | exact sUp_same | exact sNew_same | refine sUp_ne (by first | assumption | omega) ?_)) rfl ?_
  refine r_iload_n S dX11_yesPrice_4 rfl ?_
  refine r_aaldN S (1) (t0 := 2) (v := .ref (cBase k + 3)) rfl dX11_yesPrice_5 (by repeat (first | assumption | exact sUp_same | exact sNew_same | refine sUp_ne (by first | assumption | omega) ?_)) (by decide) (by omega) (by decide) (by rw [hl1]; rfl) ?_
  refine r_iconst S dX11_yesPrice_6 ?_
  refine r_iconst S dX11_yesPrice_7 ?_
  refine r_aload_n S dX11_yesPrice_8 rfl ?_
  refine r_getf S g_RX11_29_10 dX11_yesPrice_9 (by repeat (first | assumption | exact sUp_same | exact sNew_same | refine sUp_ne (by first | assumption | omega) ?_)) rfl ?_
  refine r_callU S (c_price1_1 (y := 1) (b := 0) hU (by decide) (by decide) hA1 (by omega)) k_mX1_price c_RX11_98_1 dX11_yesPrice_12 (by decide) ⟨by omega, by omega⟩ (by repeat (first | assumption | exact sUp_same | exact sNew_same | refine sUp_ne (by first | assumption | omega) ?_)) rfl rfl (Nat.le_of_ble_eq_true rfl) (fun r σ' hp => ?_)
  obtain ⟨_, rfl, rfl, rfl⟩ := hp
  try simp only [Option.toList_some, Option.toList_none, List.cons_append, List.nil_append]
  exact r_iret S dX11_yesPrice_15 (by omega) (by omega) (⟨_, rfl, rfl, rfl⟩)

set_option maxRecDepth 100000 in
set_option maxHeartbeats 4000000 in
theorem c_yesPrice2 {k : Cx} {L0 : Launch} {σ : St} {tb z : Int} {lq : Nat → Option Nat} (hX : σ.2 (cBase k) = some (oX k tb)) (hLI : σ.2 (cBase k + 1) = some (eQ (cQL k) 3 lq)) (hl0 : lq 0 = some (cBase k + 2)) (hl1 : lq 1 = some (cBase k + 3)) (hl2 : lq 2 = some (cBase k + 4)) (hA0 : σ.2 (cBase k + 2) = some (.inr (6, []))) (hA1 : σ.2 (cBase k + 3) = some (.inr (1, []))) (hA2 : σ.2 (cBase k + 4) = some (.inr (9, []))) (hU : σ.2 (cBase k + 6) = some (oTally z)) : CtrV k L0 mX11_yesPrice 4 0 0 [.ref (cBase k), .int (iZ 2)] σ (fun v σ' => v = .int (iZ (costK 2 1 0)) ∧ σ' = sUp σ (cBase k + 6) (oTally (z + 111))) := by
  refine Ctr.of (by decide +kernel) rfl (Nat.le_of_ble_eq_true rfl) ?_
  intro κ hl0 S
  subst hl0
  refine r_aload_n S dX11_yesPrice_0 rfl ?_
  refine r_getf S g_RX11_18_10 dX11_yesPrice_1 (by repeat (first | assumption | exact sUp_same | exact sNew_same | refine sUp_ne (by first | assumption | omega) ?_)) rfl ?_
  refine r_iload_n S dX11_yesPrice_4 rfl ?_
  refine r_aaldN S (2) (t0 := 2) (v := .ref (cBase k + 4)) rfl dX11_yesPrice_5 (by repeat (first | assumption | exact sUp_same | exact sNew_same | refine sUp_ne (by first | assumption | omega) ?_)) (by decide) (by omega) (by decide) (by rw [hl2]; rfl) ?_
  refine r_iconst S dX11_yesPrice_6 ?_
  refine r_iconst S dX11_yesPrice_7 ?_
  refine r_aload_n S dX11_yesPrice_8 rfl ?_
  refine r_getf S g_RX11_29_10 dX11_yesPrice_9 (by repeat (first | assumption | exact sUp_same | exact sNew_same | refine sUp_ne (by first | assumption | omega) ?_)) rfl ?_
  refine r_callU S (c_price2 (y := 1) (b := 0) hU (by decide) (by decide) hA2 (by omega)) k_mX10_price c_RX11_98_9 dX11_yesPrice_12 (by decide) ⟨by omega, by omega⟩ (by repeat (first | assumption | exact sUp_same | exact sNew_same | refine sUp_ne (by first | assumption | omega) ?_)) rfl rfl (Nat.le_of_ble_eq_true rfl) (fun r σ' hp => ?_)
  obtain ⟨_, rfl, rfl, rfl⟩ := hp
  try simp only [Option.toList_some, Option.toList_none, List.cons_append, List.nil_append]
  exact r_iret S dX11_yesPrice_15 (by omega) (by omega) (⟨_, rfl, rfl, rfl⟩)

set_option maxRecDepth 100000 in
set_option maxHeartbeats 4000000 in
theorem c_noPrice0 {k : Cx} {L0 : Launch} {σ : St} {tb z : Int} {lq : Nat → Option Nat} (hX : σ.2 (cBase k) = some (oX k tb)) (hLI : σ.2 (cBase k + 1) = some (eQ (cQL k) 3 lq)) (hl0 : lq 0 = some (cBase k + 2)) (hl1 : lq 1 = some (cBase k + 3)) (hl2 : lq 2 = some (cBase k + 4)) (hA0 : σ.2 (cBase k + 2) = some (.inr (6, []))) (hA1 : σ.2 (cBase k + 3) = some (.inr (1, []))) (hA2 : σ.2 (cBase k + 4) = some (.inr (9, []))) (hU : σ.2 (cBase k + 6) = some (oTally z)) : CtrV k L0 mX11_noPrice 4 0 0 [.ref (cBase k), .int (iZ 0)] σ (fun v σ' => v = .int (iZ (costK 0 0 1)) ∧ σ' = sUp σ (cBase k + 6) (oTally (z + 1))) := by
  refine Ctr.of (by decide +kernel) rfl (Nat.le_of_ble_eq_true rfl) ?_
  intro κ hl0 S
  subst hl0
  refine r_aload_n S dX11_noPrice_0 rfl ?_
  refine r_getf S g_RX11_18_10 dX11_noPrice_1 (by repeat (first | assumption | exact sUp_same | exact sNew_same | refine sUp_ne (by first | assumption | omega) ?_)) rfl ?_
  refine r_iload_n S dX11_noPrice_4 rfl ?_
  refine r_aaldN S (0) (t0 := 2) (v := .ref (cBase k + 2)) rfl dX11_noPrice_5 (by repeat (first | assumption | exact sUp_same | exact sNew_same | refine sUp_ne (by first | assumption | omega) ?_)) (by decide) (by omega) (by decide) (by rw [hl0]; rfl) ?_
  refine r_iconst S dX11_noPrice_6 ?_
  refine r_iconst S dX11_noPrice_7 ?_
  refine r_aload_n S dX11_noPrice_8 rfl ?_
  refine r_getf S g_RX11_29_10 dX11_noPrice_9 (by repeat (first | assumption | exact sUp_same | exact sNew_same | refine sUp_ne (by first | assumption | omega) ?_)) rfl ?_
  refine r_callV S (c_price0 (y := 0) (b := 1) hU (by decide) (by decide)) k_mX7_price c_RX11_98_6 dX11_noPrice_12 (by decide) ⟨by omega, by omega⟩ (by repeat (first | assumption | exact sUp_same | exact sNew_same | refine sUp_ne (by first | assumption | omega) ?_)) rfl rfl (Nat.le_of_ble_eq_true rfl) (fun r σ' hp => ?_)
  obtain ⟨_, rfl, rfl, rfl⟩ := hp
  try simp only [Option.toList_some, Option.toList_none, List.cons_append, List.nil_append]
  exact r_iret S dX11_noPrice_15 (by omega) (by omega) (⟨_, rfl, rfl, rfl⟩)

set_option maxRecDepth 100000 in
set_option maxHeartbeats 4000000 in
theorem c_noPrice1 {k : Cx} {L0 : Launch} {σ : St} {tb z : Int} {lq : Nat → Option Nat} (hX : σ.2 (cBase k) = some (oX k tb)) (hLI : σ.2 (cBase k + 1) = some (eQ (cQL k) 3 lq)) (hl0 : lq 0 = some (cBase k + 2)) (hl1 : lq 1 = some (cBase k + 3)) (hl2 : lq 2 = some (cBase k + 4)) (hA0 : σ.2 (cBase k + 2) = some (.inr (6, []))) (hA1 : σ.2 (cBase k + 3) = some (.inr (1, []))) (hA2 : σ.2 (cBase k + 4) = some (.inr (9, []))) (hU : σ.2 (cBase k + 6) = some (oTally z)) : CtrV k L0 mX11_noPrice 4 0 0 [.ref (cBase k), .int (iZ 1)] σ (fun v σ' => v = .int (iZ (costK 1 0 1)) ∧ σ' = sUp σ (cBase k + 6) (oTally (z + 11))) := by
  refine Ctr.of (by decide +kernel) rfl (Nat.le_of_ble_eq_true rfl) ?_
  intro κ hl0 S
  subst hl0
  refine r_aload_n S dX11_noPrice_0 rfl ?_
  refine r_getf S g_RX11_18_10 dX11_noPrice_1 (by repeat (first | assumption | exact sUp_same | exact sNew_same | refine sUp_ne (by first | assumption | omega) ?_)) rfl ?_
  refine r_iload_n S dX11_noPrice_4 rfl ?_
  refine r_aaldN S (1) (t0 := 2) (v := .ref (cBase k + 3)) rfl dX11_noPrice_5 (by repeat (first | assumption | exact sUp_same | exact sNew_same | refine sUp_ne (by first | assumption | omega) ?_)) (by decide) (by omega) (by decide) (by rw [hl1]; rfl) ?_
  refine r_iconst S dX11_noPrice_6 ?_
  refine r_iconst S dX11_noPrice_7 ?_
  refine r_aload_n S dX11_noPrice_8 rfl ?_
  refine r_getf S g_RX11_29_10 dX11_noPrice_9 (by repeat (first | assumption | exact sUp_same | exact sNew_same | refine sUp_ne (by first | assumption | omega) ?_)) rfl ?_
  refine r_callU S (c_price1_1 (y := 0) (b := 1) hU (by decide) (by decide) hA1 (by omega)) k_mX1_price c_RX11_98_1 dX11_noPrice_12 (by decide) ⟨by omega, by omega⟩ (by repeat (first | assumption | exact sUp_same | exact sNew_same | refine sUp_ne (by first | assumption | omega) ?_)) rfl rfl (Nat.le_of_ble_eq_true rfl) (fun r σ' hp => ?_)
  obtain ⟨_, rfl, rfl, rfl⟩ := hp
  try simp only [Option.toList_some, Option.toList_none, List.cons_append, List.nil_append]
  exact r_iret S dX11_noPrice_15 (by omega) (by omega) (⟨_, rfl, rfl, rfl⟩)

set_option maxRecDepth 100000 in
set_option maxHeartbeats 4000000 in
theorem c_noPrice2 {k : Cx} {L0 : Launch} {σ : St} {tb z : Int} {lq : Nat → Option Nat} (hX : σ.2 (cBase k) = some (oX k tb)) (hLI : σ.2 (cBase k + 1) = some (eQ (cQL k) 3 lq)) (hl0 : lq 0 = some (cBase k + 2)) (hl1 : lq 1 = some (cBase k + 3)) (hl2 : lq 2 = some (cBase k + 4)) (hA0 : σ.2 (cBase k + 2) = some (.inr (6, []))) (hA1 : σ.2 (cBase k + 3) = some (.inr (1, []))) (hA2 : σ.2 (cBase k + 4) = some (.inr (9, []))) (hU : σ.2 (cBase k + 6) = some (oTally z)) : CtrV k L0 mX11_noPrice 4 0 0 [.ref (cBase k), .int (iZ 2)] σ (fun v σ' => v = .int (iZ (costK 2 0 1)) ∧ σ' = sUp σ (cBase k + 6) (oTally (z + 111))) := by
  refine Ctr.of (by decide +kernel) rfl (Nat.le_of_ble_eq_true rfl) ?_
  intro κ hl0 S
  subst hl0
  refine r_aload_n S dX11_noPrice_0 rfl ?_
  refine r_getf S g_RX11_18_10 dX11_noPrice_1 (by repeat (first | assumption | exact sUp_same | exact sNew_same | refine sUp_ne (by first | assumption | omega) ?_)) rfl ?_
  refine r_iload_n S dX11_noPrice_4 rfl ?_
  refine r_aaldN S (2) (t0 := 2) (v := .ref (cBase k + 4)) rfl dX11_noPrice_5 (by repeat (first | assumption | exact sUp_same | exact sNew_same | refine sUp_ne (by first | assumption | omega) ?_)) (by decide) (by omega) (by decide) (by rw [hl2]; rfl) ?_
  refine r_iconst S dX11_noPrice_6 ?_
  refine r_iconst S dX11_noPrice_7 ?_
  refine r_aload_n S dX11_noPrice_8 rfl ?_
  refine r_getf S g_RX11_29_10 dX11_noPrice_9 (by repeat (first | assumption | exact sUp_same | exact sNew_same | refine sUp_ne (by first | assumption | omega) ?_)) rfl ?_
  refine r_callU S (c_price2 (y := 0) (b := 1) hU (by decide) (by decide) hA2 (by omega)) k_mX10_price c_RX11_98_9 dX11_noPrice_12 (by decide) ⟨by omega, by omega⟩ (by repeat (first | assumption | exact sUp_same | exact sNew_same | refine sUp_ne (by first | assumption | omega) ?_)) rfl rfl (Nat.le_of_ble_eq_true rfl) (fun r σ' hp => ?_)
  obtain ⟨_, rfl, rfl, rfl⟩ := hp
  try simp only [Option.toList_some, Option.toList_none, List.cons_append, List.nil_append]
  exact r_iret S dX11_noPrice_15 (by omega) (by omega) (⟨_, rfl, rfl, rfl⟩)
end
section
set_option maxRecDepth 100000 in
set_option maxHeartbeats 4000000 in
theorem l_allApart1 {κ : Kx} {k : Cx} {σ : St} {q : Nat} (hC : σ.2 (cBase k + 11) = some (oCode k q)) (hq : q ≤ 12) {w : Nat → Int} {qs : Nat → Nat} (hW : σ.2 (cBase k + 13) = some (eI k 16 w)) (hw : ∀ i, i < 16 → w i = (wd qs q i : Int)) {n more : Nat} (hn : n ≤ 16) (hmo : more ≤ 6) (S : Ok κ k cX2_allApart 6 RX2 (some .boolean) "allApart" 2 0 0) {a : Nat} (ha : a < n) (kk : (∀ b, b < a → more < popc (wd qs q a ^^^ wd qs q b)) → V κ k 6 0 0 (QR κ k (fun r σ' => ∃ v, r = some v ∧ (v = .int (iZ (b01 (∀ a, a < n → ∀ b, b < a → more < popc (wd qs q a ^^^ wd qs q b)))) ∧ σ' = σ)) 0 0) 47 [some (.ref (cBase k + 11)), some (.int (iZ (n : Int))), some (.int (iZ (more : Int))), some (.int (iZ (a : Int))), none, none] [] σ) : ∀ (m b : Nat), b + m = a → (∀ b', b' < b → more < popc (wd qs q a ^^^ wd qs q b')) → V κ k 6 0 0 (QR κ k (fun r σ' => ∃ v, r = some v ∧ (v = .int (iZ (b01 (∀ a, a < n → ∀ b, b < a → more < popc (wd qs q a ^^^ wd qs q b)))) ∧ σ' = σ)) 0 0) 17 [some (.ref (cBase k + 11)), some (.int (iZ (n : Int))), some (.int (iZ (more : Int))), some (.int (iZ (a : Int))), some (.int (iZ (wd qs q a : Int))), some (.int (iZ (b : Int)))] [] σ := by
  intro m
  induction m with
  | zero =>
    intro b hi
    intro hok
    refine r_iload S dX2_allApart_17 rfl ?_
    refine r_iload_n S dX2_allApart_19 rfl ?_
    refine r_icmp_ge S dX2_allApart_20 (tgt := 47) (by decide) ⟨by omega, by omega⟩ ⟨by omega, by omega⟩ (fun h_20 => ?_) (fun h_20 => ?_)
    · refine V.mask [true, true, true, true, false, false] (lv' := [_, _, _, _, none, none]) rfl ?_
      exact kk (fun b' hb' => hok b' (by omega))
    · omega
  | succ m ih =>
    intro b hi
    intro hok
    have hwl := fun i => Nat.lt_of_lt_of_le (wd_lt qs q i) (pw12 hq)
    refine r_iload S dX2_allApart_17 rfl ?_
    refine r_iload_n S dX2_allApart_19 rfl ?_
    refine r_icmp_ge S dX2_allApart_20 (tgt := 47) (by decide) ⟨by omega, by omega⟩ ⟨by omega, by omega⟩ (fun h_20 => ?_) (fun h_20 => ?_)
    · omega
    · refine r_iload S dX2_allApart_23 rfl ?_
      refine r_aload_n S dX2_allApart_25 rfl ?_
      refine r_iload S dX2_allApart_26 rfl ?_
      refine r_callV S (c_wordOf hC hq hW hw (by omega)) k_mX2_wordOf c_RX2_22_2 dX2_allApart_28 (by decide) ⟨by omega, by omega⟩ (by repeat (first | assumption | exact sUp_same | exact sNew_same | refine sUp_ne (by first | assumption | omega) ?_)) rfl rfl (Nat.le_of_ble_eq_true rfl) (fun r σ' hp => ?_)
      obtain ⟨_, rfl, rfl, rfl⟩ := hp
      try simp only [Option.toList_some, Option.toList_none, List.cons_append, List.nil_append]
      refine r_ixor S dX2_allApart_31 (xorZ _ _) ?_
      refine r_callS S (c_bitCount (xor_lt (hwl a) (hwl b))) k_mJ6_bitCount_0f7a4 c_RX2_26 dX2_allApart_32 (by decide) ⟨by omega, by omega⟩ rfl rfl (Nat.le_of_ble_eq_true rfl) (fun r σ' hp => ?_)
      obtain ⟨_, rfl, rfl, rfl⟩ := hp
      try simp only [Option.toList_some, Option.toList_none, List.cons_append, List.nil_append]
      have hpl := popc_le (wd qs q a ^^^ wd qs q b)
      refine r_iload_n S dX2_allApart_35 rfl ?_
      refine r_icmp_gt S dX2_allApart_36 (tgt := 41) (by decide) ⟨by omega, by omega⟩ ⟨by omega, by omega⟩ (fun h_36 => ?_) (fun h_36 => ?_)
      · refine r_iinc S dX2_allApart_41 rfl rfl (by decide) (lv' := [_, _, _, _, _, _]) rfl ?_
        refine r_goto S dX2_allApart_44 (tgt := 17) (by decide) ?_
        refine ih (b + 1) (by omega) (fun b' hb' => ?_)
        rcases Nat.lt_or_ge b' b with e | e
        · exact hok b' e
        · rw [show b' = b by omega]; omega
      · refine r_iconst S dX2_allApart_39 ?_
        exact r_zret S dX2_allApart_40 (by omega) (by omega) (by first | exact Or.inl rfl | exact Or.inr rfl | omega) (⟨_, rfl, by rw [b01_f (fun hz => by have h8 := hz a ha b (by omega); omega)], rfl⟩)

set_option maxRecDepth 100000 in
set_option maxHeartbeats 4000000 in
theorem l_allApart {κ : Kx} {k : Cx} {σ : St} {q : Nat} (hC : σ.2 (cBase k + 11) = some (oCode k q)) (hq : q ≤ 12) {w : Nat → Int} {qs : Nat → Nat} (hW : σ.2 (cBase k + 13) = some (eI k 16 w)) (hw : ∀ i, i < 16 → w i = (wd qs q i : Int)) {n more : Nat} (hn : n ≤ 16) (hmo : more ≤ 6) (S : Ok κ k cX2_allApart 6 RX2 (some .boolean) "allApart" 2 0 0) : ∀ (m a : Nat), a + m = n → (∀ a', a' < a → ∀ b, b < a' → more < popc (wd qs q a' ^^^ wd qs q b)) → V κ k 6 0 0 (QR κ k (fun r σ' => ∃ v, r = some v ∧ (v = .int (iZ (b01 (∀ a, a < n → ∀ b, b < a → more < popc (wd qs q a ^^^ wd qs q b)))) ∧ σ' = σ)) 0 0) 2 [some (.ref (cBase k + 11)), some (.int (iZ (n : Int))), some (.int (iZ (more : Int))), some (.int (iZ (a : Int))), none, none] [] σ := by
  intro m
  induction m with
  | zero =>
    intro a hi
    intro hok
    refine r_iload_n S dX2_allApart_2 rfl ?_
    refine r_iload_n S dX2_allApart_3 rfl ?_
    refine r_icmp_ge S dX2_allApart_4 (tgt := 53) (by decide) ⟨by omega, by omega⟩ ⟨by omega, by omega⟩ (fun h_4 => ?_) (fun h_4 => ?_)
    · refine r_iconst S dX2_allApart_53 ?_
      exact r_zret S dX2_allApart_54 (by omega) (by omega) (by first | exact Or.inl rfl | exact Or.inr rfl | omega) (⟨_, rfl, by rw [b01_t (fun a' ha' => hok a' (by omega))], rfl⟩)
    · omega
  | succ m ih =>
    intro a hi
    intro hok
    refine r_iload_n S dX2_allApart_2 rfl ?_
    refine r_iload_n S dX2_allApart_3 rfl ?_
    refine r_icmp_ge S dX2_allApart_4 (tgt := 53) (by decide) ⟨by omega, by omega⟩ ⟨by omega, by omega⟩ (fun h_4 => ?_) (fun h_4 => ?_)
    · omega
    · refine r_aload_n S dX2_allApart_7 rfl ?_
      refine r_iload_n S dX2_allApart_8 rfl ?_
      refine r_callV S (c_wordOf hC hq hW hw (by omega)) k_mX2_wordOf c_RX2_22_2 dX2_allApart_9 (by decide) ⟨by omega, by omega⟩ (by repeat (first | assumption | exact sUp_same | exact sNew_same | refine sUp_ne (by first | assumption | omega) ?_)) rfl rfl (Nat.le_of_ble_eq_true rfl) (fun r σ' hp => ?_)
      obtain ⟨_, rfl, rfl, rfl⟩ := hp
      try simp only [Option.toList_some, Option.toList_none, List.cons_append, List.nil_append]
      refine r_istore S dX2_allApart_12 rfl (by decide) (lv' := [_, _, _, _, _, _]) rfl ?_
      refine r_iconst S dX2_allApart_14 ?_
      refine r_istore S dX2_allApart_15 rfl (by decide) (lv' := [_, _, _, _, _, _]) rfl ?_
      refine l_allApart1 hC hq hW hw hn hmo S (a := a) (by omega) (fun hnew => ?_) a 0 (by omega) (fun _ h => absurd h (by omega))
      refine r_iinc S dX2_allApart_47 rfl rfl (by decide) (lv' := [_, _, _, _, _, _]) rfl ?_
      refine r_goto S dX2_allApart_50 (tgt := 2) (by decide) ?_
      refine ih (a + 1) (by omega) (fun a' ha' => ?_)
      rcases Nat.lt_or_ge a' a with e | e
      · exact hok a' e
      · rw [show a' = a by omega]; exact hnew

set_option maxRecDepth 100000 in
set_option maxHeartbeats 4000000 in
theorem c_allApart {k : Cx} {L0 : Launch} {σ : St} {q : Nat} (hC : σ.2 (cBase k + 11) = some (oCode k q)) (hq : q ≤ 12) {w : Nat → Int} {qs : Nat → Nat} (hW : σ.2 (cBase k + 13) = some (eI k 16 w)) (hw : ∀ i, i < 16 → w i = (wd qs q i : Int)) {n more : Nat} (hn : n ≤ 16) (hmo : more ≤ 6) : CtrV k L0 mX2_allApart 2 0 0 [.ref (cBase k + 11), .int (iZ (n : Int)), .int (iZ (more : Int))] σ (fun v σ' => v = .int (iZ (b01 (∀ a, a < n → ∀ b, b < a → more < popc (wd qs q a ^^^ wd qs q b)))) ∧ σ' = σ) := by
  refine Ctr.of (by decide +kernel) rfl (Nat.le_of_ble_eq_true rfl) ?_
  intro κ hl0 S
  subst hl0
  refine r_iconst S dX2_allApart_0 ?_
  refine r_istore_n S dX2_allApart_1 rfl (by decide) (lv' := [_, _, _, _, _, _]) rfl ?_
  exact l_allApart hC hq hW hw hn hmo S n 0 (by omega) (fun _ h => absurd h (by omega))

set_option maxRecDepth 100000 in
set_option maxHeartbeats 4000000 in
theorem l_onlyNear {κ : Kx} {k : Cx} {σ : St} {q : Nat} (hC : σ.2 (cBase k + 11) = some (oCode k q)) (hq : q ≤ 12) {w : Nat → Int} {qs : Nat → Nat} (hW : σ.2 (cBase k + 13) = some (eI k 16 w)) (hw : ∀ i, i < 16 → w i = (wd qs q i : Int)) {n most bw : Nat} (hn : n ≤ 16) (hmo : most ≤ 3) (hbw : bw < 4096) (S : Ok κ k cX2_onlyNear 6 RX2 (some .int) "onlyNear" 2 0 0) : ∀ (m i : Nat), i + m = n → ∀ near : Int, (-9 ≤ near ∧ near ≤ 16) → rdF (fun i => decide (popc (bw ^^^ wd qs q i) ≤ most)) m i near = rdF (fun i => decide (popc (bw ^^^ wd qs q i) ≤ most)) n 0 (-9) → V κ k 6 0 0 (QR κ k (fun r σ' => ∃ v, r = some v ∧ (v = .int (iZ (rdF (fun i => decide (popc (bw ^^^ wd qs q i) ≤ most)) n 0 (-9))) ∧ σ' = σ)) 0 0) 7 [some (.ref (cBase k + 11)), some (.int (iZ (bw : Int))), some (.int (iZ (n : Int))), some (.int (iZ (most : Int))), some (.int (iZ near)), some (.int (iZ (i : Int)))] [] σ := by
  intro m
  induction m with
  | zero =>
    intro i hi
    intro near hne hrd
    refine r_iload S dX2_onlyNear_7 rfl ?_
    refine r_iload_n S dX2_onlyNear_9 rfl ?_
    refine r_icmp_ge S dX2_onlyNear_10 (tgt := 48) (by decide) ⟨by omega, by omega⟩ ⟨by omega, by omega⟩ (fun h_10 => ?_) (fun h_10 => ?_)
    · refine r_iload S dX2_onlyNear_48 rfl ?_
      exact r_iret S dX2_onlyNear_50 (by omega) (by omega) (⟨_, rfl, by rw [← hrd]; rfl, rfl⟩)
    · omega
  | succ m ih =>
    intro i hi
    intro near hne hrd
    have hwl := fun i => Nat.lt_of_lt_of_le (wd_lt qs q i) (pw12 hq)
    refine r_iload S dX2_onlyNear_7 rfl ?_
    refine r_iload_n S dX2_onlyNear_9 rfl ?_
    refine r_icmp_ge S dX2_onlyNear_10 (tgt := 48) (by decide) ⟨by omega, by omega⟩ ⟨by omega, by omega⟩ (fun h_10 => ?_) (fun h_10 => ?_)
    · omega
    · refine r_iload_n S dX2_onlyNear_13 rfl ?_
      refine r_aload_n S dX2_onlyNear_14 rfl ?_
      refine r_iload S dX2_onlyNear_15 rfl ?_
      refine r_callV S (c_wordOf hC hq hW hw (by omega)) k_mX2_wordOf c_RX2_22_2 dX2_onlyNear_17 (by decide) ⟨by omega, by omega⟩ (by repeat (first | assumption | exact sUp_same | exact sNew_same | refine sUp_ne (by first | assumption | omega) ?_)) rfl rfl (Nat.le_of_ble_eq_true rfl) (fun r σ' hp => ?_)
      obtain ⟨_, rfl, rfl, rfl⟩ := hp
      try simp only [Option.toList_some, Option.toList_none, List.cons_append, List.nil_append]
      refine r_ixor S dX2_onlyNear_20 (xorZ _ _) ?_
      refine r_callS S (c_bitCount (xor_lt hbw (hwl i))) k_mJ6_bitCount_0f7a4 c_RX2_26 dX2_onlyNear_21 (by decide) ⟨by omega, by omega⟩ rfl rfl (Nat.le_of_ble_eq_true rfl) (fun r σ' hp => ?_)
      obtain ⟨_, rfl, rfl, rfl⟩ := hp
      try simp only [Option.toList_some, Option.toList_none, List.cons_append, List.nil_append]
      have hpl := popc_le (bw ^^^ wd qs q i)
      refine r_iload_n S dX2_onlyNear_24 rfl ?_
      refine r_icmp_gt S dX2_onlyNear_25 (tgt := 42) (by decide) ⟨by omega, by omega⟩ ⟨by omega, by omega⟩ (fun h_25 => ?_) (fun h_25 => ?_)
      · refine r_iinc S dX2_onlyNear_42 rfl rfl (by decide) (lv' := [_, _, _, _, _, _]) rfl ?_
        refine r_goto S dX2_onlyNear_45 (tgt := 7) (by decide) ?_
        first
          | (refine ih (i + 1) (by omega) _ ⟨by omega, by omega⟩ ?_; rw [← hrd, rdF, if_neg (by rw [decide_eq_false (by omega)]; decide)]; done)
          | (refine ih (i + 1) (by omega) _ ⟨by omega, by omega⟩ ?_; rw [← hrd, rdF, if_pos (decide_eq_true (by omega)), if_pos h_32]; done)
      · refine r_iload S dX2_onlyNear_28 rfl ?_
        refine r_bipush S dX2_onlyNear_30 (by decide) ?_
        refine r_icmp_eq S dX2_onlyNear_32 (tgt := 38) (by decide) ⟨by omega, by omega⟩ ⟨by omega, by omega⟩ (fun h_32 => ?_) (fun h_32 => ?_)
        · refine r_iload S dX2_onlyNear_38 rfl ?_
          refine r_istore S dX2_onlyNear_40 rfl (by decide) (lv' := [_, _, _, _, _, _]) rfl ?_
          refine r_iinc S dX2_onlyNear_42 rfl rfl (by decide) (lv' := [_, _, _, _, _, _]) rfl ?_
          refine r_goto S dX2_onlyNear_45 (tgt := 7) (by decide) ?_
          first
            | (refine ih (i + 1) (by omega) _ ⟨by omega, by omega⟩ ?_; rw [← hrd, rdF, if_neg (by rw [decide_eq_false (by omega)]; decide)]; done)
            | (refine ih (i + 1) (by omega) _ ⟨by omega, by omega⟩ ?_; rw [← hrd, rdF, if_pos (decide_eq_true (by omega)), if_pos h_32]; done)
        · refine r_bipush S dX2_onlyNear_35 (by decide) ?_
          exact r_iret S dX2_onlyNear_37 (by omega) (by omega) (⟨_, rfl, by rw [← hrd, rdF, if_pos (decide_eq_true (by omega)), if_neg h_32], rfl⟩)

set_option maxRecDepth 100000 in
set_option maxHeartbeats 4000000 in
theorem c_onlyNear {k : Cx} {L0 : Launch} {σ : St} {q : Nat} (hC : σ.2 (cBase k + 11) = some (oCode k q)) (hq : q ≤ 12) {w : Nat → Int} {qs : Nat → Nat} (hW : σ.2 (cBase k + 13) = some (eI k 16 w)) (hw : ∀ i, i < 16 → w i = (wd qs q i : Int)) {n most bw : Nat} (hn : n ≤ 16) (hmo : most ≤ 3) (hbw : bw < 4096) : CtrV k L0 mX2_onlyNear 2 0 0 [.ref (cBase k + 11), .int (iZ (bw : Int)), .int (iZ (n : Int)), .int (iZ (most : Int))] σ (fun v σ' => v = .int (iZ (rdF (fun i => decide (popc (bw ^^^ wd qs q i) ≤ most)) n 0 (-9))) ∧ σ' = σ) := by
  refine Ctr.of (by decide +kernel) rfl (Nat.le_of_ble_eq_true rfl) ?_
  intro κ hl0 S
  subst hl0
  refine r_bipush S dX2_onlyNear_0 (by decide) ?_
  refine r_istore S dX2_onlyNear_2 rfl (by decide) (lv' := [_, _, _, _, _, _]) rfl ?_
  refine r_iconst S dX2_onlyNear_4 ?_
  refine r_istore S dX2_onlyNear_5 rfl (by decide) (lv' := [_, _, _, _, _, _]) rfl ?_
  exact l_onlyNear hC hq hW hw hn hmo hbw S n 0 (by omega) (-9) ⟨by decide, by decide⟩ rfl

set_option maxRecDepth 100000 in
set_option maxHeartbeats 4000000 in
theorem l_wordOfM {κ : Kx} {k : Cx} {σ : St} {hg kd n e an wt tb tr sk sm : Int} {q : Nat} (hM : σ.2 (cBase k + 14) = some (oModel k hg kd n e an wt tb q tr sk sm)) (hq : q ≤ 12) {qs : Nat → Nat} (hQ : σ.2 (cBase k + 17) = some (eI k 12 (fun j => (qs j : Int)))) (hqs : ∀ j, j < q → qs j < 65536) {x : Nat} (hx : x < 16) (S : Ok κ k cX12_wordOf 4 RX12 (some .int) "wordOf" 1 0 0) : ∀ (m i : Nat), i + m = q → V κ k 4 0 0 (QR κ k (fun r σ' => ∃ v, r = some v ∧ (v = .int (iZ (wd qs q x : Int)) ∧ σ' = σ)) 0 0) 4 [some (.ref (cBase k + 14)), some (.int (iZ (x : Int))), some (.int (iZ (wd qs i x : Int))), some (.int (iZ (i : Int)))] [] σ := by
  intro m
  induction m with
  | zero =>
    intro i hi
    have hin : i = q := by omega
    subst hin
    refine r_iload_n S dX12_wordOf_4 rfl ?_
    refine r_aload_n S dX12_wordOf_5 rfl ?_
    refine r_getf S g_RX12_146_11 dX12_wordOf_6 (by repeat (first | assumption | exact sUp_same | exact sNew_same | refine sUp_ne (by first | assumption | omega) ?_)) rfl ?_
    refine r_icmp_ge S dX12_wordOf_9 (tgt := 33) (by decide) ⟨by omega, by omega⟩ ⟨by omega, by omega⟩ (fun h_9 => ?_) (fun h_9 => ?_)
    · refine r_iload_n S dX12_wordOf_33 rfl ?_
      exact r_iret S dX12_wordOf_34 (by omega) (by omega) (⟨_, rfl, rfl, rfl⟩)
    · omega
  | succ m ih =>
    intro i hi
    have hqi := hqs i (by omega)
    have hb := bt_lt (qs i) x
    refine r_iload_n S dX12_wordOf_4 rfl ?_
    refine r_aload_n S dX12_wordOf_5 rfl ?_
    refine r_getf S g_RX12_146_11 dX12_wordOf_6 (by repeat (first | assumption | exact sUp_same | exact sNew_same | refine sUp_ne (by first | assumption | omega) ?_)) rfl ?_
    refine r_icmp_ge S dX12_wordOf_9 (tgt := 33) (by decide) ⟨by omega, by omega⟩ ⟨by omega, by omega⟩ (fun h_9 => ?_) (fun h_9 => ?_)
    · omega
    · refine r_iload_n S dX12_wordOf_12 rfl ?_
      refine r_aload_n S dX12_wordOf_13 rfl ?_
      refine r_getf S g_RX12_20_11 dX12_wordOf_14 (by repeat (first | assumption | exact sUp_same | exact sNew_same | refine sUp_ne (by first | assumption | omega) ?_)) rfl ?_
      refine r_iload_n S dX12_wordOf_17 rfl ?_
      refine r_ialdN S (i) dX12_wordOf_18 (by repeat (first | assumption | exact sUp_same | exact sNew_same | refine sUp_ne (by first | assumption | omega) ?_)) (by omega) (by omega) (by decide) ?_
      refine r_iload_n S dX12_wordOf_19 rfl ?_
      refine r_ishr S dX12_wordOf_20 (shrZ (by omega) (by omega)) ?_
      refine r_iconst S dX12_wordOf_21 ?_
      refine r_iand S dX12_wordOf_22 (v := iZ ((bt (qs i) x : Nat) : Int)) (and1Z _) ?_
      refine r_iload_n S dX12_wordOf_23 rfl ?_
      refine r_ishl S dX12_wordOf_24 (shlZ (by have h5 := pw12 (show i ≤ 12 by omega); have h6 : bt (qs i) x * 2 ^ i ≤ 1 * 2 ^ i := Nat.mul_le_mul_right _ (by omega); omega) (by omega)) ?_
      refine r_ior S dX12_wordOf_25 (orW (wd_lt qs i x)) ?_
      refine r_istore_n S dX12_wordOf_26 rfl (by decide) (lv' := [_, _, _, _]) rfl ?_
      refine r_iinc S dX12_wordOf_27 rfl rfl (by decide) (lv' := [_, _, _, _]) rfl ?_
      refine r_goto S dX12_wordOf_30 (tgt := 4) (by decide) ?_
      exact ih (i + 1) (by omega)

set_option maxRecDepth 100000 in
set_option maxHeartbeats 4000000 in
theorem c_wordOfM {k : Cx} {L0 : Launch} {σ : St} {hg kd n e an wt tb tr sk sm : Int} {q : Nat} (hM : σ.2 (cBase k + 14) = some (oModel k hg kd n e an wt tb q tr sk sm)) (hq : q ≤ 12) {qs : Nat → Nat} (hQ : σ.2 (cBase k + 17) = some (eI k 12 (fun j => (qs j : Int)))) (hqs : ∀ j, j < q → qs j < 65536) {x : Nat} (hx : x < 16) : CtrV k L0 mX12_wordOf 1 0 0 [.ref (cBase k + 14), .int (iZ (x : Int))] σ (fun v σ' => v = .int (iZ ((wd qs q x : Int))) ∧ σ' = σ) := by
  refine Ctr.of (by decide +kernel) rfl (Nat.le_of_ble_eq_true rfl) ?_
  intro κ hl0 S
  subst hl0
  refine r_iconst S dX12_wordOf_0 ?_
  refine r_istore_n S dX12_wordOf_1 rfl (by decide) (lv' := [_, _, _, _]) rfl ?_
  refine r_iconst S dX12_wordOf_2 ?_
  refine r_istore_n S dX12_wordOf_3 rfl (by decide) (lv' := [_, _, _, _]) rfl ?_
  exact l_wordOfM hM hq hQ hqs hx S q 0 (by omega)

set_option maxRecDepth 100000 in
set_option maxHeartbeats 4000000 in
theorem l_ones {κ : Kx} {k : Cx} {σ : St} {x : Nat} (S : Ok κ k cX12_ones 3 RX12 (some .int) "ones" 1 0 0) : ∀ (m b c : Nat), b < 4096 → popc b = m → c + m = popc x → V κ k 3 0 0 (QR κ k (fun r σ' => ∃ v, r = some v ∧ (v = .int (iZ (popc x : Int)) ∧ σ' = σ)) 0 0) 4 [some (.int (iZ (x : Int))), some (.int (iZ (c : Int))), some (.int (iZ (b : Int)))] [] σ := by
  have hpx := popc_le x
  intro m
  induction m with
  | zero =>
    intro b c hb hm hc
    have hb0 : b = 0 := by
      rcases Nat.eq_zero_or_pos b with e | e
      · exact e
      · have := (popc_step hb (by omega)).1; omega
    have hcc : c = popc x := by omega
    subst hb0; subst hcc
    refine r_iload_n S dX12_ones_4 rfl ?_
    refine r_if_eq S dX12_ones_5 (tgt := 20) (by decide) ⟨by omega, by omega⟩ (fun h_5 => ?_) (fun h_5 => ?_)
    · refine r_iload_n S dX12_ones_20 rfl ?_
      exact r_iret S dX12_ones_21 (by omega) (by omega) (⟨_, rfl, rfl, rfl⟩)
    · omega
  | succ m ih =>
    intro b c hb hm hc
    have hb0 : b ≠ 0 := by intro e; rw [e, popc_0] at hm; omega
    obtain ⟨hs1, hs2⟩ := popc_step hb hb0
    refine r_iload_n S dX12_ones_4 rfl ?_
    refine r_if_eq S dX12_ones_5 (tgt := 20) (by decide) ⟨by omega, by omega⟩ (fun h_5 => ?_) (fun h_5 => ?_)
    · omega
    · refine r_iinc S dX12_ones_8 rfl rfl (by decide) (lv' := [_, _, _]) rfl ?_
      refine r_iload_n S dX12_ones_11 rfl ?_
      refine r_iload_n S dX12_ones_12 rfl ?_
      refine r_iconst S dX12_ones_13 ?_
      refine r_isub S dX12_ones_14 ?_
      refine r_num (z' := ((b - 1 : Nat) : Int)) (by omega) ?_
      refine r_iand S dX12_ones_15 (andZ _ _) ?_
      refine r_istore_n S dX12_ones_16 rfl (by decide) (lv' := [_, _, _]) rfl ?_
      refine r_goto S dX12_ones_17 (tgt := 4) (by decide) ?_
      exact ih (b &&& (b - 1)) (c + 1) hs2 (by omega) (by omega)

set_option maxRecDepth 100000 in
set_option maxHeartbeats 4000000 in
theorem c_ones {k : Cx} {L0 : Launch} {σ : St} {x : Nat} (hx : x < 4096) : CtrV k L0 mX12_ones 1 0 0 [.int (iZ (x : Int))] σ (fun v σ' => v = .int (iZ ((popc x : Int))) ∧ σ' = σ) := by
  refine Ctr.of (by decide +kernel) rfl (Nat.le_of_ble_eq_true rfl) ?_
  intro κ hl0 S
  subst hl0
  refine r_iconst S dX12_ones_0 ?_
  refine r_istore_n S dX12_ones_1 rfl (by decide) (lv' := [_, _, _]) rfl ?_
  refine r_iload_n S dX12_ones_2 rfl ?_
  refine r_istore_n S dX12_ones_3 rfl (by decide) (lv' := [_, _, _]) rfl ?_
  exact l_ones S (popc x) x 0 hx rfl (by omega)

set_option maxRecDepth 100000 in
set_option maxHeartbeats 4000000 in
theorem c_isWordM {k : Cx} {L0 : Launch} {σ : St} {hg kd n e an wt tb tr sk sm : Int} {q : Nat} (hM : σ.2 (cBase k + 14) = some (oModel k hg kd n e an wt tb q tr sk sm)) (hq : q ≤ 12) {x : Int} (hx : zR x) : CtrV k L0 mX12_isWord 2 0 0 [.ref (cBase k + 14), .int (iZ x)] σ (fun v σ' => v = .int (iZ (b01 (0 ≤ x ∧ x ≤ ((2 ^ q : Nat) : Int) - 1))) ∧ σ' = σ) := by
  refine Ctr.of (by decide +kernel) rfl (Nat.le_of_ble_eq_true rfl) ?_
  intro κ hl0 S
  subst hl0
  have hp := pw12 hq
  have hp0 := Nat.two_pow_pos q
  refine r_iload_n S dX12_isWord_0 rfl ?_
  refine r_iconst S dX12_isWord_1 ?_
  refine r_iconst S dX12_isWord_2 ?_
  refine r_aload_n S dX12_isWord_3 rfl ?_
  refine r_getf S g_RX12_146_11 dX12_isWord_4 (by repeat (first | assumption | exact sUp_same | exact sNew_same | refine sUp_ne (by first | assumption | omega) ?_)) rfl ?_
  refine r_ishl S dX12_isWord_7 (v := iZ ((2 ^ q : Nat) : Int)) (by have h9 := shlZ (a := 1) (i := q) (pw1 (by omega)) (by omega); rw [Nat.one_mul] at h9; exact h9) ?_
  refine r_iconst S dX12_isWord_8 ?_
  refine r_isub S dX12_isWord_9 ?_
  refine r_callS S (c_in hx ⟨by decide, by decide⟩ ⟨by omega, by omega⟩) k_mX12_in c_RX12_53 dX12_isWord_10 (by decide) ⟨by omega, by omega⟩ rfl rfl (Nat.le_of_ble_eq_true rfl) (fun r σ' hp => ?_)
  obtain ⟨_, rfl, rfl, rfl⟩ := hp
  try simp only [Option.toList_some, Option.toList_none, List.cons_append, List.nil_append]
  exact r_zret S dX12_isWord_13 (by omega) (by omega) (b01_01 _) (⟨_, rfl, rfl, rfl⟩)
end
section
set_option maxRecDepth 100000 in
set_option maxHeartbeats 4000000 in
theorem l_many {κ : Kx} {k : Cx} {σ : St} {hg e wt tb tr sk sm q : Int} {kd n an : Nat} (hM : σ.2 (cBase k + 14) = some (oModel k hg kd n e an wt tb q tr sk sm)) (hn : n ≤ 16) {l : Nat → Int} (hL : σ.2 (cBase k + 15) = some (eI k 16 l)) (hl : ∀ j, -1 ≤ l j ∧ l j ≤ 3) (S : Ok κ k cX12_many 3 RX12 (some .int) "many" 1 0 0) : ∀ (m i : Nat), i + m = n → V κ k 3 0 0 (QR κ k (fun r σ' => ∃ v, r = some v ∧ (v = .int (iZ (cnt (fun j => decide (0 ≤ l j)) n : Int)) ∧ σ' = σ)) 0 0) 4 [some (.ref (cBase k + 14)), some (.int (iZ (cnt (fun j => decide (0 ≤ l j)) i : Int))), some (.int (iZ (i : Int)))] [] σ := by
  intro m
  induction m with
  | zero =>
    intro i hi
    have hin : i = n := by omega
    subst hin
    have hcl := cnt_le (fun j => decide (0 ≤ l j)) i
    refine r_iload_n S dX12_many_4 rfl ?_
    refine r_aload_n S dX12_many_5 rfl ?_
    refine r_getf S g_RX12_91_11 dX12_many_6 (by repeat (first | assumption | exact sUp_same | exact sNew_same | refine sUp_ne (by first | assumption | omega) ?_)) rfl ?_
    refine r_icmp_ge S dX12_many_9 (tgt := 35) (by decide) ⟨by omega, by omega⟩ ⟨by omega, by omega⟩ (fun h_9 => ?_) (fun h_9 => ?_)
    · refine r_iload_n S dX12_many_35 rfl ?_
      exact r_iret S dX12_many_36 (by omega) (by omega) (⟨_, rfl, rfl, rfl⟩)
    · omega
  | succ m ih =>
    intro i hi
    have hcl := cnt_le (fun j => decide (0 ≤ l j)) i
    have hli := hl i
    refine r_iload_n S dX12_many_4 rfl ?_
    refine r_aload_n S dX12_many_5 rfl ?_
    refine r_getf S g_RX12_91_11 dX12_many_6 (by repeat (first | assumption | exact sUp_same | exact sNew_same | refine sUp_ne (by first | assumption | omega) ?_)) rfl ?_
    refine r_icmp_ge S dX12_many_9 (tgt := 35) (by decide) ⟨by omega, by omega⟩ ⟨by omega, by omega⟩ (fun h_9 => ?_) (fun h_9 => ?_)
    · omega
    · refine r_iload_n S dX12_many_12 rfl ?_
      refine r_aload_n S dX12_many_13 rfl ?_
      refine r_getf S g_RX12_13_11 dX12_many_14 (by repeat (first | assumption | exact sUp_same | exact sNew_same | refine sUp_ne (by first | assumption | omega) ?_)) rfl ?_
      refine r_iload_n S dX12_many_17 rfl ?_
      refine r_ialdN S (i) dX12_many_18 (by repeat (first | assumption | exact sUp_same | exact sNew_same | refine sUp_ne (by first | assumption | omega) ?_)) (by omega) (by omega) (by decide) ?_
      refine r_if_lt S dX12_many_19 (tgt := 26) (by decide) ⟨by omega, by omega⟩ (fun h_19 => ?_) (fun h_19 => ?_)
      · refine r_iconst S dX12_many_26 ?_
        refine r_iadd S dX12_many_27 ?_
        refine r_istore_n S dX12_many_28 rfl (by decide) (lv' := [_, _, _]) rfl ?_
        refine r_iinc S dX12_many_29 rfl rfl (by decide) (lv' := [_, _, _]) rfl ?_
        refine r_goto S dX12_many_32 (tgt := 4) (by decide) ?_
        have h9 := ih (i + 1) (by omega)
        first
          | (rw [cnt_t (p := fun j => decide (0 ≤ l j)) (decide_eq_true (by omega))] at h9; exact h9)
          | (rw [cnt_f (p := fun j => decide (0 ≤ l j)) (decide_eq_false (by omega))] at h9; rw [Int.add_zero]; exact h9)
      · refine r_iconst S dX12_many_22 ?_
        refine r_goto S dX12_many_23 (tgt := 27) (by decide) ?_
        refine r_iadd S dX12_many_27 ?_
        refine r_istore_n S dX12_many_28 rfl (by decide) (lv' := [_, _, _]) rfl ?_
        refine r_iinc S dX12_many_29 rfl rfl (by decide) (lv' := [_, _, _]) rfl ?_
        refine r_goto S dX12_many_32 (tgt := 4) (by decide) ?_
        have h9 := ih (i + 1) (by omega)
        first
          | (rw [cnt_t (p := fun j => decide (0 ≤ l j)) (decide_eq_true (by omega))] at h9; exact h9)
          | (rw [cnt_f (p := fun j => decide (0 ≤ l j)) (decide_eq_false (by omega))] at h9; rw [Int.add_zero]; exact h9)

set_option maxRecDepth 100000 in
set_option maxHeartbeats 4000000 in
theorem c_many {k : Cx} {L0 : Launch} {σ : St} {hg e wt tb tr sk sm q : Int} {kd n an : Nat} (hM : σ.2 (cBase k + 14) = some (oModel k hg kd n e an wt tb q tr sk sm)) (hn : n ≤ 16) {l : Nat → Int} (hL : σ.2 (cBase k + 15) = some (eI k 16 l)) (hl : ∀ j, -1 ≤ l j ∧ l j ≤ 3) : CtrV k L0 mX12_many 1 0 0 [.ref (cBase k + 14)] σ (fun v σ' => v = .int (iZ ((cnt (fun j => decide (0 ≤ l j)) n : Int))) ∧ σ' = σ) := by
  refine Ctr.of (by decide +kernel) rfl (Nat.le_of_ble_eq_true rfl) ?_
  intro κ hl0 S
  subst hl0
  refine r_iconst S dX12_many_0 ?_
  refine r_istore_n S dX12_many_1 rfl (by decide) (lv' := [_, _, _]) rfl ?_
  refine r_iconst S dX12_many_2 ?_
  refine r_istore_n S dX12_many_3 rfl (by decide) (lv' := [_, _, _]) rfl ?_
  exact l_many hM hn hL hl S n 0 (by omega)

set_option maxRecDepth 100000 in
set_option maxHeartbeats 4000000 in
theorem l_tries {κ : Kx} {k : Cx} {σ : St} {hg e wt tb tr sk sm q : Int} {kd n an : Nat} (hM : σ.2 (cBase k + 14) = some (oModel k hg kd n e an wt tb q tr sk sm)) (hn : n ≤ 16) {l : Nat → Int} (hL : σ.2 (cBase k + 15) = some (eI k 16 l)) (hl : ∀ j, -1 ≤ l j ∧ l j ≤ 3) {t : Nat → Int} (hT : σ.2 (cBase k + 24) = some (eI k 16 t)) (hkd : kd < 3) {heap y : Nat} (hh : heap < 65536) (hy : y < 2) (S : Ok κ k cX12_tries 6 RX12 (some .int) "tries" 2 0 0) : ∀ (m i : Nat), i + m = n → V κ k 6 0 0 (QR κ k (fun r σ' => ∃ v, r = some v ∧ (v = .int (iZ (cnt (fun j => decide (nv l kd heap y j ≠ -1)) n : Int)) ∧ σ' = (sUp σ (cBase k + 24) (eI k 16 (tkF (nv l kd heap y) t (n)))))) 0 0) 5 [some (.ref (cBase k + 14)), some (.int (iZ (heap : Int))), some (.int (iZ (y : Int))), some (.int (iZ (cnt (fun j => decide (nv l kd heap y j ≠ -1)) i : Int))), some (.int (iZ (i : Int))), none] [] (sUp σ (cBase k + 24) (eI k 16 (tkF (nv l kd heap y) t (i)))) := by
  intro m
  induction m with
  | zero =>
    intro i hi
    have hin : i = n := by omega
    subst hin
    have hcl := cnt_le (fun j => decide (nv l kd heap y j ≠ -1)) i
    refine r_iload S dX12_tries_5 rfl ?_
    refine r_aload_n S dX12_tries_7 rfl ?_
    refine r_getf S g_RX12_91_11 dX12_tries_8 (by repeat (first | assumption | exact sUp_same | exact sNew_same | refine sUp_ne (by first | assumption | omega) ?_)) rfl ?_
    refine r_icmp_ge S dX12_tries_11 (tgt := 98) (by decide) ⟨by omega, by omega⟩ ⟨by omega, by omega⟩ (fun h_11 => ?_) (fun h_11 => ?_)
    · refine r_iload_n S dX12_tries_98 rfl ?_
      exact r_iret S dX12_tries_99 (by omega) (by omega) (⟨_, rfl, rfl, rfl⟩)
    · omega
  | succ m ih =>
    intro i hi
    have hcl := cnt_le (fun j => decide (nv l kd heap y j ≠ -1)) i
    have hli := hl i
    have hb := bt_lt heap i
    have hco := costK_rng kd y (bt heap i)
    have hnv : nv l kd heap y i = max (-1) (l i - costK kd y (bt heap i)) := rfl
    refine r_iload S dX12_tries_5 rfl ?_
    refine r_aload_n S dX12_tries_7 rfl ?_
    refine r_getf S g_RX12_91_11 dX12_tries_8 (by repeat (first | assumption | exact sUp_same | exact sNew_same | refine sUp_ne (by first | assumption | omega) ?_)) rfl ?_
    refine r_icmp_ge S dX12_tries_11 (tgt := 98) (by decide) ⟨by omega, by omega⟩ ⟨by omega, by omega⟩ (fun h_11 => ?_) (fun h_11 => ?_)
    · omega
    · refine r_aload_n S dX12_tries_14 rfl ?_
      refine r_getf S g_RX12_13_11 dX12_tries_15 (by repeat (first | assumption | exact sUp_same | exact sNew_same | refine sUp_ne (by first | assumption | omega) ?_)) rfl ?_
      refine r_iload S dX12_tries_18 rfl ?_
      refine r_ialdN S (i) dX12_tries_20 (by repeat (first | assumption | exact sUp_same | exact sNew_same | refine sUp_ne (by first | assumption | omega) ?_)) (by omega) (by omega) (by decide) ?_
      refine r_if_ge S dX12_tries_21 (tgt := 28) (by decide) ⟨by omega, by omega⟩ (fun h_21 => ?_) (fun h_21 => ?_)
      · refine r_aload_n S dX12_tries_28 rfl ?_
        refine r_getf S g_RX12_13_11 dX12_tries_29 (by repeat (first | assumption | exact sUp_same | exact sNew_same | refine sUp_ne (by first | assumption | omega) ?_)) rfl ?_
        refine r_iload S dX12_tries_32 rfl ?_
        refine r_ialdN S (i) dX12_tries_34 (by repeat (first | assumption | exact sUp_same | exact sNew_same | refine sUp_ne (by first | assumption | omega) ?_)) (by omega) (by omega) (by decide) ?_
        refine r_aload_n S dX12_tries_35 rfl ?_
        refine r_getf S g_RX12_88_11 dX12_tries_36 (by repeat (first | assumption | exact sUp_same | exact sNew_same | refine sUp_ne (by first | assumption | omega) ?_)) rfl ?_
        refine r_iload_n S dX12_tries_39 rfl ?_
        refine r_iload_n S dX12_tries_40 rfl ?_
        refine r_iload S dX12_tries_41 rfl ?_
        refine r_ishr S dX12_tries_43 (shrZ (by omega) (by omega)) ?_
        refine r_iconst S dX12_tries_44 ?_
        refine r_iand S dX12_tries_45 (v := iZ ((bt heap i : Nat) : Int)) (and1Z _) ?_
        refine r_iconst S dX12_tries_46 ?_
        refine r_icmp_ne S dX12_tries_47 (tgt := 54) (by decide) ⟨by omega, by omega⟩ ⟨by omega, by omega⟩ (fun h_47 => ?_) (fun h_47 => ?_)
        · refine r_iconst S dX12_tries_54 ?_
          refine r_num (z' := ((bt heap i : Nat) : Int)) (by omega) ?_
          refine r_callS S (c_costOf hkd hy hb) k_mX12_costOf c_RX12_65 dX12_tries_55 (by decide) ⟨by omega, by omega⟩ rfl rfl (Nat.le_of_ble_eq_true rfl) (fun r σ' hp => ?_)
          obtain ⟨_, rfl, rfl, rfl⟩ := hp
          try simp only [Option.toList_some, Option.toList_none, List.cons_append, List.nil_append]
          refine r_isub S dX12_tries_58 ?_
          refine r_istore S dX12_tries_59 rfl (by decide) (lv' := [_, _, _, _, _, _]) rfl ?_
          refine r_aload_n S dX12_tries_61 rfl ?_
          refine r_getf S g_RX12_46_11 dX12_tries_62 (by repeat (first | assumption | exact sUp_same | exact sNew_same | refine sUp_ne (by first | assumption | omega) ?_)) rfl ?_
          refine r_iload S dX12_tries_65 rfl ?_
          refine r_iload S dX12_tries_67 rfl ?_
          refine r_if_ge S dX12_tries_69 (tgt := 76) (by decide) ⟨by omega, by omega⟩ (fun h_69 => ?_) (fun h_69 => ?_)
          · refine r_iload S dX12_tries_76 rfl ?_
            refine r_num (z' := nv l kd heap y i) (by omega) ?_
            refine r_iastN S (i) dX12_tries_78 (by repeat (first | assumption | exact sUp_same | exact sNew_same | refine sUp_ne (by first | assumption | omega) ?_)) (by omega) (by omega) (by decide) ?_
            refine r_iload_n S dX12_tries_79 rfl ?_
            refine r_iload S dX12_tries_80 rfl ?_
            refine r_if_ge S dX12_tries_82 (tgt := 89) (by decide) ⟨by omega, by omega⟩ (fun h_82 => ?_) (fun h_82 => ?_)
            · refine r_iconst S dX12_tries_89 ?_
              refine r_iadd S dX12_tries_90 ?_
              refine r_istore_n S dX12_tries_91 rfl (by decide) (lv' := [_, _, _, _, _, _]) rfl ?_
              refine r_iinc S dX12_tries_92 rfl rfl (by decide) (lv' := [_, _, _, _, _, _]) rfl ?_
              refine r_goto S dX12_tries_95 (tgt := 5) (by decide) ?_
              refine V.mask [true, true, true, true, true, false] (lv' := [_, _, _, _, _, none]) rfl ?_
              have h9 := ih (i + 1) (by omega)
              rw [← tkF_succ (nv l kd heap y) t i] at h9
              simp only [sUp_sUp]
              first
                | (rw [cnt_t (p := fun j => decide (nv l kd heap y j ≠ -1)) (decide_eq_true (by omega))] at h9; exact h9)
                | (rw [cnt_f (p := fun j => decide (nv l kd heap y j ≠ -1)) (decide_eq_false (by omega))] at h9; rw [Int.add_zero]; exact h9)
            · refine r_iconst S dX12_tries_85 ?_
              refine r_goto S dX12_tries_86 (tgt := 90) (by decide) ?_
              refine r_iadd S dX12_tries_90 ?_
              refine r_istore_n S dX12_tries_91 rfl (by decide) (lv' := [_, _, _, _, _, _]) rfl ?_
              refine r_iinc S dX12_tries_92 rfl rfl (by decide) (lv' := [_, _, _, _, _, _]) rfl ?_
              refine r_goto S dX12_tries_95 (tgt := 5) (by decide) ?_
              refine V.mask [true, true, true, true, true, false] (lv' := [_, _, _, _, _, none]) rfl ?_
              have h9 := ih (i + 1) (by omega)
              rw [← tkF_succ (nv l kd heap y) t i] at h9
              simp only [sUp_sUp]
              first
                | (rw [cnt_t (p := fun j => decide (nv l kd heap y j ≠ -1)) (decide_eq_true (by omega))] at h9; exact h9)
                | (rw [cnt_f (p := fun j => decide (nv l kd heap y j ≠ -1)) (decide_eq_false (by omega))] at h9; rw [Int.add_zero]; exact h9)
          · refine r_iconst S dX12_tries_72 ?_
            refine r_goto S dX12_tries_73 (tgt := 78) (by decide) ?_
            refine r_num (z' := nv l kd heap y i) (by omega) ?_
            refine r_iastN S (i) dX12_tries_78 (by repeat (first | assumption | exact sUp_same | exact sNew_same | refine sUp_ne (by first | assumption | omega) ?_)) (by omega) (by omega) (by decide) ?_
            refine r_iload_n S dX12_tries_79 rfl ?_
            refine r_iload S dX12_tries_80 rfl ?_
            refine r_if_ge S dX12_tries_82 (tgt := 89) (by decide) ⟨by omega, by omega⟩ (fun h_82 => ?_) (fun h_82 => ?_)
            · refine r_iconst S dX12_tries_89 ?_
              refine r_iadd S dX12_tries_90 ?_
              refine r_istore_n S dX12_tries_91 rfl (by decide) (lv' := [_, _, _, _, _, _]) rfl ?_
              refine r_iinc S dX12_tries_92 rfl rfl (by decide) (lv' := [_, _, _, _, _, _]) rfl ?_
              refine r_goto S dX12_tries_95 (tgt := 5) (by decide) ?_
              refine V.mask [true, true, true, true, true, false] (lv' := [_, _, _, _, _, none]) rfl ?_
              have h9 := ih (i + 1) (by omega)
              rw [← tkF_succ (nv l kd heap y) t i] at h9
              simp only [sUp_sUp]
              first
                | (rw [cnt_t (p := fun j => decide (nv l kd heap y j ≠ -1)) (decide_eq_true (by omega))] at h9; exact h9)
                | (rw [cnt_f (p := fun j => decide (nv l kd heap y j ≠ -1)) (decide_eq_false (by omega))] at h9; rw [Int.add_zero]; exact h9)
            · refine r_iconst S dX12_tries_85 ?_
              refine r_goto S dX12_tries_86 (tgt := 90) (by decide) ?_
              refine r_iadd S dX12_tries_90 ?_
              refine r_istore_n S dX12_tries_91 rfl (by decide) (lv' := [_, _, _, _, _, _]) rfl ?_
              refine r_iinc S dX12_tries_92 rfl rfl (by decide) (lv' := [_, _, _, _, _, _]) rfl ?_
              refine r_goto S dX12_tries_95 (tgt := 5) (by decide) ?_
              refine V.mask [true, true, true, true, true, false] (lv' := [_, _, _, _, _, none]) rfl ?_
              have h9 := ih (i + 1) (by omega)
              rw [← tkF_succ (nv l kd heap y) t i] at h9
              simp only [sUp_sUp]
              first
                | (rw [cnt_t (p := fun j => decide (nv l kd heap y j ≠ -1)) (decide_eq_true (by omega))] at h9; exact h9)
                | (rw [cnt_f (p := fun j => decide (nv l kd heap y j ≠ -1)) (decide_eq_false (by omega))] at h9; rw [Int.add_zero]; exact h9)
        · refine r_iconst S dX12_tries_50 ?_
          refine r_goto S dX12_tries_51 (tgt := 55) (by decide) ?_
          refine r_num (z' := ((bt heap i : Nat) : Int)) (by omega) ?_
          refine r_callS S (c_costOf hkd hy hb) k_mX12_costOf c_RX12_65 dX12_tries_55 (by decide) ⟨by omega, by omega⟩ rfl rfl (Nat.le_of_ble_eq_true rfl) (fun r σ' hp => ?_)
          obtain ⟨_, rfl, rfl, rfl⟩ := hp
          try simp only [Option.toList_some, Option.toList_none, List.cons_append, List.nil_append]
          refine r_isub S dX12_tries_58 ?_
          refine r_istore S dX12_tries_59 rfl (by decide) (lv' := [_, _, _, _, _, _]) rfl ?_
          refine r_aload_n S dX12_tries_61 rfl ?_
          refine r_getf S g_RX12_46_11 dX12_tries_62 (by repeat (first | assumption | exact sUp_same | exact sNew_same | refine sUp_ne (by first | assumption | omega) ?_)) rfl ?_
          refine r_iload S dX12_tries_65 rfl ?_
          refine r_iload S dX12_tries_67 rfl ?_
          refine r_if_ge S dX12_tries_69 (tgt := 76) (by decide) ⟨by omega, by omega⟩ (fun h_69 => ?_) (fun h_69 => ?_)
          · refine r_iload S dX12_tries_76 rfl ?_
            refine r_num (z' := nv l kd heap y i) (by omega) ?_
            refine r_iastN S (i) dX12_tries_78 (by repeat (first | assumption | exact sUp_same | exact sNew_same | refine sUp_ne (by first | assumption | omega) ?_)) (by omega) (by omega) (by decide) ?_
            refine r_iload_n S dX12_tries_79 rfl ?_
            refine r_iload S dX12_tries_80 rfl ?_
            refine r_if_ge S dX12_tries_82 (tgt := 89) (by decide) ⟨by omega, by omega⟩ (fun h_82 => ?_) (fun h_82 => ?_)
            · refine r_iconst S dX12_tries_89 ?_
              refine r_iadd S dX12_tries_90 ?_
              refine r_istore_n S dX12_tries_91 rfl (by decide) (lv' := [_, _, _, _, _, _]) rfl ?_
              refine r_iinc S dX12_tries_92 rfl rfl (by decide) (lv' := [_, _, _, _, _, _]) rfl ?_
              refine r_goto S dX12_tries_95 (tgt := 5) (by decide) ?_
              refine V.mask [true, true, true, true, true, false] (lv' := [_, _, _, _, _, none]) rfl ?_
              have h9 := ih (i + 1) (by omega)
              rw [← tkF_succ (nv l kd heap y) t i] at h9
              simp only [sUp_sUp]
              first
                | (rw [cnt_t (p := fun j => decide (nv l kd heap y j ≠ -1)) (decide_eq_true (by omega))] at h9; exact h9)
                | (rw [cnt_f (p := fun j => decide (nv l kd heap y j ≠ -1)) (decide_eq_false (by omega))] at h9; rw [Int.add_zero]; exact h9)
            · refine r_iconst S dX12_tries_85 ?_
              refine r_goto S dX12_tries_86 (tgt := 90) (by decide) ?_
              refine r_iadd S dX12_tries_90 ?_
              refine r_istore_n S dX12_tries_91 rfl (by decide) (lv' := [_, _, _, _, _, _]) rfl ?_
              refine r_iinc S dX12_tries_92 rfl rfl (by decide) (lv' := [_, _, _, _, _, _]) rfl ?_
              refine r_goto S dX12_tries_95 (tgt := 5) (by decide) ?_
              refine V.mask [true, true, true, true, true, false] (lv' := [_, _, _, _, _, none]) rfl ?_
              have h9 := ih (i + 1) (by omega)
              rw [← tkF_succ (nv l kd heap y) t i] at h9
              simp only [sUp_sUp]
              first
                | (rw [cnt_t (p := fun j => decide (nv l kd heap y j ≠ -1)) (decide_eq_true (by omega))] at h9; exact h9)
                | (rw [cnt_f (p := fun j => decide (nv l kd heap y j ≠ -1)) (decide_eq_false (by omega))] at h9; rw [Int.add_zero]; exact h9)
          · refine r_iconst S dX12_tries_72 ?_
            refine r_goto S dX12_tries_73 (tgt := 78) (by decide) ?_
            refine r_num (z' := nv l kd heap y i) (by omega) ?_
            refine r_iastN S (i) dX12_tries_78 (by repeat (first | assumption | exact sUp_same | exact sNew_same | refine sUp_ne (by first | assumption | omega) ?_)) (by omega) (by omega) (by decide) ?_
            refine r_iload_n S dX12_tries_79 rfl ?_
            refine r_iload S dX12_tries_80 rfl ?_
            refine r_if_ge S dX12_tries_82 (tgt := 89) (by decide) ⟨by omega, by omega⟩ (fun h_82 => ?_) (fun h_82 => ?_)
            · refine r_iconst S dX12_tries_89 ?_
              refine r_iadd S dX12_tries_90 ?_
              refine r_istore_n S dX12_tries_91 rfl (by decide) (lv' := [_, _, _, _, _, _]) rfl ?_
              refine r_iinc S dX12_tries_92 rfl rfl (by decide) (lv' := [_, _, _, _, _, _]) rfl ?_
              refine r_goto S dX12_tries_95 (tgt := 5) (by decide) ?_
              refine V.mask [true, true, true, true, true, false] (lv' := [_, _, _, _, _, none]) rfl ?_
              have h9 := ih (i + 1) (by omega)
              rw [← tkF_succ (nv l kd heap y) t i] at h9
              simp only [sUp_sUp]
              first
                | (rw [cnt_t (p := fun j => decide (nv l kd heap y j ≠ -1)) (decide_eq_true (by omega))] at h9; exact h9)
                | (rw [cnt_f (p := fun j => decide (nv l kd heap y j ≠ -1)) (decide_eq_false (by omega))] at h9; rw [Int.add_zero]; exact h9)
            · refine r_iconst S dX12_tries_85 ?_
              refine r_goto S dX12_tries_86 (tgt := 90) (by decide) ?_
              refine r_iadd S dX12_tries_90 ?_
              refine r_istore_n S dX12_tries_91 rfl (by decide) (lv' := [_, _, _, _, _, _]) rfl ?_
              refine r_iinc S dX12_tries_92 rfl rfl (by decide) (lv' := [_, _, _, _, _, _]) rfl ?_
              refine r_goto S dX12_tries_95 (tgt := 5) (by decide) ?_
              refine V.mask [true, true, true, true, true, false] (lv' := [_, _, _, _, _, none]) rfl ?_
              have h9 := ih (i + 1) (by omega)
              rw [← tkF_succ (nv l kd heap y) t i] at h9
              simp only [sUp_sUp]
              first
                | (rw [cnt_t (p := fun j => decide (nv l kd heap y j ≠ -1)) (decide_eq_true (by omega))] at h9; exact h9)
                | (rw [cnt_f (p := fun j => decide (nv l kd heap y j ≠ -1)) (decide_eq_false (by omega))] at h9; rw [Int.add_zero]; exact h9)
      · refine r_iconst S dX12_tries_24 ?_
        refine r_goto S dX12_tries_25 (tgt := 59) (by decide) ?_
        refine r_istore S dX12_tries_59 rfl (by decide) (lv' := [_, _, _, _, _, _]) rfl ?_
        refine r_aload_n S dX12_tries_61 rfl ?_
        refine r_getf S g_RX12_46_11 dX12_tries_62 (by repeat (first | assumption | exact sUp_same | exact sNew_same | refine sUp_ne (by first | assumption | omega) ?_)) rfl ?_
        refine r_iload S dX12_tries_65 rfl ?_
        refine r_iload S dX12_tries_67 rfl ?_
        refine r_if_ge S dX12_tries_69 (tgt := 76) (by decide) ⟨by omega, by omega⟩ (fun h_69 => ?_) (fun h_69 => ?_)
        · refine r_iload S dX12_tries_76 rfl ?_
          refine r_num (z' := nv l kd heap y i) (by omega) ?_
          refine r_iastN S (i) dX12_tries_78 (by repeat (first | assumption | exact sUp_same | exact sNew_same | refine sUp_ne (by first | assumption | omega) ?_)) (by omega) (by omega) (by decide) ?_
          refine r_iload_n S dX12_tries_79 rfl ?_
          refine r_iload S dX12_tries_80 rfl ?_
          refine r_if_ge S dX12_tries_82 (tgt := 89) (by decide) ⟨by omega, by omega⟩ (fun h_82 => ?_) (fun h_82 => ?_)
          · refine r_iconst S dX12_tries_89 ?_
            refine r_iadd S dX12_tries_90 ?_
            refine r_istore_n S dX12_tries_91 rfl (by decide) (lv' := [_, _, _, _, _, _]) rfl ?_
            refine r_iinc S dX12_tries_92 rfl rfl (by decide) (lv' := [_, _, _, _, _, _]) rfl ?_
            refine r_goto S dX12_tries_95 (tgt := 5) (by decide) ?_
            refine V.mask [true, true, true, true, true, false] (lv' := [_, _, _, _, _, none]) rfl ?_
            have h9 := ih (i + 1) (by omega)
            rw [← tkF_succ (nv l kd heap y) t i] at h9
            simp only [sUp_sUp]
            first
              | (rw [cnt_t (p := fun j => decide (nv l kd heap y j ≠ -1)) (decide_eq_true (by omega))] at h9; exact h9)
              | (rw [cnt_f (p := fun j => decide (nv l kd heap y j ≠ -1)) (decide_eq_false (by omega))] at h9; rw [Int.add_zero]; exact h9)
          · refine r_iconst S dX12_tries_85 ?_
            refine r_goto S dX12_tries_86 (tgt := 90) (by decide) ?_
            refine r_iadd S dX12_tries_90 ?_
            refine r_istore_n S dX12_tries_91 rfl (by decide) (lv' := [_, _, _, _, _, _]) rfl ?_
            refine r_iinc S dX12_tries_92 rfl rfl (by decide) (lv' := [_, _, _, _, _, _]) rfl ?_
            refine r_goto S dX12_tries_95 (tgt := 5) (by decide) ?_
            refine V.mask [true, true, true, true, true, false] (lv' := [_, _, _, _, _, none]) rfl ?_
            have h9 := ih (i + 1) (by omega)
            rw [← tkF_succ (nv l kd heap y) t i] at h9
            simp only [sUp_sUp]
            first
              | (rw [cnt_t (p := fun j => decide (nv l kd heap y j ≠ -1)) (decide_eq_true (by omega))] at h9; exact h9)
              | (rw [cnt_f (p := fun j => decide (nv l kd heap y j ≠ -1)) (decide_eq_false (by omega))] at h9; rw [Int.add_zero]; exact h9)
        · refine r_iconst S dX12_tries_72 ?_
          refine r_goto S dX12_tries_73 (tgt := 78) (by decide) ?_
          refine r_num (z' := nv l kd heap y i) (by omega) ?_
          refine r_iastN S (i) dX12_tries_78 (by repeat (first | assumption | exact sUp_same | exact sNew_same | refine sUp_ne (by first | assumption | omega) ?_)) (by omega) (by omega) (by decide) ?_
          refine r_iload_n S dX12_tries_79 rfl ?_
          refine r_iload S dX12_tries_80 rfl ?_
          refine r_if_ge S dX12_tries_82 (tgt := 89) (by decide) ⟨by omega, by omega⟩ (fun h_82 => ?_) (fun h_82 => ?_)
          · refine r_iconst S dX12_tries_89 ?_
            refine r_iadd S dX12_tries_90 ?_
            refine r_istore_n S dX12_tries_91 rfl (by decide) (lv' := [_, _, _, _, _, _]) rfl ?_
            refine r_iinc S dX12_tries_92 rfl rfl (by decide) (lv' := [_, _, _, _, _, _]) rfl ?_
            refine r_goto S dX12_tries_95 (tgt := 5) (by decide) ?_
            refine V.mask [true, true, true, true, true, false] (lv' := [_, _, _, _, _, none]) rfl ?_
            have h9 := ih (i + 1) (by omega)
            rw [← tkF_succ (nv l kd heap y) t i] at h9
            simp only [sUp_sUp]
            first
              | (rw [cnt_t (p := fun j => decide (nv l kd heap y j ≠ -1)) (decide_eq_true (by omega))] at h9; exact h9)
              | (rw [cnt_f (p := fun j => decide (nv l kd heap y j ≠ -1)) (decide_eq_false (by omega))] at h9; rw [Int.add_zero]; exact h9)
          · refine r_iconst S dX12_tries_85 ?_
            refine r_goto S dX12_tries_86 (tgt := 90) (by decide) ?_
            refine r_iadd S dX12_tries_90 ?_
            refine r_istore_n S dX12_tries_91 rfl (by decide) (lv' := [_, _, _, _, _, _]) rfl ?_
            refine r_iinc S dX12_tries_92 rfl rfl (by decide) (lv' := [_, _, _, _, _, _]) rfl ?_
            refine r_goto S dX12_tries_95 (tgt := 5) (by decide) ?_
            refine V.mask [true, true, true, true, true, false] (lv' := [_, _, _, _, _, none]) rfl ?_
            have h9 := ih (i + 1) (by omega)
            rw [← tkF_succ (nv l kd heap y) t i] at h9
            simp only [sUp_sUp]
            first
              | (rw [cnt_t (p := fun j => decide (nv l kd heap y j ≠ -1)) (decide_eq_true (by omega))] at h9; exact h9)
              | (rw [cnt_f (p := fun j => decide (nv l kd heap y j ≠ -1)) (decide_eq_false (by omega))] at h9; rw [Int.add_zero]; exact h9)

set_option maxRecDepth 100000 in
set_option maxHeartbeats 4000000 in
theorem c_tries {k : Cx} {L0 : Launch} {σ : St} {hg e wt tb tr sk sm q : Int} {kd n an : Nat} (hM : σ.2 (cBase k + 14) = some (oModel k hg kd n e an wt tb q tr sk sm)) (hn : n ≤ 16) {l : Nat → Int} (hL : σ.2 (cBase k + 15) = some (eI k 16 l)) (hl : ∀ j, -1 ≤ l j ∧ l j ≤ 3) {t : Nat → Int} (hT : σ.2 (cBase k + 24) = some (eI k 16 t)) (hkd : kd < 3) {heap y : Nat} (hh : heap < 65536) (hy : y < 2) : CtrV k L0 mX12_tries 2 0 0 [.ref (cBase k + 14), .int (iZ (heap : Int)), .int (iZ (y : Int))] σ (fun v σ' => v = .int (iZ (cnt (fun j => decide (nv l kd heap y j ≠ -1)) n : Int)) ∧ σ' = (sUp σ (cBase k + 24) (eI k 16 (tkF (nv l kd heap y) t (n))))) := by
  refine Ctr.of (by decide +kernel) rfl (Nat.le_of_ble_eq_true rfl) ?_
  intro κ hl0 S
  subst hl0
  refine r_iconst S dX12_tries_0 ?_
  refine r_istore_n S dX12_tries_1 rfl (by decide) (lv' := [_, _, _, _, _, _]) rfl ?_
  refine r_iconst S dX12_tries_2 ?_
  refine r_istore S dX12_tries_3 rfl (by decide) (lv' := [_, _, _, _, _, _]) rfl ?_
  have h9 := l_tries hM hn hL hl hT hkd hh hy S n 0 (by omega)
  rw [tkF_0, sUp_id hT] at h9
  exact h9
end
section
/-! FEWEST as mathematics. A STATE: how many NUMBERS have LEFT of 0, 1, 2, 3 or more -/
abbrev Q4 : Type := Nat × Nat × Nat × Nat
def qat (h : Q4) (i : Nat) : Nat := match i with
  | 0 => h.1
  | 1 => h.2.1
  | 2 => h.2.2.1
  | 3 => h.2.2.2
  | _ => 0
def Dec (h : Q4) : Prop := h.2.1 ≤ h.1 ∧ h.2.2.1 ≤ h.2.1 ∧ h.2.2.2 ≤ h.2.2.1
def leQ (g h : Q4) : Prop := g.1 ≤ h.1 ∧ g.2.1 ≤ h.2.1 ∧ g.2.2.1 ≤ h.2.2.1 ∧ g.2.2.2 ≤ h.2.2.2
/-- those of a keep LEFT, those of b pay c -/
def bhQ (c : Nat) (a b : Q4) : Q4 := (a.1 + qat b c, a.2.1 + qat b (1 + c), a.2.2.1 + qat b (2 + c), a.2.2.2 + qat b (3 + c))
def sumQ (t u : Q4) : Q4 := (t.1 + u.1, t.2.1 + u.2.1, t.2.2.1 + u.2.2.1, t.2.2.2 + u.2.2.2)
theorem qat_mono {g h : Q4} (hl : leQ g h) (i : Nat) : qat g i ≤ qat h i := by
  obtain ⟨h0, h1, h2, h3⟩ := hl
  match i with
  | 0 => exact h0
  | 1 => exact h1
  | 2 => exact h2
  | 3 => exact h3
  | _ + 4 => exact Nat.le_refl _
theorem qat_dec {h : Q4} (hd : Dec h) (i : Nat) : qat h (i + 1) ≤ qat h i := by
  obtain ⟨h1, h2, h3⟩ := hd
  match i with
  | 0 => exact h1
  | 1 => exact h2
  | 2 => exact h3
  | 3 => exact Nat.zero_le _
  | _ + 4 => exact Nat.le_refl _
theorem bhQ_mono {c : Nat} {a a' b b' : Q4} (ha : leQ a' a) (hb : leQ b' b) : leQ (bhQ c a' b') (bhQ c a b) :=
  ⟨Nat.add_le_add ha.1 (qat_mono hb _), Nat.add_le_add ha.2.1 (qat_mono hb _), Nat.add_le_add ha.2.2.1 (qat_mono hb _), Nat.add_le_add ha.2.2.2 (qat_mono hb _)⟩
theorem bhQ_dec {c : Nat} {a b : Q4} (ha : Dec a) (hb : Dec b) : Dec (bhQ c a b) := by
  obtain ⟨h1, h2, h3⟩ := ha
  have k0 := qat_dec hb c
  have k1 := qat_dec hb (1 + c)
  have k2 := qat_dec hb (2 + c)
  rw [show c + 1 = 1 + c by omega] at k0
  rw [show 1 + c + 1 = 2 + c by omega] at k1
  rw [show 2 + c + 1 = 3 + c by omega] at k2
  exact ⟨Nat.add_le_add h1 k0, Nat.add_le_add h2 k1, Nat.add_le_add h3 k2⟩
/-- q questions more surely leave one NUMBER at most; cy what a yes costs those that aren't in the heap, cn what a no costs those that are -/
def canQ (cy cn : Nat) : Nat → Q4 → Prop
  | 0, h => h.1 ≤ 1
  | q + 1, h => h.1 ≤ 1 ∨ ∃ t u : Q4, Dec t ∧ Dec u ∧ sumQ t u = h ∧ canQ cy cn q (bhQ cy t u) ∧ canQ cy cn q (bhQ cn u t)
def Good (f : Nat → Nat) : Prop := ∀ m m', m ≤ m' → f m ≤ f m' ∧ f m' ≤ f m + (m' - m)
theorem good_tr (a b : Nat) : Good (fun m => a - (b - m)) := fun m m' h => by constructor <;> simp only <;> omega
theorem good_max {f g : Nat → Nat} (hf : Good f) (hg : Good g) : Good (fun m => max (f m) (g m)) := fun m m' h => by
  have h1 := hf m m' h
  have h2 := hg m m' h
  simp only
  omega
def spT (t h : Q4) (m : Nat) : Nat := max (max (t.1 - (h.1 - m)) (t.2.1 - (h.2.1 - m))) (max (t.2.2.1 - (h.2.2.1 - m)) (t.2.2.2 - (h.2.2.2 - m)))
theorem spT_good (t h : Q4) : Good (spT t h) := good_max (good_max (good_tr _ _) (good_tr _ _)) (good_max (good_tr _ _) (good_tr _ _))
/-- a question that serves a STATE serves one below it too -/
theorem split_mono {g t u : Q4} (hg : Dec g) (ht : Dec t) (hu : Dec u) (hl : leQ g (sumQ t u)) : ∃ t' u' : Q4, Dec t' ∧ Dec u' ∧ sumQ t' u' = g ∧ leQ t' t ∧ leQ u' u := by
  obtain ⟨g0, g1, g2, g3⟩ := g
  obtain ⟨t0, t1, t2, t3⟩ := t
  obtain ⟨u0, u1, u2, u3⟩ := u
  simp only [Dec, leQ, sumQ] at hg ht hu hl
  generalize hT : spT (t0, t1, t2, t3) (t0 + u0, t1 + u1, t2 + u2, t3 + u3) = T
  have hG : Good T := hT ▸ spT_good _ _
  have e0 : T (t0 + u0) = t0 := by rw [← hT]; simp only [spT]; omega
  have e1 : T (t1 + u1) = t1 := by rw [← hT]; simp only [spT]; omega
  have e2 : T (t2 + u2) = t2 := by rw [← hT]; simp only [spT]; omega
  have e3 : T (t3 + u3) = t3 := by rw [← hT]; simp only [spT]; omega
  have z : T 0 = 0 := by rw [← hT]; simp only [spT]; omega
  have a0 := hG g0 (t0 + u0) hl.1
  have a1 := hG g1 (t1 + u1) hl.2.1
  have a2 := hG g2 (t2 + u2) hl.2.2.1
  have a3 := hG g3 (t3 + u3) hl.2.2.2
  have b0 := hG g1 g0 hg.1
  have b1 := hG g2 g1 hg.2.1
  have b2 := hG g3 g2 hg.2.2
  have c0 := hG 0 g0 (Nat.zero_le _)
  have c1 := hG 0 g1 (Nat.zero_le _)
  have c2 := hG 0 g2 (Nat.zero_le _)
  have c3 := hG 0 g3 (Nat.zero_le _)
  rw [e0] at a0; rw [e1] at a1; rw [e2] at a2; rw [e3] at a3
  rw [z] at c0 c1 c2 c3
  refine ⟨(T g0, T g1, T g2, T g3), (g0 - T g0, g1 - T g1, g2 - T g2, g3 - T g3), ?_, ?_, ?_, ?_, ?_⟩
  · simp only [Dec]; omega
  · simp only [Dec]; omega
  · simp only [sumQ, Prod.mk.injEq]; omega
  · simp only [leQ]; omega
  · simp only [leQ]; omega
theorem can_mono {cy cn : Nat} : ∀ {q : Nat} {g h : Q4}, Dec g → leQ g h → canQ cy cn q h → canQ cy cn q g
  | 0, g, h, _, hl, hc => Nat.le_trans hl.1 hc
  | q + 1, g, h, hg, hl, hc => by
    rcases hc with hc | ⟨t, u, ht, hu, rfl, hy, hn⟩
    · exact Or.inl (Nat.le_trans hl.1 hc)
    · obtain ⟨t', u', ht', hu', hs, lt, lu⟩ := split_mono hg ht hu hl
      exact Or.inr ⟨t', u', ht', hu', hs, can_mono (bhQ_dec ht' hu') (bhQ_mono lt lu) hy, can_mono (bhQ_dec hu' ht') (bhQ_mono lu lt) hn⟩
theorem can_succ {cy cn : Nat} : ∀ {q : Nat} {h : Q4}, canQ cy cn q h → canQ cy cn (q + 1) h
  | 0, _, hc => Or.inl hc
  | q + 1, _, hc => by
    rcases hc with hc | ⟨t, u, ht, hu, hs, hy, hn⟩
    · exact Or.inl hc
    · exact Or.inr ⟨t, u, ht, hu, hs, can_succ hy, can_succ hn⟩
theorem can_le {cy cn : Nat} {q q' : Nat} {h : Q4} (hq : q ≤ q') (hc : canQ cy cn q h) : canQ cy cn q' h := by
  induction hq with
  | refl => exact hc
  | step _ ih => exact can_succ ih
/-- FEWEST: v, 13 where it is above 12 -/
def IsFew (cy cn : Nat) (h : Q4) (v : Nat) : Prop := v ≤ 13 ∧ ∀ q, q ≤ 12 → (canQ cy cn q h ↔ v ≤ q)
theorem few_uniq {cy cn : Nat} {h : Q4} {v w : Nat} (hv : IsFew cy cn h v) (hw : IsFew cy cn h w) : v = w := by
  rcases Nat.lt_trichotomy v w with e | e | e
  · have h1 := (hw.2 v (by have := hw.1; omega)).mp ((hv.2 v (by have := hw.1; omega)).mpr (Nat.le_refl _)); omega
  · exact e
  · have h1 := (hv.2 w (by have := hv.1; omega)).mp ((hw.2 w (by have := hv.1; omega)).mpr (Nat.le_refl _)); omega
theorem few_mono {cy cn : Nat} {g h : Q4} {v w : Nat} (hg : Dec g) (hl : leQ g h) (hv : IsFew cy cn g v) (hw : IsFew cy cn h w) : v ≤ w := by
  rcases Nat.lt_or_ge w 13 with e | e
  · exact (hv.2 w (by omega)).mp (can_mono hg hl ((hw.2 w (by omega)).mpr (Nat.le_refl _)))
  · have := hv.1; omega
theorem few_ex (cy cn : Nat) (h : Q4) : ∃ v, IsFew cy cn h v := by
  have key : ∀ m, m ≤ 13 → (∀ q, q < 13 - m → ¬ canQ cy cn q h) → ∃ v, IsFew cy cn h v := by
    intro m
    induction m with
    | zero => intro _ hn; exact ⟨13, Nat.le_refl _, fun q hq => ⟨fun hc => absurd hc (hn q (by omega)), fun hc => by omega⟩⟩
    | succ m ih =>
      intro hm hn
      by_cases hc : canQ cy cn (13 - (m + 1)) h
      · refine ⟨13 - (m + 1), by omega, fun q hq => ⟨fun hz => ?_, fun hz => can_le hz hc⟩⟩
        rcases Nat.lt_or_ge q (13 - (m + 1)) with e | e
        · exact absurd hz (hn q e)
        · exact e
      · refine ih (by omega) (fun q hq => ?_)
        rcases Nat.lt_or_ge q (13 - (m + 1)) with e | e
        · exact hn q e
        · rw [show q = 13 - (m + 1) by omega]; exact hc
  exact key 13 (by omega) (fun q hq => absurd hq (by omega))
theorem few_small {cy cn : Nat} {h : Q4} (h0 : h.1 ≤ 1) : IsFew cy cn h 0 := ⟨by omega, fun q _ => ⟨fun _ => Nat.zero_le _, fun _ => can_le (Nat.zero_le q) (show canQ cy cn 0 h from h0)⟩⟩
/-- the step: with no fewer than q + 1 questions, q + 1 do exactly where a heap leaves STATES that q do -/
theorem can_step {cy cn q : Nat} {h : Q4} (h0 : 2 ≤ h.1) : canQ cy cn (q + 1) h ↔ ∃ t u : Q4, Dec t ∧ Dec u ∧ sumQ t u = h ∧ canQ cy cn q (bhQ cy t u) ∧ canQ cy cn q (bhQ cn u t) :=
  ⟨fun hc => hc.resolve_left (by omega), fun hc => Or.inr hc⟩
/-- PLACE of a STATE in the table -/
def PL (l h : Nat) : Nat := (plF (l * 17 + h)).toNat
def plQ (h : Q4) : Nat := h.1 + PL 1 h.2.1 + PL 2 h.2.2.1 + PL 3 h.2.2.2
theorem PL_mono : ∀ l, l < 4 → ∀ a, a < 16 → PL l a < PL l (a + 1) := by decide +kernel
theorem PL_0 : ∀ a, a < 17 → PL 0 a = a := by decide +kernel
theorem PL_plF : ∀ l, l < 4 → ∀ a, a < 17 → plF (l * 17 + a) = (PL l a : Int) := by decide +kernel
theorem PL_top : PL 1 16 = 136 ∧ PL 2 16 = 816 ∧ PL 3 16 = 3876 := by decide +kernel
theorem PL_gap3 : ∀ a, a < 16 → PL 3 a + 968 < PL 3 (a + 1) + PL 2 (a + 1) + PL 1 (a + 1) + (a + 1) := by decide +kernel
theorem PL_gap2 : ∀ a, a < 16 → PL 2 a + 152 < PL 2 (a + 1) + PL 1 (a + 1) + (a + 1) := by decide +kernel
theorem PL_gap1 : ∀ a, a < 16 → PL 1 a + 16 < PL 1 (a + 1) + (a + 1) := by decide +kernel
theorem PL_le {l a b : Nat} (hl : l < 4) (h : a ≤ b) (hb : b ≤ 16) : PL l a ≤ PL l b := by
  induction h with
  | refl => exact Nat.le_refl _
  | @step m _ ih => exact Nat.le_trans (ih (by omega)) (Nat.le_of_lt (PL_mono l hl m (by omega)))
theorem plQ_lt {h : Q4} (hd : Dec h) (h0 : h.1 ≤ 16) : plQ h < 4845 := by
  obtain ⟨d1, d2, d3⟩ := hd
  have e := PL_top
  have a1 := PL_le (l := 1) (by decide) (show h.2.1 ≤ 16 by omega) (Nat.le_refl _)
  have a2 := PL_le (l := 2) (by decide) (show h.2.2.1 ≤ 16 by omega) (Nat.le_refl _)
  have a3 := PL_le (l := 3) (by decide) (show h.2.2.2 ≤ 16 by omega) (Nat.le_refl _)
  unfold plQ
  omega
theorem plQ_lt3 {g h : Q4} (hg : Dec g) (hh : Dec h) (g0 : g.1 ≤ 16) (h0 : h.1 ≤ 16) (hl : g.2.2.2 < h.2.2.2) : plQ g < plQ h := by
  obtain ⟨d1, d2, d3⟩ := hg
  obtain ⟨f1, f2, f3⟩ := hh
  have e := PL_top
  have a1 := PL_le (l := 1) (by decide) (show g.2.1 ≤ 16 by omega) (Nat.le_refl _)
  have a2 := PL_le (l := 2) (by decide) (show g.2.2.1 ≤ 16 by omega) (Nat.le_refl _)
  have b1 := PL_le (l := 1) (by decide) (show g.2.2.2 + 1 ≤ h.2.1 by omega) (by omega)
  have b2 := PL_le (l := 2) (by decide) (show g.2.2.2 + 1 ≤ h.2.2.1 by omega) (by omega)
  have b3 := PL_le (l := 3) (by decide) (show g.2.2.2 + 1 ≤ h.2.2.2 by omega) (by omega)
  have c := PL_gap3 g.2.2.2 (by omega)
  unfold plQ
  omega
theorem plQ_lt2 {g h : Q4} (hg : Dec g) (hh : Dec h) (g0 : g.1 ≤ 16) (h0 : h.1 ≤ 16) (e3 : g.2.2.2 = h.2.2.2) (hl : g.2.2.1 < h.2.2.1) : plQ g < plQ h := by
  obtain ⟨d1, d2, d3⟩ := hg
  obtain ⟨f1, f2, f3⟩ := hh
  have e := PL_top
  have a1 := PL_le (l := 1) (by decide) (show g.2.1 ≤ 16 by omega) (Nat.le_refl _)
  have b1 := PL_le (l := 1) (by decide) (show g.2.2.1 + 1 ≤ h.2.1 by omega) (by omega)
  have b2 := PL_le (l := 2) (by decide) (show g.2.2.1 + 1 ≤ h.2.2.1 by omega) (by omega)
  have c := PL_gap2 g.2.2.1 (by omega)
  unfold plQ
  rw [e3]
  omega
theorem plQ_lt1 {g h : Q4} (hg : Dec g) (hh : Dec h) (g0 : g.1 ≤ 16) (h0 : h.1 ≤ 16) (e3 : g.2.2.2 = h.2.2.2) (e2 : g.2.2.1 = h.2.2.1) (hl : g.2.1 < h.2.1) : plQ g < plQ h := by
  obtain ⟨d1, d2, d3⟩ := hg
  obtain ⟨f1, f2, f3⟩ := hh
  have b1 := PL_le (l := 1) (by decide) (show g.2.1 + 1 ≤ h.2.1 by omega) (by omega)
  have c := PL_gap1 g.2.1 (by omega)
  unfold plQ
  rw [e3, e2]
  omega
theorem plQ_inj {g h : Q4} (hg : Dec g) (hh : Dec h) (g0 : g.1 ≤ 16) (h0 : h.1 ≤ 16) (e : plQ g = plQ h) : g = h := by
  have e3 : g.2.2.2 = h.2.2.2 := by
    rcases Nat.lt_trichotomy g.2.2.2 h.2.2.2 with q | q | q
    · have := plQ_lt3 hg hh g0 h0 q; omega
    · exact q
    · have := plQ_lt3 hh hg h0 g0 q; omega
  have e2 : g.2.2.1 = h.2.2.1 := by
    rcases Nat.lt_trichotomy g.2.2.1 h.2.2.1 with q | q | q
    · have := plQ_lt2 hg hh g0 h0 e3 q; omega
    · exact q
    · have := plQ_lt2 hh hg h0 g0 e3.symm q; omega
  have e1 : g.2.1 = h.2.1 := by
    rcases Nat.lt_trichotomy g.2.1 h.2.1 with q | q | q
    · have := plQ_lt1 hg hh g0 h0 e3 e2 q; omega
    · exact q
    · have := plQ_lt1 hh hg h0 g0 e3.symm e2.symm q; omega
  have e0 : g.1 = h.1 := by
    unfold plQ at e
    rw [e3, e2, e1] at e
    omega
  exact Prod.ext e0 (Prod.ext e1 (Prod.ext e2 e3))
end
section
abbrev oAny (ta : Nat) (yp np g : Int) : va_E := .inr (0, [.ref ta, .int (iZ yp), .int (iZ np), .ref (ta + 2), .ref (ta + 3), .int (iZ g)])
abbrev oLeast (ta : Nat) (yp np g ls : Int) : va_E := .inr (5, [.ref ta, .int (iZ yp), .int (iZ np), .ref (ta + 5), .ref (ta + 6), .int (iZ g), .ref (ta + 7), .int (iZ ls)])
abbrev oHT (ta : Nat) : va_E := .inr (4, [.ref ta, .ref (ta + 9), .ref (ta + 1), .ref (ta + 4)])
/-- whether so many of LEFT 0 can be chosen that both places are within g -/
def lastP (F : Nat → Int) (Y N s : Nat) (g : Int) : Prop := ∃ x, x ≤ s ∧ F (Y + x) ≤ g ∧ F (N - x) ≤ g
theorem chain_up {f : Nat → Int} {s : Nat} (h : ∀ x, x < s → f x ≤ f (x + 1)) {a b : Nat} (hab : a ≤ b) (hb : b ≤ s) : f a ≤ f b := by
  induction hab with
  | refl => exact Int.le_refl _
  | @step m _ ih => exact Int.le_trans (ih (by omega)) (h m (by omega))
theorem chain_dn {f : Nat → Int} {s : Nat} (h : ∀ x, x < s → f (x + 1) ≤ f x) {a b : Nat} (hab : a ≤ b) (hb : b ≤ s) : f b ≤ f a := by
  induction hab with
  | refl => exact Int.le_refl _
  | @step m _ ih => exact Int.le_trans (h m (by omega)) (ih (by omega))
/-- a truth as a number, by classical choice -/
noncomputable def bP (p : Prop) : Int := @ite Int p (Classical.propDecidable p) 1 0
theorem bP_t {p : Prop} (h : p) : bP p = 1 := by unfold bP; exact if_pos h
theorem bP_f {p : Prop} (h : ¬ p) : bP p = 0 := by unfold bP; exact if_neg h
theorem bP_01 (p : Prop) : bP p = 0 ∨ bP p = 1 := by
  by_cases h : p
  · exact Or.inr (bP_t h)
  · exact Or.inl (bP_f h)
theorem bP_R (p : Prop) : zR (bP p) := by rcases bP_01 p with e | e <;> rw [e] <;> exact ⟨by decide, by decide⟩
theorem bP_z (p : Prop) : bP p = 0 ↔ ¬ p := ⟨fun h hp => by rw [bP_t hp] at h; omega, bP_f⟩
theorem bP_congr {p q : Prop} (h : p ↔ q) : bP p = bP q := by rw [propext h]
set_option maxRecDepth 100000 in
set_option maxHeartbeats 4000000 in
theorem c_placeOf {k : Cx} {L0 : Launch} {σ : St} {a b : Int} {l c : Nat} (ha : a = (l : Int)) (hb : b = (c : Int)) (hl : l < 4) (hc : c < 17) : CtrV k L0 mX11_placeOf 1 0 0 [.int (iZ a), .int (iZ b)] σ (fun v σ' => v = .int (iZ ((PL l c : Int))) ∧ σ' = σ) := by
  refine Ctr.of (by decide +kernel) rfl (Nat.le_of_ble_eq_true rfl) ?_
  intro κ hl0 S
  subst hl0
  subst ha
  subst hb
  refine r_iload_n S dX11_placeOf_0 rfl ?_
  refine r_bipush S dX11_placeOf_1 (by decide) ?_
  refine r_imul S dX11_placeOf_3 ?_
  refine r_iload_n S dX11_placeOf_4 rfl ?_
  refine r_iadd S dX11_placeOf_5 ?_
  refine r_istore_n S dX11_placeOf_6 rfl (by decide) (lv' := [_, _, _]) rfl ?_
  refine r_iload_n S dX11_placeOf_7 rfl ?_
  refine r_if_lt S dX11_placeOf_8 (tgt := 27) (by decide) ⟨by omega, by omega⟩ (fun h_8 => ?_) (fun h_8 => ?_)
  · omega
  · refine r_iload_n S dX11_placeOf_11 rfl ?_
    refine r_gets S wd_312 dX11_placeOf_12 ?_
    refine r_plen S dX11_placeOf_15 ?_
    refine r_icmp_ge S dX11_placeOf_16 (tgt := 27) (by decide) ⟨by omega, by omega⟩ ⟨by omega, by omega⟩ (fun h_16 => ?_) (fun h_16 => ?_)
    · omega
    · refine r_gets S wd_312 dX11_placeOf_19 ?_
      refine r_iload_n S dX11_placeOf_22 rfl ?_
      refine r_paldN S (l * 17 + c) dX11_placeOf_23 (by omega) (by omega) ?_
      rw [PL_plF l hl c hc]
      refine r_goto S dX11_placeOf_24 (tgt := 28) (by decide) ?_
      exact r_iret S dX11_placeOf_28 (by omega) (by omega) (⟨_, rfl, rfl, rfl⟩)

set_option maxRecDepth 100000 in
set_option maxHeartbeats 4000000 in
theorem c_leftAt {k : Cx} {L0 : Launch} {σ : St} {af n : Nat} {b : Int} {i : Nat} {f : Nat → Int} (hA : σ.2 af = some (eI k n f)) (hb : b = (i : Int)) (hi : i < n) (hn : n ≤ 2147483647) : CtrV k L0 mX11_leftAt 1 0 0 [.ref af, .int (iZ b)] σ (fun v σ' => v = .int (iZ (f i)) ∧ σ' = σ) := by
  refine Ctr.of (by decide +kernel) rfl (Nat.le_of_ble_eq_true rfl) ?_
  intro κ hl0 S
  subst hl0
  subst hb
  refine r_iload_n S dX11_leftAt_0 rfl ?_
  refine r_if_lt S dX11_leftAt_1 (tgt := 16) (by decide) ⟨by omega, by omega⟩ (fun h_1 => ?_) (fun h_1 => ?_)
  · omega
  · refine r_iload_n S dX11_leftAt_4 rfl ?_
    refine r_aload_n S dX11_leftAt_5 rfl ?_
    refine r_alenI S dX11_leftAt_6 (by repeat (first | assumption | exact sUp_same | exact sNew_same | refine sUp_ne (by first | assumption | omega) ?_)) ?_
    refine r_icmp_ge S dX11_leftAt_7 (tgt := 16) (by decide) ⟨by omega, by omega⟩ ⟨by omega, by omega⟩ (fun h_7 => ?_) (fun h_7 => ?_)
    · omega
    · refine r_aload_n S dX11_leftAt_10 rfl ?_
      refine r_iload_n S dX11_leftAt_11 rfl ?_
      refine r_ialdN S (i) dX11_leftAt_12 (by repeat (first | assumption | exact sUp_same | exact sNew_same | refine sUp_ne (by first | assumption | omega) ?_)) (by omega) (by omega) (hn) ?_
      refine r_goto S dX11_leftAt_13 (tgt := 17) (by decide) ?_
      exact r_iret S dX11_leftAt_17 (by omega) (by omega) (⟨_, rfl, rfl, rfl⟩)

set_option maxRecDepth 100000 in
set_option maxHeartbeats 4000000 in
theorem c_isBeyond0 {k : Cx} {L0 : Launch} {σ : St} {ta : Nat} {F : Nat → Int} (hF : σ.2 ta = some (eI k 4845 F)) (hFr : ∀ j, 0 ≤ F j ∧ F j ≤ 13) {yp np g : Int} (hO : σ.2 (ta + 1) = some (oAny ta yp np g)) (hg : -1 ≤ g ∧ g ≤ 13) {z : Int} {p : Nat} (hz : z = (p : Int)) (hp : p < 4845) : CtrV k L0 mX5_isBeyond 1 0 0 [.ref (ta + 1), .int (iZ z)] σ (fun v σ' => v = .int (iZ (b01 (g < F p))) ∧ σ' = σ) := by
  refine Ctr.of (by decide +kernel) rfl (Nat.le_of_ble_eq_true rfl) ?_
  intro κ hl0 S
  subst hl0
  subst hz
  have hFp := hFr p
  refine r_iload_n S dX5_isBeyond_0 rfl ?_
  refine r_if_lt S dX5_isBeyond_1 (tgt := 26) (by decide) ⟨by omega, by omega⟩ (fun h_1 => ?_) (fun h_1 => ?_)
  · omega
  · refine r_iload_n S dX5_isBeyond_4 rfl ?_
    refine r_aload_n S dX5_isBeyond_5 rfl ?_
    refine r_getf S g_RX5_22_0 dX5_isBeyond_6 (by repeat (first | assumption | exact sUp_same | exact sNew_same | refine sUp_ne (by first | assumption | omega) ?_)) rfl ?_
    refine r_alenI S dX5_isBeyond_9 (by repeat (first | assumption | exact sUp_same | exact sNew_same | refine sUp_ne (by first | assumption | omega) ?_)) ?_
    refine r_icmp_ge S dX5_isBeyond_10 (tgt := 26) (by decide) ⟨by omega, by omega⟩ ⟨by omega, by omega⟩ (fun h_10 => ?_) (fun h_10 => ?_)
    · omega
    · refine r_aload_n S dX5_isBeyond_13 rfl ?_
      refine r_getf S g_RX5_22_0 dX5_isBeyond_14 (by repeat (first | assumption | exact sUp_same | exact sNew_same | refine sUp_ne (by first | assumption | omega) ?_)) rfl ?_
      refine r_iload_n S dX5_isBeyond_17 rfl ?_
      refine r_ialdN S (p) dX5_isBeyond_18 (by repeat (first | assumption | exact sUp_same | exact sNew_same | refine sUp_ne (by first | assumption | omega) ?_)) (by omega) (by omega) (by decide) ?_
      refine r_aload_n S dX5_isBeyond_19 rfl ?_
      refine r_getf S g_RX5_18_0 dX5_isBeyond_20 (by repeat (first | assumption | exact sUp_same | exact sNew_same | refine sUp_ne (by first | assumption | omega) ?_)) rfl ?_
      refine r_icmp_le S dX5_isBeyond_23 (tgt := 30) (by decide) ⟨by omega, by omega⟩ ⟨by omega, by omega⟩ (fun h_23 => ?_) (fun h_23 => ?_)
      · refine r_iconst S dX5_isBeyond_30 ?_
        exact r_zret S dX5_isBeyond_31 (by omega) (by omega) (by first | exact Or.inl rfl | exact Or.inr rfl | omega) (⟨_, rfl, by first | rw [b01_t (by omega)] | rw [b01_f (by omega)], rfl⟩)
      · refine r_iconst S dX5_isBeyond_26 ?_
        refine r_goto S dX5_isBeyond_27 (tgt := 31) (by decide) ?_
        exact r_zret S dX5_isBeyond_31 (by omega) (by omega) (by first | exact Or.inl rfl | exact Or.inr rfl | omega) (⟨_, rfl, by first | rw [b01_t (by omega)] | rw [b01_f (by omega)], rfl⟩)

set_option maxRecDepth 100000 in
set_option maxHeartbeats 4000000 in
theorem c_isBeyond5 {k : Cx} {L0 : Launch} {σ : St} {ta : Nat} {F : Nat → Int} (hF : σ.2 ta = some (eI k 4845 F)) (hFr : ∀ j, 0 ≤ F j ∧ F j ≤ 13) {yp np g ls : Int} (hO : σ.2 (ta + 4) = some (oLeast ta yp np g ls)) (hg : -1 ≤ g ∧ g ≤ 13) {z : Int} {p : Nat} (hz : z = (p : Int)) (hp : p < 4845) : CtrV k L0 mX5_isBeyond 1 0 0 [.ref (ta + 4), .int (iZ z)] σ (fun v σ' => v = .int (iZ (b01 (g < F p))) ∧ σ' = σ) := by
  refine Ctr.of (by decide +kernel) rfl (Nat.le_of_ble_eq_true rfl) ?_
  intro κ hl0 S
  subst hl0
  subst hz
  have hFp := hFr p
  refine r_iload_n S dX5_isBeyond_0 rfl ?_
  refine r_if_lt S dX5_isBeyond_1 (tgt := 26) (by decide) ⟨by omega, by omega⟩ (fun h_1 => ?_) (fun h_1 => ?_)
  · omega
  · refine r_iload_n S dX5_isBeyond_4 rfl ?_
    refine r_aload_n S dX5_isBeyond_5 rfl ?_
    refine r_getf S g_RX5_22_5 dX5_isBeyond_6 (by repeat (first | assumption | exact sUp_same | exact sNew_same | refine sUp_ne (by first | assumption | omega) ?_)) rfl ?_
    refine r_alenI S dX5_isBeyond_9 (by repeat (first | assumption | exact sUp_same | exact sNew_same | refine sUp_ne (by first | assumption | omega) ?_)) ?_
    refine r_icmp_ge S dX5_isBeyond_10 (tgt := 26) (by decide) ⟨by omega, by omega⟩ ⟨by omega, by omega⟩ (fun h_10 => ?_) (fun h_10 => ?_)
    · omega
    · refine r_aload_n S dX5_isBeyond_13 rfl ?_
      refine r_getf S g_RX5_22_5 dX5_isBeyond_14 (by repeat (first | assumption | exact sUp_same | exact sNew_same | refine sUp_ne (by first | assumption | omega) ?_)) rfl ?_
      refine r_iload_n S dX5_isBeyond_17 rfl ?_
      refine r_ialdN S (p) dX5_isBeyond_18 (by repeat (first | assumption | exact sUp_same | exact sNew_same | refine sUp_ne (by first | assumption | omega) ?_)) (by omega) (by omega) (by decide) ?_
      refine r_aload_n S dX5_isBeyond_19 rfl ?_
      refine r_getf S g_RX5_18_5 dX5_isBeyond_20 (by repeat (first | assumption | exact sUp_same | exact sNew_same | refine sUp_ne (by first | assumption | omega) ?_)) rfl ?_
      refine r_icmp_le S dX5_isBeyond_23 (tgt := 30) (by decide) ⟨by omega, by omega⟩ ⟨by omega, by omega⟩ (fun h_23 => ?_) (fun h_23 => ?_)
      · refine r_iconst S dX5_isBeyond_30 ?_
        exact r_zret S dX5_isBeyond_31 (by omega) (by omega) (by first | exact Or.inl rfl | exact Or.inr rfl | omega) (⟨_, rfl, by first | rw [b01_t (by omega)] | rw [b01_f (by omega)], rfl⟩)
      · refine r_iconst S dX5_isBeyond_26 ?_
        refine r_goto S dX5_isBeyond_27 (tgt := 31) (by decide) ?_
        exact r_zret S dX5_isBeyond_31 (by omega) (by omega) (by first | exact Or.inl rfl | exact Or.inr rfl | omega) (⟨_, rfl, by first | rw [b01_t (by omega)] | rw [b01_f (by omega)], rfl⟩)

set_option maxRecDepth 100000 in
set_option maxHeartbeats 4000000 in
theorem c_outward {k : Cx} {L0 : Launch} {σ : St} {a s : Nat} (ha : a ≤ s) (hs : s ≤ 16) : CtrV k L0 mX5_outward 1 0 0 [.int (iZ (a : Int)), .int (iZ (s : Int))] σ (fun v σ' => v = .int (iZ (((if a % 2 = 1 then s / 2 + (a + 1) / 2 else s / 2 - a / 2 : Nat) : Int))) ∧ σ' = σ) := by
  refine Ctr.of (by decide +kernel) rfl (Nat.le_of_ble_eq_true rfl) ?_
  intro κ hl0 S
  subst hl0
  refine r_iload_n S dX5_outward_0 rfl ?_
  refine r_iconst S dX5_outward_1 ?_
  refine r_idiv S dX5_outward_2 (neZ (d := 2) (by decide) (by decide)) (divZ (d := 2) (by omega) (by decide) (by decide)) ?_
  refine r_istore_n S dX5_outward_3 rfl (by decide) (lv' := [_, _, _]) rfl ?_
  refine r_iload_n S dX5_outward_4 rfl ?_
  refine r_iconst S dX5_outward_5 ?_
  refine r_iand S dX5_outward_6 (and1Z _) ?_
  refine r_iconst S dX5_outward_7 ?_
  refine r_icmp_ne S dX5_outward_8 (tgt := 21) (by decide) ⟨by omega, by omega⟩ ⟨by omega, by omega⟩ (fun h_8 => ?_) (fun h_8 => ?_)
  · refine r_iload_n S dX5_outward_21 rfl ?_
    refine r_iload_n S dX5_outward_22 rfl ?_
    refine r_iconst S dX5_outward_23 ?_
    refine r_idiv S dX5_outward_24 (neZ (d := 2) (by decide) (by decide)) (divZ (d := 2) (by omega) (by decide) (by decide)) ?_
    refine r_isub S dX5_outward_25 ?_
    refine r_num (z' := ((if a % 2 = 1 then s / 2 + (a + 1) / 2 else s / 2 - a / 2 : Nat) : Int)) (by rw [if_neg (by omega)]; omega) ?_
    exact r_iret S dX5_outward_26 (by omega) (by omega) (⟨_, rfl, rfl, rfl⟩)
  · refine r_iload_n S dX5_outward_11 rfl ?_
    refine r_iload_n S dX5_outward_12 rfl ?_
    refine r_iconst S dX5_outward_13 ?_
    refine r_iadd S dX5_outward_14 ?_
    refine r_iconst S dX5_outward_15 ?_
    refine r_idiv S dX5_outward_16 (neZ (d := 2) (by decide) (by decide)) (divZ (a := a + 1) (d := 2) (by omega) (by decide) (by decide)) ?_
    refine r_iadd S dX5_outward_17 ?_
    refine r_goto S dX5_outward_18 (tgt := 26) (by decide) ?_
    refine r_num (z' := ((if a % 2 = 1 then s / 2 + (a + 1) / 2 else s / 2 - a / 2 : Nat) : Int)) (by rw [if_pos (by omega)]; omega) ?_
    exact r_iret S dX5_outward_26 (by omega) (by omega) (⟨_, rfl, rfl, rfl⟩)

section
variable {F : Nat → Int} {Y N s : Nat} {g : Int}
theorem lastP_up (mN : ∀ x, x < s → F (N - (x + 1)) ≤ F (N - x)) {x y : Nat} (hx : x ≤ y) (hy : y ≤ s) (h : F (N - x) ≤ g) : F (N - y) ≤ g := Int.le_trans (chain_dn (f := fun x => F (N - x)) mN hx hy) h
theorem lastP_dn (mY : ∀ x, x < s → F (Y + x) ≤ F (Y + x + 1)) {x y : Nat} (hx : x ≤ y) (hy : y ≤ s) (h : F (Y + y) ≤ g) : F (Y + x) ≤ g := Int.le_trans (chain_up (f := fun x => F (Y + x)) mY hx hy) h
end

set_option maxRecDepth 100000 in
set_option maxHeartbeats 4000000 in
theorem l_last2 {κ : Kx} {k : Cx} {σ : St} {ta : Nat} {F : Nat → Int} (hF : σ.2 ta = some (eI k 4845 F)) (hFr : ∀ j, 0 ≤ F j ∧ F j ≤ 13) {yp np g : Int} (hO : σ.2 (ta + 1) = some (oAny ta yp np g)) (hg : -1 ≤ g ∧ g ≤ 13) {Y N s : Nat} (hs : s ≤ 16) (hY : Y + s < 4845) (hN : N < 4845) (hNs : s ≤ N) (mY : ∀ x, x < s → F (Y + x) ≤ F (Y + x + 1)) (mN : ∀ x, x < s → F (N - (x + 1)) ≤ F (N - x)) (S : Ok κ k cX0_last 5 RX0 (some .boolean) "last" 2 0 0) : ∀ (m i : Nat), i + m = s → (lastP F Y N s g → F (Y + i) ≤ g) → V κ k 5 0 0 (QR κ k (fun r σ' => ∃ v, r = some v ∧ (v = .int (iZ (bP (lastP F Y N s g))) ∧ σ' = σ)) 0 0) 29 [some (.ref (ta + 1)), some (.int (iZ (Y : Int))), some (.int (iZ (N : Int))), some (.int (iZ (s : Int))), some (.int (iZ (i : Int)))] [] σ := by
  have fin : ∀ i, i ≤ s → (lastP F Y N s g → F (Y + i) ≤ g ∧ F (N - i) ≤ g) → V κ k 5 0 0 (QR κ k (fun r σ' => ∃ v, r = some v ∧ (v = .int (iZ (bP (lastP F Y N s g))) ∧ σ' = σ)) 0 0) 63 [some (.ref (ta + 1)), some (.int (iZ (Y : Int))), some (.int (iZ (N : Int))), some (.int (iZ (s : Int))), some (.int (iZ (i : Int)))] [] σ := by
    intro i hi hsol
    refine r_aload_n S dX0_last_63 rfl ?_
    refine r_iload_n S dX0_last_64 rfl ?_
    refine r_iload S dX0_last_65 rfl ?_
    refine r_iadd S dX0_last_67 ?_
    refine r_callU S (c_isBeyond0 hF hFr hO hg (p := Y + i) (by omega) (by omega)) k_mX5_isBeyond c_RX0_13_0 dX0_last_68 (by decide) ⟨by omega, by omega⟩ (by repeat (first | assumption | exact sUp_same | exact sNew_same | refine sUp_ne (by first | assumption | omega) ?_)) rfl rfl (Nat.le_of_ble_eq_true rfl) (fun r σ' hp => ?_)
    obtain ⟨_, rfl, rfl, rfl⟩ := hp
    try simp only [Option.toList_some, Option.toList_none, List.cons_append, List.nil_append]
    refine r_if_ne S dX0_last_71 (tgt := 89) (by decide) (b01_R _) (fun h_71 => ?_) (fun h_71 => ?_)
    · simp only [b01_z, Decidable.not_not] at h_71
      refine r_iconst S dX0_last_89 ?_
      exact r_zret S dX0_last_90 (by omega) (by omega) (by first | exact Or.inl rfl | exact Or.inr rfl | omega) (⟨_, rfl, by rw [bP_f (fun hz => by have h8 := hsol hz; omega)], rfl⟩)
    · simp only [b01_z, Decidable.not_not] at h_71
      refine r_aload_n S dX0_last_74 rfl ?_
      refine r_iload_n S dX0_last_75 rfl ?_
      refine r_iload S dX0_last_76 rfl ?_
      refine r_isub S dX0_last_78 ?_
      refine r_callU S (c_isBeyond0 hF hFr hO hg (p := N - i) (by omega) (by omega)) k_mX5_isBeyond c_RX0_13_0 dX0_last_79 (by decide) ⟨by omega, by omega⟩ (by repeat (first | assumption | exact sUp_same | exact sNew_same | refine sUp_ne (by first | assumption | omega) ?_)) rfl rfl (Nat.le_of_ble_eq_true rfl) (fun r σ' hp => ?_)
      obtain ⟨_, rfl, rfl, rfl⟩ := hp
      try simp only [Option.toList_some, Option.toList_none, List.cons_append, List.nil_append]
      refine r_if_ne S dX0_last_82 (tgt := 89) (by decide) (b01_R _) (fun h_82 => ?_) (fun h_82 => ?_)
      · simp only [b01_z, Decidable.not_not] at h_82
        refine r_iconst S dX0_last_89 ?_
        exact r_zret S dX0_last_90 (by omega) (by omega) (by first | exact Or.inl rfl | exact Or.inr rfl | omega) (⟨_, rfl, by rw [bP_f (fun hz => by have h8 := hsol hz; omega)], rfl⟩)
      · simp only [b01_z, Decidable.not_not] at h_82
        refine r_iconst S dX0_last_85 ?_
        refine r_goto S dX0_last_86 (tgt := 90) (by decide) ?_
        exact r_zret S dX0_last_90 (by omega) (by omega) (by first | exact Or.inl rfl | exact Or.inr rfl | omega) (⟨_, rfl, by rw [bP_t ⟨i, hi, by omega, by omega⟩], rfl⟩)
  intro m
  induction m with
  | zero =>
    intro i hi hsol
    refine r_iload S dX0_last_29 rfl ?_
    refine r_iload_n S dX0_last_31 rfl ?_
    refine r_icmp_ge S dX0_last_32 (tgt := 63) (by decide) ⟨by omega, by omega⟩ ⟨by omega, by omega⟩ (fun h_32 => ?_) (fun h_32 => ?_)
    · refine fin i (by omega) (fun hz => ⟨hsol hz, ?_⟩)
      obtain ⟨x, x1, x2, x3⟩ := hz
      exact lastP_up mN (y := i) (by omega) (by omega) x3
    · omega
  | succ m ih =>
    intro i hi hsol
    refine r_iload S dX0_last_29 rfl ?_
    refine r_iload_n S dX0_last_31 rfl ?_
    refine r_icmp_ge S dX0_last_32 (tgt := 63) (by decide) ⟨by omega, by omega⟩ ⟨by omega, by omega⟩ (fun h_32 => ?_) (fun h_32 => ?_)
    · omega
    · refine r_aload_n S dX0_last_35 rfl ?_
      refine r_iload_n S dX0_last_36 rfl ?_
      refine r_iload S dX0_last_37 rfl ?_
      refine r_isub S dX0_last_39 ?_
      refine r_callU S (c_isBeyond0 hF hFr hO hg (p := N - i) (by omega) (by omega)) k_mX5_isBeyond c_RX0_13_0 dX0_last_40 (by decide) ⟨by omega, by omega⟩ (by repeat (first | assumption | exact sUp_same | exact sNew_same | refine sUp_ne (by first | assumption | omega) ?_)) rfl rfl (Nat.le_of_ble_eq_true rfl) (fun r σ' hp => ?_)
      obtain ⟨_, rfl, rfl, rfl⟩ := hp
      try simp only [Option.toList_some, Option.toList_none, List.cons_append, List.nil_append]
      refine r_if_eq S dX0_last_43 (tgt := 63) (by decide) (b01_R _) (fun h_43 => ?_) (fun h_43 => ?_)
      · simp only [b01_z, Decidable.not_not] at h_43
        exact fin i (by omega) (fun hz => ⟨hsol hz, by omega⟩)
      · simp only [b01_z, Decidable.not_not] at h_43
        refine r_aload_n S dX0_last_46 rfl ?_
        refine r_iload_n S dX0_last_47 rfl ?_
        refine r_iload S dX0_last_48 rfl ?_
        refine r_iadd S dX0_last_50 ?_
        refine r_callU S (c_isBeyond0 hF hFr hO hg (p := Y + i) (by omega) (by omega)) k_mX5_isBeyond c_RX0_13_0 dX0_last_51 (by decide) ⟨by omega, by omega⟩ (by repeat (first | assumption | exact sUp_same | exact sNew_same | refine sUp_ne (by first | assumption | omega) ?_)) rfl rfl (Nat.le_of_ble_eq_true rfl) (fun r σ' hp => ?_)
        obtain ⟨_, rfl, rfl, rfl⟩ := hp
        try simp only [Option.toList_some, Option.toList_none, List.cons_append, List.nil_append]
        refine r_if_ne S dX0_last_54 (tgt := 63) (by decide) (b01_R _) (fun h_54 => ?_) (fun h_54 => ?_)
        · simp only [b01_z, Decidable.not_not] at h_54
          exact fin i (by omega) (fun hz => absurd (hsol hz) (by omega))
        · simp only [b01_z, Decidable.not_not] at h_54
          refine r_iinc S dX0_last_57 rfl rfl (by decide) (lv' := [_, _, _, _, _]) rfl ?_
          refine r_goto S dX0_last_60 (tgt := 29) (by decide) ?_
          refine ih (i + 1) (by omega) (fun hz => ?_)
          obtain ⟨x, x1, x2, x3⟩ := hz
          have hxi : i + 1 ≤ x := by
            rcases Nat.lt_or_ge i x with e | e
            · exact e
            · have h8 := lastP_up mN (g := g) e (by omega) x3
              omega
          exact lastP_dn mY hxi x1 x2

set_option maxRecDepth 100000 in
set_option maxHeartbeats 4000000 in
theorem l_last1 {κ : Kx} {k : Cx} {σ : St} {ta : Nat} {F : Nat → Int} (hF : σ.2 ta = some (eI k 4845 F)) (hFr : ∀ j, 0 ≤ F j ∧ F j ≤ 13) {yp np g : Int} (hO : σ.2 (ta + 1) = some (oAny ta yp np g)) (hg : -1 ≤ g ∧ g ≤ 13) {Y N s : Nat} (hs : s ≤ 16) (hY : Y + s < 4845) (hN : N < 4845) (hNs : s ≤ N) (mY : ∀ x, x < s → F (Y + x) ≤ F (Y + x + 1)) (mN : ∀ x, x < s → F (N - (x + 1)) ≤ F (N - x)) (S : Ok κ k cX0_last 5 RX0 (some .boolean) "last" 2 0 0) : ∀ (i : Nat), i ≤ s → V κ k 5 0 0 (QR κ k (fun r σ' => ∃ v, r = some v ∧ (v = .int (iZ (bP (lastP F Y N s g))) ∧ σ' = σ)) 0 0) 7 [some (.ref (ta + 1)), some (.int (iZ (Y : Int))), some (.int (iZ (N : Int))), some (.int (iZ (s : Int))), some (.int (iZ (i : Int)))] [] σ := by
  intro i
  induction i with
  | zero =>
    intro hi
    refine r_iload S dX0_last_7 rfl ?_
    refine r_if_le S dX0_last_9 (tgt := 29) (by decide) ⟨by omega, by omega⟩ (fun h_9 => ?_) (fun h_9 => ?_)
    · refine l_last2 hF hFr hO hg hs hY hN hNs mY mN S s 0 (by omega) (fun hz => ?_)
      obtain ⟨x, x1, x2, x3⟩ := hz
      exact lastP_dn mY (by omega) x1 x2
    · omega
  | succ i ih =>
    intro hi
    refine r_iload S dX0_last_7 rfl ?_
    refine r_if_le S dX0_last_9 (tgt := 29) (by decide) ⟨by omega, by omega⟩ (fun h_9 => ?_) (fun h_9 => ?_)
    · omega
    · refine r_aload_n S dX0_last_12 rfl ?_
      refine r_iload_n S dX0_last_13 rfl ?_
      refine r_iload S dX0_last_14 rfl ?_
      refine r_iadd S dX0_last_16 ?_
      refine r_callU S (c_isBeyond0 hF hFr hO hg (p := Y + (i + 1)) (by omega) (by omega)) k_mX5_isBeyond c_RX0_13_0 dX0_last_17 (by decide) ⟨by omega, by omega⟩ (by repeat (first | assumption | exact sUp_same | exact sNew_same | refine sUp_ne (by first | assumption | omega) ?_)) rfl rfl (Nat.le_of_ble_eq_true rfl) (fun r σ' hp => ?_)
      obtain ⟨_, rfl, rfl, rfl⟩ := hp
      try simp only [Option.toList_some, Option.toList_none, List.cons_append, List.nil_append]
      refine r_if_eq S dX0_last_20 (tgt := 29) (by decide) (b01_R _) (fun h_20 => ?_) (fun h_20 => ?_)
      · simp only [b01_z, Decidable.not_not] at h_20
        exact l_last2 hF hFr hO hg hs hY hN hNs mY mN S (s - (i + 1)) (i + 1) (by omega) (fun _ => by omega)
      · simp only [b01_z, Decidable.not_not] at h_20
        refine r_iinc S dX0_last_23 rfl rfl (by decide) (lv' := [_, _, _, _, _]) rfl ?_
        refine r_goto S dX0_last_26 (tgt := 7) (by decide) ?_
        refine V.at rfl ?_
        have h9 := ih (by omega)
        rw [show ((i + 1 : Nat) : Int) + -1 = (i : Int) by omega]
        exact h9

set_option maxRecDepth 100000 in
set_option maxHeartbeats 4000000 in
theorem c_last0 {k : Cx} {L0 : Launch} {σ : St} {ta : Nat} {F : Nat → Int} (hF : σ.2 ta = some (eI k 4845 F)) (hFr : ∀ j, 0 ≤ F j ∧ F j ≤ 13) {yp np g : Int} (hO : σ.2 (ta + 1) = some (oAny ta yp np g)) (hg : -1 ≤ g ∧ g ≤ 13) {Y N s : Nat} (hs : s ≤ 16) (hY : Y + s < 4845) (hN : N < 4845) (hNs : s ≤ N) (mY : ∀ x, x < s → F (Y + x) ≤ F (Y + x + 1)) (mN : ∀ x, x < s → F (N - (x + 1)) ≤ F (N - x)) {y n z : Int} (hy : y = (Y : Int)) (hnn : n = (N : Int)) (hz : z = (s : Int)) : CtrV k L0 mX0_last 2 0 0 [.ref (ta + 1), .int (iZ y), .int (iZ n), .int (iZ z)] σ (fun v σ' => v = .int (iZ (bP (lastP F Y N s g))) ∧ σ' = σ) := by
  refine Ctr.of (by decide +kernel) rfl (Nat.le_of_ble_eq_true rfl) ?_
  intro κ hl0 S
  subst hl0
  subst hy
  subst hnn
  subst hz
  refine r_iload_n S dX0_last_0 rfl ?_
  refine r_iconst S dX0_last_1 ?_
  refine r_iadd S dX0_last_2 ?_
  refine r_iconst S dX0_last_3 ?_
  refine r_idiv S dX0_last_4 (neZ (d := 2) (by decide) (by decide)) (divZ (a := s + 1) (d := 2) (by omega) (by decide) (by decide)) ?_
  refine r_istore S dX0_last_5 rfl (by decide) (lv' := [_, _, _, _, _]) rfl ?_
  exact l_last1 hF hFr hO hg hs hY hN hNs mY mN S ((s + 1) / 2) (by omega)
end
