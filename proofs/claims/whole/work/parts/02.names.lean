def RX0 : String := "LiarsAnswers$AnyHeap"
def TX0 : u_T := fun k => match k with
  | 0 => ("LiarsAnswers$HeapWalk", "few", "[I", true)
  | 1 => ("LiarsAnswers$HeapWalk", "yesPrice", "I", true)
  | 2 => ("LiarsAnswers$HeapWalk", "noPrice", "I", true)
  | 3 => ("LiarsAnswers$HeapWalk", "have", "[I", true)
  | 4 => ("LiarsAnswers$HeapWalk", "taken", "[I", true)
  | _ => ("LiarsAnswers$HeapWalk", "goal", "I", false)
def tyX0 : Nat → FieldType := fun k => match k with
  | 0 => .array .int
  | 1 => .int
  | 2 => .int
  | 3 => .array .int
  | 4 => .array .int
  | _ => .int
abbrev wsX00 : List Cond := u_ws RX0 TX0 6
theorem nmX0 : ∀ a, a < 6 → ∀ b, b < 6 → a ≠ b → (TX0 a).2.1 ≠ (TX0 b).2.1 := by decide +kernel
theorem tyX0_ok : ∀ k, k < 6 → parseFieldDescriptor (TX0 k).2.2.1 = some (tyX0 k) := by decide +kernel
abbrev cX0_init : ByteArray := prog_2_method_1_code
def yX0_init : MethodName := ⟨RX0, "<init>", "([III)V"⟩
abbrev cX0_hold : ByteArray := prog_2_method_2_code
def yX0_hold : MethodName := ⟨RX0, "hold", "(IIII)V"⟩
abbrev cX0_last : ByteArray := prog_2_method_3_code
def yX0_last : MethodName := ⟨RX0, "last", "(III)Z"⟩
def RX1 : String := "LiarsAnswers$BothLiar"
def TX1 : u_T := fun k => match k with
  | _ => ("", "", "", false)
def tyX1 : Nat → FieldType := fun k => match k with
  | _ => .int
abbrev wsX10 : List Cond := u_ws RX1 TX1 0
theorem nmX1 : ∀ a, a < 0 → ∀ b, b < 0 → a ≠ b → (TX1 a).2.1 ≠ (TX1 b).2.1 := by decide +kernel
theorem tyX1_ok : ∀ k, k < 0 → parseFieldDescriptor (TX1 k).2.2.1 = some (tyX1 k) := by decide +kernel
abbrev cX1_init : ByteArray := prog_3_method_1_code
def yX1_init : MethodName := ⟨RX1, "<init>", "()V"⟩
abbrev cX1_price : ByteArray := prog_3_method_2_code
def yX1_price : MethodName := ⟨RX1, "price", "(ZZLLiarsAnswers$Tally;)I"⟩
def RX2 : String := "LiarsAnswers$Code"
def TX2 : u_T := fun k => match k with
  | 0 => ("LiarsAnswers$Code", "questions", "[I", true)
  | 1 => ("LiarsAnswers$Code", "words", "[I", true)
  | _ => ("LiarsAnswers$Code", "size", "I", false)
def tyX2 : Nat → FieldType := fun k => match k with
  | 0 => .array .int
  | 1 => .array .int
  | _ => .int
abbrev wsX20 : List Cond := u_ws RX2 TX2 3
theorem nmX2 : ∀ a, a < 3 → ∀ b, b < 3 → a ≠ b → (TX2 a).2.1 ≠ (TX2 b).2.1 := by decide +kernel
theorem tyX2_ok : ∀ k, k < 3 → parseFieldDescriptor (TX2 k).2.2.1 = some (tyX2 k) := by decide +kernel
abbrev cX2_init : ByteArray := prog_4_method_1_code
def yX2_init : MethodName := ⟨RX2, "<init>", "()V"⟩
abbrev cX2_add : ByteArray := prog_4_method_2_code
def yX2_add : MethodName := ⟨RX2, "add", "(I)Z"⟩
abbrev cX2_removeLatest : ByteArray := prog_4_method_3_code
def yX2_removeLatest : MethodName := ⟨RX2, "removeLatest", "()Z"⟩
abbrev cX2_question : ByteArray := prog_4_method_4_code
def yX2_question : MethodName := ⟨RX2, "question", "(I)I"⟩
abbrev cX2_isWord : ByteArray := prog_4_method_5_code
def yX2_isWord : MethodName := ⟨RX2, "isWord", "(I)Z"⟩
abbrev cX2_wordOf : ByteArray := prog_4_method_6_code
def yX2_wordOf : MethodName := ⟨RX2, "wordOf", "(I)I"⟩
abbrev cX2_allApart : ByteArray := prog_4_method_7_code
def yX2_allApart : MethodName := ⟨RX2, "allApart", "(II)Z"⟩
abbrev cX2_onlyNear : ByteArray := prog_4_method_8_code
def yX2_onlyNear : MethodName := ⟨RX2, "onlyNear", "(III)I"⟩
def RX3 : String := "LiarsAnswers$Game"
def TX3 : u_T := fun k => match k with
  | 0 => ("LiarsAnswers$Game", "on", "Z", false)
  | 1 => ("LiarsAnswers$Game", "kind", "I", false)
  | 2 => ("LiarsAnswers$Game", "n", "I", false)
  | 3 => ("LiarsAnswers$Game", "e", "I", false)
  | 4 => ("LiarsAnswers$Game", "answers", "I", false)
  | 5 => ("LiarsAnswers$Game", "waits", "I", false)
  | 6 => ("LiarsAnswers$Game", "yesPrice", "I", false)
  | 7 => ("LiarsAnswers$Game", "noPrice", "I", false)
  | _ => ("LiarsAnswers$Game", "lefts", "[I", true)
def tyX3 : Nat → FieldType := fun k => match k with
  | 0 => .boolean
  | 1 => .int
  | 2 => .int
  | 3 => .int
  | 4 => .int
  | 5 => .int
  | 6 => .int
  | 7 => .int
  | _ => .array .int
abbrev wsX30 : List Cond := u_ws RX3 TX3 9
theorem nmX3 : ∀ a, a < 9 → ∀ b, b < 9 → a ≠ b → (TX3 a).2.1 ≠ (TX3 b).2.1 := by decide +kernel
theorem tyX3_ok : ∀ k, k < 9 → parseFieldDescriptor (TX3 k).2.2.1 = some (tyX3 k) := by decide +kernel
abbrev cX3_init : ByteArray := prog_5_method_1_code
def yX3_init : MethodName := ⟨RX3, "<init>", "()V"⟩
abbrev cX3_start : ByteArray := prog_5_method_2_code
def yX3_start : MethodName := ⟨RX3, "start", "(IIIII)V"⟩
abbrev cX3_row : ByteArray := prog_5_method_3_code
def yX3_row : MethodName := ⟨RX3, "row", "()I"⟩
abbrev cX3_rowBehind : ByteArray := prog_5_method_4_code
def yX3_rowBehind : MethodName := ⟨RX3, "rowBehind", "()I"⟩
abbrev cX3_within : ByteArray := prog_5_method_5_code
def yX3_within : MethodName := ⟨RX3, "within", "(I)I"⟩
abbrev cX3_leftOf : ByteArray := prog_5_method_6_code
def yX3_leftOf : MethodName := ⟨RX3, "leftOf", "(I)I"⟩
abbrev cX3_countOf : ByteArray := prog_5_method_7_code
def yX3_countOf : MethodName := ⟨RX3, "countOf", "(I)I"⟩
abbrev cX3_standingIn : ByteArray := prog_5_method_8_code
def yX3_standingIn : MethodName := ⟨RX3, "standingIn", "(I)I"⟩
abbrev cX3_waitFor : ByteArray := prog_5_method_9_code
def yX3_waitFor : MethodName := ⟨RX3, "waitFor", "(I)V"⟩
abbrev cX3_reply : ByteArray := prog_5_method_10_code
def yX3_reply : MethodName := ⟨RX3, "reply", "(IZ)I"⟩
abbrev cX3_forgetLatest : ByteArray := prog_5_method_11_code
def yX3_forgetLatest : MethodName := ⟨RX3, "forgetLatest", "()V"⟩
abbrev cX3_layBehind : ByteArray := prog_5_method_12_code
def yX3_layBehind : MethodName := ⟨RX3, "layBehind", "(IZ)I"⟩
abbrev cX3_priceFor : ByteArray := prog_5_method_13_code
def yX3_priceFor : MethodName := ⟨RX3, "priceFor", "(ZZ)I"⟩
abbrev cX3_asDigits : ByteArray := prog_5_method_14_code
def yX3_asDigits : MethodName := ⟨RX3, "asDigits", "()I"⟩
def RX4 : String := "LiarsAnswers$HeapTable"
def TX4 : u_T := fun k => match k with
  | 0 => ("LiarsAnswers$HeapTable", "few", "[I", true)
  | 1 => ("LiarsAnswers$HeapTable", "known", "[I", true)
  | 2 => ("LiarsAnswers$HeapTable", "anyHeap", "LLiarsAnswers$AnyHeap;", true)
  | _ => ("LiarsAnswers$HeapTable", "leastHeap", "LLiarsAnswers$LeastHeap;", true)
def tyX4 : Nat → FieldType := fun k => match k with
  | 0 => .array .int
  | 1 => .array .int
  | 2 => .object "LiarsAnswers$AnyHeap"
  | _ => .object "LiarsAnswers$LeastHeap"
abbrev wsX40 : List Cond := u_ws RX4 TX4 4
theorem nmX4 : ∀ a, a < 4 → ∀ b, b < 4 → a ≠ b → (TX4 a).2.1 ≠ (TX4 b).2.1 := by decide +kernel
theorem tyX4_ok : ∀ k, k < 4 → parseFieldDescriptor (TX4 k).2.2.1 = some (tyX4 k) := by decide +kernel
abbrev cX4_init : ByteArray := prog_6_method_1_code
def yX4_init : MethodName := ⟨RX4, "<init>", "([ILLiarsAnswers$AnyHeap;LLiarsAnswers$LeastHeap;)V"⟩
abbrev cX4_learn : ByteArray := prog_6_method_2_code
def yX4_learn : MethodName := ⟨RX4, "learn", "(II)V"⟩
abbrev cX4_learnOne : ByteArray := prog_6_method_3_code
def yX4_learnOne : MethodName := ⟨RX4, "learnOne", "(IIII)V"⟩
abbrev cX4_stepTo : ByteArray := prog_6_method_4_code
def yX4_stepTo : MethodName := ⟨RX4, "stepTo", "(II)I"⟩
abbrev cX4_fewAt : ByteArray := prog_6_method_5_code
def yX4_fewAt : MethodName := ⟨RX4, "fewAt", "(I)I"⟩
abbrev cX4_fewestOf : ByteArray := prog_6_method_6_code
def yX4_fewestOf : MethodName := ⟨RX4, "fewestOf", "([III)I"⟩
abbrev cX4_bestHeap : ByteArray := prog_6_method_7_code
def yX4_bestHeap : MethodName := ⟨RX4, "bestHeap", "([III)I"⟩
def RX5 : String := "LiarsAnswers$HeapWalk"
def TX5 : u_T := fun k => match k with
  | _ => ("", "", "", false)
def tyX5 : Nat → FieldType := fun k => match k with
  | _ => .int
abbrev wsX50 : List Cond := u_ws RX5 TX5 0
theorem nmX5 : ∀ a, a < 0 → ∀ b, b < 0 → a ≠ b → (TX5 a).2.1 ≠ (TX5 b).2.1 := by decide +kernel
theorem tyX5_ok : ∀ k, k < 0 → parseFieldDescriptor (TX5 k).2.2.1 = some (tyX5 k) := by decide +kernel
abbrev cX5_init : ByteArray := prog_7_method_1_code
def yX5_init : MethodName := ⟨RX5, "<init>", "([III)V"⟩
abbrev cX5_walk : ByteArray := prog_7_method_2_code
def yX5_walk : MethodName := ⟨RX5, "walk", "(I)Z"⟩
abbrev cX5_down : ByteArray := prog_7_method_3_code
def yX5_down : MethodName := ⟨RX5, "down", "(III)Z"⟩
abbrev cX5_isBeyond : ByteArray := prog_7_method_5_code
def yX5_isBeyond : MethodName := ⟨RX5, "isBeyond", "(I)Z"⟩
abbrev cX5_outward : ByteArray := prog_7_method_6_code
def yX5_outward : MethodName := ⟨RX5, "outward", "(II)I"⟩
def RX6 : String := "LiarsAnswers$LeastHeap"
def TX6 : u_T := fun k => match k with
  | 0 => ("LiarsAnswers$HeapWalk", "few", "[I", true)
  | 1 => ("LiarsAnswers$HeapWalk", "yesPrice", "I", true)
  | 2 => ("LiarsAnswers$HeapWalk", "noPrice", "I", true)
  | 3 => ("LiarsAnswers$HeapWalk", "have", "[I", true)
  | 4 => ("LiarsAnswers$HeapWalk", "taken", "[I", true)
  | 5 => ("LiarsAnswers$HeapWalk", "goal", "I", false)
  | 6 => ("LiarsAnswers$LeastHeap", "lowest", "[I", true)
  | _ => ("LiarsAnswers$LeastHeap", "least", "I", false)
def tyX6 : Nat → FieldType := fun k => match k with
  | 0 => .array .int
  | 1 => .int
  | 2 => .int
  | 3 => .array .int
  | 4 => .array .int
  | 5 => .int
  | 6 => .array .int
  | _ => .int
abbrev wsX60 : List Cond := u_ws RX6 TX6 8
theorem nmX6 : ∀ a, a < 8 → ∀ b, b < 8 → a ≠ b → (TX6 a).2.1 ≠ (TX6 b).2.1 := by decide +kernel
theorem tyX6_ok : ∀ k, k < 8 → parseFieldDescriptor (TX6 k).2.2.1 = some (tyX6 k) := by decide +kernel
abbrev cX6_init : ByteArray := prog_8_method_1_code
def yX6_init : MethodName := ⟨RX6, "<init>", "([III)V"⟩
abbrev cX6_find : ByteArray := prog_8_method_2_code
def yX6_find : MethodName := ⟨RX6, "find", "([IIII)I"⟩
abbrev cX6_layLowest : ByteArray := prog_8_method_3_code
def yX6_layLowest : MethodName := ⟨RX6, "layLowest", "([IIII)I"⟩
abbrev cX6_last : ByteArray := prog_8_method_4_code
def yX6_last : MethodName := ⟨RX6, "last", "(III)Z"⟩
abbrev cX6_lowestTaken : ByteArray := prog_8_method_5_code
def yX6_lowestTaken : MethodName := ⟨RX6, "lowestTaken", "()I"⟩
def RX7 : String := "LiarsAnswers$Liar"
def TX7 : u_T := fun k => match k with
  | _ => ("", "", "", false)
def tyX7 : Nat → FieldType := fun k => match k with
  | _ => .int
abbrev wsX70 : List Cond := u_ws RX7 TX7 0
theorem nmX7 : ∀ a, a < 0 → ∀ b, b < 0 → a ≠ b → (TX7 a).2.1 ≠ (TX7 b).2.1 := by decide +kernel
theorem tyX7_ok : ∀ k, k < 0 → parseFieldDescriptor (TX7 k).2.2.1 = some (tyX7 k) := by decide +kernel
abbrev cX7_init : ByteArray := prog_9_method_1_code
def yX7_init : MethodName := ⟨RX7, "<init>", "()V"⟩
abbrev cX7_price : ByteArray := prog_9_method_2_code
def yX7_price : MethodName := ⟨RX7, "price", "(ZZLLiarsAnswers$Tally;)I"⟩
def RX8 : String := "LiarsAnswers$SpanTable"
def TX8 : u_T := fun k => match k with
  | 0 => ("LiarsAnswers$SpanTable", "yesPrice", "I", true)
  | 1 => ("LiarsAnswers$SpanTable", "noPrice", "I", true)
  | 2 => ("LiarsAnswers$SpanTable", "few", "[I", true)
  | _ => ("LiarsAnswers$SpanTable", "known", "I", false)
def tyX8 : Nat → FieldType := fun k => match k with
  | 0 => .int
  | 1 => .int
  | 2 => .array .int
  | _ => .int
abbrev wsX80 : List Cond := u_ws RX8 TX8 4
theorem nmX8 : ∀ a, a < 4 → ∀ b, b < 4 → a ≠ b → (TX8 a).2.1 ≠ (TX8 b).2.1 := by decide +kernel
theorem tyX8_ok : ∀ k, k < 4 → parseFieldDescriptor (TX8 k).2.2.1 = some (tyX8 k) := by decide +kernel
abbrev cX8_init : ByteArray := prog_10_method_1_code
def yX8_init : MethodName := ⟨RX8, "<init>", "(II)V"⟩
abbrev cX8_fewestOf : ByteArray := prog_10_method_2_code
def yX8_fewestOf : MethodName := ⟨RX8, "fewestOf", "(I)I"⟩
abbrev cX8_learned : ByteArray := prog_10_method_3_code
def yX8_learned : MethodName := ⟨RX8, "learned", "(I)I"⟩
abbrev cX8_leastQuestions : ByteArray := prog_10_method_4_code
def yX8_leastQuestions : MethodName := ⟨RX8, "leastQuestions", "(II)I"⟩
abbrev cX8_digitOne : ByteArray := prog_10_method_5_code
def yX8_digitOne : MethodName := ⟨RX8, "digitOne", "(I)I"⟩
abbrev cX8_greaterBehind : ByteArray := prog_10_method_6_code
def yX8_greaterBehind : MethodName := ⟨RX8, "greaterBehind", "(II)I"⟩
abbrev cX8_charged : ByteArray := prog_10_method_7_code
def yX8_charged : MethodName := ⟨RX8, "charged", "(III)I"⟩
abbrev cX8_standing : ByteArray := prog_10_method_8_code
def yX8_standing : MethodName := ⟨RX8, "standing", "(I)I"⟩
abbrev cX8_lowestGap : ByteArray := prog_10_method_9_code
def yX8_lowestGap : MethodName := ⟨RX8, "lowestGap", "(I)I"⟩
abbrev cX8_fewAt : ByteArray := prog_10_method_10_code
def yX8_fewAt : MethodName := ⟨RX8, "fewAt", "(I)I"⟩
def RX9 : String := "LiarsAnswers$Tally"
def TX9 : u_T := fun k => match k with
  | _ => ("LiarsAnswers$Tally", "sum", "J", false)
def tyX9 : Nat → FieldType := fun k => match k with
  | _ => .long
abbrev wsX90 : List Cond := u_ws RX9 TX9 1
theorem nmX9 : ∀ a, a < 1 → ∀ b, b < 1 → a ≠ b → (TX9 a).2.1 ≠ (TX9 b).2.1 := by decide +kernel
theorem tyX9_ok : ∀ k, k < 1 → parseFieldDescriptor (TX9 k).2.2.1 = some (tyX9 k) := by decide +kernel
abbrev cX9_init : ByteArray := prog_11_method_1_code
def yX9_init : MethodName := ⟨RX9, "<init>", "()V"⟩
def RX10 : String := "LiarsAnswers$YesLiar"
def TX10 : u_T := fun k => match k with
  | _ => ("", "", "", false)
def tyX10 : Nat → FieldType := fun k => match k with
  | _ => .int
abbrev wsX100 : List Cond := u_ws RX10 TX10 0
theorem nmX10 : ∀ a, a < 0 → ∀ b, b < 0 → a ≠ b → (TX10 a).2.1 ≠ (TX10 b).2.1 := by decide +kernel
theorem tyX10_ok : ∀ k, k < 0 → parseFieldDescriptor (TX10 k).2.2.1 = some (tyX10 k) := by decide +kernel
abbrev cX10_init : ByteArray := prog_12_method_1_code
def yX10_init : MethodName := ⟨RX10, "<init>", "()V"⟩
abbrev cX10_price : ByteArray := prog_12_method_2_code
def yX10_price : MethodName := ⟨RX10, "price", "(ZZLLiarsAnswers$Tally;)I"⟩
def RX11 : String := "LiarsAnswers"
def TX11 : u_T := fun k => match k with
  | 0 => ("LiarsAnswers", "liars", "[LLiarsAnswers$Liar;", true)
  | 1 => ("LiarsAnswers", "traced", "LLiarsAnswers$Tally;", true)
  | 2 => ("LiarsAnswers", "untold", "LLiarsAnswers$Tally;", true)
  | 3 => ("LiarsAnswers", "heapTables", "[LLiarsAnswers$HeapTable;", true)
  | 4 => ("LiarsAnswers", "spanTables", "[LLiarsAnswers$SpanTable;", true)
  | 5 => ("LiarsAnswers", "game", "LLiarsAnswers$Game;", true)
  | 6 => ("LiarsAnswers", "code", "LLiarsAnswers$Code;", true)
  | _ => ("LiarsAnswers", "takenBack", "I", false)
def tyX11 : Nat → FieldType := fun k => match k with
  | 0 => .array (.object "LiarsAnswers$Liar")
  | 1 => .object "LiarsAnswers$Tally"
  | 2 => .object "LiarsAnswers$Tally"
  | 3 => .array (.object "LiarsAnswers$HeapTable")
  | 4 => .array (.object "LiarsAnswers$SpanTable")
  | 5 => .object "LiarsAnswers$Game"
  | 6 => .object "LiarsAnswers$Code"
  | _ => .int
abbrev wsX110 : List Cond := u_ws RX11 TX11 8
theorem nmX11 : ∀ a, a < 8 → ∀ b, b < 8 → a ≠ b → (TX11 a).2.1 ≠ (TX11 b).2.1 := by decide +kernel
theorem tyX11_ok : ∀ k, k < 8 → parseFieldDescriptor (TX11 k).2.2.1 = some (tyX11 k) := by decide +kernel
abbrev cX11_init : ByteArray := prog_1_method_1_code
def yX11_init : MethodName := ⟨RX11, "<init>", "()V"⟩
abbrev cX11_begin : ByteArray := prog_1_method_2_code
def yX11_begin : MethodName := ⟨RX11, "begin", "(III)I"⟩
abbrev cX11_cost : ByteArray := prog_1_method_3_code
def yX11_cost : MethodName := ⟨RX11, "cost", "(IZZ)I"⟩
abbrev cX11_ask : ByteArray := prog_1_method_4_code
def yX11_ask : MethodName := ⟨RX11, "ask", "(I)I"⟩
abbrev cX11_answer : ByteArray := prog_1_method_5_code
def yX11_answer : MethodName := ⟨RX11, "answer", "(Z)I"⟩
abbrev cX11_back : ByteArray := prog_1_method_6_code
def yX11_back : MethodName := ⟨RX11, "back", "()I"⟩
abbrev cX11_left : ByteArray := prog_1_method_7_code
def yX11_left : MethodName := ⟨RX11, "left", "(I)I"⟩
abbrev cX11_state : ByteArray := prog_1_method_8_code
def yX11_state : MethodName := ⟨RX11, "state", "(I)I"⟩
abbrev cX11_found : ByteArray := prog_1_method_9_code
def yX11_found : MethodName := ⟨RX11, "found", "()I"⟩
abbrev cX11_fewest : ByteArray := prog_1_method_10_code
def yX11_fewest : MethodName := ⟨RX11, "fewest", "()I"⟩
abbrev cX11_spans : ByteArray := prog_1_method_11_code
def yX11_spans : MethodName := ⟨RX11, "spans", "()I"⟩
abbrev cX11_weight : ByteArray := prog_1_method_12_code
def yX11_weight : MethodName := ⟨RX11, "weight", "(I)J"⟩
abbrev cX11_best : ByteArray := prog_1_method_13_code
def yX11_best : MethodName := ⟨RX11, "best", "()I"⟩
abbrev cX11_worse : ByteArray := prog_1_method_14_code
def yX11_worse : MethodName := ⟨RX11, "worse", "()I"⟩
abbrev cX11_set : ByteArray := prog_1_method_15_code
def yX11_set : MethodName := ⟨RX11, "set", "(I)I"⟩
abbrev cX11_drop : ByteArray := prog_1_method_16_code
def yX11_drop : MethodName := ⟨RX11, "drop", "()I"⟩
abbrev cX11_word : ByteArray := prog_1_method_17_code
def yX11_word : MethodName := ⟨RX11, "word", "(I)I"⟩
abbrev cX11_apart : ByteArray := prog_1_method_18_code
def yX11_apart : MethodName := ⟨RX11, "apart", "(II)I"⟩
abbrev cX11_serves : ByteArray := prog_1_method_19_code
def yX11_serves : MethodName := ⟨RX11, "serves", "(II)I"⟩
abbrev cX11_read : ByteArray := prog_1_method_20_code
def yX11_read : MethodName := ⟨RX11, "read", "(III)I"⟩
abbrev cX11_play : ByteArray := prog_1_method_21_code
def yX11_play : MethodName := ⟨RX11, "play", "(I)I"⟩
abbrev cX11_told : ByteArray := prog_1_method_22_code
def yX11_told : MethodName := ⟨RX11, "told", "(I)I"⟩
abbrev cX11_trace : ByteArray := prog_1_method_23_code
def yX11_trace : MethodName := ⟨RX11, "trace", "()J"⟩
abbrev cX11_isKind : ByteArray := prog_1_method_24_code
def yX11_isKind : MethodName := ⟨RX11, "isKind", "(I)Z"⟩
abbrev cX11_isNumber : ByteArray := prog_1_method_25_code
def yX11_isNumber : MethodName := ⟨RX11, "isNumber", "(I)Z"⟩
abbrev cX11_isCount : ByteArray := prog_1_method_26_code
def yX11_isCount : MethodName := ⟨RX11, "isCount", "(I)Z"⟩
abbrev cX11_isLies : ByteArray := prog_1_method_27_code
def yX11_isLies : MethodName := ⟨RX11, "isLies", "(I)Z"⟩
abbrev cX11_isHeap : ByteArray := prog_1_method_28_code
def yX11_isHeap : MethodName := ⟨RX11, "isHeap", "(I)Z"⟩
abbrev cX11_yesPrice : ByteArray := prog_1_method_29_code
def yX11_yesPrice : MethodName := ⟨RX11, "yesPrice", "(I)I"⟩
abbrev cX11_noPrice : ByteArray := prog_1_method_30_code
def yX11_noPrice : MethodName := ⟨RX11, "noPrice", "(I)I"⟩
abbrev cX11_heapTable : ByteArray := prog_1_method_31_code
def yX11_heapTable : MethodName := ⟨RX11, "heapTable", "(I)LLiarsAnswers$HeapTable;"⟩
abbrev cX11_spanTable : ByteArray := prog_1_method_32_code
def yX11_spanTable : MethodName := ⟨RX11, "spanTable", "(I)LLiarsAnswers$SpanTable;"⟩
abbrev cX11_fewestNow : ByteArray := prog_1_method_33_code
def yX11_fewestNow : MethodName := ⟨RX11, "fewestNow", "()I"⟩
abbrev cX11_fewestBehind : ByteArray := prog_1_method_34_code
def yX11_fewestBehind : MethodName := ⟨RX11, "fewestBehind", "(Z)I"⟩
abbrev cX11_toldOrNone : ByteArray := prog_1_method_35_code
def yX11_toldOrNone : MethodName := ⟨RX11, "toldOrNone", "(I)I"⟩
abbrev cX11_playOne : ByteArray := prog_1_method_36_code
def yX11_playOne : MethodName := ⟨RX11, "playOne", "(II)Z"⟩
abbrev cX11_waysToLie : ByteArray := prog_1_method_37_code
def yX11_waysToLie : MethodName := ⟨RX11, "waysToLie", "(II)J"⟩
abbrev cX11_placeOf : ByteArray := prog_1_method_38_code
def yX11_placeOf : MethodName := ⟨RX11, "placeOf", "(II)I"⟩
abbrev cX11_leftAt : ByteArray := prog_1_method_39_code
def yX11_leftAt : MethodName := ⟨RX11, "leftAt", "([II)I"⟩
def RX12 : String := "LiarsAnswersModel"
def TX12 : u_T := fun k => match k with
  | 0 => ("LiarsAnswersModel", "hasGame", "Z", false)
  | 1 => ("LiarsAnswersModel", "kind", "I", false)
  | 2 => ("LiarsAnswersModel", "n", "I", false)
  | 3 => ("LiarsAnswersModel", "e", "I", false)
  | 4 => ("LiarsAnswersModel", "answers", "I", false)
  | 5 => ("LiarsAnswersModel", "waits", "I", false)
  | 6 => ("LiarsAnswersModel", "left", "[I", true)
  | 7 => ("LiarsAnswersModel", "before", "[I", true)
  | 8 => ("LiarsAnswersModel", "tookBack", "I", false)
  | 9 => ("LiarsAnswersModel", "questions", "I", false)
  | 10 => ("LiarsAnswersModel", "question", "[I", true)
  | 11 => ("LiarsAnswersModel", "trace", "J", false)
  | 12 => ("LiarsAnswersModel", "row", "[B", true)
  | 13 => ("LiarsAnswersModel", "spansKind", "I", false)
  | 14 => ("LiarsAnswersModel", "spansMany", "I", false)
  | 15 => ("LiarsAnswersModel", "spanFewest", "[I", true)
  | 16 => ("LiarsAnswersModel", "heap", "[I", true)
  | 17 => ("LiarsAnswersModel", "beside", "[I", true)
  | 18 => ("LiarsAnswersModel", "counts", "[I", true)
  | 19 => ("LiarsAnswersModel", "most", "[I", true)
  | _ => ("LiarsAnswersModel", "then", "[I", true)
def tyX12 : Nat → FieldType := fun k => match k with
  | 0 => .boolean
  | 1 => .int
  | 2 => .int
  | 3 => .int
  | 4 => .int
  | 5 => .int
  | 6 => .array .int
  | 7 => .array .int
  | 8 => .int
  | 9 => .int
  | 10 => .array .int
  | 11 => .long
  | 12 => .array .byte
  | 13 => .int
  | 14 => .int
  | 15 => .array .int
  | 16 => .array .int
  | 17 => .array .int
  | 18 => .array .int
  | 19 => .array .int
  | _ => .array .int
abbrev wsX120 : List Cond := u_ws RX12 TX12 21
theorem nmX12 : ∀ a, a < 21 → ∀ b, b < 21 → a ≠ b → (TX12 a).2.1 ≠ (TX12 b).2.1 := by decide +kernel
theorem tyX12_ok : ∀ k, k < 21 → parseFieldDescriptor (TX12 k).2.2.1 = some (tyX12 k) := by decide +kernel
abbrev cX12_init : ByteArray := prog_14_method_1_code
def yX12_init : MethodName := ⟨RX12, "<init>", "()V"⟩
abbrev cX12_in : ByteArray := prog_14_method_3_code
def yX12_in : MethodName := ⟨RX12, "in", "(III)Z"⟩
abbrev cX12_costOf : ByteArray := prog_14_method_4_code
def yX12_costOf : MethodName := ⟨RX12, "costOf", "(IZZ)I"⟩
abbrev cX12_cost : ByteArray := prog_14_method_5_code
def yX12_cost : MethodName := ⟨RX12, "cost", "(IZZ)I"⟩
abbrev cX12_place : ByteArray := prog_14_method_6_code
def yX12_place : MethodName := ⟨RX12, "place", "(IIII)I"⟩
abbrev cX12_behind : ByteArray := prog_14_method_7_code
def yX12_behind : MethodName := ⟨RX12, "behind", "(IZ[I[I)I"⟩
abbrev cX12_canDo : ByteArray := prog_14_method_8_code
def yX12_canDo : MethodName := ⟨RX12, "canDo", "(II)Z"⟩
abbrev cX12_isWithin : ByteArray := prog_14_method_9_code
def yX12_isWithin : MethodName := ⟨RX12, "isWithin", "(III)Z"⟩
abbrev cX12_mayDo : ByteArray := prog_14_method_10_code
def yX12_mayDo : MethodName := ⟨RX12, "mayDo", "(II)Z"⟩
abbrev cX12_levels : ByteArray := prog_14_method_11_code
def yX12_levels : MethodName := ⟨RX12, "levels", "(II)V"⟩
abbrev cX12_worthOf : ByteArray := prog_14_method_12_code
def yX12_worthOf : MethodName := ⟨RX12, "worthOf", "([I)I"⟩
abbrev cX12_shown : ByteArray := prog_14_method_13_code
def yX12_shown : MethodName := ⟨RX12, "shown", "(I)I"⟩
abbrev cX12_begin : ByteArray := prog_14_method_14_code
def yX12_begin : MethodName := ⟨RX12, "begin", "(III)I"⟩
abbrev cX12_many : ByteArray := prog_14_method_15_code
def yX12_many : MethodName := ⟨RX12, "many", "()I"⟩
abbrev cX12_ask : ByteArray := prog_14_method_16_code
def yX12_ask : MethodName := ⟨RX12, "ask", "(I)I"⟩
abbrev cX12_tries : ByteArray := prog_14_method_17_code
def yX12_tries : MethodName := ⟨RX12, "tries", "(IZ)I"⟩
abbrev cX12_answer : ByteArray := prog_14_method_18_code
def yX12_answer : MethodName := ⟨RX12, "answer", "(Z)I"⟩
abbrev cX12_back : ByteArray := prog_14_method_19_code
def yX12_back : MethodName := ⟨RX12, "back", "()I"⟩
abbrev cX12_left : ByteArray := prog_14_method_20_code
def yX12_left : MethodName := ⟨RX12, "left", "(I)I"⟩
abbrev cX12_state : ByteArray := prog_14_method_21_code
def yX12_state : MethodName := ⟨RX12, "state", "(I)I"⟩
abbrev cX12_found : ByteArray := prog_14_method_22_code
def yX12_found : MethodName := ⟨RX12, "found", "()I"⟩
abbrev cX12_fewest : ByteArray := prog_14_method_23_code
def yX12_fewest : MethodName := ⟨RX12, "fewest", "()I"⟩
abbrev cX12_spanBehind : ByteArray := prog_14_method_24_code
def yX12_spanBehind : MethodName := ⟨RX12, "spanBehind", "(IIIZ)I"⟩
abbrev cX12_canSpan : ByteArray := prog_14_method_25_code
def yX12_canSpan : MethodName := ⟨RX12, "canSpan", "(II)Z"⟩
abbrev cX12_knowSpans : ByteArray := prog_14_method_26_code
def yX12_knowSpans : MethodName := ⟨RX12, "knowSpans", "()V"⟩
abbrev cX12_spans : ByteArray := prog_14_method_27_code
def yX12_spans : MethodName := ⟨RX12, "spans", "()I"⟩
abbrev cX12_choose : ByteArray := prog_14_method_28_code
def yX12_choose : MethodName := ⟨RX12, "choose", "(II)J"⟩
abbrev cX12_weight : ByteArray := prog_14_method_29_code
def yX12_weight : MethodName := ⟨RX12, "weight", "(I)J"⟩
abbrev cX12_greater : ByteArray := prog_14_method_30_code
def yX12_greater : MethodName := ⟨RX12, "greater", "(I)I"⟩
abbrev cX12_best : ByteArray := prog_14_method_31_code
def yX12_best : MethodName := ⟨RX12, "best", "()I"⟩
abbrev cX12_worse : ByteArray := prog_14_method_32_code
def yX12_worse : MethodName := ⟨RX12, "worse", "()I"⟩
abbrev cX12_set : ByteArray := prog_14_method_33_code
def yX12_set : MethodName := ⟨RX12, "set", "(I)I"⟩
abbrev cX12_drop : ByteArray := prog_14_method_34_code
def yX12_drop : MethodName := ⟨RX12, "drop", "()I"⟩
abbrev cX12_wordOf : ByteArray := prog_14_method_35_code
def yX12_wordOf : MethodName := ⟨RX12, "wordOf", "(I)I"⟩
abbrev cX12_isNumber : ByteArray := prog_14_method_36_code
def yX12_isNumber : MethodName := ⟨RX12, "isNumber", "(I)Z"⟩
abbrev cX12_word : ByteArray := prog_14_method_37_code
def yX12_word : MethodName := ⟨RX12, "word", "(I)I"⟩
abbrev cX12_ones : ByteArray := prog_14_method_38_code
def yX12_ones : MethodName := ⟨RX12, "ones", "(I)I"⟩
abbrev cX12_apart : ByteArray := prog_14_method_39_code
def yX12_apart : MethodName := ⟨RX12, "apart", "(II)I"⟩
abbrev cX12_serves : ByteArray := prog_14_method_40_code
def yX12_serves : MethodName := ⟨RX12, "serves", "(II)I"⟩
abbrev cX12_isWord : ByteArray := prog_14_method_41_code
def yX12_isWord : MethodName := ⟨RX12, "isWord", "(I)Z"⟩
abbrev cX12_read : ByteArray := prog_14_method_42_code
def yX12_read : MethodName := ⟨RX12, "read", "(III)I"⟩
abbrev cX12_play : ByteArray := prog_14_method_43_code
def yX12_play : MethodName := ⟨RX12, "play", "(I)I"⟩
abbrev cX12_told : ByteArray := prog_14_method_44_code
def yX12_told : MethodName := ⟨RX12, "told", "(I)I"⟩
abbrev cX12_trace : ByteArray := prog_14_method_45_code
def yX12_trace : MethodName := ⟨RX12, "trace", "()J"⟩
def RJ6 : String := "java/lang/Integer"
def TJ6 : u_T := fun k => match k with
  | _ => ("", "", "", false)
def tyJ6 : Nat → FieldType := fun k => match k with
  | _ => .int
abbrev wsJ60 : List Cond := u_ws RJ6 TJ6 0
theorem nmJ6 : ∀ a, a < 0 → ∀ b, b < 0 → a ≠ b → (TJ6 a).2.1 ≠ (TJ6 b).2.1 := by decide +kernel
theorem tyJ6_ok : ∀ k, k < 0 → parseFieldDescriptor (TJ6 k).2.2.1 = some (tyJ6 k) := by decide +kernel
abbrev cJ6_bitCount_0f7a4 : ByteArray := prog_15_method_49_code
def yJ6_bitCount_0f7a4 : MethodName := ⟨RJ6, "bitCount", "(I)I"⟩
def RJ9 : String := "java/lang/Math"
def TJ9 : u_T := fun k => match k with
  | _ => ("", "", "", false)
def tyJ9 : Nat → FieldType := fun k => match k with
  | _ => .int
abbrev wsJ90 : List Cond := u_ws RJ9 TJ9 0
theorem nmJ9 : ∀ a, a < 0 → ∀ b, b < 0 → a ≠ b → (TJ9 a).2.1 ≠ (TJ9 b).2.1 := by decide +kernel
theorem tyJ9_ok : ∀ k, k < 0 → parseFieldDescriptor (TJ9 k).2.2.1 = some (tyJ9 k) := by decide +kernel
abbrev cJ9_max_7cf53 : ByteArray := prog_16_method_65_code
def yJ9_max_7cf53 : MethodName := ⟨RJ9, "max", "(II)I"⟩
abbrev cJ9_min_7cf53 : ByteArray := prog_16_method_69_code
def yJ9_min_7cf53 : MethodName := ⟨RJ9, "min", "(II)I"⟩
def RL : String := "LiarsAnswersLaw"
abbrev cL_law : ByteArray := code
def yL_law : MethodName := ⟨RL, "law", "([I)Z"⟩
theorem dX0_init_0 : decode cX0_init 0 = .ok (.aload_n 0, 1) := by decide +kernel
theorem dX0_init_1 : decode cX0_init 1 = .ok (.aload_n 1, 1) := by decide +kernel
theorem dX0_init_2 : decode cX0_init 2 = .ok (.iload_n 2, 1) := by decide +kernel
theorem dX0_init_3 : decode cX0_init 3 = .ok (.iload_n 3, 1) := by decide +kernel
theorem dX0_init_4 : decode cX0_init 4 = .ok (.invokespecial 1, 3) := by decide +kernel
theorem dX0_init_7 : decode cX0_init 7 = .ok (.return_, 1) := by decide +kernel
theorem dX0_hold_0 : decode cX0_hold 0 = .ok (.aload_n 0, 1) := by decide +kernel
theorem dX0_hold_1 : decode cX0_hold 1 = .ok (.getfield 7, 3) := by decide +kernel
theorem dX0_hold_4 : decode cX0_hold 4 = .ok (.iconst 0, 1) := by decide +kernel
theorem dX0_hold_5 : decode cX0_hold 5 = .ok (.iload_n 1, 1) := by decide +kernel
theorem dX0_hold_6 : decode cX0_hold 6 = .ok (.iastore, 1) := by decide +kernel
theorem dX0_hold_7 : decode cX0_hold 7 = .ok (.aload_n 0, 1) := by decide +kernel
theorem dX0_hold_8 : decode cX0_hold 8 = .ok (.getfield 7, 3) := by decide +kernel
theorem dX0_hold_11 : decode cX0_hold 11 = .ok (.iconst 1, 1) := by decide +kernel
theorem dX0_hold_12 : decode cX0_hold 12 = .ok (.iload_n 2, 1) := by decide +kernel
theorem dX0_hold_13 : decode cX0_hold 13 = .ok (.iastore, 1) := by decide +kernel
theorem dX0_hold_14 : decode cX0_hold 14 = .ok (.aload_n 0, 1) := by decide +kernel
theorem dX0_hold_15 : decode cX0_hold 15 = .ok (.getfield 7, 3) := by decide +kernel
theorem dX0_hold_18 : decode cX0_hold 18 = .ok (.iconst 2, 1) := by decide +kernel
theorem dX0_hold_19 : decode cX0_hold 19 = .ok (.iload_n 3, 1) := by decide +kernel
theorem dX0_hold_20 : decode cX0_hold 20 = .ok (.iastore, 1) := by decide +kernel
theorem dX0_hold_21 : decode cX0_hold 21 = .ok (.aload_n 0, 1) := by decide +kernel
theorem dX0_hold_22 : decode cX0_hold 22 = .ok (.getfield 7, 3) := by decide +kernel
theorem dX0_hold_25 : decode cX0_hold 25 = .ok (.iconst 3, 1) := by decide +kernel
theorem dX0_hold_26 : decode cX0_hold 26 = .ok (.iload 4, 2) := by decide +kernel
theorem dX0_hold_28 : decode cX0_hold 28 = .ok (.iastore, 1) := by decide +kernel
theorem dX0_hold_29 : decode cX0_hold 29 = .ok (.return_, 1) := by decide +kernel
theorem dX0_last_0 : decode cX0_last 0 = .ok (.iload_n 3, 1) := by decide +kernel
theorem dX0_last_1 : decode cX0_last 1 = .ok (.iconst 1, 1) := by decide +kernel
theorem dX0_last_2 : decode cX0_last 2 = .ok (.iadd, 1) := by decide +kernel
theorem dX0_last_3 : decode cX0_last 3 = .ok (.iconst 2, 1) := by decide +kernel
theorem dX0_last_4 : decode cX0_last 4 = .ok (.idiv, 1) := by decide +kernel
theorem dX0_last_5 : decode cX0_last 5 = .ok (.istore 4, 2) := by decide +kernel
theorem dX0_last_7 : decode cX0_last 7 = .ok (.iload 4, 2) := by decide +kernel
theorem dX0_last_9 : decode cX0_last 9 = .ok (.ifCond .le 20, 3) := by decide +kernel
theorem dX0_last_12 : decode cX0_last 12 = .ok (.aload_n 0, 1) := by decide +kernel
theorem dX0_last_13 : decode cX0_last 13 = .ok (.iload_n 1, 1) := by decide +kernel
theorem dX0_last_14 : decode cX0_last 14 = .ok (.iload 4, 2) := by decide +kernel
theorem dX0_last_16 : decode cX0_last 16 = .ok (.iadd, 1) := by decide +kernel
theorem dX0_last_17 : decode cX0_last 17 = .ok (.invokevirtual 13, 3) := by decide +kernel
theorem dX0_last_20 : decode cX0_last 20 = .ok (.ifCond .eq 9, 3) := by decide +kernel
theorem dX0_last_23 : decode cX0_last 23 = .ok (.iinc 4 (-1), 3) := by decide +kernel
theorem dX0_last_26 : decode cX0_last 26 = .ok (.goto (-19), 3) := by decide +kernel
theorem dX0_last_29 : decode cX0_last 29 = .ok (.iload 4, 2) := by decide +kernel
theorem dX0_last_31 : decode cX0_last 31 = .ok (.iload_n 3, 1) := by decide +kernel
theorem dX0_last_32 : decode cX0_last 32 = .ok (.if_icmp .ge 31, 3) := by decide +kernel
theorem dX0_last_35 : decode cX0_last 35 = .ok (.aload_n 0, 1) := by decide +kernel
theorem dX0_last_36 : decode cX0_last 36 = .ok (.iload_n 2, 1) := by decide +kernel
theorem dX0_last_37 : decode cX0_last 37 = .ok (.iload 4, 2) := by decide +kernel
theorem dX0_last_39 : decode cX0_last 39 = .ok (.isub, 1) := by decide +kernel
theorem dX0_last_40 : decode cX0_last 40 = .ok (.invokevirtual 13, 3) := by decide +kernel
theorem dX0_last_43 : decode cX0_last 43 = .ok (.ifCond .eq 20, 3) := by decide +kernel
theorem dX0_last_46 : decode cX0_last 46 = .ok (.aload_n 0, 1) := by decide +kernel
theorem dX0_last_47 : decode cX0_last 47 = .ok (.iload_n 1, 1) := by decide +kernel
theorem dX0_last_48 : decode cX0_last 48 = .ok (.iload 4, 2) := by decide +kernel
theorem dX0_last_50 : decode cX0_last 50 = .ok (.iadd, 1) := by decide +kernel
theorem dX0_last_51 : decode cX0_last 51 = .ok (.invokevirtual 13, 3) := by decide +kernel
theorem dX0_last_54 : decode cX0_last 54 = .ok (.ifCond .ne 9, 3) := by decide +kernel
theorem dX0_last_57 : decode cX0_last 57 = .ok (.iinc 4 1, 3) := by decide +kernel
theorem dX0_last_60 : decode cX0_last 60 = .ok (.goto (-31), 3) := by decide +kernel
theorem dX0_last_63 : decode cX0_last 63 = .ok (.aload_n 0, 1) := by decide +kernel
theorem dX0_last_64 : decode cX0_last 64 = .ok (.iload_n 1, 1) := by decide +kernel
theorem dX0_last_65 : decode cX0_last 65 = .ok (.iload 4, 2) := by decide +kernel
theorem dX0_last_67 : decode cX0_last 67 = .ok (.iadd, 1) := by decide +kernel
theorem dX0_last_68 : decode cX0_last 68 = .ok (.invokevirtual 13, 3) := by decide +kernel
theorem dX0_last_71 : decode cX0_last 71 = .ok (.ifCond .ne 18, 3) := by decide +kernel
theorem dX0_last_74 : decode cX0_last 74 = .ok (.aload_n 0, 1) := by decide +kernel
theorem dX0_last_75 : decode cX0_last 75 = .ok (.iload_n 2, 1) := by decide +kernel
theorem dX0_last_76 : decode cX0_last 76 = .ok (.iload 4, 2) := by decide +kernel
theorem dX0_last_78 : decode cX0_last 78 = .ok (.isub, 1) := by decide +kernel
theorem dX0_last_79 : decode cX0_last 79 = .ok (.invokevirtual 13, 3) := by decide +kernel
theorem dX0_last_82 : decode cX0_last 82 = .ok (.ifCond .ne 7, 3) := by decide +kernel
theorem dX0_last_85 : decode cX0_last 85 = .ok (.iconst 1, 1) := by decide +kernel
theorem dX0_last_86 : decode cX0_last 86 = .ok (.goto 4, 3) := by decide +kernel
theorem dX0_last_89 : decode cX0_last 89 = .ok (.iconst 0, 1) := by decide +kernel
theorem dX0_last_90 : decode cX0_last 90 = .ok (.ireturn, 1) := by decide +kernel
theorem dX1_init_0 : decode cX1_init 0 = .ok (.aload_n 0, 1) := by decide +kernel
theorem dX1_init_1 : decode cX1_init 1 = .ok (.invokespecial 3, 3) := by decide +kernel
theorem dX1_init_4 : decode cX1_init 4 = .ok (.return_, 1) := by decide +kernel
theorem dX1_price_0 : decode cX1_price 0 = .ok (.aload_n 3, 1) := by decide +kernel
theorem dX1_price_1 : decode cX1_price 1 = .ok (.dup, 1) := by decide +kernel
theorem dX1_price_2 : decode cX1_price 2 = .ok (.getfield 9, 3) := by decide +kernel
theorem dX1_price_5 : decode cX1_price 5 = .ok (.ldc2_w 15, 3) := by decide +kernel
theorem dX1_price_8 : decode cX1_price 8 = .ok (.ladd, 1) := by decide +kernel
theorem dX1_price_9 : decode cX1_price 9 = .ok (.putfield 9, 3) := by decide +kernel
theorem dX1_price_12 : decode cX1_price 12 = .ok (.aload_n 0, 1) := by decide +kernel
theorem dX1_price_13 : decode cX1_price 13 = .ok (.iload_n 1, 1) := by decide +kernel
theorem dX1_price_14 : decode cX1_price 14 = .ok (.iload_n 2, 1) := by decide +kernel
theorem dX1_price_15 : decode cX1_price 15 = .ok (.aload_n 3, 1) := by decide +kernel
theorem dX1_price_16 : decode cX1_price 16 = .ok (.invokespecial 17, 3) := by decide +kernel
theorem dX1_price_19 : decode cX1_price 19 = .ok (.istore 4, 2) := by decide +kernel
theorem dX1_price_21 : decode cX1_price 21 = .ok (.iload 4, 2) := by decide +kernel
theorem dX1_price_23 : decode cX1_price 23 = .ok (.bipush 9, 2) := by decide +kernel
theorem dX1_price_25 : decode cX1_price 25 = .ok (.if_icmp .ne 7, 3) := by decide +kernel
theorem dX1_price_28 : decode cX1_price 28 = .ok (.iconst 1, 1) := by decide +kernel
theorem dX1_price_29 : decode cX1_price 29 = .ok (.goto 5, 3) := by decide +kernel
theorem dX1_price_32 : decode cX1_price 32 = .ok (.iload 4, 2) := by decide +kernel
theorem dX1_price_34 : decode cX1_price 34 = .ok (.ireturn, 1) := by decide +kernel
theorem dX2_init_0 : decode cX2_init 0 = .ok (.aload_n 0, 1) := by decide +kernel
theorem dX2_init_1 : decode cX2_init 1 = .ok (.invokespecial 3, 3) := by decide +kernel
theorem dX2_init_4 : decode cX2_init 4 = .ok (.aload_n 0, 1) := by decide +kernel
theorem dX2_init_5 : decode cX2_init 5 = .ok (.bipush 12, 2) := by decide +kernel
theorem dX2_init_7 : decode cX2_init 7 = .ok (.newarray .int, 2) := by decide +kernel
theorem dX2_init_9 : decode cX2_init 9 = .ok (.putfield 9, 3) := by decide +kernel
theorem dX2_init_12 : decode cX2_init 12 = .ok (.aload_n 0, 1) := by decide +kernel
theorem dX2_init_13 : decode cX2_init 13 = .ok (.bipush 16, 2) := by decide +kernel
theorem dX2_init_15 : decode cX2_init 15 = .ok (.newarray .int, 2) := by decide +kernel
theorem dX2_init_17 : decode cX2_init 17 = .ok (.putfield 15, 3) := by decide +kernel
theorem dX2_init_20 : decode cX2_init 20 = .ok (.aload_n 0, 1) := by decide +kernel
theorem dX2_init_21 : decode cX2_init 21 = .ok (.iconst 0, 1) := by decide +kernel
theorem dX2_init_22 : decode cX2_init 22 = .ok (.putfield 18, 3) := by decide +kernel
theorem dX2_init_25 : decode cX2_init 25 = .ok (.return_, 1) := by decide +kernel
theorem dX2_add_0 : decode cX2_add 0 = .ok (.aload_n 0, 1) := by decide +kernel
theorem dX2_add_1 : decode cX2_add 1 = .ok (.getfield 18, 3) := by decide +kernel
theorem dX2_add_4 : decode cX2_add 4 = .ok (.bipush 12, 2) := by decide +kernel
theorem dX2_add_6 : decode cX2_add 6 = .ok (.if_icmp .lt 5, 3) := by decide +kernel
theorem dX2_add_9 : decode cX2_add 9 = .ok (.iconst 0, 1) := by decide +kernel
theorem dX2_add_10 : decode cX2_add 10 = .ok (.ireturn, 1) := by decide +kernel
theorem dX2_add_11 : decode cX2_add 11 = .ok (.aload_n 0, 1) := by decide +kernel
theorem dX2_add_12 : decode cX2_add 12 = .ok (.getfield 9, 3) := by decide +kernel
theorem dX2_add_15 : decode cX2_add 15 = .ok (.aload_n 0, 1) := by decide +kernel
theorem dX2_add_16 : decode cX2_add 16 = .ok (.getfield 18, 3) := by decide +kernel
theorem dX2_add_19 : decode cX2_add 19 = .ok (.iload_n 1, 1) := by decide +kernel
theorem dX2_add_20 : decode cX2_add 20 = .ok (.iastore, 1) := by decide +kernel
theorem dX2_add_21 : decode cX2_add 21 = .ok (.iconst 0, 1) := by decide +kernel
theorem dX2_add_22 : decode cX2_add 22 = .ok (.istore_n 2, 1) := by decide +kernel
theorem dX2_add_23 : decode cX2_add 23 = .ok (.iload_n 2, 1) := by decide +kernel
theorem dX2_add_24 : decode cX2_add 24 = .ok (.bipush 16, 2) := by decide +kernel
theorem dX2_add_26 : decode cX2_add 26 = .ok (.if_icmp .ge 28, 3) := by decide +kernel
theorem dX2_add_29 : decode cX2_add 29 = .ok (.aload_n 0, 1) := by decide +kernel
theorem dX2_add_30 : decode cX2_add 30 = .ok (.getfield 15, 3) := by decide +kernel
theorem dX2_add_33 : decode cX2_add 33 = .ok (.iload_n 2, 1) := by decide +kernel
theorem dX2_add_34 : decode cX2_add 34 = .ok (.dup2, 1) := by decide +kernel
theorem dX2_add_35 : decode cX2_add 35 = .ok (.iaload, 1) := by decide +kernel
theorem dX2_add_36 : decode cX2_add 36 = .ok (.iload_n 1, 1) := by decide +kernel
theorem dX2_add_37 : decode cX2_add 37 = .ok (.iload_n 2, 1) := by decide +kernel
theorem dX2_add_38 : decode cX2_add 38 = .ok (.ishr, 1) := by decide +kernel
theorem dX2_add_39 : decode cX2_add 39 = .ok (.iconst 1, 1) := by decide +kernel
theorem dX2_add_40 : decode cX2_add 40 = .ok (.iand, 1) := by decide +kernel
theorem dX2_add_41 : decode cX2_add 41 = .ok (.aload_n 0, 1) := by decide +kernel
theorem dX2_add_42 : decode cX2_add 42 = .ok (.getfield 18, 3) := by decide +kernel
theorem dX2_add_45 : decode cX2_add 45 = .ok (.ishl, 1) := by decide +kernel
theorem dX2_add_46 : decode cX2_add 46 = .ok (.ior, 1) := by decide +kernel
theorem dX2_add_47 : decode cX2_add 47 = .ok (.iastore, 1) := by decide +kernel
theorem dX2_add_48 : decode cX2_add 48 = .ok (.iinc 2 1, 3) := by decide +kernel
theorem dX2_add_51 : decode cX2_add 51 = .ok (.goto (-28), 3) := by decide +kernel
theorem dX2_add_54 : decode cX2_add 54 = .ok (.aload_n 0, 1) := by decide +kernel
theorem dX2_add_55 : decode cX2_add 55 = .ok (.dup, 1) := by decide +kernel
theorem dX2_add_56 : decode cX2_add 56 = .ok (.getfield 18, 3) := by decide +kernel
theorem dX2_add_59 : decode cX2_add 59 = .ok (.iconst 1, 1) := by decide +kernel
theorem dX2_add_60 : decode cX2_add 60 = .ok (.iadd, 1) := by decide +kernel
theorem dX2_add_61 : decode cX2_add 61 = .ok (.putfield 18, 3) := by decide +kernel
theorem dX2_add_64 : decode cX2_add 64 = .ok (.iconst 1, 1) := by decide +kernel
theorem dX2_add_65 : decode cX2_add 65 = .ok (.ireturn, 1) := by decide +kernel
theorem dX2_removeLatest_0 : decode cX2_removeLatest 0 = .ok (.aload_n 0, 1) := by decide +kernel
theorem dX2_removeLatest_1 : decode cX2_removeLatest 1 = .ok (.getfield 18, 3) := by decide +kernel
theorem dX2_removeLatest_4 : decode cX2_removeLatest 4 = .ok (.ifCond .gt 5, 3) := by decide +kernel
theorem dX2_removeLatest_7 : decode cX2_removeLatest 7 = .ok (.iconst 0, 1) := by decide +kernel
theorem dX2_removeLatest_8 : decode cX2_removeLatest 8 = .ok (.ireturn, 1) := by decide +kernel
theorem dX2_removeLatest_9 : decode cX2_removeLatest 9 = .ok (.aload_n 0, 1) := by decide +kernel
theorem dX2_removeLatest_10 : decode cX2_removeLatest 10 = .ok (.dup, 1) := by decide +kernel
theorem dX2_removeLatest_11 : decode cX2_removeLatest 11 = .ok (.getfield 18, 3) := by decide +kernel
theorem dX2_removeLatest_14 : decode cX2_removeLatest 14 = .ok (.iconst 1, 1) := by decide +kernel
theorem dX2_removeLatest_15 : decode cX2_removeLatest 15 = .ok (.isub, 1) := by decide +kernel
theorem dX2_removeLatest_16 : decode cX2_removeLatest 16 = .ok (.putfield 18, 3) := by decide +kernel
theorem dX2_removeLatest_19 : decode cX2_removeLatest 19 = .ok (.iconst 0, 1) := by decide +kernel
theorem dX2_removeLatest_20 : decode cX2_removeLatest 20 = .ok (.istore_n 1, 1) := by decide +kernel
theorem dX2_removeLatest_21 : decode cX2_removeLatest 21 = .ok (.iload_n 1, 1) := by decide +kernel
theorem dX2_removeLatest_22 : decode cX2_removeLatest 22 = .ok (.bipush 16, 2) := by decide +kernel
theorem dX2_removeLatest_24 : decode cX2_removeLatest 24 = .ok (.if_icmp .ge 26, 3) := by decide +kernel
theorem dX2_removeLatest_27 : decode cX2_removeLatest 27 = .ok (.aload_n 0, 1) := by decide +kernel
theorem dX2_removeLatest_28 : decode cX2_removeLatest 28 = .ok (.getfield 15, 3) := by decide +kernel
theorem dX2_removeLatest_31 : decode cX2_removeLatest 31 = .ok (.iload_n 1, 1) := by decide +kernel
theorem dX2_removeLatest_32 : decode cX2_removeLatest 32 = .ok (.dup2, 1) := by decide +kernel
theorem dX2_removeLatest_33 : decode cX2_removeLatest 33 = .ok (.iaload, 1) := by decide +kernel
theorem dX2_removeLatest_34 : decode cX2_removeLatest 34 = .ok (.iconst 1, 1) := by decide +kernel
theorem dX2_removeLatest_35 : decode cX2_removeLatest 35 = .ok (.aload_n 0, 1) := by decide +kernel
theorem dX2_removeLatest_36 : decode cX2_removeLatest 36 = .ok (.getfield 18, 3) := by decide +kernel
theorem dX2_removeLatest_39 : decode cX2_removeLatest 39 = .ok (.ishl, 1) := by decide +kernel
theorem dX2_removeLatest_40 : decode cX2_removeLatest 40 = .ok (.iconst 1, 1) := by decide +kernel
theorem dX2_removeLatest_41 : decode cX2_removeLatest 41 = .ok (.isub, 1) := by decide +kernel
theorem dX2_removeLatest_42 : decode cX2_removeLatest 42 = .ok (.iand, 1) := by decide +kernel
theorem dX2_removeLatest_43 : decode cX2_removeLatest 43 = .ok (.iastore, 1) := by decide +kernel
theorem dX2_removeLatest_44 : decode cX2_removeLatest 44 = .ok (.iinc 1 1, 3) := by decide +kernel
theorem dX2_removeLatest_47 : decode cX2_removeLatest 47 = .ok (.goto (-26), 3) := by decide +kernel
theorem dX2_removeLatest_50 : decode cX2_removeLatest 50 = .ok (.iconst 1, 1) := by decide +kernel
theorem dX2_removeLatest_51 : decode cX2_removeLatest 51 = .ok (.ireturn, 1) := by decide +kernel
theorem dX2_question_0 : decode cX2_question 0 = .ok (.iload_n 1, 1) := by decide +kernel
theorem dX2_question_1 : decode cX2_question 1 = .ok (.ifCond .lt 20, 3) := by decide +kernel
theorem dX2_question_4 : decode cX2_question 4 = .ok (.iload_n 1, 1) := by decide +kernel
theorem dX2_question_5 : decode cX2_question 5 = .ok (.aload_n 0, 1) := by decide +kernel
theorem dX2_question_6 : decode cX2_question 6 = .ok (.getfield 18, 3) := by decide +kernel
theorem dX2_question_9 : decode cX2_question 9 = .ok (.if_icmp .ge 12, 3) := by decide +kernel
theorem dX2_question_12 : decode cX2_question 12 = .ok (.aload_n 0, 1) := by decide +kernel
theorem dX2_question_13 : decode cX2_question 13 = .ok (.getfield 9, 3) := by decide +kernel
theorem dX2_question_16 : decode cX2_question 16 = .ok (.iload_n 1, 1) := by decide +kernel
theorem dX2_question_17 : decode cX2_question 17 = .ok (.iaload, 1) := by decide +kernel
theorem dX2_question_18 : decode cX2_question 18 = .ok (.goto 4, 3) := by decide +kernel
theorem dX2_question_21 : decode cX2_question 21 = .ok (.iconst 0, 1) := by decide +kernel
theorem dX2_question_22 : decode cX2_question 22 = .ok (.ireturn, 1) := by decide +kernel
theorem dX2_isWord_0 : decode cX2_isWord 0 = .ok (.iload_n 1, 1) := by decide +kernel
theorem dX2_isWord_1 : decode cX2_isWord 1 = .ok (.ifCond .lt 16, 3) := by decide +kernel
theorem dX2_isWord_4 : decode cX2_isWord 4 = .ok (.iload_n 1, 1) := by decide +kernel
theorem dX2_isWord_5 : decode cX2_isWord 5 = .ok (.aload_n 0, 1) := by decide +kernel
theorem dX2_isWord_6 : decode cX2_isWord 6 = .ok (.getfield 18, 3) := by decide +kernel
theorem dX2_isWord_9 : decode cX2_isWord 9 = .ok (.ishr, 1) := by decide +kernel
theorem dX2_isWord_10 : decode cX2_isWord 10 = .ok (.ifCond .ne 7, 3) := by decide +kernel
theorem dX2_isWord_13 : decode cX2_isWord 13 = .ok (.iconst 1, 1) := by decide +kernel
theorem dX2_isWord_14 : decode cX2_isWord 14 = .ok (.goto 4, 3) := by decide +kernel
theorem dX2_isWord_17 : decode cX2_isWord 17 = .ok (.iconst 0, 1) := by decide +kernel
theorem dX2_isWord_18 : decode cX2_isWord 18 = .ok (.ireturn, 1) := by decide +kernel
theorem dX2_wordOf_0 : decode cX2_wordOf 0 = .ok (.iload_n 1, 1) := by decide +kernel
theorem dX2_wordOf_1 : decode cX2_wordOf 1 = .ok (.ifCond .lt 18, 3) := by decide +kernel
theorem dX2_wordOf_4 : decode cX2_wordOf 4 = .ok (.iload_n 1, 1) := by decide +kernel
theorem dX2_wordOf_5 : decode cX2_wordOf 5 = .ok (.bipush 16, 2) := by decide +kernel
theorem dX2_wordOf_7 : decode cX2_wordOf 7 = .ok (.if_icmp .ge 12, 3) := by decide +kernel
theorem dX2_wordOf_10 : decode cX2_wordOf 10 = .ok (.aload_n 0, 1) := by decide +kernel
theorem dX2_wordOf_11 : decode cX2_wordOf 11 = .ok (.getfield 15, 3) := by decide +kernel
theorem dX2_wordOf_14 : decode cX2_wordOf 14 = .ok (.iload_n 1, 1) := by decide +kernel
theorem dX2_wordOf_15 : decode cX2_wordOf 15 = .ok (.iaload, 1) := by decide +kernel
theorem dX2_wordOf_16 : decode cX2_wordOf 16 = .ok (.goto 4, 3) := by decide +kernel
theorem dX2_wordOf_19 : decode cX2_wordOf 19 = .ok (.iconst 0, 1) := by decide +kernel
theorem dX2_wordOf_20 : decode cX2_wordOf 20 = .ok (.ireturn, 1) := by decide +kernel
theorem dX2_allApart_0 : decode cX2_allApart 0 = .ok (.iconst 0, 1) := by decide +kernel
theorem dX2_allApart_1 : decode cX2_allApart 1 = .ok (.istore_n 3, 1) := by decide +kernel
theorem dX2_allApart_2 : decode cX2_allApart 2 = .ok (.iload_n 3, 1) := by decide +kernel
theorem dX2_allApart_3 : decode cX2_allApart 3 = .ok (.iload_n 1, 1) := by decide +kernel
theorem dX2_allApart_4 : decode cX2_allApart 4 = .ok (.if_icmp .ge 49, 3) := by decide +kernel
theorem dX2_allApart_7 : decode cX2_allApart 7 = .ok (.aload_n 0, 1) := by decide +kernel
theorem dX2_allApart_8 : decode cX2_allApart 8 = .ok (.iload_n 3, 1) := by decide +kernel
theorem dX2_allApart_9 : decode cX2_allApart 9 = .ok (.invokevirtual 22, 3) := by decide +kernel
theorem dX2_allApart_12 : decode cX2_allApart 12 = .ok (.istore 4, 2) := by decide +kernel
theorem dX2_allApart_14 : decode cX2_allApart 14 = .ok (.iconst 0, 1) := by decide +kernel
theorem dX2_allApart_15 : decode cX2_allApart 15 = .ok (.istore 5, 2) := by decide +kernel
theorem dX2_allApart_17 : decode cX2_allApart 17 = .ok (.iload 5, 2) := by decide +kernel
theorem dX2_allApart_19 : decode cX2_allApart 19 = .ok (.iload_n 3, 1) := by decide +kernel
theorem dX2_allApart_20 : decode cX2_allApart 20 = .ok (.if_icmp .ge 27, 3) := by decide +kernel
theorem dX2_allApart_23 : decode cX2_allApart 23 = .ok (.iload 4, 2) := by decide +kernel
theorem dX2_allApart_25 : decode cX2_allApart 25 = .ok (.aload_n 0, 1) := by decide +kernel
theorem dX2_allApart_26 : decode cX2_allApart 26 = .ok (.iload 5, 2) := by decide +kernel
theorem dX2_allApart_28 : decode cX2_allApart 28 = .ok (.invokevirtual 22, 3) := by decide +kernel
theorem dX2_allApart_31 : decode cX2_allApart 31 = .ok (.ixor, 1) := by decide +kernel
theorem dX2_allApart_32 : decode cX2_allApart 32 = .ok (.invokestatic 26, 3) := by decide +kernel
theorem dX2_allApart_35 : decode cX2_allApart 35 = .ok (.iload_n 2, 1) := by decide +kernel
theorem dX2_allApart_36 : decode cX2_allApart 36 = .ok (.if_icmp .gt 5, 3) := by decide +kernel
theorem dX2_allApart_39 : decode cX2_allApart 39 = .ok (.iconst 0, 1) := by decide +kernel
theorem dX2_allApart_40 : decode cX2_allApart 40 = .ok (.ireturn, 1) := by decide +kernel
theorem dX2_allApart_41 : decode cX2_allApart 41 = .ok (.iinc 5 1, 3) := by decide +kernel
theorem dX2_allApart_44 : decode cX2_allApart 44 = .ok (.goto (-27), 3) := by decide +kernel
theorem dX2_allApart_47 : decode cX2_allApart 47 = .ok (.iinc 3 1, 3) := by decide +kernel
theorem dX2_allApart_50 : decode cX2_allApart 50 = .ok (.goto (-48), 3) := by decide +kernel
theorem dX2_allApart_53 : decode cX2_allApart 53 = .ok (.iconst 1, 1) := by decide +kernel
theorem dX2_allApart_54 : decode cX2_allApart 54 = .ok (.ireturn, 1) := by decide +kernel
theorem dX2_onlyNear_0 : decode cX2_onlyNear 0 = .ok (.bipush (-9), 2) := by decide +kernel
theorem dX2_onlyNear_2 : decode cX2_onlyNear 2 = .ok (.istore 4, 2) := by decide +kernel
theorem dX2_onlyNear_4 : decode cX2_onlyNear 4 = .ok (.iconst 0, 1) := by decide +kernel
theorem dX2_onlyNear_5 : decode cX2_onlyNear 5 = .ok (.istore 5, 2) := by decide +kernel
theorem dX2_onlyNear_7 : decode cX2_onlyNear 7 = .ok (.iload 5, 2) := by decide +kernel
theorem dX2_onlyNear_9 : decode cX2_onlyNear 9 = .ok (.iload_n 2, 1) := by decide +kernel
theorem dX2_onlyNear_10 : decode cX2_onlyNear 10 = .ok (.if_icmp .ge 38, 3) := by decide +kernel
theorem dX2_onlyNear_13 : decode cX2_onlyNear 13 = .ok (.iload_n 1, 1) := by decide +kernel
theorem dX2_onlyNear_14 : decode cX2_onlyNear 14 = .ok (.aload_n 0, 1) := by decide +kernel
theorem dX2_onlyNear_15 : decode cX2_onlyNear 15 = .ok (.iload 5, 2) := by decide +kernel
theorem dX2_onlyNear_17 : decode cX2_onlyNear 17 = .ok (.invokevirtual 22, 3) := by decide +kernel
theorem dX2_onlyNear_20 : decode cX2_onlyNear 20 = .ok (.ixor, 1) := by decide +kernel
theorem dX2_onlyNear_21 : decode cX2_onlyNear 21 = .ok (.invokestatic 26, 3) := by decide +kernel
theorem dX2_onlyNear_24 : decode cX2_onlyNear 24 = .ok (.iload_n 3, 1) := by decide +kernel
theorem dX2_onlyNear_25 : decode cX2_onlyNear 25 = .ok (.if_icmp .gt 17, 3) := by decide +kernel
theorem dX2_onlyNear_28 : decode cX2_onlyNear 28 = .ok (.iload 4, 2) := by decide +kernel
theorem dX2_onlyNear_30 : decode cX2_onlyNear 30 = .ok (.bipush (-9), 2) := by decide +kernel
theorem dX2_onlyNear_32 : decode cX2_onlyNear 32 = .ok (.if_icmp .eq 6, 3) := by decide +kernel
theorem dX2_onlyNear_35 : decode cX2_onlyNear 35 = .ok (.bipush (-9), 2) := by decide +kernel
theorem dX2_onlyNear_37 : decode cX2_onlyNear 37 = .ok (.ireturn, 1) := by decide +kernel
theorem dX2_onlyNear_38 : decode cX2_onlyNear 38 = .ok (.iload 5, 2) := by decide +kernel
theorem dX2_onlyNear_40 : decode cX2_onlyNear 40 = .ok (.istore 4, 2) := by decide +kernel
theorem dX2_onlyNear_42 : decode cX2_onlyNear 42 = .ok (.iinc 5 1, 3) := by decide +kernel
theorem dX2_onlyNear_45 : decode cX2_onlyNear 45 = .ok (.goto (-38), 3) := by decide +kernel
theorem dX2_onlyNear_48 : decode cX2_onlyNear 48 = .ok (.iload 4, 2) := by decide +kernel
theorem dX2_onlyNear_50 : decode cX2_onlyNear 50 = .ok (.ireturn, 1) := by decide +kernel
theorem dX3_init_0 : decode cX3_init 0 = .ok (.aload_n 0, 1) := by decide +kernel
theorem dX3_init_1 : decode cX3_init 1 = .ok (.invokespecial 3, 3) := by decide +kernel
theorem dX3_init_4 : decode cX3_init 4 = .ok (.aload_n 0, 1) := by decide +kernel
theorem dX3_init_5 : decode cX3_init 5 = .ok (.iconst 0, 1) := by decide +kernel
theorem dX3_init_6 : decode cX3_init 6 = .ok (.putfield 9, 3) := by decide +kernel
theorem dX3_init_9 : decode cX3_init 9 = .ok (.aload_n 0, 1) := by decide +kernel
theorem dX3_init_10 : decode cX3_init 10 = .ok (.iconst 0, 1) := by decide +kernel
theorem dX3_init_11 : decode cX3_init 11 = .ok (.putfield 15, 3) := by decide +kernel
theorem dX3_init_14 : decode cX3_init 14 = .ok (.aload_n 0, 1) := by decide +kernel
theorem dX3_init_15 : decode cX3_init 15 = .ok (.iconst 0, 1) := by decide +kernel
theorem dX3_init_16 : decode cX3_init 16 = .ok (.putfield 19, 3) := by decide +kernel
theorem dX3_init_19 : decode cX3_init 19 = .ok (.aload_n 0, 1) := by decide +kernel
theorem dX3_init_20 : decode cX3_init 20 = .ok (.iconst 0, 1) := by decide +kernel
theorem dX3_init_21 : decode cX3_init 21 = .ok (.putfield 22, 3) := by decide +kernel
theorem dX3_init_24 : decode cX3_init 24 = .ok (.aload_n 0, 1) := by decide +kernel
theorem dX3_init_25 : decode cX3_init 25 = .ok (.iconst 0, 1) := by decide +kernel
theorem dX3_init_26 : decode cX3_init 26 = .ok (.putfield 25, 3) := by decide +kernel
theorem dX3_init_29 : decode cX3_init 29 = .ok (.aload_n 0, 1) := by decide +kernel
theorem dX3_init_30 : decode cX3_init 30 = .ok (.iconst (-1), 1) := by decide +kernel
theorem dX3_init_31 : decode cX3_init 31 = .ok (.putfield 28, 3) := by decide +kernel
theorem dX3_init_34 : decode cX3_init 34 = .ok (.aload_n 0, 1) := by decide +kernel
theorem dX3_init_35 : decode cX3_init 35 = .ok (.iconst 0, 1) := by decide +kernel
theorem dX3_init_36 : decode cX3_init 36 = .ok (.putfield 31, 3) := by decide +kernel
theorem dX3_init_39 : decode cX3_init 39 = .ok (.aload_n 0, 1) := by decide +kernel
theorem dX3_init_40 : decode cX3_init 40 = .ok (.iconst 0, 1) := by decide +kernel
theorem dX3_init_41 : decode cX3_init 41 = .ok (.putfield 34, 3) := by decide +kernel
theorem dX3_init_44 : decode cX3_init 44 = .ok (.aload_n 0, 1) := by decide +kernel
theorem dX3_init_45 : decode cX3_init 45 = .ok (.sipush 992, 3) := by decide +kernel
theorem dX3_init_48 : decode cX3_init 48 = .ok (.newarray .int, 2) := by decide +kernel
theorem dX3_init_50 : decode cX3_init 50 = .ok (.putfield 37, 3) := by decide +kernel
theorem dX3_init_53 : decode cX3_init 53 = .ok (.return_, 1) := by decide +kernel
theorem dX3_start_0 : decode cX3_start 0 = .ok (.aload_n 0, 1) := by decide +kernel
theorem dX3_start_1 : decode cX3_start 1 = .ok (.iconst 1, 1) := by decide +kernel
theorem dX3_start_2 : decode cX3_start 2 = .ok (.putfield 9, 3) := by decide +kernel
theorem dX3_start_5 : decode cX3_start 5 = .ok (.aload_n 0, 1) := by decide +kernel
theorem dX3_start_6 : decode cX3_start 6 = .ok (.iload_n 1, 1) := by decide +kernel
theorem dX3_start_7 : decode cX3_start 7 = .ok (.putfield 15, 3) := by decide +kernel
theorem dX3_start_10 : decode cX3_start 10 = .ok (.aload_n 0, 1) := by decide +kernel
theorem dX3_start_11 : decode cX3_start 11 = .ok (.iconst 1, 1) := by decide +kernel
theorem dX3_start_12 : decode cX3_start 12 = .ok (.iload_n 2, 1) := by decide +kernel
theorem dX3_start_13 : decode cX3_start 13 = .ok (.bipush 16, 2) := by decide +kernel
theorem dX3_start_15 : decode cX3_start 15 = .ok (.invokestatic 41, 3) := by decide +kernel
theorem dX3_start_18 : decode cX3_start 18 = .ok (.invokestatic 47, 3) := by decide +kernel
theorem dX3_start_21 : decode cX3_start 21 = .ok (.putfield 19, 3) := by decide +kernel
theorem dX3_start_24 : decode cX3_start 24 = .ok (.aload_n 0, 1) := by decide +kernel
theorem dX3_start_25 : decode cX3_start 25 = .ok (.iload_n 3, 1) := by decide +kernel
theorem dX3_start_26 : decode cX3_start 26 = .ok (.putfield 22, 3) := by decide +kernel
theorem dX3_start_29 : decode cX3_start 29 = .ok (.aload_n 0, 1) := by decide +kernel
theorem dX3_start_30 : decode cX3_start 30 = .ok (.iconst 0, 1) := by decide +kernel
theorem dX3_start_31 : decode cX3_start 31 = .ok (.putfield 25, 3) := by decide +kernel
theorem dX3_start_34 : decode cX3_start 34 = .ok (.aload_n 0, 1) := by decide +kernel
theorem dX3_start_35 : decode cX3_start 35 = .ok (.iconst (-1), 1) := by decide +kernel
theorem dX3_start_36 : decode cX3_start 36 = .ok (.putfield 28, 3) := by decide +kernel
theorem dX3_start_39 : decode cX3_start 39 = .ok (.aload_n 0, 1) := by decide +kernel
theorem dX3_start_40 : decode cX3_start 40 = .ok (.iload 4, 2) := by decide +kernel
theorem dX3_start_42 : decode cX3_start 42 = .ok (.putfield 31, 3) := by decide +kernel
theorem dX3_start_45 : decode cX3_start 45 = .ok (.aload_n 0, 1) := by decide +kernel
theorem dX3_start_46 : decode cX3_start 46 = .ok (.iload 5, 2) := by decide +kernel
theorem dX3_start_48 : decode cX3_start 48 = .ok (.putfield 34, 3) := by decide +kernel
theorem dX3_start_51 : decode cX3_start 51 = .ok (.iconst 0, 1) := by decide +kernel
theorem dX3_start_52 : decode cX3_start 52 = .ok (.istore 6, 2) := by decide +kernel
theorem dX3_start_54 : decode cX3_start 54 = .ok (.iload 6, 2) := by decide +kernel
theorem dX3_start_56 : decode cX3_start 56 = .ok (.aload_n 0, 1) := by decide +kernel
theorem dX3_start_57 : decode cX3_start 57 = .ok (.getfield 19, 3) := by decide +kernel
theorem dX3_start_60 : decode cX3_start 60 = .ok (.if_icmp .ge 17, 3) := by decide +kernel
theorem dX3_start_63 : decode cX3_start 63 = .ok (.aload_n 0, 1) := by decide +kernel
theorem dX3_start_64 : decode cX3_start 64 = .ok (.getfield 37, 3) := by decide +kernel
theorem dX3_start_67 : decode cX3_start 67 = .ok (.iload 6, 2) := by decide +kernel
theorem dX3_start_69 : decode cX3_start 69 = .ok (.iload_n 3, 1) := by decide +kernel
theorem dX3_start_70 : decode cX3_start 70 = .ok (.iastore, 1) := by decide +kernel
theorem dX3_start_71 : decode cX3_start 71 = .ok (.iinc 6 1, 3) := by decide +kernel
theorem dX3_start_74 : decode cX3_start 74 = .ok (.goto (-20), 3) := by decide +kernel
theorem dX3_start_77 : decode cX3_start 77 = .ok (.return_, 1) := by decide +kernel
theorem dX3_row_0 : decode cX3_row 0 = .ok (.aload_n 0, 1) := by decide +kernel
theorem dX3_row_1 : decode cX3_row 1 = .ok (.getfield 25, 3) := by decide +kernel
theorem dX3_row_4 : decode cX3_row 4 = .ok (.bipush 16, 2) := by decide +kernel
theorem dX3_row_6 : decode cX3_row 6 = .ok (.imul, 1) := by decide +kernel
theorem dX3_row_7 : decode cX3_row 7 = .ok (.ireturn, 1) := by decide +kernel
theorem dX3_rowBehind_0 : decode cX3_rowBehind 0 = .ok (.aload_n 0, 1) := by decide +kernel
theorem dX3_rowBehind_1 : decode cX3_rowBehind 1 = .ok (.invokevirtual 50, 3) := by decide +kernel
theorem dX3_rowBehind_4 : decode cX3_rowBehind 4 = .ok (.bipush 16, 2) := by decide +kernel
theorem dX3_rowBehind_6 : decode cX3_rowBehind 6 = .ok (.iadd, 1) := by decide +kernel
theorem dX3_rowBehind_7 : decode cX3_rowBehind 7 = .ok (.ireturn, 1) := by decide +kernel
theorem dX3_within_0 : decode cX3_within 0 = .ok (.iload_n 1, 1) := by decide +kernel
theorem dX3_within_1 : decode cX3_within 1 = .ok (.iconst 1, 1) := by decide +kernel
theorem dX3_within_2 : decode cX3_within 2 = .ok (.aload_n 0, 1) := by decide +kernel
theorem dX3_within_3 : decode cX3_within 3 = .ok (.getfield 19, 3) := by decide +kernel
theorem dX3_within_6 : decode cX3_within 6 = .ok (.ishl, 1) := by decide +kernel
theorem dX3_within_7 : decode cX3_within 7 = .ok (.iconst 1, 1) := by decide +kernel
theorem dX3_within_8 : decode cX3_within 8 = .ok (.isub, 1) := by decide +kernel
theorem dX3_within_9 : decode cX3_within 9 = .ok (.iand, 1) := by decide +kernel
theorem dX3_within_10 : decode cX3_within 10 = .ok (.ireturn, 1) := by decide +kernel
theorem dX3_leftOf_0 : decode cX3_leftOf 0 = .ok (.iload_n 1, 1) := by decide +kernel
theorem dX3_leftOf_1 : decode cX3_leftOf 1 = .ok (.ifCond .lt 25, 3) := by decide +kernel
theorem dX3_leftOf_4 : decode cX3_leftOf 4 = .ok (.iload_n 1, 1) := by decide +kernel
theorem dX3_leftOf_5 : decode cX3_leftOf 5 = .ok (.aload_n 0, 1) := by decide +kernel
theorem dX3_leftOf_6 : decode cX3_leftOf 6 = .ok (.getfield 19, 3) := by decide +kernel
theorem dX3_leftOf_9 : decode cX3_leftOf 9 = .ok (.if_icmp .ge 17, 3) := by decide +kernel
theorem dX3_leftOf_12 : decode cX3_leftOf 12 = .ok (.aload_n 0, 1) := by decide +kernel
theorem dX3_leftOf_13 : decode cX3_leftOf 13 = .ok (.getfield 37, 3) := by decide +kernel
theorem dX3_leftOf_16 : decode cX3_leftOf 16 = .ok (.aload_n 0, 1) := by decide +kernel
theorem dX3_leftOf_17 : decode cX3_leftOf 17 = .ok (.invokevirtual 50, 3) := by decide +kernel
theorem dX3_leftOf_20 : decode cX3_leftOf 20 = .ok (.iload_n 1, 1) := by decide +kernel
theorem dX3_leftOf_21 : decode cX3_leftOf 21 = .ok (.iadd, 1) := by decide +kernel
theorem dX3_leftOf_22 : decode cX3_leftOf 22 = .ok (.iaload, 1) := by decide +kernel
theorem dX3_leftOf_23 : decode cX3_leftOf 23 = .ok (.goto 4, 3) := by decide +kernel
theorem dX3_leftOf_26 : decode cX3_leftOf 26 = .ok (.iconst (-1), 1) := by decide +kernel
theorem dX3_leftOf_27 : decode cX3_leftOf 27 = .ok (.ireturn, 1) := by decide +kernel
theorem dX3_countOf_0 : decode cX3_countOf 0 = .ok (.iconst 0, 1) := by decide +kernel
theorem dX3_countOf_1 : decode cX3_countOf 1 = .ok (.istore_n 2, 1) := by decide +kernel
theorem dX3_countOf_2 : decode cX3_countOf 2 = .ok (.iconst 0, 1) := by decide +kernel
theorem dX3_countOf_3 : decode cX3_countOf 3 = .ok (.istore_n 3, 1) := by decide +kernel
theorem dX3_countOf_4 : decode cX3_countOf 4 = .ok (.iload_n 3, 1) := by decide +kernel
theorem dX3_countOf_5 : decode cX3_countOf 5 = .ok (.aload_n 0, 1) := by decide +kernel
theorem dX3_countOf_6 : decode cX3_countOf 6 = .ok (.getfield 19, 3) := by decide +kernel
theorem dX3_countOf_9 : decode cX3_countOf 9 = .ok (.if_icmp .ge 21, 3) := by decide +kernel
theorem dX3_countOf_12 : decode cX3_countOf 12 = .ok (.aload_n 0, 1) := by decide +kernel
theorem dX3_countOf_13 : decode cX3_countOf 13 = .ok (.iload_n 3, 1) := by decide +kernel
theorem dX3_countOf_14 : decode cX3_countOf 14 = .ok (.invokevirtual 54, 3) := by decide +kernel
theorem dX3_countOf_17 : decode cX3_countOf 17 = .ok (.iload_n 1, 1) := by decide +kernel
theorem dX3_countOf_18 : decode cX3_countOf 18 = .ok (.if_icmp .ne 6, 3) := by decide +kernel
theorem dX3_countOf_21 : decode cX3_countOf 21 = .ok (.iinc 2 1, 3) := by decide +kernel
theorem dX3_countOf_24 : decode cX3_countOf 24 = .ok (.iinc 3 1, 3) := by decide +kernel
theorem dX3_countOf_27 : decode cX3_countOf 27 = .ok (.goto (-23), 3) := by decide +kernel
theorem dX3_countOf_30 : decode cX3_countOf 30 = .ok (.iload_n 2, 1) := by decide +kernel
theorem dX3_countOf_31 : decode cX3_countOf 31 = .ok (.ireturn, 1) := by decide +kernel
theorem dX3_standingIn_0 : decode cX3_standingIn 0 = .ok (.iconst 0, 1) := by decide +kernel
theorem dX3_standingIn_1 : decode cX3_standingIn 1 = .ok (.istore_n 2, 1) := by decide +kernel
theorem dX3_standingIn_2 : decode cX3_standingIn 2 = .ok (.iconst 0, 1) := by decide +kernel
theorem dX3_standingIn_3 : decode cX3_standingIn 3 = .ok (.istore_n 3, 1) := by decide +kernel
theorem dX3_standingIn_4 : decode cX3_standingIn 4 = .ok (.iload_n 3, 1) := by decide +kernel
theorem dX3_standingIn_5 : decode cX3_standingIn 5 = .ok (.aload_n 0, 1) := by decide +kernel
theorem dX3_standingIn_6 : decode cX3_standingIn 6 = .ok (.getfield 19, 3) := by decide +kernel
theorem dX3_standingIn_9 : decode cX3_standingIn 9 = .ok (.if_icmp .ge 30, 3) := by decide +kernel
theorem dX3_standingIn_12 : decode cX3_standingIn 12 = .ok (.iload_n 1, 1) := by decide +kernel
theorem dX3_standingIn_13 : decode cX3_standingIn 13 = .ok (.iload_n 3, 1) := by decide +kernel
theorem dX3_standingIn_14 : decode cX3_standingIn 14 = .ok (.ishr, 1) := by decide +kernel
theorem dX3_standingIn_15 : decode cX3_standingIn 15 = .ok (.iconst 1, 1) := by decide +kernel
theorem dX3_standingIn_16 : decode cX3_standingIn 16 = .ok (.iand, 1) := by decide +kernel
theorem dX3_standingIn_17 : decode cX3_standingIn 17 = .ok (.iconst 1, 1) := by decide +kernel
theorem dX3_standingIn_18 : decode cX3_standingIn 18 = .ok (.if_icmp .ne 15, 3) := by decide +kernel
theorem dX3_standingIn_21 : decode cX3_standingIn 21 = .ok (.aload_n 0, 1) := by decide +kernel
theorem dX3_standingIn_22 : decode cX3_standingIn 22 = .ok (.iload_n 3, 1) := by decide +kernel
theorem dX3_standingIn_23 : decode cX3_standingIn 23 = .ok (.invokevirtual 54, 3) := by decide +kernel
theorem dX3_standingIn_26 : decode cX3_standingIn 26 = .ok (.iconst (-1), 1) := by decide +kernel
theorem dX3_standingIn_27 : decode cX3_standingIn 27 = .ok (.if_icmp .eq 6, 3) := by decide +kernel
theorem dX3_standingIn_30 : decode cX3_standingIn 30 = .ok (.iinc 2 1, 3) := by decide +kernel
theorem dX3_standingIn_33 : decode cX3_standingIn 33 = .ok (.iinc 3 1, 3) := by decide +kernel
theorem dX3_standingIn_36 : decode cX3_standingIn 36 = .ok (.goto (-32), 3) := by decide +kernel
theorem dX3_standingIn_39 : decode cX3_standingIn 39 = .ok (.iload_n 2, 1) := by decide +kernel
theorem dX3_standingIn_40 : decode cX3_standingIn 40 = .ok (.ireturn, 1) := by decide +kernel
theorem dX3_waitFor_0 : decode cX3_waitFor 0 = .ok (.aload_n 0, 1) := by decide +kernel
theorem dX3_waitFor_1 : decode cX3_waitFor 1 = .ok (.iload_n 1, 1) := by decide +kernel
theorem dX3_waitFor_2 : decode cX3_waitFor 2 = .ok (.putfield 28, 3) := by decide +kernel
theorem dX3_waitFor_5 : decode cX3_waitFor 5 = .ok (.return_, 1) := by decide +kernel
theorem dX3_reply_0 : decode cX3_reply 0 = .ok (.aload_n 0, 1) := by decide +kernel
theorem dX3_reply_1 : decode cX3_reply 1 = .ok (.iload_n 1, 1) := by decide +kernel
theorem dX3_reply_2 : decode cX3_reply 2 = .ok (.iload_n 2, 1) := by decide +kernel
theorem dX3_reply_3 : decode cX3_reply 3 = .ok (.invokevirtual 58, 3) := by decide +kernel
theorem dX3_reply_6 : decode cX3_reply 6 = .ok (.istore_n 3, 1) := by decide +kernel
theorem dX3_reply_7 : decode cX3_reply 7 = .ok (.iload_n 3, 1) := by decide +kernel
theorem dX3_reply_8 : decode cX3_reply 8 = .ok (.ifCond .ne 6, 3) := by decide +kernel
theorem dX3_reply_11 : decode cX3_reply 11 = .ok (.bipush (-2), 2) := by decide +kernel
theorem dX3_reply_13 : decode cX3_reply 13 = .ok (.ireturn, 1) := by decide +kernel
theorem dX3_reply_14 : decode cX3_reply 14 = .ok (.aload_n 0, 1) := by decide +kernel
theorem dX3_reply_15 : decode cX3_reply 15 = .ok (.getfield 25, 3) := by decide +kernel
theorem dX3_reply_18 : decode cX3_reply 18 = .ok (.bipush 60, 2) := by decide +kernel
theorem dX3_reply_20 : decode cX3_reply 20 = .ok (.if_icmp .lt 6, 3) := by decide +kernel
theorem dX3_reply_23 : decode cX3_reply 23 = .ok (.bipush (-3), 2) := by decide +kernel
theorem dX3_reply_25 : decode cX3_reply 25 = .ok (.ireturn, 1) := by decide +kernel
theorem dX3_reply_26 : decode cX3_reply 26 = .ok (.aload_n 0, 1) := by decide +kernel
theorem dX3_reply_27 : decode cX3_reply 27 = .ok (.dup, 1) := by decide +kernel
theorem dX3_reply_28 : decode cX3_reply 28 = .ok (.getfield 25, 3) := by decide +kernel
theorem dX3_reply_31 : decode cX3_reply 31 = .ok (.iconst 1, 1) := by decide +kernel
theorem dX3_reply_32 : decode cX3_reply 32 = .ok (.iadd, 1) := by decide +kernel
theorem dX3_reply_33 : decode cX3_reply 33 = .ok (.putfield 25, 3) := by decide +kernel
theorem dX3_reply_36 : decode cX3_reply 36 = .ok (.aload_n 0, 1) := by decide +kernel
theorem dX3_reply_37 : decode cX3_reply 37 = .ok (.iconst (-1), 1) := by decide +kernel
theorem dX3_reply_38 : decode cX3_reply 38 = .ok (.putfield 28, 3) := by decide +kernel
theorem dX3_reply_41 : decode cX3_reply 41 = .ok (.iload_n 3, 1) := by decide +kernel
theorem dX3_reply_42 : decode cX3_reply 42 = .ok (.ireturn, 1) := by decide +kernel
theorem dX3_forgetLatest_0 : decode cX3_forgetLatest 0 = .ok (.aload_n 0, 1) := by decide +kernel
theorem dX3_forgetLatest_1 : decode cX3_forgetLatest 1 = .ok (.iconst 0, 1) := by decide +kernel
theorem dX3_forgetLatest_2 : decode cX3_forgetLatest 2 = .ok (.aload_n 0, 1) := by decide +kernel
theorem dX3_forgetLatest_3 : decode cX3_forgetLatest 3 = .ok (.getfield 25, 3) := by decide +kernel
theorem dX3_forgetLatest_6 : decode cX3_forgetLatest 6 = .ok (.iconst 1, 1) := by decide +kernel
theorem dX3_forgetLatest_7 : decode cX3_forgetLatest 7 = .ok (.isub, 1) := by decide +kernel
theorem dX3_forgetLatest_8 : decode cX3_forgetLatest 8 = .ok (.invokestatic 47, 3) := by decide +kernel
theorem dX3_forgetLatest_11 : decode cX3_forgetLatest 11 = .ok (.putfield 25, 3) := by decide +kernel
theorem dX3_forgetLatest_14 : decode cX3_forgetLatest 14 = .ok (.aload_n 0, 1) := by decide +kernel
theorem dX3_forgetLatest_15 : decode cX3_forgetLatest 15 = .ok (.iconst (-1), 1) := by decide +kernel
theorem dX3_forgetLatest_16 : decode cX3_forgetLatest 16 = .ok (.putfield 28, 3) := by decide +kernel
theorem dX3_forgetLatest_19 : decode cX3_forgetLatest 19 = .ok (.return_, 1) := by decide +kernel
theorem dX3_layBehind_0 : decode cX3_layBehind 0 = .ok (.aload_n 0, 1) := by decide +kernel
theorem dX3_layBehind_1 : decode cX3_layBehind 1 = .ok (.invokevirtual 62, 3) := by decide +kernel
theorem dX3_layBehind_4 : decode cX3_layBehind 4 = .ok (.istore_n 3, 1) := by decide +kernel
theorem dX3_layBehind_5 : decode cX3_layBehind 5 = .ok (.iconst 0, 1) := by decide +kernel
theorem dX3_layBehind_6 : decode cX3_layBehind 6 = .ok (.istore 4, 2) := by decide +kernel
theorem dX3_layBehind_8 : decode cX3_layBehind 8 = .ok (.iconst 0, 1) := by decide +kernel
theorem dX3_layBehind_9 : decode cX3_layBehind 9 = .ok (.istore 5, 2) := by decide +kernel
theorem dX3_layBehind_11 : decode cX3_layBehind 11 = .ok (.iload 5, 2) := by decide +kernel
theorem dX3_layBehind_13 : decode cX3_layBehind 13 = .ok (.aload_n 0, 1) := by decide +kernel
theorem dX3_layBehind_14 : decode cX3_layBehind 14 = .ok (.getfield 19, 3) := by decide +kernel
theorem dX3_layBehind_17 : decode cX3_layBehind 17 = .ok (.if_icmp .ge 62, 3) := by decide +kernel
theorem dX3_layBehind_20 : decode cX3_layBehind 20 = .ok (.iconst (-1), 1) := by decide +kernel
theorem dX3_layBehind_21 : decode cX3_layBehind 21 = .ok (.aload_n 0, 1) := by decide +kernel
theorem dX3_layBehind_22 : decode cX3_layBehind 22 = .ok (.iload 5, 2) := by decide +kernel
theorem dX3_layBehind_24 : decode cX3_layBehind 24 = .ok (.invokevirtual 54, 3) := by decide +kernel
theorem dX3_layBehind_27 : decode cX3_layBehind 27 = .ok (.aload_n 0, 1) := by decide +kernel
theorem dX3_layBehind_28 : decode cX3_layBehind 28 = .ok (.iload_n 1, 1) := by decide +kernel
theorem dX3_layBehind_29 : decode cX3_layBehind 29 = .ok (.iload 5, 2) := by decide +kernel
theorem dX3_layBehind_31 : decode cX3_layBehind 31 = .ok (.ishr, 1) := by decide +kernel
theorem dX3_layBehind_32 : decode cX3_layBehind 32 = .ok (.iconst 1, 1) := by decide +kernel
theorem dX3_layBehind_33 : decode cX3_layBehind 33 = .ok (.iand, 1) := by decide +kernel
theorem dX3_layBehind_34 : decode cX3_layBehind 34 = .ok (.iconst 1, 1) := by decide +kernel
theorem dX3_layBehind_35 : decode cX3_layBehind 35 = .ok (.if_icmp .ne 7, 3) := by decide +kernel
theorem dX3_layBehind_38 : decode cX3_layBehind 38 = .ok (.iconst 1, 1) := by decide +kernel
theorem dX3_layBehind_39 : decode cX3_layBehind 39 = .ok (.goto 4, 3) := by decide +kernel
theorem dX3_layBehind_42 : decode cX3_layBehind 42 = .ok (.iconst 0, 1) := by decide +kernel
theorem dX3_layBehind_43 : decode cX3_layBehind 43 = .ok (.iload_n 2, 1) := by decide +kernel
theorem dX3_layBehind_44 : decode cX3_layBehind 44 = .ok (.invokevirtual 65, 3) := by decide +kernel
theorem dX3_layBehind_47 : decode cX3_layBehind 47 = .ok (.isub, 1) := by decide +kernel
theorem dX3_layBehind_48 : decode cX3_layBehind 48 = .ok (.invokestatic 47, 3) := by decide +kernel
theorem dX3_layBehind_51 : decode cX3_layBehind 51 = .ok (.istore 6, 2) := by decide +kernel
theorem dX3_layBehind_53 : decode cX3_layBehind 53 = .ok (.aload_n 0, 1) := by decide +kernel
theorem dX3_layBehind_54 : decode cX3_layBehind 54 = .ok (.getfield 37, 3) := by decide +kernel
theorem dX3_layBehind_57 : decode cX3_layBehind 57 = .ok (.iload_n 3, 1) := by decide +kernel
theorem dX3_layBehind_58 : decode cX3_layBehind 58 = .ok (.iload 5, 2) := by decide +kernel
theorem dX3_layBehind_60 : decode cX3_layBehind 60 = .ok (.iadd, 1) := by decide +kernel
theorem dX3_layBehind_61 : decode cX3_layBehind 61 = .ok (.iload 6, 2) := by decide +kernel
theorem dX3_layBehind_63 : decode cX3_layBehind 63 = .ok (.iastore, 1) := by decide +kernel
theorem dX3_layBehind_64 : decode cX3_layBehind 64 = .ok (.iload 6, 2) := by decide +kernel
theorem dX3_layBehind_66 : decode cX3_layBehind 66 = .ok (.iconst (-1), 1) := by decide +kernel
theorem dX3_layBehind_67 : decode cX3_layBehind 67 = .ok (.if_icmp .eq 6, 3) := by decide +kernel
theorem dX3_layBehind_70 : decode cX3_layBehind 70 = .ok (.iinc 4 1, 3) := by decide +kernel
theorem dX3_layBehind_73 : decode cX3_layBehind 73 = .ok (.iinc 5 1, 3) := by decide +kernel
theorem dX3_layBehind_76 : decode cX3_layBehind 76 = .ok (.goto (-65), 3) := by decide +kernel
theorem dX3_layBehind_79 : decode cX3_layBehind 79 = .ok (.iload 4, 2) := by decide +kernel
theorem dX3_layBehind_81 : decode cX3_layBehind 81 = .ok (.ireturn, 1) := by decide +kernel
theorem dX3_priceFor_0 : decode cX3_priceFor 0 = .ok (.iload_n 1, 1) := by decide +kernel
theorem dX3_priceFor_1 : decode cX3_priceFor 1 = .ok (.iload_n 2, 1) := by decide +kernel
theorem dX3_priceFor_2 : decode cX3_priceFor 2 = .ok (.if_icmp .ne 5, 3) := by decide +kernel
theorem dX3_priceFor_5 : decode cX3_priceFor 5 = .ok (.iconst 0, 1) := by decide +kernel
theorem dX3_priceFor_6 : decode cX3_priceFor 6 = .ok (.ireturn, 1) := by decide +kernel
theorem dX3_priceFor_7 : decode cX3_priceFor 7 = .ok (.iload_n 2, 1) := by decide +kernel
theorem dX3_priceFor_8 : decode cX3_priceFor 8 = .ok (.ifCond .eq 10, 3) := by decide +kernel
theorem dX3_priceFor_11 : decode cX3_priceFor 11 = .ok (.aload_n 0, 1) := by decide +kernel
theorem dX3_priceFor_12 : decode cX3_priceFor 12 = .ok (.getfield 31, 3) := by decide +kernel
theorem dX3_priceFor_15 : decode cX3_priceFor 15 = .ok (.goto 7, 3) := by decide +kernel
theorem dX3_priceFor_18 : decode cX3_priceFor 18 = .ok (.aload_n 0, 1) := by decide +kernel
theorem dX3_priceFor_19 : decode cX3_priceFor 19 = .ok (.getfield 34, 3) := by decide +kernel
theorem dX3_priceFor_22 : decode cX3_priceFor 22 = .ok (.ireturn, 1) := by decide +kernel
theorem dX3_asDigits_0 : decode cX3_asDigits 0 = .ok (.iconst 0, 1) := by decide +kernel
theorem dX3_asDigits_1 : decode cX3_asDigits 1 = .ok (.istore_n 1, 1) := by decide +kernel
theorem dX3_asDigits_2 : decode cX3_asDigits 2 = .ok (.iconst 0, 1) := by decide +kernel
theorem dX3_asDigits_3 : decode cX3_asDigits 3 = .ok (.istore_n 2, 1) := by decide +kernel
theorem dX3_asDigits_4 : decode cX3_asDigits 4 = .ok (.iload_n 2, 1) := by decide +kernel
theorem dX3_asDigits_5 : decode cX3_asDigits 5 = .ok (.aload_n 0, 1) := by decide +kernel
theorem dX3_asDigits_6 : decode cX3_asDigits 6 = .ok (.getfield 19, 3) := by decide +kernel
theorem dX3_asDigits_9 : decode cX3_asDigits 9 = .ok (.if_icmp .ge 33, 3) := by decide +kernel
theorem dX3_asDigits_12 : decode cX3_asDigits 12 = .ok (.iload_n 2, 1) := by decide +kernel
theorem dX3_asDigits_13 : decode cX3_asDigits 13 = .ok (.bipush 6, 2) := by decide +kernel
theorem dX3_asDigits_15 : decode cX3_asDigits 15 = .ok (.if_icmp .ge 27, 3) := by decide +kernel
theorem dX3_asDigits_18 : decode cX3_asDigits 18 = .ok (.iload_n 1, 1) := by decide +kernel
theorem dX3_asDigits_19 : decode cX3_asDigits 19 = .ok (.aload_n 0, 1) := by decide +kernel
theorem dX3_asDigits_20 : decode cX3_asDigits 20 = .ok (.iload_n 2, 1) := by decide +kernel
theorem dX3_asDigits_21 : decode cX3_asDigits 21 = .ok (.invokevirtual 54, 3) := by decide +kernel
theorem dX3_asDigits_24 : decode cX3_asDigits 24 = .ok (.iconst 1, 1) := by decide +kernel
theorem dX3_asDigits_25 : decode cX3_asDigits 25 = .ok (.iadd, 1) := by decide +kernel
theorem dX3_asDigits_26 : decode cX3_asDigits 26 = .ok (.iconst 3, 1) := by decide +kernel
theorem dX3_asDigits_27 : decode cX3_asDigits 27 = .ok (.invokestatic 41, 3) := by decide +kernel
theorem dX3_asDigits_30 : decode cX3_asDigits 30 = .ok (.iconst 2, 1) := by decide +kernel
theorem dX3_asDigits_31 : decode cX3_asDigits 31 = .ok (.iload_n 2, 1) := by decide +kernel
theorem dX3_asDigits_32 : decode cX3_asDigits 32 = .ok (.imul, 1) := by decide +kernel
theorem dX3_asDigits_33 : decode cX3_asDigits 33 = .ok (.ishl, 1) := by decide +kernel
theorem dX3_asDigits_34 : decode cX3_asDigits 34 = .ok (.ior, 1) := by decide +kernel
theorem dX3_asDigits_35 : decode cX3_asDigits 35 = .ok (.istore_n 1, 1) := by decide +kernel
theorem dX3_asDigits_36 : decode cX3_asDigits 36 = .ok (.iinc 2 1, 3) := by decide +kernel
theorem dX3_asDigits_39 : decode cX3_asDigits 39 = .ok (.goto (-35), 3) := by decide +kernel
theorem dX3_asDigits_42 : decode cX3_asDigits 42 = .ok (.iload_n 1, 1) := by decide +kernel
theorem dX3_asDigits_43 : decode cX3_asDigits 43 = .ok (.ireturn, 1) := by decide +kernel
theorem dX4_init_0 : decode cX4_init 0 = .ok (.aload_n 0, 1) := by decide +kernel
theorem dX4_init_1 : decode cX4_init 1 = .ok (.invokespecial 3, 3) := by decide +kernel
theorem dX4_init_4 : decode cX4_init 4 = .ok (.aload_n 0, 1) := by decide +kernel
theorem dX4_init_5 : decode cX4_init 5 = .ok (.iconst 4, 1) := by decide +kernel
theorem dX4_init_6 : decode cX4_init 6 = .ok (.newarray .int, 2) := by decide +kernel
theorem dX4_init_8 : decode cX4_init 8 = .ok (.putfield 9, 3) := by decide +kernel
theorem dX4_init_11 : decode cX4_init 11 = .ok (.aload_n 0, 1) := by decide +kernel
theorem dX4_init_12 : decode cX4_init 12 = .ok (.aload_n 1, 1) := by decide +kernel
theorem dX4_init_13 : decode cX4_init 13 = .ok (.putfield 15, 3) := by decide +kernel
theorem dX4_init_16 : decode cX4_init 16 = .ok (.aload_n 0, 1) := by decide +kernel
theorem dX4_init_17 : decode cX4_init 17 = .ok (.aload_n 2, 1) := by decide +kernel
theorem dX4_init_18 : decode cX4_init 18 = .ok (.putfield 18, 3) := by decide +kernel
theorem dX4_init_21 : decode cX4_init 21 = .ok (.aload_n 0, 1) := by decide +kernel
theorem dX4_init_22 : decode cX4_init 22 = .ok (.aload_n 3, 1) := by decide +kernel
theorem dX4_init_23 : decode cX4_init 23 = .ok (.putfield 22, 3) := by decide +kernel
theorem dX4_init_26 : decode cX4_init 26 = .ok (.return_, 1) := by decide +kernel
theorem dX4_learn_0 : decode cX4_learn 0 = .ok (.iload_n 1, 1) := by decide +kernel
theorem dX4_learn_1 : decode cX4_learn 1 = .ok (.bipush 16, 2) := by decide +kernel
theorem dX4_learn_3 : decode cX4_learn 3 = .ok (.if_icmp .gt 22, 3) := by decide +kernel
theorem dX4_learn_6 : decode cX4_learn 6 = .ok (.iload_n 2, 1) := by decide +kernel
theorem dX4_learn_7 : decode cX4_learn 7 = .ok (.ifCond .lt 18, 3) := by decide +kernel
theorem dX4_learn_10 : decode cX4_learn 10 = .ok (.iload_n 2, 1) := by decide +kernel
theorem dX4_learn_11 : decode cX4_learn 11 = .ok (.iconst 3, 1) := by decide +kernel
theorem dX4_learn_12 : decode cX4_learn 12 = .ok (.if_icmp .gt 13, 3) := by decide +kernel
theorem dX4_learn_15 : decode cX4_learn 15 = .ok (.aload_n 0, 1) := by decide +kernel
theorem dX4_learn_16 : decode cX4_learn 16 = .ok (.getfield 9, 3) := by decide +kernel
theorem dX4_learn_19 : decode cX4_learn 19 = .ok (.iload_n 2, 1) := by decide +kernel
theorem dX4_learn_20 : decode cX4_learn 20 = .ok (.iaload, 1) := by decide +kernel
theorem dX4_learn_21 : decode cX4_learn 21 = .ok (.iload_n 1, 1) := by decide +kernel
theorem dX4_learn_22 : decode cX4_learn 22 = .ok (.if_icmp .lt 4, 3) := by decide +kernel
theorem dX4_learn_25 : decode cX4_learn 25 = .ok (.return_, 1) := by decide +kernel
theorem dX4_learn_26 : decode cX4_learn 26 = .ok (.aload_n 0, 1) := by decide +kernel
theorem dX4_learn_27 : decode cX4_learn 27 = .ok (.getfield 9, 3) := by decide +kernel
theorem dX4_learn_30 : decode cX4_learn 30 = .ok (.iload_n 2, 1) := by decide +kernel
theorem dX4_learn_31 : decode cX4_learn 31 = .ok (.iaload, 1) := by decide +kernel
theorem dX4_learn_32 : decode cX4_learn 32 = .ok (.iconst 1, 1) := by decide +kernel
theorem dX4_learn_33 : decode cX4_learn 33 = .ok (.iadd, 1) := by decide +kernel
theorem dX4_learn_34 : decode cX4_learn 34 = .ok (.istore_n 3, 1) := by decide +kernel
theorem dX4_learn_35 : decode cX4_learn 35 = .ok (.iconst 0, 1) := by decide +kernel
theorem dX4_learn_36 : decode cX4_learn 36 = .ok (.istore 4, 2) := by decide +kernel
theorem dX4_learn_38 : decode cX4_learn 38 = .ok (.iload 4, 2) := by decide +kernel
theorem dX4_learn_40 : decode cX4_learn 40 = .ok (.iload_n 2, 1) := by decide +kernel
theorem dX4_learn_41 : decode cX4_learn 41 = .ok (.iconst 3, 1) := by decide +kernel
theorem dX4_learn_42 : decode cX4_learn 42 = .ok (.if_icmp .ge 7, 3) := by decide +kernel
theorem dX4_learn_45 : decode cX4_learn 45 = .ok (.iconst 0, 1) := by decide +kernel
theorem dX4_learn_46 : decode cX4_learn 46 = .ok (.goto 4, 3) := by decide +kernel
theorem dX4_learn_49 : decode cX4_learn 49 = .ok (.iload_n 1, 1) := by decide +kernel
theorem dX4_learn_50 : decode cX4_learn 50 = .ok (.if_icmp .gt 91, 3) := by decide +kernel
theorem dX4_learn_53 : decode cX4_learn 53 = .ok (.iload 4, 2) := by decide +kernel
theorem dX4_learn_55 : decode cX4_learn 55 = .ok (.istore 5, 2) := by decide +kernel
theorem dX4_learn_57 : decode cX4_learn 57 = .ok (.iload 5, 2) := by decide +kernel
theorem dX4_learn_59 : decode cX4_learn 59 = .ok (.iload_n 2, 1) := by decide +kernel
theorem dX4_learn_60 : decode cX4_learn 60 = .ok (.iconst 2, 1) := by decide +kernel
theorem dX4_learn_61 : decode cX4_learn 61 = .ok (.if_icmp .ge 7, 3) := by decide +kernel
theorem dX4_learn_64 : decode cX4_learn 64 = .ok (.iconst 0, 1) := by decide +kernel
theorem dX4_learn_65 : decode cX4_learn 65 = .ok (.goto 4, 3) := by decide +kernel
theorem dX4_learn_68 : decode cX4_learn 68 = .ok (.iload_n 1, 1) := by decide +kernel
theorem dX4_learn_69 : decode cX4_learn 69 = .ok (.if_icmp .gt 66, 3) := by decide +kernel
theorem dX4_learn_72 : decode cX4_learn 72 = .ok (.iload 5, 2) := by decide +kernel
theorem dX4_learn_74 : decode cX4_learn 74 = .ok (.istore 6, 2) := by decide +kernel
theorem dX4_learn_76 : decode cX4_learn 76 = .ok (.iload 6, 2) := by decide +kernel
theorem dX4_learn_78 : decode cX4_learn 78 = .ok (.iload_n 2, 1) := by decide +kernel
theorem dX4_learn_79 : decode cX4_learn 79 = .ok (.iconst 1, 1) := by decide +kernel
theorem dX4_learn_80 : decode cX4_learn 80 = .ok (.if_icmp .ge 7, 3) := by decide +kernel
theorem dX4_learn_83 : decode cX4_learn 83 = .ok (.iconst 0, 1) := by decide +kernel
theorem dX4_learn_84 : decode cX4_learn 84 = .ok (.goto 4, 3) := by decide +kernel
theorem dX4_learn_87 : decode cX4_learn 87 = .ok (.iload_n 1, 1) := by decide +kernel
theorem dX4_learn_88 : decode cX4_learn 88 = .ok (.if_icmp .gt 41, 3) := by decide +kernel
theorem dX4_learn_91 : decode cX4_learn 91 = .ok (.iload 6, 2) := by decide +kernel
theorem dX4_learn_93 : decode cX4_learn 93 = .ok (.iload_n 3, 1) := by decide +kernel
theorem dX4_learn_94 : decode cX4_learn 94 = .ok (.invokestatic 26, 3) := by decide +kernel
theorem dX4_learn_97 : decode cX4_learn 97 = .ok (.istore 7, 2) := by decide +kernel
theorem dX4_learn_99 : decode cX4_learn 99 = .ok (.iload 7, 2) := by decide +kernel
theorem dX4_learn_101 : decode cX4_learn 101 = .ok (.iload_n 1, 1) := by decide +kernel
theorem dX4_learn_102 : decode cX4_learn 102 = .ok (.if_icmp .gt 21, 3) := by decide +kernel
theorem dX4_learn_105 : decode cX4_learn 105 = .ok (.aload_n 0, 1) := by decide +kernel
theorem dX4_learn_106 : decode cX4_learn 106 = .ok (.iload 7, 2) := by decide +kernel
theorem dX4_learn_108 : decode cX4_learn 108 = .ok (.iload 6, 2) := by decide +kernel
theorem dX4_learn_110 : decode cX4_learn 110 = .ok (.iload 5, 2) := by decide +kernel
theorem dX4_learn_112 : decode cX4_learn 112 = .ok (.iload 4, 2) := by decide +kernel
theorem dX4_learn_114 : decode cX4_learn 114 = .ok (.invokevirtual 32, 3) := by decide +kernel
theorem dX4_learn_117 : decode cX4_learn 117 = .ok (.iinc 7 1, 3) := by decide +kernel
theorem dX4_learn_120 : decode cX4_learn 120 = .ok (.goto (-21), 3) := by decide +kernel
theorem dX4_learn_123 : decode cX4_learn 123 = .ok (.iinc 6 1, 3) := by decide +kernel
theorem dX4_learn_126 : decode cX4_learn 126 = .ok (.goto (-50), 3) := by decide +kernel
theorem dX4_learn_129 : decode cX4_learn 129 = .ok (.iinc 5 1, 3) := by decide +kernel
theorem dX4_learn_132 : decode cX4_learn 132 = .ok (.goto (-75), 3) := by decide +kernel
theorem dX4_learn_135 : decode cX4_learn 135 = .ok (.iinc 4 1, 3) := by decide +kernel
theorem dX4_learn_138 : decode cX4_learn 138 = .ok (.goto (-100), 3) := by decide +kernel
theorem dX4_learn_141 : decode cX4_learn 141 = .ok (.iconst 0, 1) := by decide +kernel
theorem dX4_learn_142 : decode cX4_learn 142 = .ok (.istore 4, 2) := by decide +kernel
theorem dX4_learn_144 : decode cX4_learn 144 = .ok (.iload 4, 2) := by decide +kernel
theorem dX4_learn_146 : decode cX4_learn 146 = .ok (.iload_n 2, 1) := by decide +kernel
theorem dX4_learn_147 : decode cX4_learn 147 = .ok (.if_icmp .gt 27, 3) := by decide +kernel
theorem dX4_learn_150 : decode cX4_learn 150 = .ok (.aload_n 0, 1) := by decide +kernel
theorem dX4_learn_151 : decode cX4_learn 151 = .ok (.getfield 9, 3) := by decide +kernel
theorem dX4_learn_154 : decode cX4_learn 154 = .ok (.iload 4, 2) := by decide +kernel
theorem dX4_learn_156 : decode cX4_learn 156 = .ok (.aload_n 0, 1) := by decide +kernel
theorem dX4_learn_157 : decode cX4_learn 157 = .ok (.getfield 9, 3) := by decide +kernel
theorem dX4_learn_160 : decode cX4_learn 160 = .ok (.iload 4, 2) := by decide +kernel
theorem dX4_learn_162 : decode cX4_learn 162 = .ok (.iaload, 1) := by decide +kernel
theorem dX4_learn_163 : decode cX4_learn 163 = .ok (.iload_n 1, 1) := by decide +kernel
theorem dX4_learn_164 : decode cX4_learn 164 = .ok (.invokestatic 26, 3) := by decide +kernel
theorem dX4_learn_167 : decode cX4_learn 167 = .ok (.iastore, 1) := by decide +kernel
theorem dX4_learn_168 : decode cX4_learn 168 = .ok (.iinc 4 1, 3) := by decide +kernel
theorem dX4_learn_171 : decode cX4_learn 171 = .ok (.goto (-27), 3) := by decide +kernel
theorem dX4_learn_174 : decode cX4_learn 174 = .ok (.return_, 1) := by decide +kernel
theorem dX4_learnOne_0 : decode cX4_learnOne 0 = .ok (.iload_n 1, 1) := by decide +kernel
theorem dX4_learnOne_1 : decode cX4_learnOne 1 = .ok (.iconst 1, 1) := by decide +kernel
theorem dX4_learnOne_2 : decode cX4_learnOne 2 = .ok (.iload_n 2, 1) := by decide +kernel
theorem dX4_learnOne_3 : decode cX4_learnOne 3 = .ok (.invokestatic 36, 3) := by decide +kernel
theorem dX4_learnOne_6 : decode cX4_learnOne 6 = .ok (.iadd, 1) := by decide +kernel
theorem dX4_learnOne_7 : decode cX4_learnOne 7 = .ok (.iconst 2, 1) := by decide +kernel
theorem dX4_learnOne_8 : decode cX4_learnOne 8 = .ok (.iload_n 3, 1) := by decide +kernel
theorem dX4_learnOne_9 : decode cX4_learnOne 9 = .ok (.invokestatic 36, 3) := by decide +kernel
theorem dX4_learnOne_12 : decode cX4_learnOne 12 = .ok (.iadd, 1) := by decide +kernel
theorem dX4_learnOne_13 : decode cX4_learnOne 13 = .ok (.iconst 3, 1) := by decide +kernel
theorem dX4_learnOne_14 : decode cX4_learnOne 14 = .ok (.iload 4, 2) := by decide +kernel
theorem dX4_learnOne_16 : decode cX4_learnOne 16 = .ok (.invokestatic 36, 3) := by decide +kernel
theorem dX4_learnOne_19 : decode cX4_learnOne 19 = .ok (.iadd, 1) := by decide +kernel
theorem dX4_learnOne_20 : decode cX4_learnOne 20 = .ok (.istore 5, 2) := by decide +kernel
theorem dX4_learnOne_22 : decode cX4_learnOne 22 = .ok (.iload 5, 2) := by decide +kernel
theorem dX4_learnOne_24 : decode cX4_learnOne 24 = .ok (.ifCond .lt 13, 3) := by decide +kernel
theorem dX4_learnOne_27 : decode cX4_learnOne 27 = .ok (.iload 5, 2) := by decide +kernel
theorem dX4_learnOne_29 : decode cX4_learnOne 29 = .ok (.aload_n 0, 1) := by decide +kernel
theorem dX4_learnOne_30 : decode cX4_learnOne 30 = .ok (.getfield 15, 3) := by decide +kernel
theorem dX4_learnOne_33 : decode cX4_learnOne 33 = .ok (.arraylength, 1) := by decide +kernel
theorem dX4_learnOne_34 : decode cX4_learnOne 34 = .ok (.if_icmp .lt 4, 3) := by decide +kernel
theorem dX4_learnOne_37 : decode cX4_learnOne 37 = .ok (.return_, 1) := by decide +kernel
theorem dX4_learnOne_38 : decode cX4_learnOne 38 = .ok (.iload_n 1, 1) := by decide +kernel
theorem dX4_learnOne_39 : decode cX4_learnOne 39 = .ok (.iconst 1, 1) := by decide +kernel
theorem dX4_learnOne_40 : decode cX4_learnOne 40 = .ok (.if_icmp .gt 12, 3) := by decide +kernel
theorem dX4_learnOne_43 : decode cX4_learnOne 43 = .ok (.aload_n 0, 1) := by decide +kernel
theorem dX4_learnOne_44 : decode cX4_learnOne 44 = .ok (.getfield 15, 3) := by decide +kernel
theorem dX4_learnOne_47 : decode cX4_learnOne 47 = .ok (.iload 5, 2) := by decide +kernel
theorem dX4_learnOne_49 : decode cX4_learnOne 49 = .ok (.iconst 0, 1) := by decide +kernel
theorem dX4_learnOne_50 : decode cX4_learnOne 50 = .ok (.iastore, 1) := by decide +kernel
theorem dX4_learnOne_51 : decode cX4_learnOne 51 = .ok (.return_, 1) := by decide +kernel
theorem dX4_learnOne_52 : decode cX4_learnOne 52 = .ok (.iconst 1, 1) := by decide +kernel
theorem dX4_learnOne_53 : decode cX4_learnOne 53 = .ok (.istore 6, 2) := by decide +kernel
theorem dX4_learnOne_55 : decode cX4_learnOne 55 = .ok (.iload 6, 2) := by decide +kernel
theorem dX4_learnOne_57 : decode cX4_learnOne 57 = .ok (.iload_n 1, 1) := by decide +kernel
theorem dX4_learnOne_58 : decode cX4_learnOne 58 = .ok (.iload_n 2, 1) := by decide +kernel
theorem dX4_learnOne_59 : decode cX4_learnOne 59 = .ok (.if_icmp .le 14, 3) := by decide +kernel
theorem dX4_learnOne_62 : decode cX4_learnOne 62 = .ok (.aload_n 0, 1) := by decide +kernel
theorem dX4_learnOne_63 : decode cX4_learnOne 63 = .ok (.iload 5, 2) := by decide +kernel
theorem dX4_learnOne_65 : decode cX4_learnOne 65 = .ok (.iconst 1, 1) := by decide +kernel
theorem dX4_learnOne_66 : decode cX4_learnOne 66 = .ok (.isub, 1) := by decide +kernel
theorem dX4_learnOne_67 : decode cX4_learnOne 67 = .ok (.invokevirtual 39, 3) := by decide +kernel
theorem dX4_learnOne_70 : decode cX4_learnOne 70 = .ok (.goto 4, 3) := by decide +kernel
theorem dX4_learnOne_73 : decode cX4_learnOne 73 = .ok (.iconst 0, 1) := by decide +kernel
theorem dX4_learnOne_74 : decode cX4_learnOne 74 = .ok (.invokestatic 26, 3) := by decide +kernel
theorem dX4_learnOne_77 : decode cX4_learnOne 77 = .ok (.istore 6, 2) := by decide +kernel
theorem dX4_learnOne_79 : decode cX4_learnOne 79 = .ok (.iload 6, 2) := by decide +kernel
theorem dX4_learnOne_81 : decode cX4_learnOne 81 = .ok (.iload_n 2, 1) := by decide +kernel
theorem dX4_learnOne_82 : decode cX4_learnOne 82 = .ok (.iload_n 3, 1) := by decide +kernel
theorem dX4_learnOne_83 : decode cX4_learnOne 83 = .ok (.if_icmp .le 18, 3) := by decide +kernel
theorem dX4_learnOne_86 : decode cX4_learnOne 86 = .ok (.aload_n 0, 1) := by decide +kernel
theorem dX4_learnOne_87 : decode cX4_learnOne 87 = .ok (.iload 5, 2) := by decide +kernel
theorem dX4_learnOne_89 : decode cX4_learnOne 89 = .ok (.iconst 1, 1) := by decide +kernel
theorem dX4_learnOne_90 : decode cX4_learnOne 90 = .ok (.iload_n 2, 1) := by decide +kernel
theorem dX4_learnOne_91 : decode cX4_learnOne 91 = .ok (.invokestatic 43, 3) := by decide +kernel
theorem dX4_learnOne_94 : decode cX4_learnOne 94 = .ok (.isub, 1) := by decide +kernel
theorem dX4_learnOne_95 : decode cX4_learnOne 95 = .ok (.invokevirtual 39, 3) := by decide +kernel
theorem dX4_learnOne_98 : decode cX4_learnOne 98 = .ok (.goto 4, 3) := by decide +kernel
theorem dX4_learnOne_101 : decode cX4_learnOne 101 = .ok (.iconst 0, 1) := by decide +kernel
theorem dX4_learnOne_102 : decode cX4_learnOne 102 = .ok (.invokestatic 26, 3) := by decide +kernel
theorem dX4_learnOne_105 : decode cX4_learnOne 105 = .ok (.istore 6, 2) := by decide +kernel
theorem dX4_learnOne_107 : decode cX4_learnOne 107 = .ok (.iload 6, 2) := by decide +kernel
theorem dX4_learnOne_109 : decode cX4_learnOne 109 = .ok (.iload_n 3, 1) := by decide +kernel
theorem dX4_learnOne_110 : decode cX4_learnOne 110 = .ok (.iload 4, 2) := by decide +kernel
theorem dX4_learnOne_112 : decode cX4_learnOne 112 = .ok (.if_icmp .le 18, 3) := by decide +kernel
theorem dX4_learnOne_115 : decode cX4_learnOne 115 = .ok (.aload_n 0, 1) := by decide +kernel
theorem dX4_learnOne_116 : decode cX4_learnOne 116 = .ok (.iload 5, 2) := by decide +kernel
theorem dX4_learnOne_118 : decode cX4_learnOne 118 = .ok (.iconst 2, 1) := by decide +kernel
theorem dX4_learnOne_119 : decode cX4_learnOne 119 = .ok (.iload_n 3, 1) := by decide +kernel
theorem dX4_learnOne_120 : decode cX4_learnOne 120 = .ok (.invokestatic 43, 3) := by decide +kernel
theorem dX4_learnOne_123 : decode cX4_learnOne 123 = .ok (.isub, 1) := by decide +kernel
theorem dX4_learnOne_124 : decode cX4_learnOne 124 = .ok (.invokevirtual 39, 3) := by decide +kernel
theorem dX4_learnOne_127 : decode cX4_learnOne 127 = .ok (.goto 4, 3) := by decide +kernel
theorem dX4_learnOne_130 : decode cX4_learnOne 130 = .ok (.iconst 0, 1) := by decide +kernel
theorem dX4_learnOne_131 : decode cX4_learnOne 131 = .ok (.invokestatic 26, 3) := by decide +kernel
theorem dX4_learnOne_134 : decode cX4_learnOne 134 = .ok (.istore 6, 2) := by decide +kernel
theorem dX4_learnOne_136 : decode cX4_learnOne 136 = .ok (.iload 6, 2) := by decide +kernel
theorem dX4_learnOne_138 : decode cX4_learnOne 138 = .ok (.iload 4, 2) := by decide +kernel
theorem dX4_learnOne_140 : decode cX4_learnOne 140 = .ok (.ifCond .le 19, 3) := by decide +kernel
theorem dX4_learnOne_143 : decode cX4_learnOne 143 = .ok (.aload_n 0, 1) := by decide +kernel
theorem dX4_learnOne_144 : decode cX4_learnOne 144 = .ok (.iload 5, 2) := by decide +kernel
theorem dX4_learnOne_146 : decode cX4_learnOne 146 = .ok (.iconst 3, 1) := by decide +kernel
theorem dX4_learnOne_147 : decode cX4_learnOne 147 = .ok (.iload 4, 2) := by decide +kernel
theorem dX4_learnOne_149 : decode cX4_learnOne 149 = .ok (.invokestatic 43, 3) := by decide +kernel
theorem dX4_learnOne_152 : decode cX4_learnOne 152 = .ok (.isub, 1) := by decide +kernel
theorem dX4_learnOne_153 : decode cX4_learnOne 153 = .ok (.invokevirtual 39, 3) := by decide +kernel
theorem dX4_learnOne_156 : decode cX4_learnOne 156 = .ok (.goto 4, 3) := by decide +kernel
theorem dX4_learnOne_159 : decode cX4_learnOne 159 = .ok (.iconst 0, 1) := by decide +kernel
theorem dX4_learnOne_160 : decode cX4_learnOne 160 = .ok (.invokestatic 26, 3) := by decide +kernel
theorem dX4_learnOne_163 : decode cX4_learnOne 163 = .ok (.istore 6, 2) := by decide +kernel
theorem dX4_learnOne_165 : decode cX4_learnOne 165 = .ok (.aload_n 0, 1) := by decide +kernel
theorem dX4_learnOne_166 : decode cX4_learnOne 166 = .ok (.getfield 15, 3) := by decide +kernel
theorem dX4_learnOne_169 : decode cX4_learnOne 169 = .ok (.iload 5, 2) := by decide +kernel
theorem dX4_learnOne_171 : decode cX4_learnOne 171 = .ok (.bipush 13, 2) := by decide +kernel
theorem dX4_learnOne_173 : decode cX4_learnOne 173 = .ok (.iastore, 1) := by decide +kernel
theorem dX4_learnOne_174 : decode cX4_learnOne 174 = .ok (.aload_n 0, 1) := by decide +kernel
theorem dX4_learnOne_175 : decode cX4_learnOne 175 = .ok (.getfield 18, 3) := by decide +kernel
theorem dX4_learnOne_178 : decode cX4_learnOne 178 = .ok (.iload_n 1, 1) := by decide +kernel
theorem dX4_learnOne_179 : decode cX4_learnOne 179 = .ok (.iload_n 2, 1) := by decide +kernel
theorem dX4_learnOne_180 : decode cX4_learnOne 180 = .ok (.iload_n 3, 1) := by decide +kernel
theorem dX4_learnOne_181 : decode cX4_learnOne 181 = .ok (.iload 4, 2) := by decide +kernel
theorem dX4_learnOne_183 : decode cX4_learnOne 183 = .ok (.invokevirtual 46, 3) := by decide +kernel
theorem dX4_learnOne_186 : decode cX4_learnOne 186 = .ok (.iload 6, 2) := by decide +kernel
theorem dX4_learnOne_188 : decode cX4_learnOne 188 = .ok (.istore 7, 2) := by decide +kernel
theorem dX4_learnOne_190 : decode cX4_learnOne 190 = .ok (.iload 7, 2) := by decide +kernel
theorem dX4_learnOne_192 : decode cX4_learnOne 192 = .ok (.bipush 13, 2) := by decide +kernel
theorem dX4_learnOne_194 : decode cX4_learnOne 194 = .ok (.if_icmp .ge 23, 3) := by decide +kernel
theorem dX4_learnOne_197 : decode cX4_learnOne 197 = .ok (.aload_n 0, 1) := by decide +kernel
theorem dX4_learnOne_198 : decode cX4_learnOne 198 = .ok (.getfield 18, 3) := by decide +kernel
theorem dX4_learnOne_201 : decode cX4_learnOne 201 = .ok (.iload 7, 2) := by decide +kernel
theorem dX4_learnOne_203 : decode cX4_learnOne 203 = .ok (.iconst 1, 1) := by decide +kernel
theorem dX4_learnOne_204 : decode cX4_learnOne 204 = .ok (.isub, 1) := by decide +kernel
theorem dX4_learnOne_205 : decode cX4_learnOne 205 = .ok (.invokevirtual 51, 3) := by decide +kernel
theorem dX4_learnOne_208 : decode cX4_learnOne 208 = .ok (.ifCond .ne 9, 3) := by decide +kernel
theorem dX4_learnOne_211 : decode cX4_learnOne 211 = .ok (.iinc 7 1, 3) := by decide +kernel
theorem dX4_learnOne_214 : decode cX4_learnOne 214 = .ok (.goto (-24), 3) := by decide +kernel
theorem dX4_learnOne_217 : decode cX4_learnOne 217 = .ok (.aload_n 0, 1) := by decide +kernel
theorem dX4_learnOne_218 : decode cX4_learnOne 218 = .ok (.getfield 15, 3) := by decide +kernel
theorem dX4_learnOne_221 : decode cX4_learnOne 221 = .ok (.iload 5, 2) := by decide +kernel
theorem dX4_learnOne_223 : decode cX4_learnOne 223 = .ok (.iload 7, 2) := by decide +kernel
theorem dX4_learnOne_225 : decode cX4_learnOne 225 = .ok (.iastore, 1) := by decide +kernel
theorem dX4_learnOne_226 : decode cX4_learnOne 226 = .ok (.return_, 1) := by decide +kernel
theorem dX4_stepTo_0 : decode cX4_stepTo 0 = .ok (.iload_n 0, 1) := by decide +kernel
theorem dX4_stepTo_1 : decode cX4_stepTo 1 = .ok (.iload_n 1, 1) := by decide +kernel
theorem dX4_stepTo_2 : decode cX4_stepTo 2 = .ok (.invokestatic 36, 3) := by decide +kernel
theorem dX4_stepTo_5 : decode cX4_stepTo 5 = .ok (.iload_n 0, 1) := by decide +kernel
theorem dX4_stepTo_6 : decode cX4_stepTo 6 = .ok (.iload_n 1, 1) := by decide +kernel
theorem dX4_stepTo_7 : decode cX4_stepTo 7 = .ok (.iconst 1, 1) := by decide +kernel
theorem dX4_stepTo_8 : decode cX4_stepTo 8 = .ok (.isub, 1) := by decide +kernel
theorem dX4_stepTo_9 : decode cX4_stepTo 9 = .ok (.invokestatic 36, 3) := by decide +kernel
theorem dX4_stepTo_12 : decode cX4_stepTo 12 = .ok (.isub, 1) := by decide +kernel
theorem dX4_stepTo_13 : decode cX4_stepTo 13 = .ok (.ireturn, 1) := by decide +kernel
theorem dX4_fewAt_0 : decode cX4_fewAt 0 = .ok (.iload_n 1, 1) := by decide +kernel
theorem dX4_fewAt_1 : decode cX4_fewAt 1 = .ok (.ifCond .lt 21, 3) := by decide +kernel
theorem dX4_fewAt_4 : decode cX4_fewAt 4 = .ok (.iload_n 1, 1) := by decide +kernel
theorem dX4_fewAt_5 : decode cX4_fewAt 5 = .ok (.aload_n 0, 1) := by decide +kernel
theorem dX4_fewAt_6 : decode cX4_fewAt 6 = .ok (.getfield 15, 3) := by decide +kernel
theorem dX4_fewAt_9 : decode cX4_fewAt 9 = .ok (.arraylength, 1) := by decide +kernel
theorem dX4_fewAt_10 : decode cX4_fewAt 10 = .ok (.if_icmp .ge 12, 3) := by decide +kernel
theorem dX4_fewAt_13 : decode cX4_fewAt 13 = .ok (.aload_n 0, 1) := by decide +kernel
theorem dX4_fewAt_14 : decode cX4_fewAt 14 = .ok (.getfield 15, 3) := by decide +kernel
theorem dX4_fewAt_17 : decode cX4_fewAt 17 = .ok (.iload_n 1, 1) := by decide +kernel
theorem dX4_fewAt_18 : decode cX4_fewAt 18 = .ok (.iaload, 1) := by decide +kernel
theorem dX4_fewAt_19 : decode cX4_fewAt 19 = .ok (.goto 5, 3) := by decide +kernel
theorem dX4_fewAt_22 : decode cX4_fewAt 22 = .ok (.bipush 13, 2) := by decide +kernel
theorem dX4_fewAt_24 : decode cX4_fewAt 24 = .ok (.ireturn, 1) := by decide +kernel
theorem dX4_fewestOf_0 : decode cX4_fewestOf 0 = .ok (.iconst 0, 1) := by decide +kernel
theorem dX4_fewestOf_1 : decode cX4_fewestOf 1 = .ok (.istore 4, 2) := by decide +kernel
theorem dX4_fewestOf_3 : decode cX4_fewestOf 3 = .ok (.iconst 0, 1) := by decide +kernel
theorem dX4_fewestOf_4 : decode cX4_fewestOf 4 = .ok (.istore 5, 2) := by decide +kernel
theorem dX4_fewestOf_6 : decode cX4_fewestOf 6 = .ok (.iload 5, 2) := by decide +kernel
theorem dX4_fewestOf_8 : decode cX4_fewestOf 8 = .ok (.iconst 4, 1) := by decide +kernel
theorem dX4_fewestOf_9 : decode cX4_fewestOf 9 = .ok (.if_icmp .ge 55, 3) := by decide +kernel
theorem dX4_fewestOf_12 : decode cX4_fewestOf 12 = .ok (.iconst 0, 1) := by decide +kernel
theorem dX4_fewestOf_13 : decode cX4_fewestOf 13 = .ok (.istore 6, 2) := by decide +kernel
theorem dX4_fewestOf_15 : decode cX4_fewestOf 15 = .ok (.iconst 0, 1) := by decide +kernel
theorem dX4_fewestOf_16 : decode cX4_fewestOf 16 = .ok (.istore 7, 2) := by decide +kernel
theorem dX4_fewestOf_18 : decode cX4_fewestOf 18 = .ok (.iload 7, 2) := by decide +kernel
theorem dX4_fewestOf_20 : decode cX4_fewestOf 20 = .ok (.iload_n 3, 1) := by decide +kernel
theorem dX4_fewestOf_21 : decode cX4_fewestOf 21 = .ok (.if_icmp .ge 25, 3) := by decide +kernel
theorem dX4_fewestOf_24 : decode cX4_fewestOf 24 = .ok (.aload_n 1, 1) := by decide +kernel
theorem dX4_fewestOf_25 : decode cX4_fewestOf 25 = .ok (.iload_n 2, 1) := by decide +kernel
theorem dX4_fewestOf_26 : decode cX4_fewestOf 26 = .ok (.iload 7, 2) := by decide +kernel
theorem dX4_fewestOf_28 : decode cX4_fewestOf 28 = .ok (.iadd, 1) := by decide +kernel
theorem dX4_fewestOf_29 : decode cX4_fewestOf 29 = .ok (.invokestatic 55, 3) := by decide +kernel
theorem dX4_fewestOf_32 : decode cX4_fewestOf 32 = .ok (.iload 5, 2) := by decide +kernel
theorem dX4_fewestOf_34 : decode cX4_fewestOf 34 = .ok (.if_icmp .lt 6, 3) := by decide +kernel
theorem dX4_fewestOf_37 : decode cX4_fewestOf 37 = .ok (.iinc 6 1, 3) := by decide +kernel
theorem dX4_fewestOf_40 : decode cX4_fewestOf 40 = .ok (.iinc 7 1, 3) := by decide +kernel
theorem dX4_fewestOf_43 : decode cX4_fewestOf 43 = .ok (.goto (-25), 3) := by decide +kernel
theorem dX4_fewestOf_46 : decode cX4_fewestOf 46 = .ok (.iload 4, 2) := by decide +kernel
theorem dX4_fewestOf_48 : decode cX4_fewestOf 48 = .ok (.iload 5, 2) := by decide +kernel
theorem dX4_fewestOf_50 : decode cX4_fewestOf 50 = .ok (.iload 6, 2) := by decide +kernel
theorem dX4_fewestOf_52 : decode cX4_fewestOf 52 = .ok (.invokestatic 36, 3) := by decide +kernel
theorem dX4_fewestOf_55 : decode cX4_fewestOf 55 = .ok (.iadd, 1) := by decide +kernel
theorem dX4_fewestOf_56 : decode cX4_fewestOf 56 = .ok (.istore 4, 2) := by decide +kernel
theorem dX4_fewestOf_58 : decode cX4_fewestOf 58 = .ok (.iinc 5 1, 3) := by decide +kernel
theorem dX4_fewestOf_61 : decode cX4_fewestOf 61 = .ok (.goto (-55), 3) := by decide +kernel
theorem dX4_fewestOf_64 : decode cX4_fewestOf 64 = .ok (.aload_n 0, 1) := by decide +kernel
theorem dX4_fewestOf_65 : decode cX4_fewestOf 65 = .ok (.iload 4, 2) := by decide +kernel
theorem dX4_fewestOf_67 : decode cX4_fewestOf 67 = .ok (.invokevirtual 39, 3) := by decide +kernel
theorem dX4_fewestOf_70 : decode cX4_fewestOf 70 = .ok (.ireturn, 1) := by decide +kernel
theorem dX4_bestHeap_0 : decode cX4_bestHeap 0 = .ok (.aload_n 0, 1) := by decide +kernel
theorem dX4_bestHeap_1 : decode cX4_bestHeap 1 = .ok (.getfield 22, 3) := by decide +kernel
theorem dX4_bestHeap_4 : decode cX4_bestHeap 4 = .ok (.aload_n 1, 1) := by decide +kernel
theorem dX4_bestHeap_5 : decode cX4_bestHeap 5 = .ok (.iload_n 2, 1) := by decide +kernel
theorem dX4_bestHeap_6 : decode cX4_bestHeap 6 = .ok (.iload_n 3, 1) := by decide +kernel
theorem dX4_bestHeap_7 : decode cX4_bestHeap 7 = .ok (.aload_n 0, 1) := by decide +kernel
theorem dX4_bestHeap_8 : decode cX4_bestHeap 8 = .ok (.aload_n 1, 1) := by decide +kernel
theorem dX4_bestHeap_9 : decode cX4_bestHeap 9 = .ok (.iload_n 2, 1) := by decide +kernel
theorem dX4_bestHeap_10 : decode cX4_bestHeap 10 = .ok (.iload_n 3, 1) := by decide +kernel
theorem dX4_bestHeap_11 : decode cX4_bestHeap 11 = .ok (.invokevirtual 59, 3) := by decide +kernel
theorem dX4_bestHeap_14 : decode cX4_bestHeap 14 = .ok (.iconst 1, 1) := by decide +kernel
theorem dX4_bestHeap_15 : decode cX4_bestHeap 15 = .ok (.isub, 1) := by decide +kernel
theorem dX4_bestHeap_16 : decode cX4_bestHeap 16 = .ok (.invokevirtual 63, 3) := by decide +kernel
theorem dX4_bestHeap_19 : decode cX4_bestHeap 19 = .ok (.ireturn, 1) := by decide +kernel
theorem dX5_init_0 : decode cX5_init 0 = .ok (.aload_n 0, 1) := by decide +kernel
theorem dX5_init_1 : decode cX5_init 1 = .ok (.invokespecial 3, 3) := by decide +kernel
theorem dX5_init_4 : decode cX5_init 4 = .ok (.aload_n 0, 1) := by decide +kernel
theorem dX5_init_5 : decode cX5_init 5 = .ok (.bipush 8, 2) := by decide +kernel
theorem dX5_init_7 : decode cX5_init 7 = .ok (.newarray .int, 2) := by decide +kernel
theorem dX5_init_9 : decode cX5_init 9 = .ok (.putfield 9, 3) := by decide +kernel
theorem dX5_init_12 : decode cX5_init 12 = .ok (.aload_n 0, 1) := by decide +kernel
theorem dX5_init_13 : decode cX5_init 13 = .ok (.bipush 8, 2) := by decide +kernel
theorem dX5_init_15 : decode cX5_init 15 = .ok (.newarray .int, 2) := by decide +kernel
theorem dX5_init_17 : decode cX5_init 17 = .ok (.putfield 15, 3) := by decide +kernel
theorem dX5_init_20 : decode cX5_init 20 = .ok (.aload_n 0, 1) := by decide +kernel
theorem dX5_init_21 : decode cX5_init 21 = .ok (.iconst 0, 1) := by decide +kernel
theorem dX5_init_22 : decode cX5_init 22 = .ok (.putfield 18, 3) := by decide +kernel
theorem dX5_init_25 : decode cX5_init 25 = .ok (.aload_n 0, 1) := by decide +kernel
theorem dX5_init_26 : decode cX5_init 26 = .ok (.aload_n 1, 1) := by decide +kernel
theorem dX5_init_27 : decode cX5_init 27 = .ok (.putfield 22, 3) := by decide +kernel
theorem dX5_init_30 : decode cX5_init 30 = .ok (.aload_n 0, 1) := by decide +kernel
theorem dX5_init_31 : decode cX5_init 31 = .ok (.iconst 1, 1) := by decide +kernel
theorem dX5_init_32 : decode cX5_init 32 = .ok (.iload_n 2, 1) := by decide +kernel
theorem dX5_init_33 : decode cX5_init 33 = .ok (.iconst 4, 1) := by decide +kernel
theorem dX5_init_34 : decode cX5_init 34 = .ok (.invokestatic 25, 3) := by decide +kernel
theorem dX5_init_37 : decode cX5_init 37 = .ok (.invokestatic 31, 3) := by decide +kernel
theorem dX5_init_40 : decode cX5_init 40 = .ok (.putfield 34, 3) := by decide +kernel
theorem dX5_init_43 : decode cX5_init 43 = .ok (.aload_n 0, 1) := by decide +kernel
theorem dX5_init_44 : decode cX5_init 44 = .ok (.iconst 1, 1) := by decide +kernel
theorem dX5_init_45 : decode cX5_init 45 = .ok (.iload_n 3, 1) := by decide +kernel
theorem dX5_init_46 : decode cX5_init 46 = .ok (.iconst 4, 1) := by decide +kernel
theorem dX5_init_47 : decode cX5_init 47 = .ok (.invokestatic 25, 3) := by decide +kernel
theorem dX5_init_50 : decode cX5_init 50 = .ok (.invokestatic 31, 3) := by decide +kernel
theorem dX5_init_53 : decode cX5_init 53 = .ok (.putfield 37, 3) := by decide +kernel
theorem dX5_init_56 : decode cX5_init 56 = .ok (.return_, 1) := by decide +kernel
theorem dX5_walk_0 : decode cX5_walk 0 = .ok (.aload_n 0, 1) := by decide +kernel
theorem dX5_walk_1 : decode cX5_walk 1 = .ok (.iload_n 1, 1) := by decide +kernel
theorem dX5_walk_2 : decode cX5_walk 2 = .ok (.putfield 18, 3) := by decide +kernel
theorem dX5_walk_5 : decode cX5_walk 5 = .ok (.aload_n 0, 1) := by decide +kernel
theorem dX5_walk_6 : decode cX5_walk 6 = .ok (.iconst 3, 1) := by decide +kernel
theorem dX5_walk_7 : decode cX5_walk 7 = .ok (.iconst 0, 1) := by decide +kernel
theorem dX5_walk_8 : decode cX5_walk 8 = .ok (.iconst 0, 1) := by decide +kernel
theorem dX5_walk_9 : decode cX5_walk 9 = .ok (.invokevirtual 40, 3) := by decide +kernel
theorem dX5_walk_12 : decode cX5_walk 12 = .ok (.ireturn, 1) := by decide +kernel
theorem dX5_down_0 : decode cX5_down 0 = .ok (.iload_n 1, 1) := by decide +kernel
theorem dX5_down_1 : decode cX5_down 1 = .ok (.ifCond .lt 8, 3) := by decide +kernel
theorem dX5_down_4 : decode cX5_down 4 = .ok (.iload_n 1, 1) := by decide +kernel
theorem dX5_down_5 : decode cX5_down 5 = .ok (.iconst 4, 1) := by decide +kernel
theorem dX5_down_6 : decode cX5_down 6 = .ok (.if_icmp .lt 5, 3) := by decide +kernel
theorem dX5_down_9 : decode cX5_down 9 = .ok (.iconst 0, 1) := by decide +kernel
theorem dX5_down_10 : decode cX5_down 10 = .ok (.ireturn, 1) := by decide +kernel
theorem dX5_down_11 : decode cX5_down 11 = .ok (.aload_n 0, 1) := by decide +kernel
theorem dX5_down_12 : decode cX5_down 12 = .ok (.getfield 15, 3) := by decide +kernel
theorem dX5_down_15 : decode cX5_down 15 = .ok (.iload_n 1, 1) := by decide +kernel
theorem dX5_down_16 : decode cX5_down 16 = .ok (.iconst 1, 1) := by decide +kernel
theorem dX5_down_17 : decode cX5_down 17 = .ok (.iadd, 1) := by decide +kernel
theorem dX5_down_18 : decode cX5_down 18 = .ok (.iaload, 1) := by decide +kernel
theorem dX5_down_19 : decode cX5_down 19 = .ok (.istore 4, 2) := by decide +kernel
theorem dX5_down_21 : decode cX5_down 21 = .ok (.aload_n 0, 1) := by decide +kernel
theorem dX5_down_22 : decode cX5_down 22 = .ok (.getfield 9, 3) := by decide +kernel
theorem dX5_down_25 : decode cX5_down 25 = .ok (.iload_n 1, 1) := by decide +kernel
theorem dX5_down_26 : decode cX5_down 26 = .ok (.iaload, 1) := by decide +kernel
theorem dX5_down_27 : decode cX5_down 27 = .ok (.aload_n 0, 1) := by decide +kernel
theorem dX5_down_28 : decode cX5_down 28 = .ok (.getfield 9, 3) := by decide +kernel
theorem dX5_down_31 : decode cX5_down 31 = .ok (.iload_n 1, 1) := by decide +kernel
theorem dX5_down_32 : decode cX5_down 32 = .ok (.iconst 1, 1) := by decide +kernel
theorem dX5_down_33 : decode cX5_down 33 = .ok (.iadd, 1) := by decide +kernel
theorem dX5_down_34 : decode cX5_down 34 = .ok (.iaload, 1) := by decide +kernel
theorem dX5_down_35 : decode cX5_down 35 = .ok (.isub, 1) := by decide +kernel
theorem dX5_down_36 : decode cX5_down 36 = .ok (.istore 5, 2) := by decide +kernel
theorem dX5_down_38 : decode cX5_down 38 = .ok (.aload_n 0, 1) := by decide +kernel
theorem dX5_down_39 : decode cX5_down 39 = .ok (.getfield 9, 3) := by decide +kernel
theorem dX5_down_42 : decode cX5_down 42 = .ok (.iload_n 1, 1) := by decide +kernel
theorem dX5_down_43 : decode cX5_down 43 = .ok (.aload_n 0, 1) := by decide +kernel
theorem dX5_down_44 : decode cX5_down 44 = .ok (.getfield 34, 3) := by decide +kernel
theorem dX5_down_47 : decode cX5_down 47 = .ok (.iadd, 1) := by decide +kernel
theorem dX5_down_48 : decode cX5_down 48 = .ok (.iaload, 1) := by decide +kernel
theorem dX5_down_49 : decode cX5_down 49 = .ok (.aload_n 0, 1) := by decide +kernel
theorem dX5_down_50 : decode cX5_down 50 = .ok (.getfield 15, 3) := by decide +kernel
theorem dX5_down_53 : decode cX5_down 53 = .ok (.iload_n 1, 1) := by decide +kernel
theorem dX5_down_54 : decode cX5_down 54 = .ok (.aload_n 0, 1) := by decide +kernel
theorem dX5_down_55 : decode cX5_down 55 = .ok (.getfield 34, 3) := by decide +kernel
theorem dX5_down_58 : decode cX5_down 58 = .ok (.iadd, 1) := by decide +kernel
theorem dX5_down_59 : decode cX5_down 59 = .ok (.iaload, 1) := by decide +kernel
theorem dX5_down_60 : decode cX5_down 60 = .ok (.isub, 1) := by decide +kernel
theorem dX5_down_61 : decode cX5_down 61 = .ok (.istore 6, 2) := by decide +kernel
theorem dX5_down_63 : decode cX5_down 63 = .ok (.aload_n 0, 1) := by decide +kernel
theorem dX5_down_64 : decode cX5_down 64 = .ok (.getfield 9, 3) := by decide +kernel
theorem dX5_down_67 : decode cX5_down 67 = .ok (.iload_n 1, 1) := by decide +kernel
theorem dX5_down_68 : decode cX5_down 68 = .ok (.iaload, 1) := by decide +kernel
theorem dX5_down_69 : decode cX5_down 69 = .ok (.aload_n 0, 1) := by decide +kernel
theorem dX5_down_70 : decode cX5_down 70 = .ok (.getfield 15, 3) := by decide +kernel
theorem dX5_down_73 : decode cX5_down 73 = .ok (.iload_n 1, 1) := by decide +kernel
theorem dX5_down_74 : decode cX5_down 74 = .ok (.aload_n 0, 1) := by decide +kernel
theorem dX5_down_75 : decode cX5_down 75 = .ok (.getfield 37, 3) := by decide +kernel
theorem dX5_down_78 : decode cX5_down 78 = .ok (.iadd, 1) := by decide +kernel
theorem dX5_down_79 : decode cX5_down 79 = .ok (.iaload, 1) := by decide +kernel
theorem dX5_down_80 : decode cX5_down 80 = .ok (.iadd, 1) := by decide +kernel
theorem dX5_down_81 : decode cX5_down 81 = .ok (.istore 7, 2) := by decide +kernel
theorem dX5_down_83 : decode cX5_down 83 = .ok (.iload_n 1, 1) := by decide +kernel
theorem dX5_down_84 : decode cX5_down 84 = .ok (.ifCond .ne 24, 3) := by decide +kernel
theorem dX5_down_87 : decode cX5_down 87 = .ok (.aload_n 0, 1) := by decide +kernel
theorem dX5_down_88 : decode cX5_down 88 = .ok (.iload_n 2, 1) := by decide +kernel
theorem dX5_down_89 : decode cX5_down 89 = .ok (.iload 4, 2) := by decide +kernel
theorem dX5_down_91 : decode cX5_down 91 = .ok (.iadd, 1) := by decide +kernel
theorem dX5_down_92 : decode cX5_down 92 = .ok (.iload 6, 2) := by decide +kernel
theorem dX5_down_94 : decode cX5_down 94 = .ok (.iadd, 1) := by decide +kernel
theorem dX5_down_95 : decode cX5_down 95 = .ok (.iload_n 3, 1) := by decide +kernel
theorem dX5_down_96 : decode cX5_down 96 = .ok (.iload 4, 2) := by decide +kernel
theorem dX5_down_98 : decode cX5_down 98 = .ok (.isub, 1) := by decide +kernel
theorem dX5_down_99 : decode cX5_down 99 = .ok (.iload 7, 2) := by decide +kernel
theorem dX5_down_101 : decode cX5_down 101 = .ok (.iadd, 1) := by decide +kernel
theorem dX5_down_102 : decode cX5_down 102 = .ok (.iload 5, 2) := by decide +kernel
theorem dX5_down_104 : decode cX5_down 104 = .ok (.invokevirtual 44, 3) := by decide +kernel
theorem dX5_down_107 : decode cX5_down 107 = .ok (.ireturn, 1) := by decide +kernel
theorem dX5_down_108 : decode cX5_down 108 = .ok (.iconst 0, 1) := by decide +kernel
theorem dX5_down_109 : decode cX5_down 109 = .ok (.istore 8, 2) := by decide +kernel
theorem dX5_down_111 : decode cX5_down 111 = .ok (.iload 8, 2) := by decide +kernel
theorem dX5_down_113 : decode cX5_down 113 = .ok (.iload 5, 2) := by decide +kernel
theorem dX5_down_115 : decode cX5_down 115 = .ok (.if_icmp .gt 71, 3) := by decide +kernel
theorem dX5_down_118 : decode cX5_down 118 = .ok (.iload 4, 2) := by decide +kernel
theorem dX5_down_120 : decode cX5_down 120 = .ok (.iload 8, 2) := by decide +kernel
theorem dX5_down_122 : decode cX5_down 122 = .ok (.iload 5, 2) := by decide +kernel
theorem dX5_down_124 : decode cX5_down 124 = .ok (.invokestatic 47, 3) := by decide +kernel
theorem dX5_down_127 : decode cX5_down 127 = .ok (.iadd, 1) := by decide +kernel
theorem dX5_down_128 : decode cX5_down 128 = .ok (.istore 9, 2) := by decide +kernel
theorem dX5_down_130 : decode cX5_down 130 = .ok (.aload_n 0, 1) := by decide +kernel
theorem dX5_down_131 : decode cX5_down 131 = .ok (.getfield 15, 3) := by decide +kernel
theorem dX5_down_134 : decode cX5_down 134 = .ok (.iload_n 1, 1) := by decide +kernel
theorem dX5_down_135 : decode cX5_down 135 = .ok (.iload 9, 2) := by decide +kernel
theorem dX5_down_137 : decode cX5_down 137 = .ok (.iastore, 1) := by decide +kernel
theorem dX5_down_138 : decode cX5_down 138 = .ok (.iload_n 2, 1) := by decide +kernel
theorem dX5_down_139 : decode cX5_down 139 = .ok (.iload_n 1, 1) := by decide +kernel
theorem dX5_down_140 : decode cX5_down 140 = .ok (.iload 9, 2) := by decide +kernel
theorem dX5_down_142 : decode cX5_down 142 = .ok (.iload 6, 2) := by decide +kernel
theorem dX5_down_144 : decode cX5_down 144 = .ok (.iadd, 1) := by decide +kernel
theorem dX5_down_145 : decode cX5_down 145 = .ok (.invokestatic 50, 3) := by decide +kernel
theorem dX5_down_148 : decode cX5_down 148 = .ok (.iadd, 1) := by decide +kernel
theorem dX5_down_149 : decode cX5_down 149 = .ok (.istore 10, 2) := by decide +kernel
theorem dX5_down_151 : decode cX5_down 151 = .ok (.iload_n 3, 1) := by decide +kernel
theorem dX5_down_152 : decode cX5_down 152 = .ok (.iload_n 1, 1) := by decide +kernel
theorem dX5_down_153 : decode cX5_down 153 = .ok (.iload 7, 2) := by decide +kernel
theorem dX5_down_155 : decode cX5_down 155 = .ok (.iload 9, 2) := by decide +kernel
theorem dX5_down_157 : decode cX5_down 157 = .ok (.isub, 1) := by decide +kernel
theorem dX5_down_158 : decode cX5_down 158 = .ok (.invokestatic 50, 3) := by decide +kernel
theorem dX5_down_161 : decode cX5_down 161 = .ok (.iadd, 1) := by decide +kernel
theorem dX5_down_162 : decode cX5_down 162 = .ok (.istore 11, 2) := by decide +kernel
theorem dX5_down_164 : decode cX5_down 164 = .ok (.aload_n 0, 1) := by decide +kernel
theorem dX5_down_165 : decode cX5_down 165 = .ok (.iload_n 1, 1) := by decide +kernel
theorem dX5_down_166 : decode cX5_down 166 = .ok (.iconst 1, 1) := by decide +kernel
theorem dX5_down_167 : decode cX5_down 167 = .ok (.isub, 1) := by decide +kernel
theorem dX5_down_168 : decode cX5_down 168 = .ok (.iload 10, 2) := by decide +kernel
theorem dX5_down_170 : decode cX5_down 170 = .ok (.iload 11, 2) := by decide +kernel
theorem dX5_down_172 : decode cX5_down 172 = .ok (.invokevirtual 40, 3) := by decide +kernel
theorem dX5_down_175 : decode cX5_down 175 = .ok (.ifCond .eq 5, 3) := by decide +kernel
theorem dX5_down_178 : decode cX5_down 178 = .ok (.iconst 1, 1) := by decide +kernel
theorem dX5_down_179 : decode cX5_down 179 = .ok (.ireturn, 1) := by decide +kernel
theorem dX5_down_180 : decode cX5_down 180 = .ok (.iinc 8 1, 3) := by decide +kernel
theorem dX5_down_183 : decode cX5_down 183 = .ok (.goto (-72), 3) := by decide +kernel
theorem dX5_down_186 : decode cX5_down 186 = .ok (.iconst 0, 1) := by decide +kernel
theorem dX5_down_187 : decode cX5_down 187 = .ok (.ireturn, 1) := by decide +kernel
theorem dX5_isBeyond_0 : decode cX5_isBeyond 0 = .ok (.iload_n 1, 1) := by decide +kernel
theorem dX5_isBeyond_1 : decode cX5_isBeyond 1 = .ok (.ifCond .lt 25, 3) := by decide +kernel
theorem dX5_isBeyond_4 : decode cX5_isBeyond 4 = .ok (.iload_n 1, 1) := by decide +kernel
theorem dX5_isBeyond_5 : decode cX5_isBeyond 5 = .ok (.aload_n 0, 1) := by decide +kernel
theorem dX5_isBeyond_6 : decode cX5_isBeyond 6 = .ok (.getfield 22, 3) := by decide +kernel
theorem dX5_isBeyond_9 : decode cX5_isBeyond 9 = .ok (.arraylength, 1) := by decide +kernel
theorem dX5_isBeyond_10 : decode cX5_isBeyond 10 = .ok (.if_icmp .ge 16, 3) := by decide +kernel
theorem dX5_isBeyond_13 : decode cX5_isBeyond 13 = .ok (.aload_n 0, 1) := by decide +kernel
theorem dX5_isBeyond_14 : decode cX5_isBeyond 14 = .ok (.getfield 22, 3) := by decide +kernel
theorem dX5_isBeyond_17 : decode cX5_isBeyond 17 = .ok (.iload_n 1, 1) := by decide +kernel
theorem dX5_isBeyond_18 : decode cX5_isBeyond 18 = .ok (.iaload, 1) := by decide +kernel
theorem dX5_isBeyond_19 : decode cX5_isBeyond 19 = .ok (.aload_n 0, 1) := by decide +kernel
theorem dX5_isBeyond_20 : decode cX5_isBeyond 20 = .ok (.getfield 18, 3) := by decide +kernel
theorem dX5_isBeyond_23 : decode cX5_isBeyond 23 = .ok (.if_icmp .le 7, 3) := by decide +kernel
theorem dX5_isBeyond_26 : decode cX5_isBeyond 26 = .ok (.iconst 1, 1) := by decide +kernel
theorem dX5_isBeyond_27 : decode cX5_isBeyond 27 = .ok (.goto 4, 3) := by decide +kernel
theorem dX5_isBeyond_30 : decode cX5_isBeyond 30 = .ok (.iconst 0, 1) := by decide +kernel
theorem dX5_isBeyond_31 : decode cX5_isBeyond 31 = .ok (.ireturn, 1) := by decide +kernel
theorem dX5_outward_0 : decode cX5_outward 0 = .ok (.iload_n 1, 1) := by decide +kernel
theorem dX5_outward_1 : decode cX5_outward 1 = .ok (.iconst 2, 1) := by decide +kernel
theorem dX5_outward_2 : decode cX5_outward 2 = .ok (.idiv, 1) := by decide +kernel
theorem dX5_outward_3 : decode cX5_outward 3 = .ok (.istore_n 2, 1) := by decide +kernel
theorem dX5_outward_4 : decode cX5_outward 4 = .ok (.iload_n 0, 1) := by decide +kernel
theorem dX5_outward_5 : decode cX5_outward 5 = .ok (.iconst 1, 1) := by decide +kernel
theorem dX5_outward_6 : decode cX5_outward 6 = .ok (.iand, 1) := by decide +kernel
theorem dX5_outward_7 : decode cX5_outward 7 = .ok (.iconst 1, 1) := by decide +kernel
theorem dX5_outward_8 : decode cX5_outward 8 = .ok (.if_icmp .ne 13, 3) := by decide +kernel
theorem dX5_outward_11 : decode cX5_outward 11 = .ok (.iload_n 2, 1) := by decide +kernel
theorem dX5_outward_12 : decode cX5_outward 12 = .ok (.iload_n 0, 1) := by decide +kernel
theorem dX5_outward_13 : decode cX5_outward 13 = .ok (.iconst 1, 1) := by decide +kernel
theorem dX5_outward_14 : decode cX5_outward 14 = .ok (.iadd, 1) := by decide +kernel
theorem dX5_outward_15 : decode cX5_outward 15 = .ok (.iconst 2, 1) := by decide +kernel
theorem dX5_outward_16 : decode cX5_outward 16 = .ok (.idiv, 1) := by decide +kernel
theorem dX5_outward_17 : decode cX5_outward 17 = .ok (.iadd, 1) := by decide +kernel
theorem dX5_outward_18 : decode cX5_outward 18 = .ok (.goto 8, 3) := by decide +kernel
theorem dX5_outward_21 : decode cX5_outward 21 = .ok (.iload_n 2, 1) := by decide +kernel
theorem dX5_outward_22 : decode cX5_outward 22 = .ok (.iload_n 0, 1) := by decide +kernel
theorem dX5_outward_23 : decode cX5_outward 23 = .ok (.iconst 2, 1) := by decide +kernel
theorem dX5_outward_24 : decode cX5_outward 24 = .ok (.idiv, 1) := by decide +kernel
theorem dX5_outward_25 : decode cX5_outward 25 = .ok (.isub, 1) := by decide +kernel
theorem dX5_outward_26 : decode cX5_outward 26 = .ok (.ireturn, 1) := by decide +kernel
theorem dX6_init_0 : decode cX6_init 0 = .ok (.aload_n 0, 1) := by decide +kernel
theorem dX6_init_1 : decode cX6_init 1 = .ok (.aload_n 1, 1) := by decide +kernel
theorem dX6_init_2 : decode cX6_init 2 = .ok (.iload_n 2, 1) := by decide +kernel
theorem dX6_init_3 : decode cX6_init 3 = .ok (.iload_n 3, 1) := by decide +kernel
theorem dX6_init_4 : decode cX6_init 4 = .ok (.invokespecial 3, 3) := by decide +kernel
theorem dX6_init_7 : decode cX6_init 7 = .ok (.aload_n 0, 1) := by decide +kernel
theorem dX6_init_8 : decode cX6_init 8 = .ok (.bipush 68, 2) := by decide +kernel
theorem dX6_init_10 : decode cX6_init 10 = .ok (.newarray .int, 2) := by decide +kernel
theorem dX6_init_12 : decode cX6_init 12 = .ok (.putfield 9, 3) := by decide +kernel
theorem dX6_init_15 : decode cX6_init 15 = .ok (.aload_n 0, 1) := by decide +kernel
theorem dX6_init_16 : decode cX6_init 16 = .ok (.iconst 0, 1) := by decide +kernel
theorem dX6_init_17 : decode cX6_init 17 = .ok (.putfield 15, 3) := by decide +kernel
theorem dX6_init_20 : decode cX6_init 20 = .ok (.return_, 1) := by decide +kernel
theorem dX6_find_0 : decode cX6_find 0 = .ok (.iconst 3, 1) := by decide +kernel
theorem dX6_find_1 : decode cX6_find 1 = .ok (.istore 5, 2) := by decide +kernel
theorem dX6_find_3 : decode cX6_find 3 = .ok (.iload 5, 2) := by decide +kernel
theorem dX6_find_5 : decode cX6_find 5 = .ok (.ifCond .lt 35, 3) := by decide +kernel
theorem dX6_find_8 : decode cX6_find 8 = .ok (.aload_n 0, 1) := by decide +kernel
theorem dX6_find_9 : decode cX6_find 9 = .ok (.getfield 19, 3) := by decide +kernel
theorem dX6_find_12 : decode cX6_find 12 = .ok (.iload 5, 2) := by decide +kernel
theorem dX6_find_14 : decode cX6_find 14 = .ok (.aload_n 0, 1) := by decide +kernel
theorem dX6_find_15 : decode cX6_find 15 = .ok (.getfield 19, 3) := by decide +kernel
theorem dX6_find_18 : decode cX6_find 18 = .ok (.iload 5, 2) := by decide +kernel
theorem dX6_find_20 : decode cX6_find 20 = .ok (.iconst 1, 1) := by decide +kernel
theorem dX6_find_21 : decode cX6_find 21 = .ok (.iadd, 1) := by decide +kernel
theorem dX6_find_22 : decode cX6_find 22 = .ok (.iaload, 1) := by decide +kernel
theorem dX6_find_23 : decode cX6_find 23 = .ok (.aload_n 0, 1) := by decide +kernel
theorem dX6_find_24 : decode cX6_find 24 = .ok (.aload_n 1, 1) := by decide +kernel
theorem dX6_find_25 : decode cX6_find 25 = .ok (.iload_n 2, 1) := by decide +kernel
theorem dX6_find_26 : decode cX6_find 26 = .ok (.iload_n 3, 1) := by decide +kernel
theorem dX6_find_27 : decode cX6_find 27 = .ok (.iload 5, 2) := by decide +kernel
theorem dX6_find_29 : decode cX6_find 29 = .ok (.invokevirtual 22, 3) := by decide +kernel
theorem dX6_find_32 : decode cX6_find 32 = .ok (.iadd, 1) := by decide +kernel
theorem dX6_find_33 : decode cX6_find 33 = .ok (.iastore, 1) := by decide +kernel
theorem dX6_find_34 : decode cX6_find 34 = .ok (.iinc 5 (-1), 3) := by decide +kernel
theorem dX6_find_37 : decode cX6_find 37 = .ok (.goto (-34), 3) := by decide +kernel
theorem dX6_find_40 : decode cX6_find 40 = .ok (.aload_n 0, 1) := by decide +kernel
theorem dX6_find_41 : decode cX6_find 41 = .ok (.ldc 26, 2) := by decide +kernel
theorem dX6_find_43 : decode cX6_find 43 = .ok (.putfield 15, 3) := by decide +kernel
theorem dX6_find_46 : decode cX6_find 46 = .ok (.aload_n 0, 1) := by decide +kernel
theorem dX6_find_47 : decode cX6_find 47 = .ok (.iload 4, 2) := by decide +kernel
theorem dX6_find_49 : decode cX6_find 49 = .ok (.invokevirtual 27, 3) := by decide +kernel
theorem dX6_find_52 : decode cX6_find 52 = .ok (.pop, 1) := by decide +kernel
theorem dX6_find_53 : decode cX6_find 53 = .ok (.aload_n 0, 1) := by decide +kernel
theorem dX6_find_54 : decode cX6_find 54 = .ok (.getfield 15, 3) := by decide +kernel
theorem dX6_find_57 : decode cX6_find 57 = .ok (.ireturn, 1) := by decide +kernel
theorem dX6_layLowest_0 : decode cX6_layLowest 0 = .ok (.iconst 0, 1) := by decide +kernel
theorem dX6_layLowest_1 : decode cX6_layLowest 1 = .ok (.istore 5, 2) := by decide +kernel
theorem dX6_layLowest_3 : decode cX6_layLowest 3 = .ok (.iconst 0, 1) := by decide +kernel
theorem dX6_layLowest_4 : decode cX6_layLowest 4 = .ok (.istore 6, 2) := by decide +kernel
theorem dX6_layLowest_6 : decode cX6_layLowest 6 = .ok (.iconst 0, 1) := by decide +kernel
theorem dX6_layLowest_7 : decode cX6_layLowest 7 = .ok (.istore 7, 2) := by decide +kernel
theorem dX6_layLowest_9 : decode cX6_layLowest 9 = .ok (.iload 7, 2) := by decide +kernel
theorem dX6_layLowest_11 : decode cX6_layLowest 11 = .ok (.iload_n 3, 1) := by decide +kernel
theorem dX6_layLowest_12 : decode cX6_layLowest 12 = .ok (.if_icmp .ge 56, 3) := by decide +kernel
theorem dX6_layLowest_15 : decode cX6_layLowest 15 = .ok (.iload 7, 2) := by decide +kernel
theorem dX6_layLowest_17 : decode cX6_layLowest 17 = .ok (.bipush 16, 2) := by decide +kernel
theorem dX6_layLowest_19 : decode cX6_layLowest 19 = .ok (.if_icmp .ge 49, 3) := by decide +kernel
theorem dX6_layLowest_22 : decode cX6_layLowest 22 = .ok (.aload_n 1, 1) := by decide +kernel
theorem dX6_layLowest_23 : decode cX6_layLowest 23 = .ok (.iload_n 2, 1) := by decide +kernel
theorem dX6_layLowest_24 : decode cX6_layLowest 24 = .ok (.iload 7, 2) := by decide +kernel
theorem dX6_layLowest_26 : decode cX6_layLowest 26 = .ok (.iadd, 1) := by decide +kernel
theorem dX6_layLowest_27 : decode cX6_layLowest 27 = .ok (.invokestatic 31, 3) := by decide +kernel
theorem dX6_layLowest_30 : decode cX6_layLowest 30 = .ok (.iload 4, 2) := by decide +kernel
theorem dX6_layLowest_32 : decode cX6_layLowest 32 = .ok (.if_icmp .ne 30, 3) := by decide +kernel
theorem dX6_layLowest_35 : decode cX6_layLowest 35 = .ok (.iinc 5 1, 3) := by decide +kernel
theorem dX6_layLowest_38 : decode cX6_layLowest 38 = .ok (.iload 6, 2) := by decide +kernel
theorem dX6_layLowest_40 : decode cX6_layLowest 40 = .ok (.iconst 1, 1) := by decide +kernel
theorem dX6_layLowest_41 : decode cX6_layLowest 41 = .ok (.iload 7, 2) := by decide +kernel
theorem dX6_layLowest_43 : decode cX6_layLowest 43 = .ok (.ishl, 1) := by decide +kernel
theorem dX6_layLowest_44 : decode cX6_layLowest 44 = .ok (.ior, 1) := by decide +kernel
theorem dX6_layLowest_45 : decode cX6_layLowest 45 = .ok (.istore 6, 2) := by decide +kernel
theorem dX6_layLowest_47 : decode cX6_layLowest 47 = .ok (.aload_n 0, 1) := by decide +kernel
theorem dX6_layLowest_48 : decode cX6_layLowest 48 = .ok (.getfield 9, 3) := by decide +kernel
theorem dX6_layLowest_51 : decode cX6_layLowest 51 = .ok (.iload 4, 2) := by decide +kernel
theorem dX6_layLowest_53 : decode cX6_layLowest 53 = .ok (.bipush 17, 2) := by decide +kernel
theorem dX6_layLowest_55 : decode cX6_layLowest 55 = .ok (.imul, 1) := by decide +kernel
theorem dX6_layLowest_56 : decode cX6_layLowest 56 = .ok (.iload 5, 2) := by decide +kernel
theorem dX6_layLowest_58 : decode cX6_layLowest 58 = .ok (.iadd, 1) := by decide +kernel
theorem dX6_layLowest_59 : decode cX6_layLowest 59 = .ok (.iload 6, 2) := by decide +kernel
theorem dX6_layLowest_61 : decode cX6_layLowest 61 = .ok (.iastore, 1) := by decide +kernel
theorem dX6_layLowest_62 : decode cX6_layLowest 62 = .ok (.iinc 7 1, 3) := by decide +kernel
theorem dX6_layLowest_65 : decode cX6_layLowest 65 = .ok (.goto (-56), 3) := by decide +kernel
theorem dX6_layLowest_68 : decode cX6_layLowest 68 = .ok (.iload 5, 2) := by decide +kernel
theorem dX6_layLowest_70 : decode cX6_layLowest 70 = .ok (.ireturn, 1) := by decide +kernel
theorem dX6_last_0 : decode cX6_last 0 = .ok (.iconst 0, 1) := by decide +kernel
theorem dX6_last_1 : decode cX6_last 1 = .ok (.istore 4, 2) := by decide +kernel
theorem dX6_last_3 : decode cX6_last 3 = .ok (.iload 4, 2) := by decide +kernel
theorem dX6_last_5 : decode cX6_last 5 = .ok (.iload_n 3, 1) := by decide +kernel
theorem dX6_last_6 : decode cX6_last 6 = .ok (.if_icmp .ge 20, 3) := by decide +kernel
theorem dX6_last_9 : decode cX6_last 9 = .ok (.aload_n 0, 1) := by decide +kernel
theorem dX6_last_10 : decode cX6_last 10 = .ok (.iload_n 2, 1) := by decide +kernel
theorem dX6_last_11 : decode cX6_last 11 = .ok (.iload 4, 2) := by decide +kernel
theorem dX6_last_13 : decode cX6_last 13 = .ok (.isub, 1) := by decide +kernel
theorem dX6_last_14 : decode cX6_last 14 = .ok (.invokevirtual 35, 3) := by decide +kernel
theorem dX6_last_17 : decode cX6_last 17 = .ok (.ifCond .eq 9, 3) := by decide +kernel
theorem dX6_last_20 : decode cX6_last 20 = .ok (.iinc 4 1, 3) := by decide +kernel
theorem dX6_last_23 : decode cX6_last 23 = .ok (.goto (-20), 3) := by decide +kernel
theorem dX6_last_26 : decode cX6_last 26 = .ok (.aload_n 0, 1) := by decide +kernel
theorem dX6_last_27 : decode cX6_last 27 = .ok (.iload_n 2, 1) := by decide +kernel
theorem dX6_last_28 : decode cX6_last 28 = .ok (.iload 4, 2) := by decide +kernel
theorem dX6_last_30 : decode cX6_last 30 = .ok (.isub, 1) := by decide +kernel
theorem dX6_last_31 : decode cX6_last 31 = .ok (.invokevirtual 35, 3) := by decide +kernel
theorem dX6_last_34 : decode cX6_last 34 = .ok (.ifCond .ne 44, 3) := by decide +kernel
theorem dX6_last_37 : decode cX6_last 37 = .ok (.aload_n 0, 1) := by decide +kernel
theorem dX6_last_38 : decode cX6_last 38 = .ok (.iload_n 1, 1) := by decide +kernel
theorem dX6_last_39 : decode cX6_last 39 = .ok (.iload 4, 2) := by decide +kernel
theorem dX6_last_41 : decode cX6_last 41 = .ok (.iadd, 1) := by decide +kernel
theorem dX6_last_42 : decode cX6_last 42 = .ok (.invokevirtual 35, 3) := by decide +kernel
theorem dX6_last_45 : decode cX6_last 45 = .ok (.ifCond .ne 33, 3) := by decide +kernel
theorem dX6_last_48 : decode cX6_last 48 = .ok (.aload_n 0, 1) := by decide +kernel
theorem dX6_last_49 : decode cX6_last 49 = .ok (.getfield 38, 3) := by decide +kernel
theorem dX6_last_52 : decode cX6_last 52 = .ok (.iconst 0, 1) := by decide +kernel
theorem dX6_last_53 : decode cX6_last 53 = .ok (.aload_n 0, 1) := by decide +kernel
theorem dX6_last_54 : decode cX6_last 54 = .ok (.getfield 38, 3) := by decide +kernel
theorem dX6_last_57 : decode cX6_last 57 = .ok (.iconst 1, 1) := by decide +kernel
theorem dX6_last_58 : decode cX6_last 58 = .ok (.iaload, 1) := by decide +kernel
theorem dX6_last_59 : decode cX6_last 59 = .ok (.iload 4, 2) := by decide +kernel
theorem dX6_last_61 : decode cX6_last 61 = .ok (.iadd, 1) := by decide +kernel
theorem dX6_last_62 : decode cX6_last 62 = .ok (.iastore, 1) := by decide +kernel
theorem dX6_last_63 : decode cX6_last 63 = .ok (.aload_n 0, 1) := by decide +kernel
theorem dX6_last_64 : decode cX6_last 64 = .ok (.aload_n 0, 1) := by decide +kernel
theorem dX6_last_65 : decode cX6_last 65 = .ok (.getfield 15, 3) := by decide +kernel
theorem dX6_last_68 : decode cX6_last 68 = .ok (.aload_n 0, 1) := by decide +kernel
theorem dX6_last_69 : decode cX6_last 69 = .ok (.invokevirtual 41, 3) := by decide +kernel
theorem dX6_last_72 : decode cX6_last 72 = .ok (.invokestatic 45, 3) := by decide +kernel
theorem dX6_last_75 : decode cX6_last 75 = .ok (.putfield 15, 3) := by decide +kernel
theorem dX6_last_78 : decode cX6_last 78 = .ok (.iconst 0, 1) := by decide +kernel
theorem dX6_last_79 : decode cX6_last 79 = .ok (.ireturn, 1) := by decide +kernel
theorem dX6_lowestTaken_0 : decode cX6_lowestTaken 0 = .ok (.iconst 0, 1) := by decide +kernel
theorem dX6_lowestTaken_1 : decode cX6_lowestTaken 1 = .ok (.istore_n 1, 1) := by decide +kernel
theorem dX6_lowestTaken_2 : decode cX6_lowestTaken 2 = .ok (.iconst 0, 1) := by decide +kernel
theorem dX6_lowestTaken_3 : decode cX6_lowestTaken 3 = .ok (.istore_n 2, 1) := by decide +kernel
theorem dX6_lowestTaken_4 : decode cX6_lowestTaken 4 = .ok (.iload_n 2, 1) := by decide +kernel
theorem dX6_lowestTaken_5 : decode cX6_lowestTaken 5 = .ok (.iconst 4, 1) := by decide +kernel
theorem dX6_lowestTaken_6 : decode cX6_lowestTaken 6 = .ok (.if_icmp .ge 49, 3) := by decide +kernel
theorem dX6_lowestTaken_9 : decode cX6_lowestTaken 9 = .ok (.aload_n 0, 1) := by decide +kernel
theorem dX6_lowestTaken_10 : decode cX6_lowestTaken 10 = .ok (.getfield 38, 3) := by decide +kernel
theorem dX6_lowestTaken_13 : decode cX6_lowestTaken 13 = .ok (.iload_n 2, 1) := by decide +kernel
theorem dX6_lowestTaken_14 : decode cX6_lowestTaken 14 = .ok (.iaload, 1) := by decide +kernel
theorem dX6_lowestTaken_15 : decode cX6_lowestTaken 15 = .ok (.aload_n 0, 1) := by decide +kernel
theorem dX6_lowestTaken_16 : decode cX6_lowestTaken 16 = .ok (.getfield 38, 3) := by decide +kernel
theorem dX6_lowestTaken_19 : decode cX6_lowestTaken 19 = .ok (.iload_n 2, 1) := by decide +kernel
theorem dX6_lowestTaken_20 : decode cX6_lowestTaken 20 = .ok (.iconst 1, 1) := by decide +kernel
theorem dX6_lowestTaken_21 : decode cX6_lowestTaken 21 = .ok (.iadd, 1) := by decide +kernel
theorem dX6_lowestTaken_22 : decode cX6_lowestTaken 22 = .ok (.iaload, 1) := by decide +kernel
theorem dX6_lowestTaken_23 : decode cX6_lowestTaken 23 = .ok (.isub, 1) := by decide +kernel
theorem dX6_lowestTaken_24 : decode cX6_lowestTaken 24 = .ok (.istore_n 3, 1) := by decide +kernel
theorem dX6_lowestTaken_25 : decode cX6_lowestTaken 25 = .ok (.iload_n 3, 1) := by decide +kernel
theorem dX6_lowestTaken_26 : decode cX6_lowestTaken 26 = .ok (.ifCond .le 23, 3) := by decide +kernel
theorem dX6_lowestTaken_29 : decode cX6_lowestTaken 29 = .ok (.iload_n 3, 1) := by decide +kernel
theorem dX6_lowestTaken_30 : decode cX6_lowestTaken 30 = .ok (.bipush 17, 2) := by decide +kernel
theorem dX6_lowestTaken_32 : decode cX6_lowestTaken 32 = .ok (.if_icmp .ge 17, 3) := by decide +kernel
theorem dX6_lowestTaken_35 : decode cX6_lowestTaken 35 = .ok (.iload_n 1, 1) := by decide +kernel
theorem dX6_lowestTaken_36 : decode cX6_lowestTaken 36 = .ok (.aload_n 0, 1) := by decide +kernel
theorem dX6_lowestTaken_37 : decode cX6_lowestTaken 37 = .ok (.getfield 9, 3) := by decide +kernel
theorem dX6_lowestTaken_40 : decode cX6_lowestTaken 40 = .ok (.iload_n 2, 1) := by decide +kernel
theorem dX6_lowestTaken_41 : decode cX6_lowestTaken 41 = .ok (.bipush 17, 2) := by decide +kernel
theorem dX6_lowestTaken_43 : decode cX6_lowestTaken 43 = .ok (.imul, 1) := by decide +kernel
theorem dX6_lowestTaken_44 : decode cX6_lowestTaken 44 = .ok (.iload_n 3, 1) := by decide +kernel
theorem dX6_lowestTaken_45 : decode cX6_lowestTaken 45 = .ok (.iadd, 1) := by decide +kernel
theorem dX6_lowestTaken_46 : decode cX6_lowestTaken 46 = .ok (.iaload, 1) := by decide +kernel
theorem dX6_lowestTaken_47 : decode cX6_lowestTaken 47 = .ok (.ior, 1) := by decide +kernel
theorem dX6_lowestTaken_48 : decode cX6_lowestTaken 48 = .ok (.istore_n 1, 1) := by decide +kernel
theorem dX6_lowestTaken_49 : decode cX6_lowestTaken 49 = .ok (.iinc 2 1, 3) := by decide +kernel
theorem dX6_lowestTaken_52 : decode cX6_lowestTaken 52 = .ok (.goto (-48), 3) := by decide +kernel
theorem dX6_lowestTaken_55 : decode cX6_lowestTaken 55 = .ok (.iload_n 1, 1) := by decide +kernel
theorem dX6_lowestTaken_56 : decode cX6_lowestTaken 56 = .ok (.ireturn, 1) := by decide +kernel
theorem dX7_init_0 : decode cX7_init 0 = .ok (.aload_n 0, 1) := by decide +kernel
theorem dX7_init_1 : decode cX7_init 1 = .ok (.invokespecial 3, 3) := by decide +kernel
theorem dX7_init_4 : decode cX7_init 4 = .ok (.return_, 1) := by decide +kernel
theorem dX7_price_0 : decode cX7_price 0 = .ok (.aload_n 3, 1) := by decide +kernel
theorem dX7_price_1 : decode cX7_price 1 = .ok (.dup, 1) := by decide +kernel
theorem dX7_price_2 : decode cX7_price 2 = .ok (.getfield 9, 3) := by decide +kernel
theorem dX7_price_5 : decode cX7_price 5 = .ok (.lconst 1, 1) := by decide +kernel
theorem dX7_price_6 : decode cX7_price 6 = .ok (.ladd, 1) := by decide +kernel
theorem dX7_price_7 : decode cX7_price 7 = .ok (.putfield 9, 3) := by decide +kernel
theorem dX7_price_10 : decode cX7_price 10 = .ok (.iload_n 1, 1) := by decide +kernel
theorem dX7_price_11 : decode cX7_price 11 = .ok (.iload_n 2, 1) := by decide +kernel
theorem dX7_price_12 : decode cX7_price 12 = .ok (.if_icmp .ne 7, 3) := by decide +kernel
theorem dX7_price_15 : decode cX7_price 15 = .ok (.iconst 0, 1) := by decide +kernel
theorem dX7_price_16 : decode cX7_price 16 = .ok (.goto 5, 3) := by decide +kernel
theorem dX7_price_19 : decode cX7_price 19 = .ok (.bipush 9, 2) := by decide +kernel
theorem dX7_price_21 : decode cX7_price 21 = .ok (.ireturn, 1) := by decide +kernel
theorem dX8_init_0 : decode cX8_init 0 = .ok (.aload_n 0, 1) := by decide +kernel
theorem dX8_init_1 : decode cX8_init 1 = .ok (.invokespecial 3, 3) := by decide +kernel
theorem dX8_init_4 : decode cX8_init 4 = .ok (.aload_n 0, 1) := by decide +kernel
theorem dX8_init_5 : decode cX8_init 5 = .ok (.sipush 4096, 3) := by decide +kernel
theorem dX8_init_8 : decode cX8_init 8 = .ok (.newarray .int, 2) := by decide +kernel
theorem dX8_init_10 : decode cX8_init 10 = .ok (.putfield 9, 3) := by decide +kernel
theorem dX8_init_13 : decode cX8_init 13 = .ok (.aload_n 0, 1) := by decide +kernel
theorem dX8_init_14 : decode cX8_init 14 = .ok (.iconst 0, 1) := by decide +kernel
theorem dX8_init_15 : decode cX8_init 15 = .ok (.putfield 15, 3) := by decide +kernel
theorem dX8_init_18 : decode cX8_init 18 = .ok (.aload_n 0, 1) := by decide +kernel
theorem dX8_init_19 : decode cX8_init 19 = .ok (.iload_n 1, 1) := by decide +kernel
theorem dX8_init_20 : decode cX8_init 20 = .ok (.iconst 3, 1) := by decide +kernel
theorem dX8_init_21 : decode cX8_init 21 = .ok (.invokestatic 19, 3) := by decide +kernel
theorem dX8_init_24 : decode cX8_init 24 = .ok (.putfield 25, 3) := by decide +kernel
theorem dX8_init_27 : decode cX8_init 27 = .ok (.aload_n 0, 1) := by decide +kernel
theorem dX8_init_28 : decode cX8_init 28 = .ok (.iload_n 2, 1) := by decide +kernel
theorem dX8_init_29 : decode cX8_init 29 = .ok (.iconst 3, 1) := by decide +kernel
theorem dX8_init_30 : decode cX8_init 30 = .ok (.invokestatic 19, 3) := by decide +kernel
theorem dX8_init_33 : decode cX8_init 33 = .ok (.putfield 28, 3) := by decide +kernel
theorem dX8_init_36 : decode cX8_init 36 = .ok (.return_, 1) := by decide +kernel
theorem dX8_fewestOf_0 : decode cX8_fewestOf 0 = .ok (.iload_n 1, 1) := by decide +kernel
theorem dX8_fewestOf_1 : decode cX8_fewestOf 1 = .ok (.ifCond .lt 10, 3) := by decide +kernel
theorem dX8_fewestOf_4 : decode cX8_fewestOf 4 = .ok (.iload_n 1, 1) := by decide +kernel
theorem dX8_fewestOf_5 : decode cX8_fewestOf 5 = .ok (.sipush 4096, 3) := by decide +kernel
theorem dX8_fewestOf_8 : decode cX8_fewestOf 8 = .ok (.if_icmp .lt 6, 3) := by decide +kernel
theorem dX8_fewestOf_11 : decode cX8_fewestOf 11 = .ok (.bipush 13, 2) := by decide +kernel
theorem dX8_fewestOf_13 : decode cX8_fewestOf 13 = .ok (.ireturn, 1) := by decide +kernel
theorem dX8_fewestOf_14 : decode cX8_fewestOf 14 = .ok (.aload_n 0, 1) := by decide +kernel
theorem dX8_fewestOf_15 : decode cX8_fewestOf 15 = .ok (.getfield 15, 3) := by decide +kernel
theorem dX8_fewestOf_18 : decode cX8_fewestOf 18 = .ok (.iload_n 1, 1) := by decide +kernel
theorem dX8_fewestOf_19 : decode cX8_fewestOf 19 = .ok (.if_icmp .gt 54, 3) := by decide +kernel
theorem dX8_fewestOf_22 : decode cX8_fewestOf 22 = .ok (.aload_n 0, 1) := by decide +kernel
theorem dX8_fewestOf_23 : decode cX8_fewestOf 23 = .ok (.getfield 15, 3) := by decide +kernel
theorem dX8_fewestOf_26 : decode cX8_fewestOf 26 = .ok (.sipush 4096, 3) := by decide +kernel
theorem dX8_fewestOf_29 : decode cX8_fewestOf 29 = .ok (.if_icmp .ge 44, 3) := by decide +kernel
theorem dX8_fewestOf_32 : decode cX8_fewestOf 32 = .ok (.aload_n 0, 1) := by decide +kernel
theorem dX8_fewestOf_33 : decode cX8_fewestOf 33 = .ok (.getfield 9, 3) := by decide +kernel
theorem dX8_fewestOf_36 : decode cX8_fewestOf 36 = .ok (.aload_n 0, 1) := by decide +kernel
theorem dX8_fewestOf_37 : decode cX8_fewestOf 37 = .ok (.getfield 15, 3) := by decide +kernel
theorem dX8_fewestOf_40 : decode cX8_fewestOf 40 = .ok (.bipush 13, 2) := by decide +kernel
theorem dX8_fewestOf_42 : decode cX8_fewestOf 42 = .ok (.iastore, 1) := by decide +kernel
theorem dX8_fewestOf_43 : decode cX8_fewestOf 43 = .ok (.aload_n 0, 1) := by decide +kernel
theorem dX8_fewestOf_44 : decode cX8_fewestOf 44 = .ok (.getfield 9, 3) := by decide +kernel
theorem dX8_fewestOf_47 : decode cX8_fewestOf 47 = .ok (.aload_n 0, 1) := by decide +kernel
theorem dX8_fewestOf_48 : decode cX8_fewestOf 48 = .ok (.getfield 15, 3) := by decide +kernel
theorem dX8_fewestOf_51 : decode cX8_fewestOf 51 = .ok (.aload_n 0, 1) := by decide +kernel
theorem dX8_fewestOf_52 : decode cX8_fewestOf 52 = .ok (.aload_n 0, 1) := by decide +kernel
theorem dX8_fewestOf_53 : decode cX8_fewestOf 53 = .ok (.getfield 15, 3) := by decide +kernel
theorem dX8_fewestOf_56 : decode cX8_fewestOf 56 = .ok (.invokevirtual 31, 3) := by decide +kernel
theorem dX8_fewestOf_59 : decode cX8_fewestOf 59 = .ok (.iastore, 1) := by decide +kernel
theorem dX8_fewestOf_60 : decode cX8_fewestOf 60 = .ok (.aload_n 0, 1) := by decide +kernel
theorem dX8_fewestOf_61 : decode cX8_fewestOf 61 = .ok (.dup, 1) := by decide +kernel
theorem dX8_fewestOf_62 : decode cX8_fewestOf 62 = .ok (.getfield 15, 3) := by decide +kernel
theorem dX8_fewestOf_65 : decode cX8_fewestOf 65 = .ok (.iconst 1, 1) := by decide +kernel
theorem dX8_fewestOf_66 : decode cX8_fewestOf 66 = .ok (.iadd, 1) := by decide +kernel
theorem dX8_fewestOf_67 : decode cX8_fewestOf 67 = .ok (.putfield 15, 3) := by decide +kernel
theorem dX8_fewestOf_70 : decode cX8_fewestOf 70 = .ok (.goto (-56), 3) := by decide +kernel
theorem dX8_fewestOf_73 : decode cX8_fewestOf 73 = .ok (.aload_n 0, 1) := by decide +kernel
theorem dX8_fewestOf_74 : decode cX8_fewestOf 74 = .ok (.getfield 9, 3) := by decide +kernel
theorem dX8_fewestOf_77 : decode cX8_fewestOf 77 = .ok (.iload_n 1, 1) := by decide +kernel
theorem dX8_fewestOf_78 : decode cX8_fewestOf 78 = .ok (.iaload, 1) := by decide +kernel
theorem dX8_fewestOf_79 : decode cX8_fewestOf 79 = .ok (.ireturn, 1) := by decide +kernel
theorem dX8_learned_0 : decode cX8_learned 0 = .ok (.iload_n 1, 1) := by decide +kernel
theorem dX8_learned_1 : decode cX8_learned 1 = .ok (.invokestatic 35, 3) := by decide +kernel
theorem dX8_learned_4 : decode cX8_learned 4 = .ok (.istore_n 2, 1) := by decide +kernel
theorem dX8_learned_5 : decode cX8_learned 5 = .ok (.iload_n 1, 1) := by decide +kernel
theorem dX8_learned_6 : decode cX8_learned 6 = .ok (.iload_n 2, 1) := by decide +kernel
theorem dX8_learned_7 : decode cX8_learned 7 = .ok (.if_icmp .le 20, 3) := by decide +kernel
theorem dX8_learned_10 : decode cX8_learned 10 = .ok (.aload_n 0, 1) := by decide +kernel
theorem dX8_learned_11 : decode cX8_learned 11 = .ok (.iload_n 1, 1) := by decide +kernel
theorem dX8_learned_12 : decode cX8_learned 12 = .ok (.iload_n 2, 1) := by decide +kernel
theorem dX8_learned_13 : decode cX8_learned 13 = .ok (.iconst 1, 1) := by decide +kernel
theorem dX8_learned_14 : decode cX8_learned 14 = .ok (.isub, 1) := by decide +kernel
theorem dX8_learned_15 : decode cX8_learned 15 = .ok (.iand, 1) := by decide +kernel
theorem dX8_learned_16 : decode cX8_learned 16 = .ok (.iload_n 1, 1) := by decide +kernel
theorem dX8_learned_17 : decode cX8_learned 17 = .ok (.iconst 2, 1) := by decide +kernel
theorem dX8_learned_18 : decode cX8_learned 18 = .ok (.ishr, 1) := by decide +kernel
theorem dX8_learned_19 : decode cX8_learned 19 = .ok (.iload_n 2, 1) := by decide +kernel
theorem dX8_learned_20 : decode cX8_learned 20 = .ok (.ineg, 1) := by decide +kernel
theorem dX8_learned_21 : decode cX8_learned 21 = .ok (.iand, 1) := by decide +kernel
theorem dX8_learned_22 : decode cX8_learned 22 = .ok (.ior, 1) := by decide +kernel
theorem dX8_learned_23 : decode cX8_learned 23 = .ok (.invokevirtual 38, 3) := by decide +kernel
theorem dX8_learned_26 : decode cX8_learned 26 = .ok (.ireturn, 1) := by decide +kernel
theorem dX8_learned_27 : decode cX8_learned 27 = .ok (.iload_n 2, 1) := by decide +kernel
theorem dX8_learned_28 : decode cX8_learned 28 = .ok (.iconst 1, 1) := by decide +kernel
theorem dX8_learned_29 : decode cX8_learned 29 = .ok (.isub, 1) := by decide +kernel
theorem dX8_learned_30 : decode cX8_learned 30 = .ok (.invokestatic 41, 3) := by decide +kernel
theorem dX8_learned_33 : decode cX8_learned 33 = .ok (.iconst 2, 1) := by decide +kernel
theorem dX8_learned_34 : decode cX8_learned 34 = .ok (.idiv, 1) := by decide +kernel
theorem dX8_learned_35 : decode cX8_learned 35 = .ok (.istore_n 3, 1) := by decide +kernel
theorem dX8_learned_36 : decode cX8_learned 36 = .ok (.iload_n 3, 1) := by decide +kernel
theorem dX8_learned_37 : decode cX8_learned 37 = .ok (.iconst 1, 1) := by decide +kernel
theorem dX8_learned_38 : decode cX8_learned 38 = .ok (.if_icmp .gt 7, 3) := by decide +kernel
theorem dX8_learned_41 : decode cX8_learned 41 = .ok (.iconst 0, 1) := by decide +kernel
theorem dX8_learned_42 : decode cX8_learned 42 = .ok (.goto 9, 3) := by decide +kernel
theorem dX8_learned_45 : decode cX8_learned 45 = .ok (.aload_n 0, 1) := by decide +kernel
theorem dX8_learned_46 : decode cX8_learned 46 = .ok (.iload_n 1, 1) := by decide +kernel
theorem dX8_learned_47 : decode cX8_learned 47 = .ok (.iload_n 3, 1) := by decide +kernel
theorem dX8_learned_48 : decode cX8_learned 48 = .ok (.invokevirtual 46, 3) := by decide +kernel
theorem dX8_learned_51 : decode cX8_learned 51 = .ok (.ireturn, 1) := by decide +kernel
theorem dX8_leastQuestions_0 : decode cX8_leastQuestions 0 = .ok (.iconst 1, 1) := by decide +kernel
theorem dX8_leastQuestions_1 : decode cX8_leastQuestions 1 = .ok (.istore_n 3, 1) := by decide +kernel
theorem dX8_leastQuestions_2 : decode cX8_leastQuestions 2 = .ok (.iconst 0, 1) := by decide +kernel
theorem dX8_leastQuestions_3 : decode cX8_leastQuestions 3 = .ok (.istore 4, 2) := by decide +kernel
theorem dX8_leastQuestions_5 : decode cX8_leastQuestions 5 = .ok (.iload 4, 2) := by decide +kernel
theorem dX8_leastQuestions_7 : decode cX8_leastQuestions 7 = .ok (.iload_n 2, 1) := by decide +kernel
theorem dX8_leastQuestions_8 : decode cX8_leastQuestions 8 = .ok (.if_icmp .ge 25, 3) := by decide +kernel
theorem dX8_leastQuestions_11 : decode cX8_leastQuestions 11 = .ok (.iload_n 3, 1) := by decide +kernel
theorem dX8_leastQuestions_12 : decode cX8_leastQuestions 12 = .ok (.aload_n 0, 1) := by decide +kernel
theorem dX8_leastQuestions_13 : decode cX8_leastQuestions 13 = .ok (.iload_n 1, 1) := by decide +kernel
theorem dX8_leastQuestions_14 : decode cX8_leastQuestions 14 = .ok (.iload 4, 2) := by decide +kernel
theorem dX8_leastQuestions_16 : decode cX8_leastQuestions 16 = .ok (.invokestatic 49, 3) := by decide +kernel
theorem dX8_leastQuestions_19 : decode cX8_leastQuestions 19 = .ok (.isub, 1) := by decide +kernel
theorem dX8_leastQuestions_20 : decode cX8_leastQuestions 20 = .ok (.invokevirtual 38, 3) := by decide +kernel
theorem dX8_leastQuestions_23 : decode cX8_leastQuestions 23 = .ok (.invokestatic 52, 3) := by decide +kernel
theorem dX8_leastQuestions_26 : decode cX8_leastQuestions 26 = .ok (.istore_n 3, 1) := by decide +kernel
theorem dX8_leastQuestions_27 : decode cX8_leastQuestions 27 = .ok (.iinc 4 1, 3) := by decide +kernel
theorem dX8_leastQuestions_30 : decode cX8_leastQuestions 30 = .ok (.goto (-25), 3) := by decide +kernel
theorem dX8_leastQuestions_33 : decode cX8_leastQuestions 33 = .ok (.bipush 13, 2) := by decide +kernel
theorem dX8_leastQuestions_35 : decode cX8_leastQuestions 35 = .ok (.istore 4, 2) := by decide +kernel
theorem dX8_leastQuestions_37 : decode cX8_leastQuestions 37 = .ok (.iconst 0, 1) := by decide +kernel
theorem dX8_leastQuestions_38 : decode cX8_leastQuestions 38 = .ok (.istore 5, 2) := by decide +kernel
theorem dX8_leastQuestions_40 : decode cX8_leastQuestions 40 = .ok (.iload 5, 2) := by decide +kernel
theorem dX8_leastQuestions_42 : decode cX8_leastQuestions 42 = .ok (.iload_n 2, 1) := by decide +kernel
theorem dX8_leastQuestions_43 : decode cX8_leastQuestions 43 = .ok (.if_icmp .ge 64, 3) := by decide +kernel
theorem dX8_leastQuestions_46 : decode cX8_leastQuestions 46 = .ok (.iload 4, 2) := by decide +kernel
theorem dX8_leastQuestions_48 : decode cX8_leastQuestions 48 = .ok (.iload_n 3, 1) := by decide +kernel
theorem dX8_leastQuestions_49 : decode cX8_leastQuestions 49 = .ok (.if_icmp .lt 58, 3) := by decide +kernel
theorem dX8_leastQuestions_52 : decode cX8_leastQuestions 52 = .ok (.iconst 0, 1) := by decide +kernel
theorem dX8_leastQuestions_53 : decode cX8_leastQuestions 53 = .ok (.istore 6, 2) := by decide +kernel
theorem dX8_leastQuestions_55 : decode cX8_leastQuestions 55 = .ok (.iload 5, 2) := by decide +kernel
theorem dX8_leastQuestions_57 : decode cX8_leastQuestions 57 = .ok (.istore 7, 2) := by decide +kernel
theorem dX8_leastQuestions_59 : decode cX8_leastQuestions 59 = .ok (.iload 7, 2) := by decide +kernel
theorem dX8_leastQuestions_61 : decode cX8_leastQuestions 61 = .ok (.iload_n 2, 1) := by decide +kernel
theorem dX8_leastQuestions_62 : decode cX8_leastQuestions 62 = .ok (.if_icmp .ge 39, 3) := by decide +kernel
theorem dX8_leastQuestions_65 : decode cX8_leastQuestions 65 = .ok (.iload 4, 2) := by decide +kernel
theorem dX8_leastQuestions_67 : decode cX8_leastQuestions 67 = .ok (.iload_n 3, 1) := by decide +kernel
theorem dX8_leastQuestions_68 : decode cX8_leastQuestions 68 = .ok (.if_icmp .lt 33, 3) := by decide +kernel
theorem dX8_leastQuestions_71 : decode cX8_leastQuestions 71 = .ok (.iload 6, 2) := by decide +kernel
theorem dX8_leastQuestions_73 : decode cX8_leastQuestions 73 = .ok (.iload 7, 2) := by decide +kernel
theorem dX8_leastQuestions_75 : decode cX8_leastQuestions 75 = .ok (.invokestatic 49, 3) := by decide +kernel
theorem dX8_leastQuestions_78 : decode cX8_leastQuestions 78 = .ok (.ior, 1) := by decide +kernel
theorem dX8_leastQuestions_79 : decode cX8_leastQuestions 79 = .ok (.istore 6, 2) := by decide +kernel
theorem dX8_leastQuestions_81 : decode cX8_leastQuestions 81 = .ok (.iload 4, 2) := by decide +kernel
theorem dX8_leastQuestions_83 : decode cX8_leastQuestions 83 = .ok (.aload_n 0, 1) := by decide +kernel
theorem dX8_leastQuestions_84 : decode cX8_leastQuestions 84 = .ok (.iload_n 1, 1) := by decide +kernel
theorem dX8_leastQuestions_85 : decode cX8_leastQuestions 85 = .ok (.iload 6, 2) := by decide +kernel
theorem dX8_leastQuestions_87 : decode cX8_leastQuestions 87 = .ok (.invokevirtual 55, 3) := by decide +kernel
theorem dX8_leastQuestions_90 : decode cX8_leastQuestions 90 = .ok (.invokestatic 19, 3) := by decide +kernel
theorem dX8_leastQuestions_93 : decode cX8_leastQuestions 93 = .ok (.istore 4, 2) := by decide +kernel
theorem dX8_leastQuestions_95 : decode cX8_leastQuestions 95 = .ok (.iinc 7 1, 3) := by decide +kernel
theorem dX8_leastQuestions_98 : decode cX8_leastQuestions 98 = .ok (.goto (-39), 3) := by decide +kernel
theorem dX8_leastQuestions_101 : decode cX8_leastQuestions 101 = .ok (.iinc 5 1, 3) := by decide +kernel
theorem dX8_leastQuestions_104 : decode cX8_leastQuestions 104 = .ok (.goto (-64), 3) := by decide +kernel
theorem dX8_leastQuestions_107 : decode cX8_leastQuestions 107 = .ok (.bipush 13, 2) := by decide +kernel
theorem dX8_leastQuestions_109 : decode cX8_leastQuestions 109 = .ok (.iload 4, 2) := by decide +kernel
theorem dX8_leastQuestions_111 : decode cX8_leastQuestions 111 = .ok (.iconst 1, 1) := by decide +kernel
theorem dX8_leastQuestions_112 : decode cX8_leastQuestions 112 = .ok (.iadd, 1) := by decide +kernel
theorem dX8_leastQuestions_113 : decode cX8_leastQuestions 113 = .ok (.invokestatic 19, 3) := by decide +kernel
theorem dX8_leastQuestions_116 : decode cX8_leastQuestions 116 = .ok (.ireturn, 1) := by decide +kernel
theorem dX8_digitOne_0 : decode cX8_digitOne 0 = .ok (.iconst 1, 1) := by decide +kernel
theorem dX8_digitOne_1 : decode cX8_digitOne 1 = .ok (.iconst 2, 1) := by decide +kernel
theorem dX8_digitOne_2 : decode cX8_digitOne 2 = .ok (.iload_n 0, 1) := by decide +kernel
theorem dX8_digitOne_3 : decode cX8_digitOne 3 = .ok (.imul, 1) := by decide +kernel
theorem dX8_digitOne_4 : decode cX8_digitOne 4 = .ok (.ishl, 1) := by decide +kernel
theorem dX8_digitOne_5 : decode cX8_digitOne 5 = .ok (.ireturn, 1) := by decide +kernel
theorem dX8_greaterBehind_0 : decode cX8_greaterBehind 0 = .ok (.aload_n 0, 1) := by decide +kernel
theorem dX8_greaterBehind_1 : decode cX8_greaterBehind 1 = .ok (.iload_n 1, 1) := by decide +kernel
theorem dX8_greaterBehind_2 : decode cX8_greaterBehind 2 = .ok (.iload_n 2, 1) := by decide +kernel
theorem dX8_greaterBehind_3 : decode cX8_greaterBehind 3 = .ok (.iconst (-1), 1) := by decide +kernel
theorem dX8_greaterBehind_4 : decode cX8_greaterBehind 4 = .ok (.ixor, 1) := by decide +kernel
theorem dX8_greaterBehind_5 : decode cX8_greaterBehind 5 = .ok (.aload_n 0, 1) := by decide +kernel
theorem dX8_greaterBehind_6 : decode cX8_greaterBehind 6 = .ok (.getfield 25, 3) := by decide +kernel
theorem dX8_greaterBehind_9 : decode cX8_greaterBehind 9 = .ok (.invokestatic 58, 3) := by decide +kernel
theorem dX8_greaterBehind_12 : decode cX8_greaterBehind 12 = .ok (.invokevirtual 38, 3) := by decide +kernel
theorem dX8_greaterBehind_15 : decode cX8_greaterBehind 15 = .ok (.istore_n 3, 1) := by decide +kernel
theorem dX8_greaterBehind_16 : decode cX8_greaterBehind 16 = .ok (.aload_n 0, 1) := by decide +kernel
theorem dX8_greaterBehind_17 : decode cX8_greaterBehind 17 = .ok (.iload_n 1, 1) := by decide +kernel
theorem dX8_greaterBehind_18 : decode cX8_greaterBehind 18 = .ok (.iload_n 2, 1) := by decide +kernel
theorem dX8_greaterBehind_19 : decode cX8_greaterBehind 19 = .ok (.aload_n 0, 1) := by decide +kernel
theorem dX8_greaterBehind_20 : decode cX8_greaterBehind 20 = .ok (.getfield 28, 3) := by decide +kernel
theorem dX8_greaterBehind_23 : decode cX8_greaterBehind 23 = .ok (.invokestatic 58, 3) := by decide +kernel
theorem dX8_greaterBehind_26 : decode cX8_greaterBehind 26 = .ok (.invokevirtual 38, 3) := by decide +kernel
theorem dX8_greaterBehind_29 : decode cX8_greaterBehind 29 = .ok (.istore 4, 2) := by decide +kernel
theorem dX8_greaterBehind_31 : decode cX8_greaterBehind 31 = .ok (.iload_n 3, 1) := by decide +kernel
theorem dX8_greaterBehind_32 : decode cX8_greaterBehind 32 = .ok (.iload 4, 2) := by decide +kernel
theorem dX8_greaterBehind_34 : decode cX8_greaterBehind 34 = .ok (.invokestatic 52, 3) := by decide +kernel
theorem dX8_greaterBehind_37 : decode cX8_greaterBehind 37 = .ok (.ireturn, 1) := by decide +kernel
theorem dX8_charged_0 : decode cX8_charged 0 = .ok (.iload_n 0, 1) := by decide +kernel
theorem dX8_charged_1 : decode cX8_charged 1 = .ok (.istore_n 3, 1) := by decide +kernel
theorem dX8_charged_2 : decode cX8_charged 2 = .ok (.iconst 0, 1) := by decide +kernel
theorem dX8_charged_3 : decode cX8_charged 3 = .ok (.istore 4, 2) := by decide +kernel
theorem dX8_charged_5 : decode cX8_charged 5 = .ok (.iload 4, 2) := by decide +kernel
theorem dX8_charged_7 : decode cX8_charged 7 = .ok (.iload_n 2, 1) := by decide +kernel
theorem dX8_charged_8 : decode cX8_charged 8 = .ok (.if_icmp .ge 18, 3) := by decide +kernel
theorem dX8_charged_11 : decode cX8_charged 11 = .ok (.iload_n 3, 1) := by decide +kernel
theorem dX8_charged_12 : decode cX8_charged 12 = .ok (.iload_n 3, 1) := by decide +kernel
theorem dX8_charged_13 : decode cX8_charged 13 = .ok (.invokestatic 62, 3) := by decide +kernel
theorem dX8_charged_16 : decode cX8_charged 16 = .ok (.iload_n 1, 1) := by decide +kernel
theorem dX8_charged_17 : decode cX8_charged 17 = .ok (.iand, 1) := by decide +kernel
theorem dX8_charged_18 : decode cX8_charged 18 = .ok (.isub, 1) := by decide +kernel
theorem dX8_charged_19 : decode cX8_charged 19 = .ok (.istore_n 3, 1) := by decide +kernel
theorem dX8_charged_20 : decode cX8_charged 20 = .ok (.iinc 4 1, 3) := by decide +kernel
theorem dX8_charged_23 : decode cX8_charged 23 = .ok (.goto (-18), 3) := by decide +kernel
theorem dX8_charged_26 : decode cX8_charged 26 = .ok (.iload_n 3, 1) := by decide +kernel
theorem dX8_charged_27 : decode cX8_charged 27 = .ok (.ireturn, 1) := by decide +kernel
theorem dX8_standing_0 : decode cX8_standing 0 = .ok (.iload_n 0, 1) := by decide +kernel
theorem dX8_standing_1 : decode cX8_standing 1 = .ok (.iload_n 0, 1) := by decide +kernel
theorem dX8_standing_2 : decode cX8_standing 2 = .ok (.iconst 1, 1) := by decide +kernel
theorem dX8_standing_3 : decode cX8_standing 3 = .ok (.ishr, 1) := by decide +kernel
theorem dX8_standing_4 : decode cX8_standing 4 = .ok (.ior, 1) := by decide +kernel
theorem dX8_standing_5 : decode cX8_standing 5 = .ok (.sipush 5461, 3) := by decide +kernel
theorem dX8_standing_8 : decode cX8_standing 8 = .ok (.iand, 1) := by decide +kernel
theorem dX8_standing_9 : decode cX8_standing 9 = .ok (.ireturn, 1) := by decide +kernel
theorem dX8_lowestGap_0 : decode cX8_lowestGap 0 = .ok (.sipush 5461, 3) := by decide +kernel
theorem dX8_lowestGap_3 : decode cX8_lowestGap 3 = .ok (.iload_n 0, 1) := by decide +kernel
theorem dX8_lowestGap_4 : decode cX8_lowestGap 4 = .ok (.invokestatic 62, 3) := by decide +kernel
theorem dX8_lowestGap_7 : decode cX8_lowestGap 7 = .ok (.iconst (-1), 1) := by decide +kernel
theorem dX8_lowestGap_8 : decode cX8_lowestGap 8 = .ok (.ixor, 1) := by decide +kernel
theorem dX8_lowestGap_9 : decode cX8_lowestGap 9 = .ok (.iand, 1) := by decide +kernel
theorem dX8_lowestGap_10 : decode cX8_lowestGap 10 = .ok (.istore_n 1, 1) := by decide +kernel
theorem dX8_lowestGap_11 : decode cX8_lowestGap 11 = .ok (.iload_n 1, 1) := by decide +kernel
theorem dX8_lowestGap_12 : decode cX8_lowestGap 12 = .ok (.iload_n 1, 1) := by decide +kernel
theorem dX8_lowestGap_13 : decode cX8_lowestGap 13 = .ok (.ineg, 1) := by decide +kernel
theorem dX8_lowestGap_14 : decode cX8_lowestGap 14 = .ok (.iand, 1) := by decide +kernel
theorem dX8_lowestGap_15 : decode cX8_lowestGap 15 = .ok (.ireturn, 1) := by decide +kernel
theorem dX8_fewAt_0 : decode cX8_fewAt 0 = .ok (.iload_n 1, 1) := by decide +kernel
theorem dX8_fewAt_1 : decode cX8_fewAt 1 = .ok (.ifCond .lt 19, 3) := by decide +kernel
theorem dX8_fewAt_4 : decode cX8_fewAt 4 = .ok (.iload_n 1, 1) := by decide +kernel
theorem dX8_fewAt_5 : decode cX8_fewAt 5 = .ok (.sipush 4096, 3) := by decide +kernel
theorem dX8_fewAt_8 : decode cX8_fewAt 8 = .ok (.if_icmp .ge 12, 3) := by decide +kernel
theorem dX8_fewAt_11 : decode cX8_fewAt 11 = .ok (.aload_n 0, 1) := by decide +kernel
theorem dX8_fewAt_12 : decode cX8_fewAt 12 = .ok (.getfield 9, 3) := by decide +kernel
theorem dX8_fewAt_15 : decode cX8_fewAt 15 = .ok (.iload_n 1, 1) := by decide +kernel
theorem dX8_fewAt_16 : decode cX8_fewAt 16 = .ok (.iaload, 1) := by decide +kernel
theorem dX8_fewAt_17 : decode cX8_fewAt 17 = .ok (.goto 5, 3) := by decide +kernel
theorem dX8_fewAt_20 : decode cX8_fewAt 20 = .ok (.bipush 13, 2) := by decide +kernel
theorem dX8_fewAt_22 : decode cX8_fewAt 22 = .ok (.ireturn, 1) := by decide +kernel
theorem dX9_init_0 : decode cX9_init 0 = .ok (.aload_n 0, 1) := by decide +kernel
theorem dX9_init_1 : decode cX9_init 1 = .ok (.invokespecial 1, 3) := by decide +kernel
theorem dX9_init_4 : decode cX9_init 4 = .ok (.aload_n 0, 1) := by decide +kernel
theorem dX9_init_5 : decode cX9_init 5 = .ok (.lconst 0, 1) := by decide +kernel
theorem dX9_init_6 : decode cX9_init 6 = .ok (.putfield 7, 3) := by decide +kernel
theorem dX9_init_9 : decode cX9_init 9 = .ok (.return_, 1) := by decide +kernel
theorem dX10_init_0 : decode cX10_init 0 = .ok (.aload_n 0, 1) := by decide +kernel
theorem dX10_init_1 : decode cX10_init 1 = .ok (.invokespecial 3, 3) := by decide +kernel
theorem dX10_init_4 : decode cX10_init 4 = .ok (.return_, 1) := by decide +kernel
theorem dX10_price_0 : decode cX10_price 0 = .ok (.aload_n 3, 1) := by decide +kernel
theorem dX10_price_1 : decode cX10_price 1 = .ok (.dup, 1) := by decide +kernel
theorem dX10_price_2 : decode cX10_price 2 = .ok (.getfield 9, 3) := by decide +kernel
theorem dX10_price_5 : decode cX10_price 5 = .ok (.ldc2_w 15, 3) := by decide +kernel
theorem dX10_price_8 : decode cX10_price 8 = .ok (.ladd, 1) := by decide +kernel
theorem dX10_price_9 : decode cX10_price 9 = .ok (.putfield 9, 3) := by decide +kernel
theorem dX10_price_12 : decode cX10_price 12 = .ok (.aload_n 0, 1) := by decide +kernel
theorem dX10_price_13 : decode cX10_price 13 = .ok (.iload_n 1, 1) := by decide +kernel
theorem dX10_price_14 : decode cX10_price 14 = .ok (.iload_n 2, 1) := by decide +kernel
theorem dX10_price_15 : decode cX10_price 15 = .ok (.aload_n 3, 1) := by decide +kernel
theorem dX10_price_16 : decode cX10_price 16 = .ok (.invokespecial 17, 3) := by decide +kernel
theorem dX10_price_19 : decode cX10_price 19 = .ok (.istore 4, 2) := by decide +kernel
theorem dX10_price_21 : decode cX10_price 21 = .ok (.iload_n 2, 1) := by decide +kernel
theorem dX10_price_22 : decode cX10_price 22 = .ok (.ifCond .eq 12, 3) := by decide +kernel
theorem dX10_price_25 : decode cX10_price 25 = .ok (.iload_n 1, 1) := by decide +kernel
theorem dX10_price_26 : decode cX10_price 26 = .ok (.ifCond .ne 8, 3) := by decide +kernel
theorem dX10_price_29 : decode cX10_price 29 = .ok (.bipush 9, 2) := by decide +kernel
theorem dX10_price_31 : decode cX10_price 31 = .ok (.goto 5, 3) := by decide +kernel
theorem dX10_price_34 : decode cX10_price 34 = .ok (.iload 4, 2) := by decide +kernel
theorem dX10_price_36 : decode cX10_price 36 = .ok (.ireturn, 1) := by decide +kernel
theorem dX11_init_0 : decode cX11_init 0 = .ok (.aload_n 0, 1) := by decide +kernel
theorem dX11_init_1 : decode cX11_init 1 = .ok (.invokespecial 3, 3) := by decide +kernel
theorem dX11_init_4 : decode cX11_init 4 = .ok (.aload_n 0, 1) := by decide +kernel
theorem dX11_init_5 : decode cX11_init 5 = .ok (.iconst 3, 1) := by decide +kernel
theorem dX11_init_6 : decode cX11_init 6 = .ok (.anewarray 9, 3) := by decide +kernel
theorem dX11_init_9 : decode cX11_init 9 = .ok (.dup, 1) := by decide +kernel
theorem dX11_init_10 : decode cX11_init 10 = .ok (.iconst 0, 1) := by decide +kernel
theorem dX11_init_11 : decode cX11_init 11 = .ok (.new 9, 3) := by decide +kernel
theorem dX11_init_14 : decode cX11_init 14 = .ok (.dup, 1) := by decide +kernel
theorem dX11_init_15 : decode cX11_init 15 = .ok (.invokespecial 11, 3) := by decide +kernel
theorem dX11_init_18 : decode cX11_init 18 = .ok (.aastore, 1) := by decide +kernel
theorem dX11_init_19 : decode cX11_init 19 = .ok (.dup, 1) := by decide +kernel
theorem dX11_init_20 : decode cX11_init 20 = .ok (.iconst 1, 1) := by decide +kernel
theorem dX11_init_21 : decode cX11_init 21 = .ok (.new 12, 3) := by decide +kernel
theorem dX11_init_24 : decode cX11_init 24 = .ok (.dup, 1) := by decide +kernel
theorem dX11_init_25 : decode cX11_init 25 = .ok (.invokespecial 14, 3) := by decide +kernel
theorem dX11_init_28 : decode cX11_init 28 = .ok (.aastore, 1) := by decide +kernel
theorem dX11_init_29 : decode cX11_init 29 = .ok (.dup, 1) := by decide +kernel
theorem dX11_init_30 : decode cX11_init 30 = .ok (.iconst 2, 1) := by decide +kernel
theorem dX11_init_31 : decode cX11_init 31 = .ok (.new 15, 3) := by decide +kernel
theorem dX11_init_34 : decode cX11_init 34 = .ok (.dup, 1) := by decide +kernel
theorem dX11_init_35 : decode cX11_init 35 = .ok (.invokespecial 17, 3) := by decide +kernel
theorem dX11_init_38 : decode cX11_init 38 = .ok (.aastore, 1) := by decide +kernel
theorem dX11_init_39 : decode cX11_init 39 = .ok (.putfield 18, 3) := by decide +kernel
theorem dX11_init_42 : decode cX11_init 42 = .ok (.aload_n 0, 1) := by decide +kernel
theorem dX11_init_43 : decode cX11_init 43 = .ok (.new 22, 3) := by decide +kernel
theorem dX11_init_46 : decode cX11_init 46 = .ok (.dup, 1) := by decide +kernel
theorem dX11_init_47 : decode cX11_init 47 = .ok (.invokespecial 24, 3) := by decide +kernel
theorem dX11_init_50 : decode cX11_init 50 = .ok (.putfield 25, 3) := by decide +kernel
theorem dX11_init_53 : decode cX11_init 53 = .ok (.aload_n 0, 1) := by decide +kernel
theorem dX11_init_54 : decode cX11_init 54 = .ok (.new 22, 3) := by decide +kernel
theorem dX11_init_57 : decode cX11_init 57 = .ok (.dup, 1) := by decide +kernel
theorem dX11_init_58 : decode cX11_init 58 = .ok (.invokespecial 24, 3) := by decide +kernel
theorem dX11_init_61 : decode cX11_init 61 = .ok (.putfield 29, 3) := by decide +kernel
theorem dX11_init_64 : decode cX11_init 64 = .ok (.aload_n 0, 1) := by decide +kernel
theorem dX11_init_65 : decode cX11_init 65 = .ok (.iconst 3, 1) := by decide +kernel
theorem dX11_init_66 : decode cX11_init 66 = .ok (.anewarray 32, 3) := by decide +kernel
theorem dX11_init_69 : decode cX11_init 69 = .ok (.putfield 34, 3) := by decide +kernel
theorem dX11_init_72 : decode cX11_init 72 = .ok (.aload_n 0, 1) := by decide +kernel
theorem dX11_init_73 : decode cX11_init 73 = .ok (.iconst 3, 1) := by decide +kernel
theorem dX11_init_74 : decode cX11_init 74 = .ok (.anewarray 38, 3) := by decide +kernel
theorem dX11_init_77 : decode cX11_init 77 = .ok (.putfield 40, 3) := by decide +kernel
theorem dX11_init_80 : decode cX11_init 80 = .ok (.aload_n 0, 1) := by decide +kernel
theorem dX11_init_81 : decode cX11_init 81 = .ok (.new 44, 3) := by decide +kernel
theorem dX11_init_84 : decode cX11_init 84 = .ok (.dup, 1) := by decide +kernel
theorem dX11_init_85 : decode cX11_init 85 = .ok (.invokespecial 46, 3) := by decide +kernel
theorem dX11_init_88 : decode cX11_init 88 = .ok (.putfield 47, 3) := by decide +kernel
theorem dX11_init_91 : decode cX11_init 91 = .ok (.aload_n 0, 1) := by decide +kernel
theorem dX11_init_92 : decode cX11_init 92 = .ok (.new 51, 3) := by decide +kernel
theorem dX11_init_95 : decode cX11_init 95 = .ok (.dup, 1) := by decide +kernel
theorem dX11_init_96 : decode cX11_init 96 = .ok (.invokespecial 53, 3) := by decide +kernel
theorem dX11_init_99 : decode cX11_init 99 = .ok (.putfield 54, 3) := by decide +kernel
theorem dX11_init_102 : decode cX11_init 102 = .ok (.aload_n 0, 1) := by decide +kernel
theorem dX11_init_103 : decode cX11_init 103 = .ok (.iconst 0, 1) := by decide +kernel
theorem dX11_init_104 : decode cX11_init 104 = .ok (.putfield 58, 3) := by decide +kernel
theorem dX11_init_107 : decode cX11_init 107 = .ok (.return_, 1) := by decide +kernel
theorem dX11_begin_0 : decode cX11_begin 0 = .ok (.iload_n 1, 1) := by decide +kernel
theorem dX11_begin_1 : decode cX11_begin 1 = .ok (.invokestatic 62, 3) := by decide +kernel
theorem dX11_begin_4 : decode cX11_begin 4 = .ok (.ifCond .eq 10, 3) := by decide +kernel
theorem dX11_begin_7 : decode cX11_begin 7 = .ok (.iload_n 2, 1) := by decide +kernel
theorem dX11_begin_8 : decode cX11_begin 8 = .ok (.invokestatic 66, 3) := by decide +kernel
theorem dX11_begin_11 : decode cX11_begin 11 = .ok (.ifCond .ne 5, 3) := by decide +kernel
theorem dX11_begin_14 : decode cX11_begin 14 = .ok (.iconst (-1), 1) := by decide +kernel
theorem dX11_begin_15 : decode cX11_begin 15 = .ok (.ireturn, 1) := by decide +kernel
theorem dX11_begin_16 : decode cX11_begin 16 = .ok (.iload_n 1, 1) := by decide +kernel
theorem dX11_begin_17 : decode cX11_begin 17 = .ok (.ifCond .eq 12, 3) := by decide +kernel
theorem dX11_begin_20 : decode cX11_begin 20 = .ok (.iload_n 3, 1) := by decide +kernel
theorem dX11_begin_21 : decode cX11_begin 21 = .ok (.invokestatic 69, 3) := by decide +kernel
theorem dX11_begin_24 : decode cX11_begin 24 = .ok (.ifCond .ne 5, 3) := by decide +kernel
theorem dX11_begin_27 : decode cX11_begin 27 = .ok (.iconst (-1), 1) := by decide +kernel
theorem dX11_begin_28 : decode cX11_begin 28 = .ok (.ireturn, 1) := by decide +kernel
theorem dX11_begin_29 : decode cX11_begin 29 = .ok (.iload_n 1, 1) := by decide +kernel
theorem dX11_begin_30 : decode cX11_begin 30 = .ok (.ifCond .ne 7, 3) := by decide +kernel
theorem dX11_begin_33 : decode cX11_begin 33 = .ok (.iconst 0, 1) := by decide +kernel
theorem dX11_begin_34 : decode cX11_begin 34 = .ok (.goto 4, 3) := by decide +kernel
theorem dX11_begin_37 : decode cX11_begin 37 = .ok (.iload_n 3, 1) := by decide +kernel
theorem dX11_begin_38 : decode cX11_begin 38 = .ok (.istore 4, 2) := by decide +kernel
theorem dX11_begin_40 : decode cX11_begin 40 = .ok (.aload_n 0, 1) := by decide +kernel
theorem dX11_begin_41 : decode cX11_begin 41 = .ok (.getfield 47, 3) := by decide +kernel
theorem dX11_begin_44 : decode cX11_begin 44 = .ok (.iload_n 1, 1) := by decide +kernel
theorem dX11_begin_45 : decode cX11_begin 45 = .ok (.iload_n 2, 1) := by decide +kernel
theorem dX11_begin_46 : decode cX11_begin 46 = .ok (.iload 4, 2) := by decide +kernel
theorem dX11_begin_48 : decode cX11_begin 48 = .ok (.aload_n 0, 1) := by decide +kernel
theorem dX11_begin_49 : decode cX11_begin 49 = .ok (.iload_n 1, 1) := by decide +kernel
theorem dX11_begin_50 : decode cX11_begin 50 = .ok (.invokevirtual 72, 3) := by decide +kernel
theorem dX11_begin_53 : decode cX11_begin 53 = .ok (.aload_n 0, 1) := by decide +kernel
theorem dX11_begin_54 : decode cX11_begin 54 = .ok (.iload_n 1, 1) := by decide +kernel
theorem dX11_begin_55 : decode cX11_begin 55 = .ok (.invokevirtual 76, 3) := by decide +kernel
theorem dX11_begin_58 : decode cX11_begin 58 = .ok (.invokevirtual 79, 3) := by decide +kernel
theorem dX11_begin_61 : decode cX11_begin 61 = .ok (.aload_n 0, 1) := by decide +kernel
theorem dX11_begin_62 : decode cX11_begin 62 = .ok (.iload_n 1, 1) := by decide +kernel
theorem dX11_begin_63 : decode cX11_begin 63 = .ok (.invokevirtual 83, 3) := by decide +kernel
theorem dX11_begin_66 : decode cX11_begin 66 = .ok (.iload_n 2, 1) := by decide +kernel
theorem dX11_begin_67 : decode cX11_begin 67 = .ok (.iload 4, 2) := by decide +kernel
theorem dX11_begin_69 : decode cX11_begin 69 = .ok (.invokevirtual 87, 3) := by decide +kernel
theorem dX11_begin_72 : decode cX11_begin 72 = .ok (.aload_n 0, 1) := by decide +kernel
theorem dX11_begin_73 : decode cX11_begin 73 = .ok (.invokevirtual 91, 3) := by decide +kernel
theorem dX11_begin_76 : decode cX11_begin 76 = .ok (.invokestatic 95, 3) := by decide +kernel
theorem dX11_begin_79 : decode cX11_begin 79 = .ok (.ireturn, 1) := by decide +kernel
theorem dX11_cost_0 : decode cX11_cost 0 = .ok (.iload_n 1, 1) := by decide +kernel
theorem dX11_cost_1 : decode cX11_cost 1 = .ok (.invokestatic 62, 3) := by decide +kernel
theorem dX11_cost_4 : decode cX11_cost 4 = .ok (.ifCond .ne 5, 3) := by decide +kernel
theorem dX11_cost_7 : decode cX11_cost 7 = .ok (.iconst (-1), 1) := by decide +kernel
theorem dX11_cost_8 : decode cX11_cost 8 = .ok (.ireturn, 1) := by decide +kernel
theorem dX11_cost_9 : decode cX11_cost 9 = .ok (.aload_n 0, 1) := by decide +kernel
theorem dX11_cost_10 : decode cX11_cost 10 = .ok (.getfield 18, 3) := by decide +kernel
theorem dX11_cost_13 : decode cX11_cost 13 = .ok (.iload_n 1, 1) := by decide +kernel
theorem dX11_cost_14 : decode cX11_cost 14 = .ok (.aaload, 1) := by decide +kernel
theorem dX11_cost_15 : decode cX11_cost 15 = .ok (.iload_n 2, 1) := by decide +kernel
theorem dX11_cost_16 : decode cX11_cost 16 = .ok (.iload_n 3, 1) := by decide +kernel
theorem dX11_cost_17 : decode cX11_cost 17 = .ok (.aload_n 0, 1) := by decide +kernel
theorem dX11_cost_18 : decode cX11_cost 18 = .ok (.getfield 25, 3) := by decide +kernel
theorem dX11_cost_21 : decode cX11_cost 21 = .ok (.invokevirtual 98, 3) := by decide +kernel
theorem dX11_cost_24 : decode cX11_cost 24 = .ok (.ireturn, 1) := by decide +kernel
theorem dX11_ask_0 : decode cX11_ask 0 = .ok (.iload_n 1, 1) := by decide +kernel
theorem dX11_ask_1 : decode cX11_ask 1 = .ok (.invokestatic 102, 3) := by decide +kernel
theorem dX11_ask_4 : decode cX11_ask 4 = .ok (.ifCond .ne 5, 3) := by decide +kernel
theorem dX11_ask_7 : decode cX11_ask 7 = .ok (.iconst (-1), 1) := by decide +kernel
theorem dX11_ask_8 : decode cX11_ask 8 = .ok (.ireturn, 1) := by decide +kernel
theorem dX11_ask_9 : decode cX11_ask 9 = .ok (.aload_n 0, 1) := by decide +kernel
theorem dX11_ask_10 : decode cX11_ask 10 = .ok (.getfield 47, 3) := by decide +kernel
theorem dX11_ask_13 : decode cX11_ask 13 = .ok (.getfield 105, 3) := by decide +kernel
theorem dX11_ask_16 : decode cX11_ask 16 = .ok (.ifCond .ne 6, 3) := by decide +kernel
theorem dX11_ask_19 : decode cX11_ask 19 = .ok (.bipush (-2), 2) := by decide +kernel
theorem dX11_ask_21 : decode cX11_ask 21 = .ok (.ireturn, 1) := by decide +kernel
theorem dX11_ask_22 : decode cX11_ask 22 = .ok (.aload_n 0, 1) := by decide +kernel
theorem dX11_ask_23 : decode cX11_ask 23 = .ok (.getfield 47, 3) := by decide +kernel
theorem dX11_ask_26 : decode cX11_ask 26 = .ok (.iload_n 1, 1) := by decide +kernel
theorem dX11_ask_27 : decode cX11_ask 27 = .ok (.invokevirtual 109, 3) := by decide +kernel
theorem dX11_ask_30 : decode cX11_ask 30 = .ok (.iload_n 1, 1) := by decide +kernel
theorem dX11_ask_31 : decode cX11_ask 31 = .ok (.if_icmp .eq 5, 3) := by decide +kernel
theorem dX11_ask_34 : decode cX11_ask 34 = .ok (.iconst (-1), 1) := by decide +kernel
theorem dX11_ask_35 : decode cX11_ask 35 = .ok (.ireturn, 1) := by decide +kernel
theorem dX11_ask_36 : decode cX11_ask 36 = .ok (.aload_n 0, 1) := by decide +kernel
theorem dX11_ask_37 : decode cX11_ask 37 = .ok (.getfield 47, 3) := by decide +kernel
theorem dX11_ask_40 : decode cX11_ask 40 = .ok (.iload_n 1, 1) := by decide +kernel
theorem dX11_ask_41 : decode cX11_ask 41 = .ok (.invokevirtual 112, 3) := by decide +kernel
theorem dX11_ask_44 : decode cX11_ask 44 = .ok (.aload_n 0, 1) := by decide +kernel
theorem dX11_ask_45 : decode cX11_ask 45 = .ok (.getfield 47, 3) := by decide +kernel
theorem dX11_ask_48 : decode cX11_ask 48 = .ok (.iload_n 1, 1) := by decide +kernel
theorem dX11_ask_49 : decode cX11_ask 49 = .ok (.invokevirtual 116, 3) := by decide +kernel
theorem dX11_ask_52 : decode cX11_ask 52 = .ok (.ireturn, 1) := by decide +kernel
theorem dX11_answer_0 : decode cX11_answer 0 = .ok (.aload_n 0, 1) := by decide +kernel
theorem dX11_answer_1 : decode cX11_answer 1 = .ok (.getfield 47, 3) := by decide +kernel
theorem dX11_answer_4 : decode cX11_answer 4 = .ok (.getfield 105, 3) := by decide +kernel
theorem dX11_answer_7 : decode cX11_answer 7 = .ok (.ifCond .eq 14, 3) := by decide +kernel
theorem dX11_answer_10 : decode cX11_answer 10 = .ok (.aload_n 0, 1) := by decide +kernel
theorem dX11_answer_11 : decode cX11_answer 11 = .ok (.getfield 47, 3) := by decide +kernel
theorem dX11_answer_14 : decode cX11_answer 14 = .ok (.getfield 119, 3) := by decide +kernel
theorem dX11_answer_17 : decode cX11_answer 17 = .ok (.iconst (-1), 1) := by decide +kernel
theorem dX11_answer_18 : decode cX11_answer 18 = .ok (.if_icmp .ne 6, 3) := by decide +kernel
theorem dX11_answer_21 : decode cX11_answer 21 = .ok (.bipush (-2), 2) := by decide +kernel
theorem dX11_answer_23 : decode cX11_answer 23 = .ok (.ireturn, 1) := by decide +kernel
theorem dX11_answer_24 : decode cX11_answer 24 = .ok (.aload_n 0, 1) := by decide +kernel
theorem dX11_answer_25 : decode cX11_answer 25 = .ok (.getfield 47, 3) := by decide +kernel
theorem dX11_answer_28 : decode cX11_answer 28 = .ok (.aload_n 0, 1) := by decide +kernel
theorem dX11_answer_29 : decode cX11_answer 29 = .ok (.getfield 47, 3) := by decide +kernel
theorem dX11_answer_32 : decode cX11_answer 32 = .ok (.getfield 119, 3) := by decide +kernel
theorem dX11_answer_35 : decode cX11_answer 35 = .ok (.iload_n 1, 1) := by decide +kernel
theorem dX11_answer_36 : decode cX11_answer 36 = .ok (.invokevirtual 122, 3) := by decide +kernel
theorem dX11_answer_39 : decode cX11_answer 39 = .ok (.ireturn, 1) := by decide +kernel
theorem dX11_back_0 : decode cX11_back 0 = .ok (.aload_n 0, 1) := by decide +kernel
theorem dX11_back_1 : decode cX11_back 1 = .ok (.getfield 47, 3) := by decide +kernel
theorem dX11_back_4 : decode cX11_back 4 = .ok (.getfield 105, 3) := by decide +kernel
theorem dX11_back_7 : decode cX11_back 7 = .ok (.ifCond .eq 13, 3) := by decide +kernel
theorem dX11_back_10 : decode cX11_back 10 = .ok (.aload_n 0, 1) := by decide +kernel
theorem dX11_back_11 : decode cX11_back 11 = .ok (.getfield 47, 3) := by decide +kernel
theorem dX11_back_14 : decode cX11_back 14 = .ok (.getfield 126, 3) := by decide +kernel
theorem dX11_back_17 : decode cX11_back 17 = .ok (.ifCond .ne 6, 3) := by decide +kernel
theorem dX11_back_20 : decode cX11_back 20 = .ok (.bipush (-2), 2) := by decide +kernel
theorem dX11_back_22 : decode cX11_back 22 = .ok (.ireturn, 1) := by decide +kernel
theorem dX11_back_23 : decode cX11_back 23 = .ok (.aload_n 0, 1) := by decide +kernel
theorem dX11_back_24 : decode cX11_back 24 = .ok (.getfield 47, 3) := by decide +kernel
theorem dX11_back_27 : decode cX11_back 27 = .ok (.invokevirtual 129, 3) := by decide +kernel
theorem dX11_back_30 : decode cX11_back 30 = .ok (.aload_n 0, 1) := by decide +kernel
theorem dX11_back_31 : decode cX11_back 31 = .ok (.dup, 1) := by decide +kernel
theorem dX11_back_32 : decode cX11_back 32 = .ok (.getfield 58, 3) := by decide +kernel
theorem dX11_back_35 : decode cX11_back 35 = .ok (.iconst 1, 1) := by decide +kernel
theorem dX11_back_36 : decode cX11_back 36 = .ok (.iadd, 1) := by decide +kernel
theorem dX11_back_37 : decode cX11_back 37 = .ok (.putfield 58, 3) := by decide +kernel
theorem dX11_back_40 : decode cX11_back 40 = .ok (.aload_n 0, 1) := by decide +kernel
theorem dX11_back_41 : decode cX11_back 41 = .ok (.getfield 47, 3) := by decide +kernel
theorem dX11_back_44 : decode cX11_back 44 = .ok (.getfield 126, 3) := by decide +kernel
theorem dX11_back_47 : decode cX11_back 47 = .ok (.ireturn, 1) := by decide +kernel
theorem dX11_left_0 : decode cX11_left 0 = .ok (.iload_n 1, 1) := by decide +kernel
theorem dX11_left_1 : decode cX11_left 1 = .ok (.invokestatic 132, 3) := by decide +kernel
theorem dX11_left_4 : decode cX11_left 4 = .ok (.ifCond .ne 6, 3) := by decide +kernel
theorem dX11_left_7 : decode cX11_left 7 = .ok (.bipush (-2), 2) := by decide +kernel
theorem dX11_left_9 : decode cX11_left 9 = .ok (.ireturn, 1) := by decide +kernel
theorem dX11_left_10 : decode cX11_left 10 = .ok (.aload_n 0, 1) := by decide +kernel
theorem dX11_left_11 : decode cX11_left 11 = .ok (.getfield 47, 3) := by decide +kernel
theorem dX11_left_14 : decode cX11_left 14 = .ok (.getfield 105, 3) := by decide +kernel
theorem dX11_left_17 : decode cX11_left 17 = .ok (.ifCond .ne 6, 3) := by decide +kernel
theorem dX11_left_20 : decode cX11_left 20 = .ok (.bipush (-3), 2) := by decide +kernel
theorem dX11_left_22 : decode cX11_left 22 = .ok (.ireturn, 1) := by decide +kernel
theorem dX11_left_23 : decode cX11_left 23 = .ok (.iload_n 1, 1) := by decide +kernel
theorem dX11_left_24 : decode cX11_left 24 = .ok (.aload_n 0, 1) := by decide +kernel
theorem dX11_left_25 : decode cX11_left 25 = .ok (.getfield 47, 3) := by decide +kernel
theorem dX11_left_28 : decode cX11_left 28 = .ok (.getfield 135, 3) := by decide +kernel
theorem dX11_left_31 : decode cX11_left 31 = .ok (.if_icmp .ge 14, 3) := by decide +kernel
theorem dX11_left_34 : decode cX11_left 34 = .ok (.aload_n 0, 1) := by decide +kernel
theorem dX11_left_35 : decode cX11_left 35 = .ok (.getfield 47, 3) := by decide +kernel
theorem dX11_left_38 : decode cX11_left 38 = .ok (.iload_n 1, 1) := by decide +kernel
theorem dX11_left_39 : decode cX11_left 39 = .ok (.invokevirtual 138, 3) := by decide +kernel
theorem dX11_left_42 : decode cX11_left 42 = .ok (.goto 5, 3) := by decide +kernel
theorem dX11_left_45 : decode cX11_left 45 = .ok (.bipush (-2), 2) := by decide +kernel
theorem dX11_left_47 : decode cX11_left 47 = .ok (.ireturn, 1) := by decide +kernel
theorem dX11_state_0 : decode cX11_state 0 = .ok (.iload_n 1, 1) := by decide +kernel
theorem dX11_state_1 : decode cX11_state 1 = .ok (.invokestatic 69, 3) := by decide +kernel
theorem dX11_state_4 : decode cX11_state 4 = .ok (.ifCond .ne 5, 3) := by decide +kernel
theorem dX11_state_7 : decode cX11_state 7 = .ok (.iconst (-1), 1) := by decide +kernel
theorem dX11_state_8 : decode cX11_state 8 = .ok (.ireturn, 1) := by decide +kernel
theorem dX11_state_9 : decode cX11_state 9 = .ok (.aload_n 0, 1) := by decide +kernel
theorem dX11_state_10 : decode cX11_state 10 = .ok (.getfield 47, 3) := by decide +kernel
theorem dX11_state_13 : decode cX11_state 13 = .ok (.getfield 105, 3) := by decide +kernel
theorem dX11_state_16 : decode cX11_state 16 = .ok (.ifCond .eq 14, 3) := by decide +kernel
theorem dX11_state_19 : decode cX11_state 19 = .ok (.aload_n 0, 1) := by decide +kernel
theorem dX11_state_20 : decode cX11_state 20 = .ok (.getfield 47, 3) := by decide +kernel
theorem dX11_state_23 : decode cX11_state 23 = .ok (.iload_n 1, 1) := by decide +kernel
theorem dX11_state_24 : decode cX11_state 24 = .ok (.invokevirtual 141, 3) := by decide +kernel
theorem dX11_state_27 : decode cX11_state 27 = .ok (.goto 5, 3) := by decide +kernel
theorem dX11_state_30 : decode cX11_state 30 = .ok (.bipush (-2), 2) := by decide +kernel
theorem dX11_state_32 : decode cX11_state 32 = .ok (.ireturn, 1) := by decide +kernel
theorem dX11_found_0 : decode cX11_found 0 = .ok (.aload_n 0, 1) := by decide +kernel
theorem dX11_found_1 : decode cX11_found 1 = .ok (.getfield 47, 3) := by decide +kernel
theorem dX11_found_4 : decode cX11_found 4 = .ok (.getfield 105, 3) := by decide +kernel
theorem dX11_found_7 : decode cX11_found 7 = .ok (.ifCond .ne 6, 3) := by decide +kernel
theorem dX11_found_10 : decode cX11_found 10 = .ok (.bipush (-2), 2) := by decide +kernel
theorem dX11_found_12 : decode cX11_found 12 = .ok (.ireturn, 1) := by decide +kernel
theorem dX11_found_13 : decode cX11_found 13 = .ok (.bipush (-9), 2) := by decide +kernel
theorem dX11_found_15 : decode cX11_found 15 = .ok (.istore_n 1, 1) := by decide +kernel
theorem dX11_found_16 : decode cX11_found 16 = .ok (.iconst 0, 1) := by decide +kernel
theorem dX11_found_17 : decode cX11_found 17 = .ok (.istore_n 2, 1) := by decide +kernel
theorem dX11_found_18 : decode cX11_found 18 = .ok (.iconst 0, 1) := by decide +kernel
theorem dX11_found_19 : decode cX11_found 19 = .ok (.istore_n 3, 1) := by decide +kernel
theorem dX11_found_20 : decode cX11_found 20 = .ok (.iload_n 3, 1) := by decide +kernel
theorem dX11_found_21 : decode cX11_found 21 = .ok (.aload_n 0, 1) := by decide +kernel
theorem dX11_found_22 : decode cX11_found 22 = .ok (.getfield 47, 3) := by decide +kernel
theorem dX11_found_25 : decode cX11_found 25 = .ok (.getfield 135, 3) := by decide +kernel
theorem dX11_found_28 : decode cX11_found 28 = .ok (.if_icmp .ge 26, 3) := by decide +kernel
theorem dX11_found_31 : decode cX11_found 31 = .ok (.aload_n 0, 1) := by decide +kernel
theorem dX11_found_32 : decode cX11_found 32 = .ok (.getfield 47, 3) := by decide +kernel
theorem dX11_found_35 : decode cX11_found 35 = .ok (.iload_n 3, 1) := by decide +kernel
theorem dX11_found_36 : decode cX11_found 36 = .ok (.invokevirtual 138, 3) := by decide +kernel
theorem dX11_found_39 : decode cX11_found 39 = .ok (.iconst (-1), 1) := by decide +kernel
theorem dX11_found_40 : decode cX11_found 40 = .ok (.if_icmp .eq 8, 3) := by decide +kernel
theorem dX11_found_43 : decode cX11_found 43 = .ok (.iload_n 3, 1) := by decide +kernel
theorem dX11_found_44 : decode cX11_found 44 = .ok (.istore_n 1, 1) := by decide +kernel
theorem dX11_found_45 : decode cX11_found 45 = .ok (.iinc 2 1, 3) := by decide +kernel
theorem dX11_found_48 : decode cX11_found 48 = .ok (.iinc 3 1, 3) := by decide +kernel
theorem dX11_found_51 : decode cX11_found 51 = .ok (.goto (-31), 3) := by decide +kernel
theorem dX11_found_54 : decode cX11_found 54 = .ok (.iload_n 2, 1) := by decide +kernel
theorem dX11_found_55 : decode cX11_found 55 = .ok (.iconst 1, 1) := by decide +kernel
theorem dX11_found_56 : decode cX11_found 56 = .ok (.if_icmp .ne 7, 3) := by decide +kernel
theorem dX11_found_59 : decode cX11_found 59 = .ok (.iload_n 1, 1) := by decide +kernel
theorem dX11_found_60 : decode cX11_found 60 = .ok (.goto 5, 3) := by decide +kernel
theorem dX11_found_63 : decode cX11_found 63 = .ok (.bipush (-9), 2) := by decide +kernel
theorem dX11_found_65 : decode cX11_found 65 = .ok (.ireturn, 1) := by decide +kernel
theorem dX11_fewest_0 : decode cX11_fewest 0 = .ok (.aload_n 0, 1) := by decide +kernel
theorem dX11_fewest_1 : decode cX11_fewest 1 = .ok (.getfield 47, 3) := by decide +kernel
theorem dX11_fewest_4 : decode cX11_fewest 4 = .ok (.getfield 105, 3) := by decide +kernel
theorem dX11_fewest_7 : decode cX11_fewest 7 = .ok (.ifCond .eq 13, 3) := by decide +kernel
theorem dX11_fewest_10 : decode cX11_fewest 10 = .ok (.aload_n 0, 1) := by decide +kernel
theorem dX11_fewest_11 : decode cX11_fewest 11 = .ok (.invokevirtual 91, 3) := by decide +kernel
theorem dX11_fewest_14 : decode cX11_fewest 14 = .ok (.invokestatic 95, 3) := by decide +kernel
theorem dX11_fewest_17 : decode cX11_fewest 17 = .ok (.goto 5, 3) := by decide +kernel
theorem dX11_fewest_20 : decode cX11_fewest 20 = .ok (.bipush (-2), 2) := by decide +kernel
theorem dX11_fewest_22 : decode cX11_fewest 22 = .ok (.ireturn, 1) := by decide +kernel
theorem dX11_spans_0 : decode cX11_spans 0 = .ok (.aload_n 0, 1) := by decide +kernel
theorem dX11_spans_1 : decode cX11_spans 1 = .ok (.getfield 47, 3) := by decide +kernel
theorem dX11_spans_4 : decode cX11_spans 4 = .ok (.getfield 105, 3) := by decide +kernel
theorem dX11_spans_7 : decode cX11_spans 7 = .ok (.ifCond .ne 6, 3) := by decide +kernel
theorem dX11_spans_10 : decode cX11_spans 10 = .ok (.bipush (-2), 2) := by decide +kernel
theorem dX11_spans_12 : decode cX11_spans 12 = .ok (.ireturn, 1) := by decide +kernel
theorem dX11_spans_13 : decode cX11_spans 13 = .ok (.aload_n 0, 1) := by decide +kernel
theorem dX11_spans_14 : decode cX11_spans 14 = .ok (.getfield 47, 3) := by decide +kernel
theorem dX11_spans_17 : decode cX11_spans 17 = .ok (.getfield 135, 3) := by decide +kernel
theorem dX11_spans_20 : decode cX11_spans 20 = .ok (.bipush 6, 2) := by decide +kernel
theorem dX11_spans_22 : decode cX11_spans 22 = .ok (.if_icmp .gt 14, 3) := by decide +kernel
theorem dX11_spans_25 : decode cX11_spans 25 = .ok (.aload_n 0, 1) := by decide +kernel
theorem dX11_spans_26 : decode cX11_spans 26 = .ok (.getfield 47, 3) := by decide +kernel
theorem dX11_spans_29 : decode cX11_spans 29 = .ok (.getfield 144, 3) := by decide +kernel
theorem dX11_spans_32 : decode cX11_spans 32 = .ok (.iconst 2, 1) := by decide +kernel
theorem dX11_spans_33 : decode cX11_spans 33 = .ok (.if_icmp .le 5, 3) := by decide +kernel
theorem dX11_spans_36 : decode cX11_spans 36 = .ok (.iconst (-1), 1) := by decide +kernel
theorem dX11_spans_37 : decode cX11_spans 37 = .ok (.ireturn, 1) := by decide +kernel
theorem dX11_spans_38 : decode cX11_spans 38 = .ok (.aload_n 0, 1) := by decide +kernel
theorem dX11_spans_39 : decode cX11_spans 39 = .ok (.aload_n 0, 1) := by decide +kernel
theorem dX11_spans_40 : decode cX11_spans 40 = .ok (.getfield 47, 3) := by decide +kernel
theorem dX11_spans_43 : decode cX11_spans 43 = .ok (.getfield 147, 3) := by decide +kernel
theorem dX11_spans_46 : decode cX11_spans 46 = .ok (.invokevirtual 150, 3) := by decide +kernel
theorem dX11_spans_49 : decode cX11_spans 49 = .ok (.aload_n 0, 1) := by decide +kernel
theorem dX11_spans_50 : decode cX11_spans 50 = .ok (.getfield 47, 3) := by decide +kernel
theorem dX11_spans_53 : decode cX11_spans 53 = .ok (.invokevirtual 154, 3) := by decide +kernel
theorem dX11_spans_56 : decode cX11_spans 56 = .ok (.invokevirtual 157, 3) := by decide +kernel
theorem dX11_spans_59 : decode cX11_spans 59 = .ok (.invokestatic 95, 3) := by decide +kernel
theorem dX11_spans_62 : decode cX11_spans 62 = .ok (.ireturn, 1) := by decide +kernel
theorem dX11_weight_0 : decode cX11_weight 0 = .ok (.iload_n 1, 1) := by decide +kernel
theorem dX11_weight_1 : decode cX11_weight 1 = .ok (.ifCond .lt 30, 3) := by decide +kernel
theorem dX11_weight_4 : decode cX11_weight 4 = .ok (.iload_n 1, 1) := by decide +kernel
theorem dX11_weight_5 : decode cX11_weight 5 = .ok (.bipush 20, 2) := by decide +kernel
theorem dX11_weight_7 : decode cX11_weight 7 = .ok (.if_icmp .gt 24, 3) := by decide +kernel
theorem dX11_weight_10 : decode cX11_weight 10 = .ok (.aload_n 0, 1) := by decide +kernel
theorem dX11_weight_11 : decode cX11_weight 11 = .ok (.getfield 47, 3) := by decide +kernel
theorem dX11_weight_14 : decode cX11_weight 14 = .ok (.getfield 105, 3) := by decide +kernel
theorem dX11_weight_17 : decode cX11_weight 17 = .ok (.ifCond .eq 14, 3) := by decide +kernel
theorem dX11_weight_20 : decode cX11_weight 20 = .ok (.aload_n 0, 1) := by decide +kernel
theorem dX11_weight_21 : decode cX11_weight 21 = .ok (.getfield 47, 3) := by decide +kernel
theorem dX11_weight_24 : decode cX11_weight 24 = .ok (.getfield 147, 3) := by decide +kernel
theorem dX11_weight_27 : decode cX11_weight 27 = .ok (.iconst 1, 1) := by decide +kernel
theorem dX11_weight_28 : decode cX11_weight 28 = .ok (.if_icmp .eq 7, 3) := by decide +kernel
theorem dX11_weight_31 : decode cX11_weight 31 = .ok (.ldc2_w 160, 3) := by decide +kernel
theorem dX11_weight_34 : decode cX11_weight 34 = .ok (.lreturn, 1) := by decide +kernel
theorem dX11_weight_35 : decode cX11_weight 35 = .ok (.lconst 0, 1) := by decide +kernel
theorem dX11_weight_36 : decode cX11_weight 36 = .ok (.lstore_n 2, 1) := by decide +kernel
theorem dX11_weight_37 : decode cX11_weight 37 = .ok (.iconst 0, 1) := by decide +kernel
theorem dX11_weight_38 : decode cX11_weight 38 = .ok (.istore 4, 2) := by decide +kernel
theorem dX11_weight_40 : decode cX11_weight 40 = .ok (.iload 4, 2) := by decide +kernel
theorem dX11_weight_42 : decode cX11_weight 42 = .ok (.aload_n 0, 1) := by decide +kernel
theorem dX11_weight_43 : decode cX11_weight 43 = .ok (.getfield 47, 3) := by decide +kernel
theorem dX11_weight_46 : decode cX11_weight 46 = .ok (.getfield 135, 3) := by decide +kernel
theorem dX11_weight_49 : decode cX11_weight 49 = .ok (.if_icmp .ge 25, 3) := by decide +kernel
theorem dX11_weight_52 : decode cX11_weight 52 = .ok (.lload_n 2, 1) := by decide +kernel
theorem dX11_weight_53 : decode cX11_weight 53 = .ok (.iload_n 1, 1) := by decide +kernel
theorem dX11_weight_54 : decode cX11_weight 54 = .ok (.aload_n 0, 1) := by decide +kernel
theorem dX11_weight_55 : decode cX11_weight 55 = .ok (.getfield 47, 3) := by decide +kernel
theorem dX11_weight_58 : decode cX11_weight 58 = .ok (.iload 4, 2) := by decide +kernel
theorem dX11_weight_60 : decode cX11_weight 60 = .ok (.invokevirtual 138, 3) := by decide +kernel
theorem dX11_weight_63 : decode cX11_weight 63 = .ok (.invokestatic 162, 3) := by decide +kernel
theorem dX11_weight_66 : decode cX11_weight 66 = .ok (.ladd, 1) := by decide +kernel
theorem dX11_weight_67 : decode cX11_weight 67 = .ok (.lstore_n 2, 1) := by decide +kernel
theorem dX11_weight_68 : decode cX11_weight 68 = .ok (.iinc 4 1, 3) := by decide +kernel
theorem dX11_weight_71 : decode cX11_weight 71 = .ok (.goto (-31), 3) := by decide +kernel
theorem dX11_weight_74 : decode cX11_weight 74 = .ok (.lload_n 2, 1) := by decide +kernel
theorem dX11_weight_75 : decode cX11_weight 75 = .ok (.lreturn, 1) := by decide +kernel
theorem dX11_best_0 : decode cX11_best 0 = .ok (.aload_n 0, 1) := by decide +kernel
theorem dX11_best_1 : decode cX11_best 1 = .ok (.getfield 47, 3) := by decide +kernel
theorem dX11_best_4 : decode cX11_best 4 = .ok (.getfield 105, 3) := by decide +kernel
theorem dX11_best_7 : decode cX11_best 7 = .ok (.ifCond .ne 6, 3) := by decide +kernel
theorem dX11_best_10 : decode cX11_best 10 = .ok (.bipush (-2), 2) := by decide +kernel
theorem dX11_best_12 : decode cX11_best 12 = .ok (.ireturn, 1) := by decide +kernel
theorem dX11_best_13 : decode cX11_best 13 = .ok (.aload_n 0, 1) := by decide +kernel
theorem dX11_best_14 : decode cX11_best 14 = .ok (.invokevirtual 91, 3) := by decide +kernel
theorem dX11_best_17 : decode cX11_best 17 = .ok (.istore_n 1, 1) := by decide +kernel
theorem dX11_best_18 : decode cX11_best 18 = .ok (.iload_n 1, 1) := by decide +kernel
theorem dX11_best_19 : decode cX11_best 19 = .ok (.ifCond .eq 9, 3) := by decide +kernel
theorem dX11_best_22 : decode cX11_best 22 = .ok (.iload_n 1, 1) := by decide +kernel
theorem dX11_best_23 : decode cX11_best 23 = .ok (.bipush 12, 2) := by decide +kernel
theorem dX11_best_25 : decode cX11_best 25 = .ok (.if_icmp .le 6, 3) := by decide +kernel
theorem dX11_best_28 : decode cX11_best 28 = .ok (.bipush (-2), 2) := by decide +kernel
theorem dX11_best_30 : decode cX11_best 30 = .ok (.ireturn, 1) := by decide +kernel
theorem dX11_best_31 : decode cX11_best 31 = .ok (.aload_n 0, 1) := by decide +kernel
theorem dX11_best_32 : decode cX11_best 32 = .ok (.aload_n 0, 1) := by decide +kernel
theorem dX11_best_33 : decode cX11_best 33 = .ok (.getfield 47, 3) := by decide +kernel
theorem dX11_best_36 : decode cX11_best 36 = .ok (.getfield 147, 3) := by decide +kernel
theorem dX11_best_39 : decode cX11_best 39 = .ok (.invokevirtual 83, 3) := by decide +kernel
theorem dX11_best_42 : decode cX11_best 42 = .ok (.aload_n 0, 1) := by decide +kernel
theorem dX11_best_43 : decode cX11_best 43 = .ok (.getfield 47, 3) := by decide +kernel
theorem dX11_best_46 : decode cX11_best 46 = .ok (.getfield 166, 3) := by decide +kernel
theorem dX11_best_49 : decode cX11_best 49 = .ok (.aload_n 0, 1) := by decide +kernel
theorem dX11_best_50 : decode cX11_best 50 = .ok (.getfield 47, 3) := by decide +kernel
theorem dX11_best_53 : decode cX11_best 53 = .ok (.invokevirtual 170, 3) := by decide +kernel
theorem dX11_best_56 : decode cX11_best 56 = .ok (.aload_n 0, 1) := by decide +kernel
theorem dX11_best_57 : decode cX11_best 57 = .ok (.getfield 47, 3) := by decide +kernel
theorem dX11_best_60 : decode cX11_best 60 = .ok (.getfield 135, 3) := by decide +kernel
theorem dX11_best_63 : decode cX11_best 63 = .ok (.invokevirtual 173, 3) := by decide +kernel
theorem dX11_best_66 : decode cX11_best 66 = .ok (.ireturn, 1) := by decide +kernel
theorem dX11_worse_0 : decode cX11_worse 0 = .ok (.aload_n 0, 1) := by decide +kernel
theorem dX11_worse_1 : decode cX11_worse 1 = .ok (.getfield 47, 3) := by decide +kernel
theorem dX11_worse_4 : decode cX11_worse 4 = .ok (.getfield 105, 3) := by decide +kernel
theorem dX11_worse_7 : decode cX11_worse 7 = .ok (.ifCond .eq 14, 3) := by decide +kernel
theorem dX11_worse_10 : decode cX11_worse 10 = .ok (.aload_n 0, 1) := by decide +kernel
theorem dX11_worse_11 : decode cX11_worse 11 = .ok (.getfield 47, 3) := by decide +kernel
theorem dX11_worse_14 : decode cX11_worse 14 = .ok (.getfield 119, 3) := by decide +kernel
theorem dX11_worse_17 : decode cX11_worse 17 = .ok (.iconst (-1), 1) := by decide +kernel
theorem dX11_worse_18 : decode cX11_worse 18 = .ok (.if_icmp .ne 6, 3) := by decide +kernel
theorem dX11_worse_21 : decode cX11_worse 21 = .ok (.bipush (-2), 2) := by decide +kernel
theorem dX11_worse_23 : decode cX11_worse 23 = .ok (.ireturn, 1) := by decide +kernel
theorem dX11_worse_24 : decode cX11_worse 24 = .ok (.aload_n 0, 1) := by decide +kernel
theorem dX11_worse_25 : decode cX11_worse 25 = .ok (.iconst 1, 1) := by decide +kernel
theorem dX11_worse_26 : decode cX11_worse 26 = .ok (.invokevirtual 177, 3) := by decide +kernel
theorem dX11_worse_29 : decode cX11_worse 29 = .ok (.istore_n 1, 1) := by decide +kernel
theorem dX11_worse_30 : decode cX11_worse 30 = .ok (.aload_n 0, 1) := by decide +kernel
theorem dX11_worse_31 : decode cX11_worse 31 = .ok (.iconst 0, 1) := by decide +kernel
theorem dX11_worse_32 : decode cX11_worse 32 = .ok (.invokevirtual 177, 3) := by decide +kernel
theorem dX11_worse_35 : decode cX11_worse 35 = .ok (.istore_n 2, 1) := by decide +kernel
theorem dX11_worse_36 : decode cX11_worse 36 = .ok (.iload_n 1, 1) := by decide +kernel
theorem dX11_worse_37 : decode cX11_worse 37 = .ok (.bipush 12, 2) := by decide +kernel
theorem dX11_worse_39 : decode cX11_worse 39 = .ok (.if_icmp .gt 9, 3) := by decide +kernel
theorem dX11_worse_42 : decode cX11_worse 42 = .ok (.iload_n 2, 1) := by decide +kernel
theorem dX11_worse_43 : decode cX11_worse 43 = .ok (.bipush 12, 2) := by decide +kernel
theorem dX11_worse_45 : decode cX11_worse 45 = .ok (.if_icmp .le 6, 3) := by decide +kernel
theorem dX11_worse_48 : decode cX11_worse 48 = .ok (.bipush (-2), 2) := by decide +kernel
theorem dX11_worse_50 : decode cX11_worse 50 = .ok (.ireturn, 1) := by decide +kernel
theorem dX11_worse_51 : decode cX11_worse 51 = .ok (.iload_n 1, 1) := by decide +kernel
theorem dX11_worse_52 : decode cX11_worse 52 = .ok (.iload_n 2, 1) := by decide +kernel
theorem dX11_worse_53 : decode cX11_worse 53 = .ok (.if_icmp .lt 7, 3) := by decide +kernel
theorem dX11_worse_56 : decode cX11_worse 56 = .ok (.iconst 1, 1) := by decide +kernel
theorem dX11_worse_57 : decode cX11_worse 57 = .ok (.goto 4, 3) := by decide +kernel
theorem dX11_worse_60 : decode cX11_worse 60 = .ok (.iconst 0, 1) := by decide +kernel
theorem dX11_worse_61 : decode cX11_worse 61 = .ok (.ireturn, 1) := by decide +kernel
theorem dX11_set_0 : decode cX11_set 0 = .ok (.iload_n 1, 1) := by decide +kernel
theorem dX11_set_1 : decode cX11_set 1 = .ok (.invokestatic 102, 3) := by decide +kernel
theorem dX11_set_4 : decode cX11_set 4 = .ok (.ifCond .ne 5, 3) := by decide +kernel
theorem dX11_set_7 : decode cX11_set 7 = .ok (.iconst (-1), 1) := by decide +kernel
theorem dX11_set_8 : decode cX11_set 8 = .ok (.ireturn, 1) := by decide +kernel
theorem dX11_set_9 : decode cX11_set 9 = .ok (.aload_n 0, 1) := by decide +kernel
theorem dX11_set_10 : decode cX11_set 10 = .ok (.getfield 54, 3) := by decide +kernel
theorem dX11_set_13 : decode cX11_set 13 = .ok (.iload_n 1, 1) := by decide +kernel
theorem dX11_set_14 : decode cX11_set 14 = .ok (.invokevirtual 181, 3) := by decide +kernel
theorem dX11_set_17 : decode cX11_set 17 = .ok (.ifCond .eq 13, 3) := by decide +kernel
theorem dX11_set_20 : decode cX11_set 20 = .ok (.aload_n 0, 1) := by decide +kernel
theorem dX11_set_21 : decode cX11_set 21 = .ok (.getfield 54, 3) := by decide +kernel
theorem dX11_set_24 : decode cX11_set 24 = .ok (.getfield 184, 3) := by decide +kernel
theorem dX11_set_27 : decode cX11_set 27 = .ok (.goto 5, 3) := by decide +kernel
theorem dX11_set_30 : decode cX11_set 30 = .ok (.bipush (-3), 2) := by decide +kernel
theorem dX11_set_32 : decode cX11_set 32 = .ok (.ireturn, 1) := by decide +kernel
theorem dX11_drop_0 : decode cX11_drop 0 = .ok (.aload_n 0, 1) := by decide +kernel
theorem dX11_drop_1 : decode cX11_drop 1 = .ok (.getfield 54, 3) := by decide +kernel
theorem dX11_drop_4 : decode cX11_drop 4 = .ok (.invokevirtual 187, 3) := by decide +kernel
theorem dX11_drop_7 : decode cX11_drop 7 = .ok (.ifCond .eq 13, 3) := by decide +kernel
theorem dX11_drop_10 : decode cX11_drop 10 = .ok (.aload_n 0, 1) := by decide +kernel
theorem dX11_drop_11 : decode cX11_drop 11 = .ok (.getfield 54, 3) := by decide +kernel
theorem dX11_drop_14 : decode cX11_drop 14 = .ok (.getfield 184, 3) := by decide +kernel
theorem dX11_drop_17 : decode cX11_drop 17 = .ok (.goto 5, 3) := by decide +kernel
theorem dX11_drop_20 : decode cX11_drop 20 = .ok (.bipush (-2), 2) := by decide +kernel
theorem dX11_drop_22 : decode cX11_drop 22 = .ok (.ireturn, 1) := by decide +kernel
theorem dX11_word_0 : decode cX11_word 0 = .ok (.iload_n 1, 1) := by decide +kernel
theorem dX11_word_1 : decode cX11_word 1 = .ok (.invokestatic 132, 3) := by decide +kernel
theorem dX11_word_4 : decode cX11_word 4 = .ok (.ifCond .eq 14, 3) := by decide +kernel
theorem dX11_word_7 : decode cX11_word 7 = .ok (.aload_n 0, 1) := by decide +kernel
theorem dX11_word_8 : decode cX11_word 8 = .ok (.getfield 54, 3) := by decide +kernel
theorem dX11_word_11 : decode cX11_word 11 = .ok (.iload_n 1, 1) := by decide +kernel
theorem dX11_word_12 : decode cX11_word 12 = .ok (.invokevirtual 191, 3) := by decide +kernel
theorem dX11_word_15 : decode cX11_word 15 = .ok (.goto 4, 3) := by decide +kernel
theorem dX11_word_18 : decode cX11_word 18 = .ok (.iconst (-1), 1) := by decide +kernel
theorem dX11_word_19 : decode cX11_word 19 = .ok (.ireturn, 1) := by decide +kernel
theorem dX11_apart_0 : decode cX11_apart 0 = .ok (.iload_n 1, 1) := by decide +kernel
theorem dX11_apart_1 : decode cX11_apart 1 = .ok (.invokestatic 132, 3) := by decide +kernel
theorem dX11_apart_4 : decode cX11_apart 4 = .ok (.ifCond .eq 10, 3) := by decide +kernel
theorem dX11_apart_7 : decode cX11_apart 7 = .ok (.iload_n 2, 1) := by decide +kernel
theorem dX11_apart_8 : decode cX11_apart 8 = .ok (.invokestatic 132, 3) := by decide +kernel
theorem dX11_apart_11 : decode cX11_apart 11 = .ok (.ifCond .ne 5, 3) := by decide +kernel
theorem dX11_apart_14 : decode cX11_apart 14 = .ok (.iconst (-1), 1) := by decide +kernel
theorem dX11_apart_15 : decode cX11_apart 15 = .ok (.ireturn, 1) := by decide +kernel
theorem dX11_apart_16 : decode cX11_apart 16 = .ok (.aload_n 0, 1) := by decide +kernel
theorem dX11_apart_17 : decode cX11_apart 17 = .ok (.getfield 54, 3) := by decide +kernel
theorem dX11_apart_20 : decode cX11_apart 20 = .ok (.iload_n 1, 1) := by decide +kernel
theorem dX11_apart_21 : decode cX11_apart 21 = .ok (.invokevirtual 191, 3) := by decide +kernel
theorem dX11_apart_24 : decode cX11_apart 24 = .ok (.aload_n 0, 1) := by decide +kernel
theorem dX11_apart_25 : decode cX11_apart 25 = .ok (.getfield 54, 3) := by decide +kernel
theorem dX11_apart_28 : decode cX11_apart 28 = .ok (.iload_n 2, 1) := by decide +kernel
theorem dX11_apart_29 : decode cX11_apart 29 = .ok (.invokevirtual 191, 3) := by decide +kernel
theorem dX11_apart_32 : decode cX11_apart 32 = .ok (.ixor, 1) := by decide +kernel
theorem dX11_apart_33 : decode cX11_apart 33 = .ok (.invokestatic 194, 3) := by decide +kernel
theorem dX11_apart_36 : decode cX11_apart 36 = .ok (.ireturn, 1) := by decide +kernel
theorem dX11_serves_0 : decode cX11_serves 0 = .ok (.iload_n 1, 1) := by decide +kernel
theorem dX11_serves_1 : decode cX11_serves 1 = .ok (.invokestatic 66, 3) := by decide +kernel
theorem dX11_serves_4 : decode cX11_serves 4 = .ok (.ifCond .eq 10, 3) := by decide +kernel
theorem dX11_serves_7 : decode cX11_serves 7 = .ok (.iload_n 2, 1) := by decide +kernel
theorem dX11_serves_8 : decode cX11_serves 8 = .ok (.invokestatic 69, 3) := by decide +kernel
theorem dX11_serves_11 : decode cX11_serves 11 = .ok (.ifCond .ne 5, 3) := by decide +kernel
theorem dX11_serves_14 : decode cX11_serves 14 = .ok (.iconst (-1), 1) := by decide +kernel
theorem dX11_serves_15 : decode cX11_serves 15 = .ok (.ireturn, 1) := by decide +kernel
theorem dX11_serves_16 : decode cX11_serves 16 = .ok (.aload_n 0, 1) := by decide +kernel
theorem dX11_serves_17 : decode cX11_serves 17 = .ok (.getfield 54, 3) := by decide +kernel
theorem dX11_serves_20 : decode cX11_serves 20 = .ok (.iload_n 1, 1) := by decide +kernel
theorem dX11_serves_21 : decode cX11_serves 21 = .ok (.iconst 2, 1) := by decide +kernel
theorem dX11_serves_22 : decode cX11_serves 22 = .ok (.iload_n 2, 1) := by decide +kernel
theorem dX11_serves_23 : decode cX11_serves 23 = .ok (.imul, 1) := by decide +kernel
theorem dX11_serves_24 : decode cX11_serves 24 = .ok (.invokevirtual 199, 3) := by decide +kernel
theorem dX11_serves_27 : decode cX11_serves 27 = .ok (.ifCond .eq 7, 3) := by decide +kernel
theorem dX11_serves_30 : decode cX11_serves 30 = .ok (.iconst 1, 1) := by decide +kernel
theorem dX11_serves_31 : decode cX11_serves 31 = .ok (.goto 4, 3) := by decide +kernel
theorem dX11_serves_34 : decode cX11_serves 34 = .ok (.iconst 0, 1) := by decide +kernel
theorem dX11_serves_35 : decode cX11_serves 35 = .ok (.ireturn, 1) := by decide +kernel
theorem dX11_read_0 : decode cX11_read 0 = .ok (.aload_n 0, 1) := by decide +kernel
theorem dX11_read_1 : decode cX11_read 1 = .ok (.getfield 54, 3) := by decide +kernel
theorem dX11_read_4 : decode cX11_read 4 = .ok (.iload_n 1, 1) := by decide +kernel
theorem dX11_read_5 : decode cX11_read 5 = .ok (.invokevirtual 203, 3) := by decide +kernel
theorem dX11_read_8 : decode cX11_read 8 = .ok (.ifCond .eq 17, 3) := by decide +kernel
theorem dX11_read_11 : decode cX11_read 11 = .ok (.iload_n 2, 1) := by decide +kernel
theorem dX11_read_12 : decode cX11_read 12 = .ok (.invokestatic 66, 3) := by decide +kernel
theorem dX11_read_15 : decode cX11_read 15 = .ok (.ifCond .eq 10, 3) := by decide +kernel
theorem dX11_read_18 : decode cX11_read 18 = .ok (.iload_n 3, 1) := by decide +kernel
theorem dX11_read_19 : decode cX11_read 19 = .ok (.invokestatic 69, 3) := by decide +kernel
theorem dX11_read_22 : decode cX11_read 22 = .ok (.ifCond .ne 5, 3) := by decide +kernel
theorem dX11_read_25 : decode cX11_read 25 = .ok (.iconst (-1), 1) := by decide +kernel
theorem dX11_read_26 : decode cX11_read 26 = .ok (.ireturn, 1) := by decide +kernel
theorem dX11_read_27 : decode cX11_read 27 = .ok (.aload_n 0, 1) := by decide +kernel
theorem dX11_read_28 : decode cX11_read 28 = .ok (.getfield 54, 3) := by decide +kernel
theorem dX11_read_31 : decode cX11_read 31 = .ok (.iload_n 1, 1) := by decide +kernel
theorem dX11_read_32 : decode cX11_read 32 = .ok (.iload_n 2, 1) := by decide +kernel
theorem dX11_read_33 : decode cX11_read 33 = .ok (.iload_n 3, 1) := by decide +kernel
theorem dX11_read_34 : decode cX11_read 34 = .ok (.invokevirtual 206, 3) := by decide +kernel
theorem dX11_read_37 : decode cX11_read 37 = .ok (.ireturn, 1) := by decide +kernel
theorem dX11_play_0 : decode cX11_play 0 = .ok (.aload_n 0, 1) := by decide +kernel
theorem dX11_play_1 : decode cX11_play 1 = .ok (.getfield 54, 3) := by decide +kernel
theorem dX11_play_4 : decode cX11_play 4 = .ok (.iload_n 1, 1) := by decide +kernel
theorem dX11_play_5 : decode cX11_play 5 = .ok (.invokevirtual 203, 3) := by decide +kernel
theorem dX11_play_8 : decode cX11_play 8 = .ok (.ifCond .ne 5, 3) := by decide +kernel
theorem dX11_play_11 : decode cX11_play 11 = .ok (.iconst (-1), 1) := by decide +kernel
theorem dX11_play_12 : decode cX11_play 12 = .ok (.ireturn, 1) := by decide +kernel
theorem dX11_play_13 : decode cX11_play 13 = .ok (.aload_n 0, 1) := by decide +kernel
theorem dX11_play_14 : decode cX11_play 14 = .ok (.getfield 47, 3) := by decide +kernel
theorem dX11_play_17 : decode cX11_play 17 = .ok (.getfield 105, 3) := by decide +kernel
theorem dX11_play_20 : decode cX11_play 20 = .ok (.ifCond .ne 6, 3) := by decide +kernel
theorem dX11_play_23 : decode cX11_play 23 = .ok (.bipush (-2), 2) := by decide +kernel
theorem dX11_play_25 : decode cX11_play 25 = .ok (.ireturn, 1) := by decide +kernel
theorem dX11_play_26 : decode cX11_play 26 = .ok (.aload_n 0, 1) := by decide +kernel
theorem dX11_play_27 : decode cX11_play 27 = .ok (.getfield 47, 3) := by decide +kernel
theorem dX11_play_30 : decode cX11_play 30 = .ok (.iconst (-1), 1) := by decide +kernel
theorem dX11_play_31 : decode cX11_play 31 = .ok (.invokevirtual 112, 3) := by decide +kernel
theorem dX11_play_34 : decode cX11_play 34 = .ok (.iconst 0, 1) := by decide +kernel
theorem dX11_play_35 : decode cX11_play 35 = .ok (.istore_n 2, 1) := by decide +kernel
theorem dX11_play_36 : decode cX11_play 36 = .ok (.iload_n 2, 1) := by decide +kernel
theorem dX11_play_37 : decode cX11_play 37 = .ok (.aload_n 0, 1) := by decide +kernel
theorem dX11_play_38 : decode cX11_play 38 = .ok (.getfield 54, 3) := by decide +kernel
theorem dX11_play_41 : decode cX11_play 41 = .ok (.getfield 184, 3) := by decide +kernel
theorem dX11_play_44 : decode cX11_play 44 = .ok (.if_icmp .ge 18, 3) := by decide +kernel
theorem dX11_play_47 : decode cX11_play 47 = .ok (.aload_n 0, 1) := by decide +kernel
theorem dX11_play_48 : decode cX11_play 48 = .ok (.iload_n 2, 1) := by decide +kernel
theorem dX11_play_49 : decode cX11_play 49 = .ok (.iload_n 1, 1) := by decide +kernel
theorem dX11_play_50 : decode cX11_play 50 = .ok (.invokevirtual 210, 3) := by decide +kernel
theorem dX11_play_53 : decode cX11_play 53 = .ok (.ifCond .eq 9, 3) := by decide +kernel
theorem dX11_play_56 : decode cX11_play 56 = .ok (.iinc 2 1, 3) := by decide +kernel
theorem dX11_play_59 : decode cX11_play 59 = .ok (.goto (-23), 3) := by decide +kernel
theorem dX11_play_62 : decode cX11_play 62 = .ok (.iload_n 2, 1) := by decide +kernel
theorem dX11_play_63 : decode cX11_play 63 = .ok (.ireturn, 1) := by decide +kernel
theorem dX11_told_0 : decode cX11_told 0 = .ok (.iload_n 1, 1) := by decide +kernel
theorem dX11_told_1 : decode cX11_told 1 = .ok (.tableswitch 116 0 7 #[47, 63, 71, 79, 87, 95, 103, 111], 47) := by decide +kernel
theorem dX11_told_48 : decode cX11_told 48 = .ok (.aload_n 0, 1) := by decide +kernel
theorem dX11_told_49 : decode cX11_told 49 = .ok (.getfield 47, 3) := by decide +kernel
theorem dX11_told_52 : decode cX11_told 52 = .ok (.getfield 105, 3) := by decide +kernel
theorem dX11_told_55 : decode cX11_told 55 = .ok (.ifCond .eq 7, 3) := by decide +kernel
theorem dX11_told_58 : decode cX11_told 58 = .ok (.iconst 1, 1) := by decide +kernel
theorem dX11_told_59 : decode cX11_told 59 = .ok (.goto 4, 3) := by decide +kernel
theorem dX11_told_62 : decode cX11_told 62 = .ok (.iconst 0, 1) := by decide +kernel
theorem dX11_told_63 : decode cX11_told 63 = .ok (.ireturn, 1) := by decide +kernel
theorem dX11_told_64 : decode cX11_told 64 = .ok (.aload_n 0, 1) := by decide +kernel
theorem dX11_told_65 : decode cX11_told 65 = .ok (.getfield 47, 3) := by decide +kernel
theorem dX11_told_68 : decode cX11_told 68 = .ok (.getfield 147, 3) := by decide +kernel
theorem dX11_told_71 : decode cX11_told 71 = .ok (.ireturn, 1) := by decide +kernel
theorem dX11_told_72 : decode cX11_told 72 = .ok (.aload_n 0, 1) := by decide +kernel
theorem dX11_told_73 : decode cX11_told 73 = .ok (.getfield 47, 3) := by decide +kernel
theorem dX11_told_76 : decode cX11_told 76 = .ok (.getfield 135, 3) := by decide +kernel
theorem dX11_told_79 : decode cX11_told 79 = .ok (.ireturn, 1) := by decide +kernel
theorem dX11_told_80 : decode cX11_told 80 = .ok (.aload_n 0, 1) := by decide +kernel
theorem dX11_told_81 : decode cX11_told 81 = .ok (.getfield 47, 3) := by decide +kernel
theorem dX11_told_84 : decode cX11_told 84 = .ok (.getfield 144, 3) := by decide +kernel
theorem dX11_told_87 : decode cX11_told 87 = .ok (.ireturn, 1) := by decide +kernel
theorem dX11_told_88 : decode cX11_told 88 = .ok (.aload_n 0, 1) := by decide +kernel
theorem dX11_told_89 : decode cX11_told 89 = .ok (.getfield 47, 3) := by decide +kernel
theorem dX11_told_92 : decode cX11_told 92 = .ok (.getfield 126, 3) := by decide +kernel
theorem dX11_told_95 : decode cX11_told 95 = .ok (.ireturn, 1) := by decide +kernel
theorem dX11_told_96 : decode cX11_told 96 = .ok (.aload_n 0, 1) := by decide +kernel
theorem dX11_told_97 : decode cX11_told 97 = .ok (.getfield 47, 3) := by decide +kernel
theorem dX11_told_100 : decode cX11_told 100 = .ok (.getfield 119, 3) := by decide +kernel
theorem dX11_told_103 : decode cX11_told 103 = .ok (.ireturn, 1) := by decide +kernel
theorem dX11_told_104 : decode cX11_told 104 = .ok (.aload_n 0, 1) := by decide +kernel
theorem dX11_told_105 : decode cX11_told 105 = .ok (.getfield 54, 3) := by decide +kernel
theorem dX11_told_108 : decode cX11_told 108 = .ok (.getfield 184, 3) := by decide +kernel
theorem dX11_told_111 : decode cX11_told 111 = .ok (.ireturn, 1) := by decide +kernel
theorem dX11_told_112 : decode cX11_told 112 = .ok (.aload_n 0, 1) := by decide +kernel
theorem dX11_told_113 : decode cX11_told 113 = .ok (.getfield 58, 3) := by decide +kernel
theorem dX11_told_116 : decode cX11_told 116 = .ok (.ireturn, 1) := by decide +kernel
theorem dX11_told_117 : decode cX11_told 117 = .ok (.bipush (-2), 2) := by decide +kernel
theorem dX11_told_119 : decode cX11_told 119 = .ok (.ireturn, 1) := by decide +kernel
theorem dX11_trace_0 : decode cX11_trace 0 = .ok (.aload_n 0, 1) := by decide +kernel
theorem dX11_trace_1 : decode cX11_trace 1 = .ok (.getfield 25, 3) := by decide +kernel
theorem dX11_trace_4 : decode cX11_trace 4 = .ok (.getfield 213, 3) := by decide +kernel
theorem dX11_trace_7 : decode cX11_trace 7 = .ok (.lreturn, 1) := by decide +kernel
theorem dX11_isKind_0 : decode cX11_isKind 0 = .ok (.iload_n 0, 1) := by decide +kernel
theorem dX11_isKind_1 : decode cX11_isKind 1 = .ok (.ifCond .lt 12, 3) := by decide +kernel
theorem dX11_isKind_4 : decode cX11_isKind 4 = .ok (.iload_n 0, 1) := by decide +kernel
theorem dX11_isKind_5 : decode cX11_isKind 5 = .ok (.iconst 3, 1) := by decide +kernel
theorem dX11_isKind_6 : decode cX11_isKind 6 = .ok (.if_icmp .ge 7, 3) := by decide +kernel
theorem dX11_isKind_9 : decode cX11_isKind 9 = .ok (.iconst 1, 1) := by decide +kernel
theorem dX11_isKind_10 : decode cX11_isKind 10 = .ok (.goto 4, 3) := by decide +kernel
theorem dX11_isKind_13 : decode cX11_isKind 13 = .ok (.iconst 0, 1) := by decide +kernel
theorem dX11_isKind_14 : decode cX11_isKind 14 = .ok (.ireturn, 1) := by decide +kernel
theorem dX11_isNumber_0 : decode cX11_isNumber 0 = .ok (.iload_n 0, 1) := by decide +kernel
theorem dX11_isNumber_1 : decode cX11_isNumber 1 = .ok (.ifCond .lt 13, 3) := by decide +kernel
theorem dX11_isNumber_4 : decode cX11_isNumber 4 = .ok (.iload_n 0, 1) := by decide +kernel
theorem dX11_isNumber_5 : decode cX11_isNumber 5 = .ok (.bipush 16, 2) := by decide +kernel
theorem dX11_isNumber_7 : decode cX11_isNumber 7 = .ok (.if_icmp .ge 7, 3) := by decide +kernel
theorem dX11_isNumber_10 : decode cX11_isNumber 10 = .ok (.iconst 1, 1) := by decide +kernel
theorem dX11_isNumber_11 : decode cX11_isNumber 11 = .ok (.goto 4, 3) := by decide +kernel
theorem dX11_isNumber_14 : decode cX11_isNumber 14 = .ok (.iconst 0, 1) := by decide +kernel
theorem dX11_isNumber_15 : decode cX11_isNumber 15 = .ok (.ireturn, 1) := by decide +kernel
theorem dX11_isCount_0 : decode cX11_isCount 0 = .ok (.iload_n 0, 1) := by decide +kernel
theorem dX11_isCount_1 : decode cX11_isCount 1 = .ok (.iconst 1, 1) := by decide +kernel
theorem dX11_isCount_2 : decode cX11_isCount 2 = .ok (.if_icmp .lt 13, 3) := by decide +kernel
theorem dX11_isCount_5 : decode cX11_isCount 5 = .ok (.iload_n 0, 1) := by decide +kernel
theorem dX11_isCount_6 : decode cX11_isCount 6 = .ok (.bipush 16, 2) := by decide +kernel
theorem dX11_isCount_8 : decode cX11_isCount 8 = .ok (.if_icmp .gt 7, 3) := by decide +kernel
theorem dX11_isCount_11 : decode cX11_isCount 11 = .ok (.iconst 1, 1) := by decide +kernel
theorem dX11_isCount_12 : decode cX11_isCount 12 = .ok (.goto 4, 3) := by decide +kernel
theorem dX11_isCount_15 : decode cX11_isCount 15 = .ok (.iconst 0, 1) := by decide +kernel
theorem dX11_isCount_16 : decode cX11_isCount 16 = .ok (.ireturn, 1) := by decide +kernel
theorem dX11_isLies_0 : decode cX11_isLies 0 = .ok (.iload_n 0, 1) := by decide +kernel
theorem dX11_isLies_1 : decode cX11_isLies 1 = .ok (.ifCond .lt 12, 3) := by decide +kernel
theorem dX11_isLies_4 : decode cX11_isLies 4 = .ok (.iload_n 0, 1) := by decide +kernel
theorem dX11_isLies_5 : decode cX11_isLies 5 = .ok (.iconst 3, 1) := by decide +kernel
theorem dX11_isLies_6 : decode cX11_isLies 6 = .ok (.if_icmp .gt 7, 3) := by decide +kernel
theorem dX11_isLies_9 : decode cX11_isLies 9 = .ok (.iconst 1, 1) := by decide +kernel
theorem dX11_isLies_10 : decode cX11_isLies 10 = .ok (.goto 4, 3) := by decide +kernel
theorem dX11_isLies_13 : decode cX11_isLies 13 = .ok (.iconst 0, 1) := by decide +kernel
theorem dX11_isLies_14 : decode cX11_isLies 14 = .ok (.ireturn, 1) := by decide +kernel
theorem dX11_isHeap_0 : decode cX11_isHeap 0 = .ok (.iload_n 0, 1) := by decide +kernel
theorem dX11_isHeap_1 : decode cX11_isHeap 1 = .ok (.ifCond .lt 13, 3) := by decide +kernel
theorem dX11_isHeap_4 : decode cX11_isHeap 4 = .ok (.iload_n 0, 1) := by decide +kernel
theorem dX11_isHeap_5 : decode cX11_isHeap 5 = .ok (.ldc 217, 2) := by decide +kernel
theorem dX11_isHeap_7 : decode cX11_isHeap 7 = .ok (.if_icmp .gt 7, 3) := by decide +kernel
theorem dX11_isHeap_10 : decode cX11_isHeap 10 = .ok (.iconst 1, 1) := by decide +kernel
theorem dX11_isHeap_11 : decode cX11_isHeap 11 = .ok (.goto 4, 3) := by decide +kernel
theorem dX11_isHeap_14 : decode cX11_isHeap 14 = .ok (.iconst 0, 1) := by decide +kernel
theorem dX11_isHeap_15 : decode cX11_isHeap 15 = .ok (.ireturn, 1) := by decide +kernel
theorem dX11_yesPrice_0 : decode cX11_yesPrice 0 = .ok (.aload_n 0, 1) := by decide +kernel
theorem dX11_yesPrice_1 : decode cX11_yesPrice 1 = .ok (.getfield 18, 3) := by decide +kernel
theorem dX11_yesPrice_4 : decode cX11_yesPrice 4 = .ok (.iload_n 1, 1) := by decide +kernel
theorem dX11_yesPrice_5 : decode cX11_yesPrice 5 = .ok (.aaload, 1) := by decide +kernel
theorem dX11_yesPrice_6 : decode cX11_yesPrice 6 = .ok (.iconst 1, 1) := by decide +kernel
theorem dX11_yesPrice_7 : decode cX11_yesPrice 7 = .ok (.iconst 0, 1) := by decide +kernel
theorem dX11_yesPrice_8 : decode cX11_yesPrice 8 = .ok (.aload_n 0, 1) := by decide +kernel
theorem dX11_yesPrice_9 : decode cX11_yesPrice 9 = .ok (.getfield 29, 3) := by decide +kernel
theorem dX11_yesPrice_12 : decode cX11_yesPrice 12 = .ok (.invokevirtual 98, 3) := by decide +kernel
theorem dX11_yesPrice_15 : decode cX11_yesPrice 15 = .ok (.ireturn, 1) := by decide +kernel
theorem dX11_noPrice_0 : decode cX11_noPrice 0 = .ok (.aload_n 0, 1) := by decide +kernel
theorem dX11_noPrice_1 : decode cX11_noPrice 1 = .ok (.getfield 18, 3) := by decide +kernel
theorem dX11_noPrice_4 : decode cX11_noPrice 4 = .ok (.iload_n 1, 1) := by decide +kernel
theorem dX11_noPrice_5 : decode cX11_noPrice 5 = .ok (.aaload, 1) := by decide +kernel
theorem dX11_noPrice_6 : decode cX11_noPrice 6 = .ok (.iconst 0, 1) := by decide +kernel
theorem dX11_noPrice_7 : decode cX11_noPrice 7 = .ok (.iconst 1, 1) := by decide +kernel
theorem dX11_noPrice_8 : decode cX11_noPrice 8 = .ok (.aload_n 0, 1) := by decide +kernel
theorem dX11_noPrice_9 : decode cX11_noPrice 9 = .ok (.getfield 29, 3) := by decide +kernel
theorem dX11_noPrice_12 : decode cX11_noPrice 12 = .ok (.invokevirtual 98, 3) := by decide +kernel
theorem dX11_noPrice_15 : decode cX11_noPrice 15 = .ok (.ireturn, 1) := by decide +kernel
theorem dX11_heapTable_0 : decode cX11_heapTable 0 = .ok (.aload_n 0, 1) := by decide +kernel
theorem dX11_heapTable_1 : decode cX11_heapTable 1 = .ok (.getfield 34, 3) := by decide +kernel
theorem dX11_heapTable_4 : decode cX11_heapTable 4 = .ok (.iload_n 1, 1) := by decide +kernel
theorem dX11_heapTable_5 : decode cX11_heapTable 5 = .ok (.aaload, 1) := by decide +kernel
theorem dX11_heapTable_6 : decode cX11_heapTable 6 = .ok (.astore_n 2, 1) := by decide +kernel
theorem dX11_heapTable_7 : decode cX11_heapTable 7 = .ok (.aload_n 2, 1) := by decide +kernel
theorem dX11_heapTable_8 : decode cX11_heapTable 8 = .ok (.ifnonnull 69, 3) := by decide +kernel
theorem dX11_heapTable_11 : decode cX11_heapTable 11 = .ok (.sipush 4845, 3) := by decide +kernel
theorem dX11_heapTable_14 : decode cX11_heapTable 14 = .ok (.newarray .int, 2) := by decide +kernel
theorem dX11_heapTable_16 : decode cX11_heapTable 16 = .ok (.astore_n 3, 1) := by decide +kernel
theorem dX11_heapTable_17 : decode cX11_heapTable 17 = .ok (.new 218, 3) := by decide +kernel
theorem dX11_heapTable_20 : decode cX11_heapTable 20 = .ok (.dup, 1) := by decide +kernel
theorem dX11_heapTable_21 : decode cX11_heapTable 21 = .ok (.aload_n 3, 1) := by decide +kernel
theorem dX11_heapTable_22 : decode cX11_heapTable 22 = .ok (.aload_n 0, 1) := by decide +kernel
theorem dX11_heapTable_23 : decode cX11_heapTable 23 = .ok (.iload_n 1, 1) := by decide +kernel
theorem dX11_heapTable_24 : decode cX11_heapTable 24 = .ok (.invokevirtual 72, 3) := by decide +kernel
theorem dX11_heapTable_27 : decode cX11_heapTable 27 = .ok (.aload_n 0, 1) := by decide +kernel
theorem dX11_heapTable_28 : decode cX11_heapTable 28 = .ok (.iload_n 1, 1) := by decide +kernel
theorem dX11_heapTable_29 : decode cX11_heapTable 29 = .ok (.invokevirtual 76, 3) := by decide +kernel
theorem dX11_heapTable_32 : decode cX11_heapTable 32 = .ok (.invokespecial 220, 3) := by decide +kernel
theorem dX11_heapTable_35 : decode cX11_heapTable 35 = .ok (.astore 4, 2) := by decide +kernel
theorem dX11_heapTable_37 : decode cX11_heapTable 37 = .ok (.new 223, 3) := by decide +kernel
theorem dX11_heapTable_40 : decode cX11_heapTable 40 = .ok (.dup, 1) := by decide +kernel
theorem dX11_heapTable_41 : decode cX11_heapTable 41 = .ok (.aload_n 3, 1) := by decide +kernel
theorem dX11_heapTable_42 : decode cX11_heapTable 42 = .ok (.aload_n 0, 1) := by decide +kernel
theorem dX11_heapTable_43 : decode cX11_heapTable 43 = .ok (.iload_n 1, 1) := by decide +kernel
theorem dX11_heapTable_44 : decode cX11_heapTable 44 = .ok (.invokevirtual 72, 3) := by decide +kernel
theorem dX11_heapTable_47 : decode cX11_heapTable 47 = .ok (.aload_n 0, 1) := by decide +kernel
theorem dX11_heapTable_48 : decode cX11_heapTable 48 = .ok (.iload_n 1, 1) := by decide +kernel
theorem dX11_heapTable_49 : decode cX11_heapTable 49 = .ok (.invokevirtual 76, 3) := by decide +kernel
theorem dX11_heapTable_52 : decode cX11_heapTable 52 = .ok (.invokespecial 225, 3) := by decide +kernel
theorem dX11_heapTable_55 : decode cX11_heapTable 55 = .ok (.astore 5, 2) := by decide +kernel
theorem dX11_heapTable_57 : decode cX11_heapTable 57 = .ok (.new 32, 3) := by decide +kernel
theorem dX11_heapTable_60 : decode cX11_heapTable 60 = .ok (.dup, 1) := by decide +kernel
theorem dX11_heapTable_61 : decode cX11_heapTable 61 = .ok (.aload_n 3, 1) := by decide +kernel
theorem dX11_heapTable_62 : decode cX11_heapTable 62 = .ok (.aload 4, 2) := by decide +kernel
theorem dX11_heapTable_64 : decode cX11_heapTable 64 = .ok (.aload 5, 2) := by decide +kernel
theorem dX11_heapTable_66 : decode cX11_heapTable 66 = .ok (.invokespecial 226, 3) := by decide +kernel
theorem dX11_heapTable_69 : decode cX11_heapTable 69 = .ok (.astore_n 2, 1) := by decide +kernel
theorem dX11_heapTable_70 : decode cX11_heapTable 70 = .ok (.aload_n 0, 1) := by decide +kernel
theorem dX11_heapTable_71 : decode cX11_heapTable 71 = .ok (.getfield 34, 3) := by decide +kernel
theorem dX11_heapTable_74 : decode cX11_heapTable 74 = .ok (.iload_n 1, 1) := by decide +kernel
theorem dX11_heapTable_75 : decode cX11_heapTable 75 = .ok (.aload_n 2, 1) := by decide +kernel
theorem dX11_heapTable_76 : decode cX11_heapTable 76 = .ok (.aastore, 1) := by decide +kernel
theorem dX11_heapTable_77 : decode cX11_heapTable 77 = .ok (.aload_n 2, 1) := by decide +kernel
theorem dX11_heapTable_78 : decode cX11_heapTable 78 = .ok (.areturn, 1) := by decide +kernel
theorem dX11_spanTable_0 : decode cX11_spanTable 0 = .ok (.aload_n 0, 1) := by decide +kernel
theorem dX11_spanTable_1 : decode cX11_spanTable 1 = .ok (.getfield 40, 3) := by decide +kernel
theorem dX11_spanTable_4 : decode cX11_spanTable 4 = .ok (.iload_n 1, 1) := by decide +kernel
theorem dX11_spanTable_5 : decode cX11_spanTable 5 = .ok (.aaload, 1) := by decide +kernel
theorem dX11_spanTable_6 : decode cX11_spanTable 6 = .ok (.astore_n 2, 1) := by decide +kernel
theorem dX11_spanTable_7 : decode cX11_spanTable 7 = .ok (.aload_n 2, 1) := by decide +kernel
theorem dX11_spanTable_8 : decode cX11_spanTable 8 = .ok (.ifnonnull 28, 3) := by decide +kernel
theorem dX11_spanTable_11 : decode cX11_spanTable 11 = .ok (.new 38, 3) := by decide +kernel
theorem dX11_spanTable_14 : decode cX11_spanTable 14 = .ok (.dup, 1) := by decide +kernel
theorem dX11_spanTable_15 : decode cX11_spanTable 15 = .ok (.aload_n 0, 1) := by decide +kernel
theorem dX11_spanTable_16 : decode cX11_spanTable 16 = .ok (.iload_n 1, 1) := by decide +kernel
theorem dX11_spanTable_17 : decode cX11_spanTable 17 = .ok (.invokevirtual 72, 3) := by decide +kernel
theorem dX11_spanTable_20 : decode cX11_spanTable 20 = .ok (.aload_n 0, 1) := by decide +kernel
theorem dX11_spanTable_21 : decode cX11_spanTable 21 = .ok (.iload_n 1, 1) := by decide +kernel
theorem dX11_spanTable_22 : decode cX11_spanTable 22 = .ok (.invokevirtual 76, 3) := by decide +kernel
theorem dX11_spanTable_25 : decode cX11_spanTable 25 = .ok (.invokespecial 229, 3) := by decide +kernel
theorem dX11_spanTable_28 : decode cX11_spanTable 28 = .ok (.astore_n 2, 1) := by decide +kernel
theorem dX11_spanTable_29 : decode cX11_spanTable 29 = .ok (.aload_n 0, 1) := by decide +kernel
theorem dX11_spanTable_30 : decode cX11_spanTable 30 = .ok (.getfield 40, 3) := by decide +kernel
theorem dX11_spanTable_33 : decode cX11_spanTable 33 = .ok (.iload_n 1, 1) := by decide +kernel
theorem dX11_spanTable_34 : decode cX11_spanTable 34 = .ok (.aload_n 2, 1) := by decide +kernel
theorem dX11_spanTable_35 : decode cX11_spanTable 35 = .ok (.aastore, 1) := by decide +kernel
theorem dX11_spanTable_36 : decode cX11_spanTable 36 = .ok (.aload_n 2, 1) := by decide +kernel
theorem dX11_spanTable_37 : decode cX11_spanTable 37 = .ok (.areturn, 1) := by decide +kernel
theorem dX11_fewestNow_0 : decode cX11_fewestNow 0 = .ok (.aload_n 0, 1) := by decide +kernel
theorem dX11_fewestNow_1 : decode cX11_fewestNow 1 = .ok (.aload_n 0, 1) := by decide +kernel
theorem dX11_fewestNow_2 : decode cX11_fewestNow 2 = .ok (.getfield 47, 3) := by decide +kernel
theorem dX11_fewestNow_5 : decode cX11_fewestNow 5 = .ok (.getfield 147, 3) := by decide +kernel
theorem dX11_fewestNow_8 : decode cX11_fewestNow 8 = .ok (.invokevirtual 83, 3) := by decide +kernel
theorem dX11_fewestNow_11 : decode cX11_fewestNow 11 = .ok (.aload_n 0, 1) := by decide +kernel
theorem dX11_fewestNow_12 : decode cX11_fewestNow 12 = .ok (.getfield 47, 3) := by decide +kernel
theorem dX11_fewestNow_15 : decode cX11_fewestNow 15 = .ok (.getfield 166, 3) := by decide +kernel
theorem dX11_fewestNow_18 : decode cX11_fewestNow 18 = .ok (.aload_n 0, 1) := by decide +kernel
theorem dX11_fewestNow_19 : decode cX11_fewestNow 19 = .ok (.getfield 47, 3) := by decide +kernel
theorem dX11_fewestNow_22 : decode cX11_fewestNow 22 = .ok (.invokevirtual 170, 3) := by decide +kernel
theorem dX11_fewestNow_25 : decode cX11_fewestNow 25 = .ok (.aload_n 0, 1) := by decide +kernel
theorem dX11_fewestNow_26 : decode cX11_fewestNow 26 = .ok (.getfield 47, 3) := by decide +kernel
theorem dX11_fewestNow_29 : decode cX11_fewestNow 29 = .ok (.getfield 135, 3) := by decide +kernel
theorem dX11_fewestNow_32 : decode cX11_fewestNow 32 = .ok (.invokevirtual 231, 3) := by decide +kernel
theorem dX11_fewestNow_35 : decode cX11_fewestNow 35 = .ok (.ireturn, 1) := by decide +kernel
theorem dX11_fewestBehind_0 : decode cX11_fewestBehind 0 = .ok (.aload_n 0, 1) := by decide +kernel
theorem dX11_fewestBehind_1 : decode cX11_fewestBehind 1 = .ok (.getfield 47, 3) := by decide +kernel
theorem dX11_fewestBehind_4 : decode cX11_fewestBehind 4 = .ok (.aload_n 0, 1) := by decide +kernel
theorem dX11_fewestBehind_5 : decode cX11_fewestBehind 5 = .ok (.getfield 47, 3) := by decide +kernel
theorem dX11_fewestBehind_8 : decode cX11_fewestBehind 8 = .ok (.getfield 119, 3) := by decide +kernel
theorem dX11_fewestBehind_11 : decode cX11_fewestBehind 11 = .ok (.iload_n 1, 1) := by decide +kernel
theorem dX11_fewestBehind_12 : decode cX11_fewestBehind 12 = .ok (.invokevirtual 233, 3) := by decide +kernel
theorem dX11_fewestBehind_15 : decode cX11_fewestBehind 15 = .ok (.ifCond .ne 5, 3) := by decide +kernel
theorem dX11_fewestBehind_18 : decode cX11_fewestBehind 18 = .ok (.iconst (-1), 1) := by decide +kernel
theorem dX11_fewestBehind_19 : decode cX11_fewestBehind 19 = .ok (.ireturn, 1) := by decide +kernel
theorem dX11_fewestBehind_20 : decode cX11_fewestBehind 20 = .ok (.aload_n 0, 1) := by decide +kernel
theorem dX11_fewestBehind_21 : decode cX11_fewestBehind 21 = .ok (.aload_n 0, 1) := by decide +kernel
theorem dX11_fewestBehind_22 : decode cX11_fewestBehind 22 = .ok (.getfield 47, 3) := by decide +kernel
theorem dX11_fewestBehind_25 : decode cX11_fewestBehind 25 = .ok (.getfield 147, 3) := by decide +kernel
theorem dX11_fewestBehind_28 : decode cX11_fewestBehind 28 = .ok (.invokevirtual 83, 3) := by decide +kernel
theorem dX11_fewestBehind_31 : decode cX11_fewestBehind 31 = .ok (.aload_n 0, 1) := by decide +kernel
theorem dX11_fewestBehind_32 : decode cX11_fewestBehind 32 = .ok (.getfield 47, 3) := by decide +kernel
theorem dX11_fewestBehind_35 : decode cX11_fewestBehind 35 = .ok (.getfield 166, 3) := by decide +kernel
theorem dX11_fewestBehind_38 : decode cX11_fewestBehind 38 = .ok (.aload_n 0, 1) := by decide +kernel
theorem dX11_fewestBehind_39 : decode cX11_fewestBehind 39 = .ok (.getfield 47, 3) := by decide +kernel
theorem dX11_fewestBehind_42 : decode cX11_fewestBehind 42 = .ok (.invokevirtual 236, 3) := by decide +kernel
theorem dX11_fewestBehind_45 : decode cX11_fewestBehind 45 = .ok (.aload_n 0, 1) := by decide +kernel
theorem dX11_fewestBehind_46 : decode cX11_fewestBehind 46 = .ok (.getfield 47, 3) := by decide +kernel
theorem dX11_fewestBehind_49 : decode cX11_fewestBehind 49 = .ok (.getfield 135, 3) := by decide +kernel
theorem dX11_fewestBehind_52 : decode cX11_fewestBehind 52 = .ok (.invokevirtual 231, 3) := by decide +kernel
theorem dX11_fewestBehind_55 : decode cX11_fewestBehind 55 = .ok (.ireturn, 1) := by decide +kernel
theorem dX11_toldOrNone_0 : decode cX11_toldOrNone 0 = .ok (.iload_n 0, 1) := by decide +kernel
theorem dX11_toldOrNone_1 : decode cX11_toldOrNone 1 = .ok (.bipush 12, 2) := by decide +kernel
theorem dX11_toldOrNone_3 : decode cX11_toldOrNone 3 = .ok (.if_icmp .le 8, 3) := by decide +kernel
theorem dX11_toldOrNone_6 : decode cX11_toldOrNone 6 = .ok (.bipush (-9), 2) := by decide +kernel
theorem dX11_toldOrNone_8 : decode cX11_toldOrNone 8 = .ok (.goto 4, 3) := by decide +kernel
theorem dX11_toldOrNone_11 : decode cX11_toldOrNone 11 = .ok (.iload_n 0, 1) := by decide +kernel
theorem dX11_toldOrNone_12 : decode cX11_toldOrNone 12 = .ok (.ireturn, 1) := by decide +kernel
theorem dX11_playOne_0 : decode cX11_playOne 0 = .ok (.iload_n 2, 1) := by decide +kernel
theorem dX11_playOne_1 : decode cX11_playOne 1 = .ok (.iload_n 1, 1) := by decide +kernel
theorem dX11_playOne_2 : decode cX11_playOne 2 = .ok (.ishr, 1) := by decide +kernel
theorem dX11_playOne_3 : decode cX11_playOne 3 = .ok (.iconst 1, 1) := by decide +kernel
theorem dX11_playOne_4 : decode cX11_playOne 4 = .ok (.iand, 1) := by decide +kernel
theorem dX11_playOne_5 : decode cX11_playOne 5 = .ok (.iconst 1, 1) := by decide +kernel
theorem dX11_playOne_6 : decode cX11_playOne 6 = .ok (.if_icmp .ne 7, 3) := by decide +kernel
theorem dX11_playOne_9 : decode cX11_playOne 9 = .ok (.iconst 1, 1) := by decide +kernel
theorem dX11_playOne_10 : decode cX11_playOne 10 = .ok (.goto 4, 3) := by decide +kernel
theorem dX11_playOne_13 : decode cX11_playOne 13 = .ok (.iconst 0, 1) := by decide +kernel
theorem dX11_playOne_14 : decode cX11_playOne 14 = .ok (.istore_n 3, 1) := by decide +kernel
theorem dX11_playOne_15 : decode cX11_playOne 15 = .ok (.aload_n 0, 1) := by decide +kernel
theorem dX11_playOne_16 : decode cX11_playOne 16 = .ok (.getfield 47, 3) := by decide +kernel
theorem dX11_playOne_19 : decode cX11_playOne 19 = .ok (.aload_n 0, 1) := by decide +kernel
theorem dX11_playOne_20 : decode cX11_playOne 20 = .ok (.getfield 47, 3) := by decide +kernel
theorem dX11_playOne_23 : decode cX11_playOne 23 = .ok (.aload_n 0, 1) := by decide +kernel
theorem dX11_playOne_24 : decode cX11_playOne 24 = .ok (.getfield 54, 3) := by decide +kernel
theorem dX11_playOne_27 : decode cX11_playOne 27 = .ok (.iload_n 1, 1) := by decide +kernel
theorem dX11_playOne_28 : decode cX11_playOne 28 = .ok (.invokevirtual 239, 3) := by decide +kernel
theorem dX11_playOne_31 : decode cX11_playOne 31 = .ok (.invokevirtual 109, 3) := by decide +kernel
theorem dX11_playOne_34 : decode cX11_playOne 34 = .ok (.iload_n 3, 1) := by decide +kernel
theorem dX11_playOne_35 : decode cX11_playOne 35 = .ok (.invokevirtual 122, 3) := by decide +kernel
theorem dX11_playOne_38 : decode cX11_playOne 38 = .ok (.ifCond .le 7, 3) := by decide +kernel
theorem dX11_playOne_41 : decode cX11_playOne 41 = .ok (.iconst 1, 1) := by decide +kernel
theorem dX11_playOne_42 : decode cX11_playOne 42 = .ok (.goto 4, 3) := by decide +kernel
theorem dX11_playOne_45 : decode cX11_playOne 45 = .ok (.iconst 0, 1) := by decide +kernel
theorem dX11_playOne_46 : decode cX11_playOne 46 = .ok (.ireturn, 1) := by decide +kernel
theorem dX11_waysToLie_0 : decode cX11_waysToLie 0 = .ok (.lconst 0, 1) := by decide +kernel
theorem dX11_waysToLie_1 : decode cX11_waysToLie 1 = .ok (.lstore_n 2, 1) := by decide +kernel
theorem dX11_waysToLie_2 : decode cX11_waysToLie 2 = .ok (.lconst 1, 1) := by decide +kernel
theorem dX11_waysToLie_3 : decode cX11_waysToLie 3 = .ok (.lstore 4, 2) := by decide +kernel
theorem dX11_waysToLie_5 : decode cX11_waysToLie 5 = .ok (.iconst 0, 1) := by decide +kernel
theorem dX11_waysToLie_6 : decode cX11_waysToLie 6 = .ok (.istore 6, 2) := by decide +kernel
theorem dX11_waysToLie_8 : decode cX11_waysToLie 8 = .ok (.iload 6, 2) := by decide +kernel
theorem dX11_waysToLie_10 : decode cX11_waysToLie 10 = .ok (.iload_n 1, 1) := by decide +kernel
theorem dX11_waysToLie_11 : decode cX11_waysToLie 11 = .ok (.if_icmp .gt 30, 3) := by decide +kernel
theorem dX11_waysToLie_14 : decode cX11_waysToLie 14 = .ok (.lload_n 2, 1) := by decide +kernel
theorem dX11_waysToLie_15 : decode cX11_waysToLie 15 = .ok (.lload 4, 2) := by decide +kernel
theorem dX11_waysToLie_17 : decode cX11_waysToLie 17 = .ok (.ladd, 1) := by decide +kernel
theorem dX11_waysToLie_18 : decode cX11_waysToLie 18 = .ok (.lstore_n 2, 1) := by decide +kernel
theorem dX11_waysToLie_19 : decode cX11_waysToLie 19 = .ok (.lload 4, 2) := by decide +kernel
theorem dX11_waysToLie_21 : decode cX11_waysToLie 21 = .ok (.iload_n 0, 1) := by decide +kernel
theorem dX11_waysToLie_22 : decode cX11_waysToLie 22 = .ok (.iload 6, 2) := by decide +kernel
theorem dX11_waysToLie_24 : decode cX11_waysToLie 24 = .ok (.isub, 1) := by decide +kernel
theorem dX11_waysToLie_25 : decode cX11_waysToLie 25 = .ok (.i2l, 1) := by decide +kernel
theorem dX11_waysToLie_26 : decode cX11_waysToLie 26 = .ok (.lmul, 1) := by decide +kernel
theorem dX11_waysToLie_27 : decode cX11_waysToLie 27 = .ok (.iload 6, 2) := by decide +kernel
theorem dX11_waysToLie_29 : decode cX11_waysToLie 29 = .ok (.iconst 1, 1) := by decide +kernel
theorem dX11_waysToLie_30 : decode cX11_waysToLie 30 = .ok (.iadd, 1) := by decide +kernel
theorem dX11_waysToLie_31 : decode cX11_waysToLie 31 = .ok (.i2l, 1) := by decide +kernel
theorem dX11_waysToLie_32 : decode cX11_waysToLie 32 = .ok (.ldiv, 1) := by decide +kernel
theorem dX11_waysToLie_33 : decode cX11_waysToLie 33 = .ok (.lstore 4, 2) := by decide +kernel
theorem dX11_waysToLie_35 : decode cX11_waysToLie 35 = .ok (.iinc 6 1, 3) := by decide +kernel
theorem dX11_waysToLie_38 : decode cX11_waysToLie 38 = .ok (.goto (-30), 3) := by decide +kernel
theorem dX11_waysToLie_41 : decode cX11_waysToLie 41 = .ok (.lload_n 2, 1) := by decide +kernel
theorem dX11_waysToLie_42 : decode cX11_waysToLie 42 = .ok (.lreturn, 1) := by decide +kernel
theorem dX11_placeOf_0 : decode cX11_placeOf 0 = .ok (.iload_n 0, 1) := by decide +kernel
theorem dX11_placeOf_1 : decode cX11_placeOf 1 = .ok (.bipush 17, 2) := by decide +kernel
theorem dX11_placeOf_3 : decode cX11_placeOf 3 = .ok (.imul, 1) := by decide +kernel
theorem dX11_placeOf_4 : decode cX11_placeOf 4 = .ok (.iload_n 1, 1) := by decide +kernel
theorem dX11_placeOf_5 : decode cX11_placeOf 5 = .ok (.iadd, 1) := by decide +kernel
theorem dX11_placeOf_6 : decode cX11_placeOf 6 = .ok (.istore_n 2, 1) := by decide +kernel
theorem dX11_placeOf_7 : decode cX11_placeOf 7 = .ok (.iload_n 2, 1) := by decide +kernel
theorem dX11_placeOf_8 : decode cX11_placeOf 8 = .ok (.ifCond .lt 19, 3) := by decide +kernel
theorem dX11_placeOf_11 : decode cX11_placeOf 11 = .ok (.iload_n 2, 1) := by decide +kernel
theorem dX11_placeOf_12 : decode cX11_placeOf 12 = .ok (.getstatic 242, 3) := by decide +kernel
theorem dX11_placeOf_15 : decode cX11_placeOf 15 = .ok (.arraylength, 1) := by decide +kernel
theorem dX11_placeOf_16 : decode cX11_placeOf 16 = .ok (.if_icmp .ge 11, 3) := by decide +kernel
theorem dX11_placeOf_19 : decode cX11_placeOf 19 = .ok (.getstatic 242, 3) := by decide +kernel
theorem dX11_placeOf_22 : decode cX11_placeOf 22 = .ok (.iload_n 2, 1) := by decide +kernel
theorem dX11_placeOf_23 : decode cX11_placeOf 23 = .ok (.iaload, 1) := by decide +kernel
theorem dX11_placeOf_24 : decode cX11_placeOf 24 = .ok (.goto 4, 3) := by decide +kernel
theorem dX11_placeOf_27 : decode cX11_placeOf 27 = .ok (.iconst 0, 1) := by decide +kernel
theorem dX11_placeOf_28 : decode cX11_placeOf 28 = .ok (.ireturn, 1) := by decide +kernel
theorem dX11_leftAt_0 : decode cX11_leftAt 0 = .ok (.iload_n 1, 1) := by decide +kernel
theorem dX11_leftAt_1 : decode cX11_leftAt 1 = .ok (.ifCond .lt 15, 3) := by decide +kernel
theorem dX11_leftAt_4 : decode cX11_leftAt 4 = .ok (.iload_n 1, 1) := by decide +kernel
theorem dX11_leftAt_5 : decode cX11_leftAt 5 = .ok (.aload_n 0, 1) := by decide +kernel
theorem dX11_leftAt_6 : decode cX11_leftAt 6 = .ok (.arraylength, 1) := by decide +kernel
theorem dX11_leftAt_7 : decode cX11_leftAt 7 = .ok (.if_icmp .ge 9, 3) := by decide +kernel
theorem dX11_leftAt_10 : decode cX11_leftAt 10 = .ok (.aload_n 0, 1) := by decide +kernel
theorem dX11_leftAt_11 : decode cX11_leftAt 11 = .ok (.iload_n 1, 1) := by decide +kernel
theorem dX11_leftAt_12 : decode cX11_leftAt 12 = .ok (.iaload, 1) := by decide +kernel
theorem dX11_leftAt_13 : decode cX11_leftAt 13 = .ok (.goto 4, 3) := by decide +kernel
theorem dX11_leftAt_16 : decode cX11_leftAt 16 = .ok (.iconst (-1), 1) := by decide +kernel
theorem dX11_leftAt_17 : decode cX11_leftAt 17 = .ok (.ireturn, 1) := by decide +kernel
theorem dX12_init_0 : decode cX12_init 0 = .ok (.aload_n 0, 1) := by decide +kernel
theorem dX12_init_1 : decode cX12_init 1 = .ok (.invokespecial 1, 3) := by decide +kernel
theorem dX12_init_4 : decode cX12_init 4 = .ok (.aload_n 0, 1) := by decide +kernel
theorem dX12_init_5 : decode cX12_init 5 = .ok (.iconst (-1), 1) := by decide +kernel
theorem dX12_init_6 : decode cX12_init 6 = .ok (.putfield 7, 3) := by decide +kernel
theorem dX12_init_9 : decode cX12_init 9 = .ok (.aload_n 0, 1) := by decide +kernel
theorem dX12_init_10 : decode cX12_init 10 = .ok (.bipush 16, 2) := by decide +kernel
theorem dX12_init_12 : decode cX12_init 12 = .ok (.newarray .int, 2) := by decide +kernel
theorem dX12_init_14 : decode cX12_init 14 = .ok (.putfield 13, 3) := by decide +kernel
theorem dX12_init_17 : decode cX12_init 17 = .ok (.aload_n 0, 1) := by decide +kernel
theorem dX12_init_18 : decode cX12_init 18 = .ok (.sipush 976, 3) := by decide +kernel
theorem dX12_init_21 : decode cX12_init 21 = .ok (.newarray .int, 2) := by decide +kernel
theorem dX12_init_23 : decode cX12_init 23 = .ok (.putfield 17, 3) := by decide +kernel
theorem dX12_init_26 : decode cX12_init 26 = .ok (.aload_n 0, 1) := by decide +kernel
theorem dX12_init_27 : decode cX12_init 27 = .ok (.bipush 12, 2) := by decide +kernel
theorem dX12_init_29 : decode cX12_init 29 = .ok (.newarray .int, 2) := by decide +kernel
theorem dX12_init_31 : decode cX12_init 31 = .ok (.putfield 20, 3) := by decide +kernel
theorem dX12_init_34 : decode cX12_init 34 = .ok (.aload_n 0, 1) := by decide +kernel
theorem dX12_init_35 : decode cX12_init 35 = .ok (.ldc 23, 2) := by decide +kernel
theorem dX12_init_37 : decode cX12_init 37 = .ok (.newarray .byte, 2) := by decide +kernel
theorem dX12_init_39 : decode cX12_init 39 = .ok (.putfield 24, 3) := by decide +kernel
theorem dX12_init_42 : decode cX12_init 42 = .ok (.aload_n 0, 1) := by decide +kernel
theorem dX12_init_43 : decode cX12_init 43 = .ok (.iconst (-1), 1) := by decide +kernel
theorem dX12_init_44 : decode cX12_init 44 = .ok (.putfield 28, 3) := by decide +kernel
theorem dX12_init_47 : decode cX12_init 47 = .ok (.aload_n 0, 1) := by decide +kernel
theorem dX12_init_48 : decode cX12_init 48 = .ok (.sipush 4096, 3) := by decide +kernel
theorem dX12_init_51 : decode cX12_init 51 = .ok (.newarray .int, 2) := by decide +kernel
theorem dX12_init_53 : decode cX12_init 53 = .ok (.putfield 31, 3) := by decide +kernel
theorem dX12_init_56 : decode cX12_init 56 = .ok (.aload_n 0, 1) := by decide +kernel
theorem dX12_init_57 : decode cX12_init 57 = .ok (.iconst 4, 1) := by decide +kernel
theorem dX12_init_58 : decode cX12_init 58 = .ok (.newarray .int, 2) := by decide +kernel
theorem dX12_init_60 : decode cX12_init 60 = .ok (.putfield 34, 3) := by decide +kernel
theorem dX12_init_63 : decode cX12_init 63 = .ok (.aload_n 0, 1) := by decide +kernel
theorem dX12_init_64 : decode cX12_init 64 = .ok (.iconst 4, 1) := by decide +kernel
theorem dX12_init_65 : decode cX12_init 65 = .ok (.newarray .int, 2) := by decide +kernel
theorem dX12_init_67 : decode cX12_init 67 = .ok (.putfield 37, 3) := by decide +kernel
theorem dX12_init_70 : decode cX12_init 70 = .ok (.aload_n 0, 1) := by decide +kernel
theorem dX12_init_71 : decode cX12_init 71 = .ok (.iconst 4, 1) := by decide +kernel
theorem dX12_init_72 : decode cX12_init 72 = .ok (.newarray .int, 2) := by decide +kernel
theorem dX12_init_74 : decode cX12_init 74 = .ok (.putfield 40, 3) := by decide +kernel
theorem dX12_init_77 : decode cX12_init 77 = .ok (.aload_n 0, 1) := by decide +kernel
theorem dX12_init_78 : decode cX12_init 78 = .ok (.iconst 4, 1) := by decide +kernel
theorem dX12_init_79 : decode cX12_init 79 = .ok (.newarray .int, 2) := by decide +kernel
theorem dX12_init_81 : decode cX12_init 81 = .ok (.putfield 43, 3) := by decide +kernel
theorem dX12_init_84 : decode cX12_init 84 = .ok (.aload_n 0, 1) := by decide +kernel
theorem dX12_init_85 : decode cX12_init 85 = .ok (.bipush 16, 2) := by decide +kernel
theorem dX12_init_87 : decode cX12_init 87 = .ok (.newarray .int, 2) := by decide +kernel
theorem dX12_init_89 : decode cX12_init 89 = .ok (.putfield 46, 3) := by decide +kernel
theorem dX12_init_92 : decode cX12_init 92 = .ok (.aload_n 0, 1) := by decide +kernel
theorem dX12_init_93 : decode cX12_init 93 = .ok (.iconst 0, 1) := by decide +kernel
theorem dX12_init_94 : decode cX12_init 94 = .ok (.putfield 49, 3) := by decide +kernel
theorem dX12_init_97 : decode cX12_init 97 = .ok (.return_, 1) := by decide +kernel
theorem dX12_in_0 : decode cX12_in 0 = .ok (.iload_n 0, 1) := by decide +kernel
theorem dX12_in_1 : decode cX12_in 1 = .ok (.iload_n 1, 1) := by decide +kernel
theorem dX12_in_2 : decode cX12_in 2 = .ok (.if_icmp .lt 12, 3) := by decide +kernel
theorem dX12_in_5 : decode cX12_in 5 = .ok (.iload_n 0, 1) := by decide +kernel
theorem dX12_in_6 : decode cX12_in 6 = .ok (.iload_n 2, 1) := by decide +kernel
theorem dX12_in_7 : decode cX12_in 7 = .ok (.if_icmp .gt 7, 3) := by decide +kernel
theorem dX12_in_10 : decode cX12_in 10 = .ok (.iconst 1, 1) := by decide +kernel
theorem dX12_in_11 : decode cX12_in 11 = .ok (.goto 4, 3) := by decide +kernel
theorem dX12_in_14 : decode cX12_in 14 = .ok (.iconst 0, 1) := by decide +kernel
theorem dX12_in_15 : decode cX12_in 15 = .ok (.ireturn, 1) := by decide +kernel
theorem dX12_costOf_0 : decode cX12_costOf 0 = .ok (.iload_n 1, 1) := by decide +kernel
theorem dX12_costOf_1 : decode cX12_costOf 1 = .ok (.iload_n 2, 1) := by decide +kernel
theorem dX12_costOf_2 : decode cX12_costOf 2 = .ok (.if_icmp .ne 7, 3) := by decide +kernel
theorem dX12_costOf_5 : decode cX12_costOf 5 = .ok (.iconst 1, 1) := by decide +kernel
theorem dX12_costOf_6 : decode cX12_costOf 6 = .ok (.goto 4, 3) := by decide +kernel
theorem dX12_costOf_9 : decode cX12_costOf 9 = .ok (.iconst 0, 1) := by decide +kernel
theorem dX12_costOf_10 : decode cX12_costOf 10 = .ok (.istore_n 3, 1) := by decide +kernel
theorem dX12_costOf_11 : decode cX12_costOf 11 = .ok (.iload_n 3, 1) := by decide +kernel
theorem dX12_costOf_12 : decode cX12_costOf 12 = .ok (.ifCond .eq 5, 3) := by decide +kernel
theorem dX12_costOf_15 : decode cX12_costOf 15 = .ok (.iconst 0, 1) := by decide +kernel
theorem dX12_costOf_16 : decode cX12_costOf 16 = .ok (.ireturn, 1) := by decide +kernel
theorem dX12_costOf_17 : decode cX12_costOf 17 = .ok (.iload_n 0, 1) := by decide +kernel
theorem dX12_costOf_18 : decode cX12_costOf 18 = .ok (.ifCond .eq 12, 3) := by decide +kernel
theorem dX12_costOf_21 : decode cX12_costOf 21 = .ok (.iload_n 0, 1) := by decide +kernel
theorem dX12_costOf_22 : decode cX12_costOf 22 = .ok (.iconst 2, 1) := by decide +kernel
theorem dX12_costOf_23 : decode cX12_costOf 23 = .ok (.if_icmp .ne 12, 3) := by decide +kernel
theorem dX12_costOf_26 : decode cX12_costOf 26 = .ok (.iload_n 1, 1) := by decide +kernel
theorem dX12_costOf_27 : decode cX12_costOf 27 = .ok (.ifCond .ne 8, 3) := by decide +kernel
theorem dX12_costOf_30 : decode cX12_costOf 30 = .ok (.bipush 9, 2) := by decide +kernel
theorem dX12_costOf_32 : decode cX12_costOf 32 = .ok (.goto 4, 3) := by decide +kernel
theorem dX12_costOf_35 : decode cX12_costOf 35 = .ok (.iconst 1, 1) := by decide +kernel
theorem dX12_costOf_36 : decode cX12_costOf 36 = .ok (.ireturn, 1) := by decide +kernel
theorem dX12_cost_0 : decode cX12_cost 0 = .ok (.iload_n 1, 1) := by decide +kernel
theorem dX12_cost_1 : decode cX12_cost 1 = .ok (.iconst 0, 1) := by decide +kernel
theorem dX12_cost_2 : decode cX12_cost 2 = .ok (.iconst 2, 1) := by decide +kernel
theorem dX12_cost_3 : decode cX12_cost 3 = .ok (.invokestatic 53, 3) := by decide +kernel
theorem dX12_cost_6 : decode cX12_cost 6 = .ok (.ifCond .ne 5, 3) := by decide +kernel
theorem dX12_cost_9 : decode cX12_cost 9 = .ok (.iconst (-1), 1) := by decide +kernel
theorem dX12_cost_10 : decode cX12_cost 10 = .ok (.ireturn, 1) := by decide +kernel
theorem dX12_cost_11 : decode cX12_cost 11 = .ok (.aload_n 0, 1) := by decide +kernel
theorem dX12_cost_12 : decode cX12_cost 12 = .ok (.dup, 1) := by decide +kernel
theorem dX12_cost_13 : decode cX12_cost 13 = .ok (.getfield 57, 3) := by decide +kernel
theorem dX12_cost_16 : decode cX12_cost 16 = .ok (.iload_n 1, 1) := by decide +kernel
theorem dX12_cost_17 : decode cX12_cost 17 = .ok (.ifCond .ne 7, 3) := by decide +kernel
theorem dX12_cost_20 : decode cX12_cost 20 = .ok (.lconst 1, 1) := by decide +kernel
theorem dX12_cost_21 : decode cX12_cost 21 = .ok (.goto 17, 3) := by decide +kernel
theorem dX12_cost_24 : decode cX12_cost 24 = .ok (.iload_n 1, 1) := by decide +kernel
theorem dX12_cost_25 : decode cX12_cost 25 = .ok (.iconst 1, 1) := by decide +kernel
theorem dX12_cost_26 : decode cX12_cost 26 = .ok (.if_icmp .ne 9, 3) := by decide +kernel
theorem dX12_cost_29 : decode cX12_cost 29 = .ok (.ldc2_w 61, 3) := by decide +kernel
theorem dX12_cost_32 : decode cX12_cost 32 = .ok (.goto 6, 3) := by decide +kernel
theorem dX12_cost_35 : decode cX12_cost 35 = .ok (.ldc2_w 63, 3) := by decide +kernel
theorem dX12_cost_38 : decode cX12_cost 38 = .ok (.ladd, 1) := by decide +kernel
theorem dX12_cost_39 : decode cX12_cost 39 = .ok (.putfield 57, 3) := by decide +kernel
theorem dX12_cost_42 : decode cX12_cost 42 = .ok (.iload_n 1, 1) := by decide +kernel
theorem dX12_cost_43 : decode cX12_cost 43 = .ok (.iload_n 2, 1) := by decide +kernel
theorem dX12_cost_44 : decode cX12_cost 44 = .ok (.iload_n 3, 1) := by decide +kernel
theorem dX12_cost_45 : decode cX12_cost 45 = .ok (.invokestatic 65, 3) := by decide +kernel
theorem dX12_cost_48 : decode cX12_cost 48 = .ok (.ireturn, 1) := by decide +kernel
theorem dX12_place_0 : decode cX12_place 0 = .ok (.iload_n 0, 1) := by decide +kernel
theorem dX12_place_1 : decode cX12_place 1 = .ok (.bipush 17, 2) := by decide +kernel
theorem dX12_place_3 : decode cX12_place 3 = .ok (.iload_n 1, 1) := by decide +kernel
theorem dX12_place_4 : decode cX12_place 4 = .ok (.bipush 17, 2) := by decide +kernel
theorem dX12_place_6 : decode cX12_place 6 = .ok (.iload_n 2, 1) := by decide +kernel
theorem dX12_place_7 : decode cX12_place 7 = .ok (.bipush 17, 2) := by decide +kernel
theorem dX12_place_9 : decode cX12_place 9 = .ok (.iload_n 3, 1) := by decide +kernel
theorem dX12_place_10 : decode cX12_place 10 = .ok (.imul, 1) := by decide +kernel
theorem dX12_place_11 : decode cX12_place 11 = .ok (.iadd, 1) := by decide +kernel
theorem dX12_place_12 : decode cX12_place 12 = .ok (.imul, 1) := by decide +kernel
theorem dX12_place_13 : decode cX12_place 13 = .ok (.iadd, 1) := by decide +kernel
theorem dX12_place_14 : decode cX12_place 14 = .ok (.imul, 1) := by decide +kernel
theorem dX12_place_15 : decode cX12_place 15 = .ok (.iadd, 1) := by decide +kernel
theorem dX12_place_16 : decode cX12_place 16 = .ok (.ireturn, 1) := by decide +kernel
theorem dX12_behind_0 : decode cX12_behind 0 = .ok (.iload_n 0, 1) := by decide +kernel
theorem dX12_behind_1 : decode cX12_behind 1 = .ok (.iload_n 1, 1) := by decide +kernel
theorem dX12_behind_2 : decode cX12_behind 2 = .ok (.iconst 1, 1) := by decide +kernel
theorem dX12_behind_3 : decode cX12_behind 3 = .ok (.invokestatic 65, 3) := by decide +kernel
theorem dX12_behind_6 : decode cX12_behind 6 = .ok (.istore 4, 2) := by decide +kernel
theorem dX12_behind_8 : decode cX12_behind 8 = .ok (.iload_n 0, 1) := by decide +kernel
theorem dX12_behind_9 : decode cX12_behind 9 = .ok (.iload_n 1, 1) := by decide +kernel
theorem dX12_behind_10 : decode cX12_behind 10 = .ok (.iconst 0, 1) := by decide +kernel
theorem dX12_behind_11 : decode cX12_behind 11 = .ok (.invokestatic 65, 3) := by decide +kernel
theorem dX12_behind_14 : decode cX12_behind 14 = .ok (.istore 5, 2) := by decide +kernel
theorem dX12_behind_16 : decode cX12_behind 16 = .ok (.iconst 0, 1) := by decide +kernel
theorem dX12_behind_17 : decode cX12_behind 17 = .ok (.istore 6, 2) := by decide +kernel
theorem dX12_behind_19 : decode cX12_behind 19 = .ok (.iconst 0, 1) := by decide +kernel
theorem dX12_behind_20 : decode cX12_behind 20 = .ok (.istore 7, 2) := by decide +kernel
theorem dX12_behind_22 : decode cX12_behind 22 = .ok (.iload 7, 2) := by decide +kernel
theorem dX12_behind_24 : decode cX12_behind 24 = .ok (.iconst 4, 1) := by decide +kernel
theorem dX12_behind_25 : decode cX12_behind 25 = .ok (.if_icmp .ge 99, 3) := by decide +kernel
theorem dX12_behind_28 : decode cX12_behind 28 = .ok (.iload 7, 2) := by decide +kernel
theorem dX12_behind_30 : decode cX12_behind 30 = .ok (.iload 4, 2) := by decide +kernel
theorem dX12_behind_32 : decode cX12_behind 32 = .ok (.iadd, 1) := by decide +kernel
theorem dX12_behind_33 : decode cX12_behind 33 = .ok (.iconst 4, 1) := by decide +kernel
theorem dX12_behind_34 : decode cX12_behind 34 = .ok (.if_icmp .ge 13, 3) := by decide +kernel
theorem dX12_behind_37 : decode cX12_behind 37 = .ok (.aload_n 2, 1) := by decide +kernel
theorem dX12_behind_38 : decode cX12_behind 38 = .ok (.iload 7, 2) := by decide +kernel
theorem dX12_behind_40 : decode cX12_behind 40 = .ok (.iload 4, 2) := by decide +kernel
theorem dX12_behind_42 : decode cX12_behind 42 = .ok (.iadd, 1) := by decide +kernel
theorem dX12_behind_43 : decode cX12_behind 43 = .ok (.iaload, 1) := by decide +kernel
theorem dX12_behind_44 : decode cX12_behind 44 = .ok (.goto 4, 3) := by decide +kernel
theorem dX12_behind_47 : decode cX12_behind 47 = .ok (.iconst 0, 1) := by decide +kernel
theorem dX12_behind_48 : decode cX12_behind 48 = .ok (.istore 8, 2) := by decide +kernel
theorem dX12_behind_50 : decode cX12_behind 50 = .ok (.iload 8, 2) := by decide +kernel
theorem dX12_behind_52 : decode cX12_behind 52 = .ok (.iload 7, 2) := by decide +kernel
theorem dX12_behind_54 : decode cX12_behind 54 = .ok (.iload 5, 2) := by decide +kernel
theorem dX12_behind_56 : decode cX12_behind 56 = .ok (.iadd, 1) := by decide +kernel
theorem dX12_behind_57 : decode cX12_behind 57 = .ok (.iconst 4, 1) := by decide +kernel
theorem dX12_behind_58 : decode cX12_behind 58 = .ok (.if_icmp .ge 13, 3) := by decide +kernel
theorem dX12_behind_61 : decode cX12_behind 61 = .ok (.aload_n 3, 1) := by decide +kernel
theorem dX12_behind_62 : decode cX12_behind 62 = .ok (.iload 7, 2) := by decide +kernel
theorem dX12_behind_64 : decode cX12_behind 64 = .ok (.iload 5, 2) := by decide +kernel
theorem dX12_behind_66 : decode cX12_behind 66 = .ok (.iadd, 1) := by decide +kernel
theorem dX12_behind_67 : decode cX12_behind 67 = .ok (.iaload, 1) := by decide +kernel
theorem dX12_behind_68 : decode cX12_behind 68 = .ok (.goto 4, 3) := by decide +kernel
theorem dX12_behind_71 : decode cX12_behind 71 = .ok (.iconst 0, 1) := by decide +kernel
theorem dX12_behind_72 : decode cX12_behind 72 = .ok (.iadd, 1) := by decide +kernel
theorem dX12_behind_73 : decode cX12_behind 73 = .ok (.istore 8, 2) := by decide +kernel
theorem dX12_behind_75 : decode cX12_behind 75 = .ok (.iload 6, 2) := by decide +kernel
theorem dX12_behind_77 : decode cX12_behind 77 = .ok (.iload 8, 2) := by decide +kernel
theorem dX12_behind_79 : decode cX12_behind 79 = .ok (.iload 7, 2) := by decide +kernel
theorem dX12_behind_81 : decode cX12_behind 81 = .ok (.ifCond .ne 7, 3) := by decide +kernel
theorem dX12_behind_84 : decode cX12_behind 84 = .ok (.iconst 1, 1) := by decide +kernel
theorem dX12_behind_85 : decode cX12_behind 85 = .ok (.goto 29, 3) := by decide +kernel
theorem dX12_behind_88 : decode cX12_behind 88 = .ok (.iload 7, 2) := by decide +kernel
theorem dX12_behind_90 : decode cX12_behind 90 = .ok (.iconst 1, 1) := by decide +kernel
theorem dX12_behind_91 : decode cX12_behind 91 = .ok (.if_icmp .ne 8, 3) := by decide +kernel
theorem dX12_behind_94 : decode cX12_behind 94 = .ok (.bipush 17, 2) := by decide +kernel
theorem dX12_behind_96 : decode cX12_behind 96 = .ok (.goto 18, 3) := by decide +kernel
theorem dX12_behind_99 : decode cX12_behind 99 = .ok (.iload 7, 2) := by decide +kernel
theorem dX12_behind_101 : decode cX12_behind 101 = .ok (.iconst 2, 1) := by decide +kernel
theorem dX12_behind_102 : decode cX12_behind 102 = .ok (.if_icmp .ne 9, 3) := by decide +kernel
theorem dX12_behind_105 : decode cX12_behind 105 = .ok (.sipush 289, 3) := by decide +kernel
theorem dX12_behind_108 : decode cX12_behind 108 = .ok (.goto 6, 3) := by decide +kernel
theorem dX12_behind_111 : decode cX12_behind 111 = .ok (.sipush 4913, 3) := by decide +kernel
theorem dX12_behind_114 : decode cX12_behind 114 = .ok (.imul, 1) := by decide +kernel
theorem dX12_behind_115 : decode cX12_behind 115 = .ok (.iadd, 1) := by decide +kernel
theorem dX12_behind_116 : decode cX12_behind 116 = .ok (.istore 6, 2) := by decide +kernel
theorem dX12_behind_118 : decode cX12_behind 118 = .ok (.iinc 7 1, 3) := by decide +kernel
theorem dX12_behind_121 : decode cX12_behind 121 = .ok (.goto (-99), 3) := by decide +kernel
theorem dX12_behind_124 : decode cX12_behind 124 = .ok (.iload 6, 2) := by decide +kernel
theorem dX12_behind_126 : decode cX12_behind 126 = .ok (.ireturn, 1) := by decide +kernel
theorem dX12_canDo_0 : decode cX12_canDo 0 = .ok (.iconst 1, 1) := by decide +kernel
theorem dX12_canDo_1 : decode cX12_canDo 1 = .ok (.istore_n 3, 1) := by decide +kernel
theorem dX12_canDo_2 : decode cX12_canDo 2 = .ok (.iconst 0, 1) := by decide +kernel
theorem dX12_canDo_3 : decode cX12_canDo 3 = .ok (.istore 4, 2) := by decide +kernel
theorem dX12_canDo_5 : decode cX12_canDo 5 = .ok (.iload 4, 2) := by decide +kernel
theorem dX12_canDo_7 : decode cX12_canDo 7 = .ok (.iconst 4, 1) := by decide +kernel
theorem dX12_canDo_8 : decode cX12_canDo 8 = .ok (.if_icmp .ge 21, 3) := by decide +kernel
theorem dX12_canDo_11 : decode cX12_canDo 11 = .ok (.iload_n 3, 1) := by decide +kernel
theorem dX12_canDo_12 : decode cX12_canDo 12 = .ok (.aload_n 0, 1) := by decide +kernel
theorem dX12_canDo_13 : decode cX12_canDo 13 = .ok (.getfield 40, 3) := by decide +kernel
theorem dX12_canDo_16 : decode cX12_canDo 16 = .ok (.iload 4, 2) := by decide +kernel
theorem dX12_canDo_18 : decode cX12_canDo 18 = .ok (.iaload, 1) := by decide +kernel
theorem dX12_canDo_19 : decode cX12_canDo 19 = .ok (.iconst 1, 1) := by decide +kernel
theorem dX12_canDo_20 : decode cX12_canDo 20 = .ok (.iadd, 1) := by decide +kernel
theorem dX12_canDo_21 : decode cX12_canDo 21 = .ok (.imul, 1) := by decide +kernel
theorem dX12_canDo_22 : decode cX12_canDo 22 = .ok (.istore_n 3, 1) := by decide +kernel
theorem dX12_canDo_23 : decode cX12_canDo 23 = .ok (.iinc 4 1, 3) := by decide +kernel
theorem dX12_canDo_26 : decode cX12_canDo 26 = .ok (.goto (-21), 3) := by decide +kernel
theorem dX12_canDo_29 : decode cX12_canDo 29 = .ok (.iconst 0, 1) := by decide +kernel
theorem dX12_canDo_30 : decode cX12_canDo 30 = .ok (.istore 4, 2) := by decide +kernel
theorem dX12_canDo_32 : decode cX12_canDo 32 = .ok (.iload 4, 2) := by decide +kernel
theorem dX12_canDo_34 : decode cX12_canDo 34 = .ok (.iload_n 3, 1) := by decide +kernel
theorem dX12_canDo_35 : decode cX12_canDo 35 = .ok (.if_icmp .ge 137, 3) := by decide +kernel
theorem dX12_canDo_38 : decode cX12_canDo 38 = .ok (.iload 4, 2) := by decide +kernel
theorem dX12_canDo_40 : decode cX12_canDo 40 = .ok (.istore 5, 2) := by decide +kernel
theorem dX12_canDo_42 : decode cX12_canDo 42 = .ok (.iconst 0, 1) := by decide +kernel
theorem dX12_canDo_43 : decode cX12_canDo 43 = .ok (.istore 6, 2) := by decide +kernel
theorem dX12_canDo_45 : decode cX12_canDo 45 = .ok (.iload 6, 2) := by decide +kernel
theorem dX12_canDo_47 : decode cX12_canDo 47 = .ok (.iconst 4, 1) := by decide +kernel
theorem dX12_canDo_48 : decode cX12_canDo 48 = .ok (.if_icmp .ge 64, 3) := by decide +kernel
theorem dX12_canDo_51 : decode cX12_canDo 51 = .ok (.aload_n 0, 1) := by decide +kernel
theorem dX12_canDo_52 : decode cX12_canDo 52 = .ok (.getfield 34, 3) := by decide +kernel
theorem dX12_canDo_55 : decode cX12_canDo 55 = .ok (.iload 6, 2) := by decide +kernel
theorem dX12_canDo_57 : decode cX12_canDo 57 = .ok (.iload 5, 2) := by decide +kernel
theorem dX12_canDo_59 : decode cX12_canDo 59 = .ok (.aload_n 0, 1) := by decide +kernel
theorem dX12_canDo_60 : decode cX12_canDo 60 = .ok (.getfield 40, 3) := by decide +kernel
theorem dX12_canDo_63 : decode cX12_canDo 63 = .ok (.iload 6, 2) := by decide +kernel
theorem dX12_canDo_65 : decode cX12_canDo 65 = .ok (.iaload, 1) := by decide +kernel
theorem dX12_canDo_66 : decode cX12_canDo 66 = .ok (.iconst 1, 1) := by decide +kernel
theorem dX12_canDo_67 : decode cX12_canDo 67 = .ok (.iadd, 1) := by decide +kernel
theorem dX12_canDo_68 : decode cX12_canDo 68 = .ok (.irem, 1) := by decide +kernel
theorem dX12_canDo_69 : decode cX12_canDo 69 = .ok (.iastore, 1) := by decide +kernel
theorem dX12_canDo_70 : decode cX12_canDo 70 = .ok (.aload_n 0, 1) := by decide +kernel
theorem dX12_canDo_71 : decode cX12_canDo 71 = .ok (.getfield 37, 3) := by decide +kernel
theorem dX12_canDo_74 : decode cX12_canDo 74 = .ok (.iload 6, 2) := by decide +kernel
theorem dX12_canDo_76 : decode cX12_canDo 76 = .ok (.aload_n 0, 1) := by decide +kernel
theorem dX12_canDo_77 : decode cX12_canDo 77 = .ok (.getfield 40, 3) := by decide +kernel
theorem dX12_canDo_80 : decode cX12_canDo 80 = .ok (.iload 6, 2) := by decide +kernel
theorem dX12_canDo_82 : decode cX12_canDo 82 = .ok (.iaload, 1) := by decide +kernel
theorem dX12_canDo_83 : decode cX12_canDo 83 = .ok (.aload_n 0, 1) := by decide +kernel
theorem dX12_canDo_84 : decode cX12_canDo 84 = .ok (.getfield 34, 3) := by decide +kernel
theorem dX12_canDo_87 : decode cX12_canDo 87 = .ok (.iload 6, 2) := by decide +kernel
theorem dX12_canDo_89 : decode cX12_canDo 89 = .ok (.iaload, 1) := by decide +kernel
theorem dX12_canDo_90 : decode cX12_canDo 90 = .ok (.isub, 1) := by decide +kernel
theorem dX12_canDo_91 : decode cX12_canDo 91 = .ok (.iastore, 1) := by decide +kernel
theorem dX12_canDo_92 : decode cX12_canDo 92 = .ok (.iload 5, 2) := by decide +kernel
theorem dX12_canDo_94 : decode cX12_canDo 94 = .ok (.aload_n 0, 1) := by decide +kernel
theorem dX12_canDo_95 : decode cX12_canDo 95 = .ok (.getfield 40, 3) := by decide +kernel
theorem dX12_canDo_98 : decode cX12_canDo 98 = .ok (.iload 6, 2) := by decide +kernel
theorem dX12_canDo_100 : decode cX12_canDo 100 = .ok (.iaload, 1) := by decide +kernel
theorem dX12_canDo_101 : decode cX12_canDo 101 = .ok (.iconst 1, 1) := by decide +kernel
theorem dX12_canDo_102 : decode cX12_canDo 102 = .ok (.iadd, 1) := by decide +kernel
theorem dX12_canDo_103 : decode cX12_canDo 103 = .ok (.idiv, 1) := by decide +kernel
theorem dX12_canDo_104 : decode cX12_canDo 104 = .ok (.istore 5, 2) := by decide +kernel
theorem dX12_canDo_106 : decode cX12_canDo 106 = .ok (.iinc 6 1, 3) := by decide +kernel
theorem dX12_canDo_109 : decode cX12_canDo 109 = .ok (.goto (-64), 3) := by decide +kernel
theorem dX12_canDo_112 : decode cX12_canDo 112 = .ok (.iload_n 1, 1) := by decide +kernel
theorem dX12_canDo_113 : decode cX12_canDo 113 = .ok (.iconst 1, 1) := by decide +kernel
theorem dX12_canDo_114 : decode cX12_canDo 114 = .ok (.aload_n 0, 1) := by decide +kernel
theorem dX12_canDo_115 : decode cX12_canDo 115 = .ok (.getfield 34, 3) := by decide +kernel
theorem dX12_canDo_118 : decode cX12_canDo 118 = .ok (.aload_n 0, 1) := by decide +kernel
theorem dX12_canDo_119 : decode cX12_canDo 119 = .ok (.getfield 37, 3) := by decide +kernel
theorem dX12_canDo_122 : decode cX12_canDo 122 = .ok (.invokestatic 69, 3) := by decide +kernel
theorem dX12_canDo_125 : decode cX12_canDo 125 = .ok (.istore 6, 2) := by decide +kernel
theorem dX12_canDo_127 : decode cX12_canDo 127 = .ok (.iload_n 1, 1) := by decide +kernel
theorem dX12_canDo_128 : decode cX12_canDo 128 = .ok (.iconst 0, 1) := by decide +kernel
theorem dX12_canDo_129 : decode cX12_canDo 129 = .ok (.aload_n 0, 1) := by decide +kernel
theorem dX12_canDo_130 : decode cX12_canDo 130 = .ok (.getfield 34, 3) := by decide +kernel
theorem dX12_canDo_133 : decode cX12_canDo 133 = .ok (.aload_n 0, 1) := by decide +kernel
theorem dX12_canDo_134 : decode cX12_canDo 134 = .ok (.getfield 37, 3) := by decide +kernel
theorem dX12_canDo_137 : decode cX12_canDo 137 = .ok (.invokestatic 69, 3) := by decide +kernel
theorem dX12_canDo_140 : decode cX12_canDo 140 = .ok (.istore 7, 2) := by decide +kernel
theorem dX12_canDo_142 : decode cX12_canDo 142 = .ok (.aload_n 0, 1) := by decide +kernel
theorem dX12_canDo_143 : decode cX12_canDo 143 = .ok (.iload_n 1, 1) := by decide +kernel
theorem dX12_canDo_144 : decode cX12_canDo 144 = .ok (.iload 6, 2) := by decide +kernel
theorem dX12_canDo_146 : decode cX12_canDo 146 = .ok (.iload_n 2, 1) := by decide +kernel
theorem dX12_canDo_147 : decode cX12_canDo 147 = .ok (.invokevirtual 73, 3) := by decide +kernel
theorem dX12_canDo_150 : decode cX12_canDo 150 = .ok (.ifCond .eq 16, 3) := by decide +kernel
theorem dX12_canDo_153 : decode cX12_canDo 153 = .ok (.aload_n 0, 1) := by decide +kernel
theorem dX12_canDo_154 : decode cX12_canDo 154 = .ok (.iload_n 1, 1) := by decide +kernel
theorem dX12_canDo_155 : decode cX12_canDo 155 = .ok (.iload 7, 2) := by decide +kernel
theorem dX12_canDo_157 : decode cX12_canDo 157 = .ok (.iload_n 2, 1) := by decide +kernel
theorem dX12_canDo_158 : decode cX12_canDo 158 = .ok (.invokevirtual 73, 3) := by decide +kernel
theorem dX12_canDo_161 : decode cX12_canDo 161 = .ok (.ifCond .eq 5, 3) := by decide +kernel
theorem dX12_canDo_164 : decode cX12_canDo 164 = .ok (.iconst 1, 1) := by decide +kernel
theorem dX12_canDo_165 : decode cX12_canDo 165 = .ok (.ireturn, 1) := by decide +kernel
theorem dX12_canDo_166 : decode cX12_canDo 166 = .ok (.iinc 4 1, 3) := by decide +kernel
theorem dX12_canDo_169 : decode cX12_canDo 169 = .ok (.goto (-137), 3) := by decide +kernel
theorem dX12_canDo_172 : decode cX12_canDo 172 = .ok (.iconst 0, 1) := by decide +kernel
theorem dX12_canDo_173 : decode cX12_canDo 173 = .ok (.ireturn, 1) := by decide +kernel
theorem dX12_isWithin_0 : decode cX12_isWithin 0 = .ok (.ldc 76, 2) := by decide +kernel
theorem dX12_isWithin_2 : decode cX12_isWithin 2 = .ok (.iload_n 1, 1) := by decide +kernel
theorem dX12_isWithin_3 : decode cX12_isWithin 3 = .ok (.imul, 1) := by decide +kernel
theorem dX12_isWithin_4 : decode cX12_isWithin 4 = .ok (.iload_n 2, 1) := by decide +kernel
theorem dX12_isWithin_5 : decode cX12_isWithin 5 = .ok (.iadd, 1) := by decide +kernel
theorem dX12_isWithin_6 : decode cX12_isWithin 6 = .ok (.istore 4, 2) := by decide +kernel
theorem dX12_isWithin_8 : decode cX12_isWithin 8 = .ok (.iload_n 2, 1) := by decide +kernel
theorem dX12_isWithin_9 : decode cX12_isWithin 9 = .ok (.ifCond .eq 24, 3) := by decide +kernel
theorem dX12_isWithin_12 : decode cX12_isWithin 12 = .ok (.aload_n 0, 1) := by decide +kernel
theorem dX12_isWithin_13 : decode cX12_isWithin 13 = .ok (.getfield 24, 3) := by decide +kernel
theorem dX12_isWithin_16 : decode cX12_isWithin 16 = .ok (.iload 4, 2) := by decide +kernel
theorem dX12_isWithin_18 : decode cX12_isWithin 18 = .ok (.baload, 1) := by decide +kernel
theorem dX12_isWithin_19 : decode cX12_isWithin 19 = .ok (.ifCond .le 18, 3) := by decide +kernel
theorem dX12_isWithin_22 : decode cX12_isWithin 22 = .ok (.aload_n 0, 1) := by decide +kernel
theorem dX12_isWithin_23 : decode cX12_isWithin 23 = .ok (.getfield 24, 3) := by decide +kernel
theorem dX12_isWithin_26 : decode cX12_isWithin 26 = .ok (.iload 4, 2) := by decide +kernel
theorem dX12_isWithin_28 : decode cX12_isWithin 28 = .ok (.baload, 1) := by decide +kernel
theorem dX12_isWithin_29 : decode cX12_isWithin 29 = .ok (.iload_n 3, 1) := by decide +kernel
theorem dX12_isWithin_30 : decode cX12_isWithin 30 = .ok (.if_icmp .gt 7, 3) := by decide +kernel
theorem dX12_isWithin_33 : decode cX12_isWithin 33 = .ok (.iconst 1, 1) := by decide +kernel
theorem dX12_isWithin_34 : decode cX12_isWithin 34 = .ok (.goto 4, 3) := by decide +kernel
theorem dX12_isWithin_37 : decode cX12_isWithin 37 = .ok (.iconst 0, 1) := by decide +kernel
theorem dX12_isWithin_38 : decode cX12_isWithin 38 = .ok (.ireturn, 1) := by decide +kernel
theorem dX12_mayDo_0 : decode cX12_mayDo 0 = .ok (.iconst 1, 1) := by decide +kernel
theorem dX12_mayDo_1 : decode cX12_mayDo 1 = .ok (.istore_n 3, 1) := by decide +kernel
theorem dX12_mayDo_2 : decode cX12_mayDo 2 = .ok (.iconst 0, 1) := by decide +kernel
theorem dX12_mayDo_3 : decode cX12_mayDo 3 = .ok (.istore 4, 2) := by decide +kernel
theorem dX12_mayDo_5 : decode cX12_mayDo 5 = .ok (.iload 4, 2) := by decide +kernel
theorem dX12_mayDo_7 : decode cX12_mayDo 7 = .ok (.iconst 4, 1) := by decide +kernel
theorem dX12_mayDo_8 : decode cX12_mayDo 8 = .ok (.if_icmp .ge 91, 3) := by decide +kernel
theorem dX12_mayDo_11 : decode cX12_mayDo 11 = .ok (.iload_n 1, 1) := by decide +kernel
theorem dX12_mayDo_12 : decode cX12_mayDo 12 = .ok (.iload 4, 2) := by decide +kernel
theorem dX12_mayDo_14 : decode cX12_mayDo 14 = .ok (.ifCond .ne 7, 3) := by decide +kernel
theorem dX12_mayDo_17 : decode cX12_mayDo 17 = .ok (.iconst 1, 1) := by decide +kernel
theorem dX12_mayDo_18 : decode cX12_mayDo 18 = .ok (.goto 29, 3) := by decide +kernel
theorem dX12_mayDo_21 : decode cX12_mayDo 21 = .ok (.iload 4, 2) := by decide +kernel
theorem dX12_mayDo_23 : decode cX12_mayDo 23 = .ok (.iconst 1, 1) := by decide +kernel
theorem dX12_mayDo_24 : decode cX12_mayDo 24 = .ok (.if_icmp .ne 8, 3) := by decide +kernel
theorem dX12_mayDo_27 : decode cX12_mayDo 27 = .ok (.bipush 17, 2) := by decide +kernel
theorem dX12_mayDo_29 : decode cX12_mayDo 29 = .ok (.goto 18, 3) := by decide +kernel
theorem dX12_mayDo_32 : decode cX12_mayDo 32 = .ok (.iload 4, 2) := by decide +kernel
theorem dX12_mayDo_34 : decode cX12_mayDo 34 = .ok (.iconst 2, 1) := by decide +kernel
theorem dX12_mayDo_35 : decode cX12_mayDo 35 = .ok (.if_icmp .ne 9, 3) := by decide +kernel
theorem dX12_mayDo_38 : decode cX12_mayDo 38 = .ok (.sipush 289, 3) := by decide +kernel
theorem dX12_mayDo_41 : decode cX12_mayDo 41 = .ok (.goto 6, 3) := by decide +kernel
theorem dX12_mayDo_44 : decode cX12_mayDo 44 = .ok (.sipush 4913, 3) := by decide +kernel
theorem dX12_mayDo_47 : decode cX12_mayDo 47 = .ok (.isub, 1) := by decide +kernel
theorem dX12_mayDo_48 : decode cX12_mayDo 48 = .ok (.istore 5, 2) := by decide +kernel
theorem dX12_mayDo_50 : decode cX12_mayDo 50 = .ok (.iload_n 3, 1) := by decide +kernel
theorem dX12_mayDo_51 : decode cX12_mayDo 51 = .ok (.ifCond .eq 40, 3) := by decide +kernel
theorem dX12_mayDo_54 : decode cX12_mayDo 54 = .ok (.aload_n 0, 1) := by decide +kernel
theorem dX12_mayDo_55 : decode cX12_mayDo 55 = .ok (.getfield 40, 3) := by decide +kernel
theorem dX12_mayDo_58 : decode cX12_mayDo 58 = .ok (.iload 4, 2) := by decide +kernel
theorem dX12_mayDo_60 : decode cX12_mayDo 60 = .ok (.iaload, 1) := by decide +kernel
theorem dX12_mayDo_61 : decode cX12_mayDo 61 = .ok (.ifCond .eq 26, 3) := by decide +kernel
theorem dX12_mayDo_64 : decode cX12_mayDo 64 = .ok (.aload_n 0, 1) := by decide +kernel
theorem dX12_mayDo_65 : decode cX12_mayDo 65 = .ok (.getfield 24, 3) := by decide +kernel
theorem dX12_mayDo_68 : decode cX12_mayDo 68 = .ok (.iload 5, 2) := by decide +kernel
theorem dX12_mayDo_70 : decode cX12_mayDo 70 = .ok (.baload, 1) := by decide +kernel
theorem dX12_mayDo_71 : decode cX12_mayDo 71 = .ok (.ifCond .le 20, 3) := by decide +kernel
theorem dX12_mayDo_74 : decode cX12_mayDo 74 = .ok (.aload_n 0, 1) := by decide +kernel
theorem dX12_mayDo_75 : decode cX12_mayDo 75 = .ok (.getfield 24, 3) := by decide +kernel
theorem dX12_mayDo_78 : decode cX12_mayDo 78 = .ok (.iload 5, 2) := by decide +kernel
theorem dX12_mayDo_80 : decode cX12_mayDo 80 = .ok (.baload, 1) := by decide +kernel
theorem dX12_mayDo_81 : decode cX12_mayDo 81 = .ok (.iload_n 2, 1) := by decide +kernel
theorem dX12_mayDo_82 : decode cX12_mayDo 82 = .ok (.iconst 1, 1) := by decide +kernel
theorem dX12_mayDo_83 : decode cX12_mayDo 83 = .ok (.iadd, 1) := by decide +kernel
theorem dX12_mayDo_84 : decode cX12_mayDo 84 = .ok (.if_icmp .gt 7, 3) := by decide +kernel
theorem dX12_mayDo_87 : decode cX12_mayDo 87 = .ok (.iconst 1, 1) := by decide +kernel
theorem dX12_mayDo_88 : decode cX12_mayDo 88 = .ok (.goto 4, 3) := by decide +kernel
theorem dX12_mayDo_91 : decode cX12_mayDo 91 = .ok (.iconst 0, 1) := by decide +kernel
theorem dX12_mayDo_92 : decode cX12_mayDo 92 = .ok (.istore_n 3, 1) := by decide +kernel
theorem dX12_mayDo_93 : decode cX12_mayDo 93 = .ok (.iinc 4 1, 3) := by decide +kernel
theorem dX12_mayDo_96 : decode cX12_mayDo 96 = .ok (.goto (-91), 3) := by decide +kernel
theorem dX12_mayDo_99 : decode cX12_mayDo 99 = .ok (.iload_n 3, 1) := by decide +kernel
theorem dX12_mayDo_100 : decode cX12_mayDo 100 = .ok (.ireturn, 1) := by decide +kernel
theorem dX12_levels_0 : decode cX12_levels 0 = .ok (.iconst 0, 1) := by decide +kernel
theorem dX12_levels_1 : decode cX12_levels 1 = .ok (.istore_n 3, 1) := by decide +kernel
theorem dX12_levels_2 : decode cX12_levels 2 = .ok (.iload_n 3, 1) := by decide +kernel
theorem dX12_levels_3 : decode cX12_levels 3 = .ok (.aload_n 0, 1) := by decide +kernel
theorem dX12_levels_4 : decode cX12_levels 4 = .ok (.getfield 43, 3) := by decide +kernel
theorem dX12_levels_7 : decode cX12_levels 7 = .ok (.iconst 3, 1) := by decide +kernel
theorem dX12_levels_8 : decode cX12_levels 8 = .ok (.iaload, 1) := by decide +kernel
theorem dX12_levels_9 : decode cX12_levels 9 = .ok (.if_icmp .gt 219, 3) := by decide +kernel
theorem dX12_levels_12 : decode cX12_levels 12 = .ok (.iconst 0, 1) := by decide +kernel
theorem dX12_levels_13 : decode cX12_levels 13 = .ok (.istore 4, 2) := by decide +kernel
theorem dX12_levels_15 : decode cX12_levels 15 = .ok (.iload 4, 2) := by decide +kernel
theorem dX12_levels_17 : decode cX12_levels 17 = .ok (.iload_n 3, 1) := by decide +kernel
theorem dX12_levels_18 : decode cX12_levels 18 = .ok (.iadd, 1) := by decide +kernel
theorem dX12_levels_19 : decode cX12_levels 19 = .ok (.aload_n 0, 1) := by decide +kernel
theorem dX12_levels_20 : decode cX12_levels 20 = .ok (.getfield 43, 3) := by decide +kernel
theorem dX12_levels_23 : decode cX12_levels 23 = .ok (.iconst 2, 1) := by decide +kernel
theorem dX12_levels_24 : decode cX12_levels 24 = .ok (.iaload, 1) := by decide +kernel
theorem dX12_levels_25 : decode cX12_levels 25 = .ok (.if_icmp .gt 197, 3) := by decide +kernel
theorem dX12_levels_28 : decode cX12_levels 28 = .ok (.iconst 0, 1) := by decide +kernel
theorem dX12_levels_29 : decode cX12_levels 29 = .ok (.istore 5, 2) := by decide +kernel
theorem dX12_levels_31 : decode cX12_levels 31 = .ok (.iload 5, 2) := by decide +kernel
theorem dX12_levels_33 : decode cX12_levels 33 = .ok (.iload 4, 2) := by decide +kernel
theorem dX12_levels_35 : decode cX12_levels 35 = .ok (.iadd, 1) := by decide +kernel
theorem dX12_levels_36 : decode cX12_levels 36 = .ok (.iload_n 3, 1) := by decide +kernel
theorem dX12_levels_37 : decode cX12_levels 37 = .ok (.iadd, 1) := by decide +kernel
theorem dX12_levels_38 : decode cX12_levels 38 = .ok (.aload_n 0, 1) := by decide +kernel
theorem dX12_levels_39 : decode cX12_levels 39 = .ok (.getfield 43, 3) := by decide +kernel
theorem dX12_levels_42 : decode cX12_levels 42 = .ok (.iconst 1, 1) := by decide +kernel
theorem dX12_levels_43 : decode cX12_levels 43 = .ok (.iaload, 1) := by decide +kernel
theorem dX12_levels_44 : decode cX12_levels 44 = .ok (.if_icmp .gt 172, 3) := by decide +kernel
theorem dX12_levels_47 : decode cX12_levels 47 = .ok (.iconst 0, 1) := by decide +kernel
theorem dX12_levels_48 : decode cX12_levels 48 = .ok (.istore 6, 2) := by decide +kernel
theorem dX12_levels_50 : decode cX12_levels 50 = .ok (.iload 6, 2) := by decide +kernel
theorem dX12_levels_52 : decode cX12_levels 52 = .ok (.iload 5, 2) := by decide +kernel
theorem dX12_levels_54 : decode cX12_levels 54 = .ok (.iadd, 1) := by decide +kernel
theorem dX12_levels_55 : decode cX12_levels 55 = .ok (.iload 4, 2) := by decide +kernel
theorem dX12_levels_57 : decode cX12_levels 57 = .ok (.iadd, 1) := by decide +kernel
theorem dX12_levels_58 : decode cX12_levels 58 = .ok (.iload_n 3, 1) := by decide +kernel
theorem dX12_levels_59 : decode cX12_levels 59 = .ok (.iadd, 1) := by decide +kernel
theorem dX12_levels_60 : decode cX12_levels 60 = .ok (.aload_n 0, 1) := by decide +kernel
theorem dX12_levels_61 : decode cX12_levels 61 = .ok (.getfield 43, 3) := by decide +kernel
theorem dX12_levels_64 : decode cX12_levels 64 = .ok (.iconst 0, 1) := by decide +kernel
theorem dX12_levels_65 : decode cX12_levels 65 = .ok (.iaload, 1) := by decide +kernel
theorem dX12_levels_66 : decode cX12_levels 66 = .ok (.if_icmp .gt 144, 3) := by decide +kernel
theorem dX12_levels_69 : decode cX12_levels 69 = .ok (.ldc 76, 2) := by decide +kernel
theorem dX12_levels_71 : decode cX12_levels 71 = .ok (.iload_n 1, 1) := by decide +kernel
theorem dX12_levels_72 : decode cX12_levels 72 = .ok (.imul, 1) := by decide +kernel
theorem dX12_levels_73 : decode cX12_levels 73 = .ok (.iload 6, 2) := by decide +kernel
theorem dX12_levels_75 : decode cX12_levels 75 = .ok (.iload 5, 2) := by decide +kernel
theorem dX12_levels_77 : decode cX12_levels 77 = .ok (.iload 4, 2) := by decide +kernel
theorem dX12_levels_79 : decode cX12_levels 79 = .ok (.iload_n 3, 1) := by decide +kernel
theorem dX12_levels_80 : decode cX12_levels 80 = .ok (.invokestatic 77, 3) := by decide +kernel
theorem dX12_levels_83 : decode cX12_levels 83 = .ok (.iadd, 1) := by decide +kernel
theorem dX12_levels_84 : decode cX12_levels 84 = .ok (.istore 7, 2) := by decide +kernel
theorem dX12_levels_86 : decode cX12_levels 86 = .ok (.aload_n 0, 1) := by decide +kernel
theorem dX12_levels_87 : decode cX12_levels 87 = .ok (.getfield 24, 3) := by decide +kernel
theorem dX12_levels_90 : decode cX12_levels 90 = .ok (.iload 7, 2) := by decide +kernel
theorem dX12_levels_92 : decode cX12_levels 92 = .ok (.baload, 1) := by decide +kernel
theorem dX12_levels_93 : decode cX12_levels 93 = .ok (.ifCond .ne 111, 3) := by decide +kernel
theorem dX12_levels_96 : decode cX12_levels 96 = .ok (.iload 6, 2) := by decide +kernel
theorem dX12_levels_98 : decode cX12_levels 98 = .ok (.iload 5, 2) := by decide +kernel
theorem dX12_levels_100 : decode cX12_levels 100 = .ok (.iadd, 1) := by decide +kernel
theorem dX12_levels_101 : decode cX12_levels 101 = .ok (.iload 4, 2) := by decide +kernel
theorem dX12_levels_103 : decode cX12_levels 103 = .ok (.iadd, 1) := by decide +kernel
theorem dX12_levels_104 : decode cX12_levels 104 = .ok (.iload_n 3, 1) := by decide +kernel
theorem dX12_levels_105 : decode cX12_levels 105 = .ok (.iadd, 1) := by decide +kernel
theorem dX12_levels_106 : decode cX12_levels 106 = .ok (.iconst 1, 1) := by decide +kernel
theorem dX12_levels_107 : decode cX12_levels 107 = .ok (.if_icmp .le 97, 3) := by decide +kernel
theorem dX12_levels_110 : decode cX12_levels 110 = .ok (.aload_n 0, 1) := by decide +kernel
theorem dX12_levels_111 : decode cX12_levels 111 = .ok (.getfield 40, 3) := by decide +kernel
theorem dX12_levels_114 : decode cX12_levels 114 = .ok (.iconst 0, 1) := by decide +kernel
theorem dX12_levels_115 : decode cX12_levels 115 = .ok (.iload 6, 2) := by decide +kernel
theorem dX12_levels_117 : decode cX12_levels 117 = .ok (.iastore, 1) := by decide +kernel
theorem dX12_levels_118 : decode cX12_levels 118 = .ok (.aload_n 0, 1) := by decide +kernel
theorem dX12_levels_119 : decode cX12_levels 119 = .ok (.getfield 40, 3) := by decide +kernel
theorem dX12_levels_122 : decode cX12_levels 122 = .ok (.iconst 1, 1) := by decide +kernel
theorem dX12_levels_123 : decode cX12_levels 123 = .ok (.iload 5, 2) := by decide +kernel
theorem dX12_levels_125 : decode cX12_levels 125 = .ok (.iastore, 1) := by decide +kernel
theorem dX12_levels_126 : decode cX12_levels 126 = .ok (.aload_n 0, 1) := by decide +kernel
theorem dX12_levels_127 : decode cX12_levels 127 = .ok (.getfield 40, 3) := by decide +kernel
theorem dX12_levels_130 : decode cX12_levels 130 = .ok (.iconst 2, 1) := by decide +kernel
theorem dX12_levels_131 : decode cX12_levels 131 = .ok (.iload 4, 2) := by decide +kernel
theorem dX12_levels_133 : decode cX12_levels 133 = .ok (.iastore, 1) := by decide +kernel
theorem dX12_levels_134 : decode cX12_levels 134 = .ok (.aload_n 0, 1) := by decide +kernel
theorem dX12_levels_135 : decode cX12_levels 135 = .ok (.getfield 40, 3) := by decide +kernel
theorem dX12_levels_138 : decode cX12_levels 138 = .ok (.iconst 3, 1) := by decide +kernel
theorem dX12_levels_139 : decode cX12_levels 139 = .ok (.iload_n 3, 1) := by decide +kernel
theorem dX12_levels_140 : decode cX12_levels 140 = .ok (.iastore, 1) := by decide +kernel
theorem dX12_levels_141 : decode cX12_levels 141 = .ok (.iload_n 2, 1) := by decide +kernel
theorem dX12_levels_142 : decode cX12_levels 142 = .ok (.bipush 12, 2) := by decide +kernel
theorem dX12_levels_144 : decode cX12_levels 144 = .ok (.if_icmp .gt 26, 3) := by decide +kernel
theorem dX12_levels_147 : decode cX12_levels 147 = .ok (.aload_n 0, 1) := by decide +kernel
theorem dX12_levels_148 : decode cX12_levels 148 = .ok (.iload 7, 2) := by decide +kernel
theorem dX12_levels_150 : decode cX12_levels 150 = .ok (.iload_n 2, 1) := by decide +kernel
theorem dX12_levels_151 : decode cX12_levels 151 = .ok (.invokevirtual 81, 3) := by decide +kernel
theorem dX12_levels_154 : decode cX12_levels 154 = .ok (.ifCond .eq 16, 3) := by decide +kernel
theorem dX12_levels_157 : decode cX12_levels 157 = .ok (.aload_n 0, 1) := by decide +kernel
theorem dX12_levels_158 : decode cX12_levels 158 = .ok (.iload_n 1, 1) := by decide +kernel
theorem dX12_levels_159 : decode cX12_levels 159 = .ok (.iload_n 2, 1) := by decide +kernel
theorem dX12_levels_160 : decode cX12_levels 160 = .ok (.invokevirtual 85, 3) := by decide +kernel
theorem dX12_levels_163 : decode cX12_levels 163 = .ok (.ifCond .eq 7, 3) := by decide +kernel
theorem dX12_levels_166 : decode cX12_levels 166 = .ok (.iconst 1, 1) := by decide +kernel
theorem dX12_levels_167 : decode cX12_levels 167 = .ok (.goto 4, 3) := by decide +kernel
theorem dX12_levels_170 : decode cX12_levels 170 = .ok (.iconst 0, 1) := by decide +kernel
theorem dX12_levels_171 : decode cX12_levels 171 = .ok (.istore 8, 2) := by decide +kernel
theorem dX12_levels_173 : decode cX12_levels 173 = .ok (.aload_n 0, 1) := by decide +kernel
theorem dX12_levels_174 : decode cX12_levels 174 = .ok (.getfield 24, 3) := by decide +kernel
theorem dX12_levels_177 : decode cX12_levels 177 = .ok (.iload 7, 2) := by decide +kernel
theorem dX12_levels_179 : decode cX12_levels 179 = .ok (.iload 8, 2) := by decide +kernel
theorem dX12_levels_181 : decode cX12_levels 181 = .ok (.ifCond .eq 10, 3) := by decide +kernel
theorem dX12_levels_184 : decode cX12_levels 184 = .ok (.iload_n 2, 1) := by decide +kernel
theorem dX12_levels_185 : decode cX12_levels 185 = .ok (.iconst 1, 1) := by decide +kernel
theorem dX12_levels_186 : decode cX12_levels 186 = .ok (.iadd, 1) := by decide +kernel
theorem dX12_levels_187 : decode cX12_levels 187 = .ok (.i2b, 1) := by decide +kernel
theorem dX12_levels_188 : decode cX12_levels 188 = .ok (.goto 15, 3) := by decide +kernel
theorem dX12_levels_191 : decode cX12_levels 191 = .ok (.iload_n 2, 1) := by decide +kernel
theorem dX12_levels_192 : decode cX12_levels 192 = .ok (.bipush 12, 2) := by decide +kernel
theorem dX12_levels_194 : decode cX12_levels 194 = .ok (.if_icmp .le 8, 3) := by decide +kernel
theorem dX12_levels_197 : decode cX12_levels 197 = .ok (.bipush 14, 2) := by decide +kernel
theorem dX12_levels_199 : decode cX12_levels 199 = .ok (.goto 4, 3) := by decide +kernel
theorem dX12_levels_202 : decode cX12_levels 202 = .ok (.iconst 0, 1) := by decide +kernel
theorem dX12_levels_203 : decode cX12_levels 203 = .ok (.bastore, 1) := by decide +kernel
theorem dX12_levels_204 : decode cX12_levels 204 = .ok (.iinc 6 1, 3) := by decide +kernel
theorem dX12_levels_207 : decode cX12_levels 207 = .ok (.goto (-157), 3) := by decide +kernel
theorem dX12_levels_210 : decode cX12_levels 210 = .ok (.iinc 5 1, 3) := by decide +kernel
theorem dX12_levels_213 : decode cX12_levels 213 = .ok (.goto (-182), 3) := by decide +kernel
theorem dX12_levels_216 : decode cX12_levels 216 = .ok (.iinc 4 1, 3) := by decide +kernel
theorem dX12_levels_219 : decode cX12_levels 219 = .ok (.goto (-204), 3) := by decide +kernel
theorem dX12_levels_222 : decode cX12_levels 222 = .ok (.iinc 3 1, 3) := by decide +kernel
theorem dX12_levels_225 : decode cX12_levels 225 = .ok (.goto (-223), 3) := by decide +kernel
theorem dX12_levels_228 : decode cX12_levels 228 = .ok (.return_, 1) := by decide +kernel
theorem dX12_worthOf_0 : decode cX12_worthOf 0 = .ok (.ldc 76, 2) := by decide +kernel
theorem dX12_worthOf_2 : decode cX12_worthOf 2 = .ok (.aload_n 0, 1) := by decide +kernel
theorem dX12_worthOf_3 : decode cX12_worthOf 3 = .ok (.getfield 88, 3) := by decide +kernel
theorem dX12_worthOf_6 : decode cX12_worthOf 6 = .ok (.imul, 1) := by decide +kernel
theorem dX12_worthOf_7 : decode cX12_worthOf 7 = .ok (.istore_n 2, 1) := by decide +kernel
theorem dX12_worthOf_8 : decode cX12_worthOf 8 = .ok (.aload_n 0, 1) := by decide +kernel
theorem dX12_worthOf_9 : decode cX12_worthOf 9 = .ok (.getfield 24, 3) := by decide +kernel
theorem dX12_worthOf_12 : decode cX12_worthOf 12 = .ok (.iload_n 2, 1) := by decide +kernel
theorem dX12_worthOf_13 : decode cX12_worthOf 13 = .ok (.iconst 1, 1) := by decide +kernel
theorem dX12_worthOf_14 : decode cX12_worthOf 14 = .ok (.iadd, 1) := by decide +kernel
theorem dX12_worthOf_15 : decode cX12_worthOf 15 = .ok (.iconst 1, 1) := by decide +kernel
theorem dX12_worthOf_16 : decode cX12_worthOf 16 = .ok (.bastore, 1) := by decide +kernel
theorem dX12_worthOf_17 : decode cX12_worthOf 17 = .ok (.aload_n 0, 1) := by decide +kernel
theorem dX12_worthOf_18 : decode cX12_worthOf 18 = .ok (.getfield 24, 3) := by decide +kernel
theorem dX12_worthOf_21 : decode cX12_worthOf 21 = .ok (.iload_n 2, 1) := by decide +kernel
theorem dX12_worthOf_22 : decode cX12_worthOf 22 = .ok (.bipush 17, 2) := by decide +kernel
theorem dX12_worthOf_24 : decode cX12_worthOf 24 = .ok (.iadd, 1) := by decide +kernel
theorem dX12_worthOf_25 : decode cX12_worthOf 25 = .ok (.iconst 1, 1) := by decide +kernel
theorem dX12_worthOf_26 : decode cX12_worthOf 26 = .ok (.bastore, 1) := by decide +kernel
theorem dX12_worthOf_27 : decode cX12_worthOf 27 = .ok (.aload_n 0, 1) := by decide +kernel
theorem dX12_worthOf_28 : decode cX12_worthOf 28 = .ok (.getfield 24, 3) := by decide +kernel
theorem dX12_worthOf_31 : decode cX12_worthOf 31 = .ok (.iload_n 2, 1) := by decide +kernel
theorem dX12_worthOf_32 : decode cX12_worthOf 32 = .ok (.sipush 289, 3) := by decide +kernel
theorem dX12_worthOf_35 : decode cX12_worthOf 35 = .ok (.iadd, 1) := by decide +kernel
theorem dX12_worthOf_36 : decode cX12_worthOf 36 = .ok (.iconst 1, 1) := by decide +kernel
theorem dX12_worthOf_37 : decode cX12_worthOf 37 = .ok (.bastore, 1) := by decide +kernel
theorem dX12_worthOf_38 : decode cX12_worthOf 38 = .ok (.aload_n 0, 1) := by decide +kernel
theorem dX12_worthOf_39 : decode cX12_worthOf 39 = .ok (.getfield 24, 3) := by decide +kernel
theorem dX12_worthOf_42 : decode cX12_worthOf 42 = .ok (.iload_n 2, 1) := by decide +kernel
theorem dX12_worthOf_43 : decode cX12_worthOf 43 = .ok (.sipush 4913, 3) := by decide +kernel
theorem dX12_worthOf_46 : decode cX12_worthOf 46 = .ok (.iadd, 1) := by decide +kernel
theorem dX12_worthOf_47 : decode cX12_worthOf 47 = .ok (.iconst 1, 1) := by decide +kernel
theorem dX12_worthOf_48 : decode cX12_worthOf 48 = .ok (.bastore, 1) := by decide +kernel
theorem dX12_worthOf_49 : decode cX12_worthOf 49 = .ok (.iconst 0, 1) := by decide +kernel
theorem dX12_worthOf_50 : decode cX12_worthOf 50 = .ok (.istore_n 3, 1) := by decide +kernel
theorem dX12_worthOf_51 : decode cX12_worthOf 51 = .ok (.iload_n 3, 1) := by decide +kernel
theorem dX12_worthOf_52 : decode cX12_worthOf 52 = .ok (.iconst 4, 1) := by decide +kernel
theorem dX12_worthOf_53 : decode cX12_worthOf 53 = .ok (.if_icmp .ge 16, 3) := by decide +kernel
theorem dX12_worthOf_56 : decode cX12_worthOf 56 = .ok (.aload_n 0, 1) := by decide +kernel
theorem dX12_worthOf_57 : decode cX12_worthOf 57 = .ok (.getfield 43, 3) := by decide +kernel
theorem dX12_worthOf_60 : decode cX12_worthOf 60 = .ok (.iload_n 3, 1) := by decide +kernel
theorem dX12_worthOf_61 : decode cX12_worthOf 61 = .ok (.iconst 0, 1) := by decide +kernel
theorem dX12_worthOf_62 : decode cX12_worthOf 62 = .ok (.iastore, 1) := by decide +kernel
theorem dX12_worthOf_63 : decode cX12_worthOf 63 = .ok (.iinc 3 1, 3) := by decide +kernel
theorem dX12_worthOf_66 : decode cX12_worthOf 66 = .ok (.goto (-15), 3) := by decide +kernel
theorem dX12_worthOf_69 : decode cX12_worthOf 69 = .ok (.iconst 0, 1) := by decide +kernel
theorem dX12_worthOf_70 : decode cX12_worthOf 70 = .ok (.istore_n 3, 1) := by decide +kernel
theorem dX12_worthOf_71 : decode cX12_worthOf 71 = .ok (.iload_n 3, 1) := by decide +kernel
theorem dX12_worthOf_72 : decode cX12_worthOf 72 = .ok (.aload_n 0, 1) := by decide +kernel
theorem dX12_worthOf_73 : decode cX12_worthOf 73 = .ok (.getfield 91, 3) := by decide +kernel
theorem dX12_worthOf_76 : decode cX12_worthOf 76 = .ok (.if_icmp .ge 88, 3) := by decide +kernel
theorem dX12_worthOf_79 : decode cX12_worthOf 79 = .ok (.iload_n 2, 1) := by decide +kernel
theorem dX12_worthOf_80 : decode cX12_worthOf 80 = .ok (.aload_n 1, 1) := by decide +kernel
theorem dX12_worthOf_81 : decode cX12_worthOf 81 = .ok (.iload_n 3, 1) := by decide +kernel
theorem dX12_worthOf_82 : decode cX12_worthOf 82 = .ok (.iaload, 1) := by decide +kernel
theorem dX12_worthOf_83 : decode cX12_worthOf 83 = .ok (.ifCond .ge 7, 3) := by decide +kernel
theorem dX12_worthOf_86 : decode cX12_worthOf 86 = .ok (.iconst 0, 1) := by decide +kernel
theorem dX12_worthOf_87 : decode cX12_worthOf 87 = .ok (.goto 41, 3) := by decide +kernel
theorem dX12_worthOf_90 : decode cX12_worthOf 90 = .ok (.aload_n 1, 1) := by decide +kernel
theorem dX12_worthOf_91 : decode cX12_worthOf 91 = .ok (.iload_n 3, 1) := by decide +kernel
theorem dX12_worthOf_92 : decode cX12_worthOf 92 = .ok (.iaload, 1) := by decide +kernel
theorem dX12_worthOf_93 : decode cX12_worthOf 93 = .ok (.ifCond .ne 7, 3) := by decide +kernel
theorem dX12_worthOf_96 : decode cX12_worthOf 96 = .ok (.iconst 1, 1) := by decide +kernel
theorem dX12_worthOf_97 : decode cX12_worthOf 97 = .ok (.goto 31, 3) := by decide +kernel
theorem dX12_worthOf_100 : decode cX12_worthOf 100 = .ok (.aload_n 1, 1) := by decide +kernel
theorem dX12_worthOf_101 : decode cX12_worthOf 101 = .ok (.iload_n 3, 1) := by decide +kernel
theorem dX12_worthOf_102 : decode cX12_worthOf 102 = .ok (.iaload, 1) := by decide +kernel
theorem dX12_worthOf_103 : decode cX12_worthOf 103 = .ok (.iconst 1, 1) := by decide +kernel
theorem dX12_worthOf_104 : decode cX12_worthOf 104 = .ok (.if_icmp .ne 8, 3) := by decide +kernel
theorem dX12_worthOf_107 : decode cX12_worthOf 107 = .ok (.bipush 17, 2) := by decide +kernel
theorem dX12_worthOf_109 : decode cX12_worthOf 109 = .ok (.goto 19, 3) := by decide +kernel
theorem dX12_worthOf_112 : decode cX12_worthOf 112 = .ok (.aload_n 1, 1) := by decide +kernel
theorem dX12_worthOf_113 : decode cX12_worthOf 113 = .ok (.iload_n 3, 1) := by decide +kernel
theorem dX12_worthOf_114 : decode cX12_worthOf 114 = .ok (.iaload, 1) := by decide +kernel
theorem dX12_worthOf_115 : decode cX12_worthOf 115 = .ok (.iconst 2, 1) := by decide +kernel
theorem dX12_worthOf_116 : decode cX12_worthOf 116 = .ok (.if_icmp .ne 9, 3) := by decide +kernel
theorem dX12_worthOf_119 : decode cX12_worthOf 119 = .ok (.sipush 289, 3) := by decide +kernel
theorem dX12_worthOf_122 : decode cX12_worthOf 122 = .ok (.goto 6, 3) := by decide +kernel
theorem dX12_worthOf_125 : decode cX12_worthOf 125 = .ok (.sipush 4913, 3) := by decide +kernel
theorem dX12_worthOf_128 : decode cX12_worthOf 128 = .ok (.iadd, 1) := by decide +kernel
theorem dX12_worthOf_129 : decode cX12_worthOf 129 = .ok (.istore_n 2, 1) := by decide +kernel
theorem dX12_worthOf_130 : decode cX12_worthOf 130 = .ok (.iconst 0, 1) := by decide +kernel
theorem dX12_worthOf_131 : decode cX12_worthOf 131 = .ok (.istore 4, 2) := by decide +kernel
theorem dX12_worthOf_133 : decode cX12_worthOf 133 = .ok (.iload 4, 2) := by decide +kernel
theorem dX12_worthOf_135 : decode cX12_worthOf 135 = .ok (.aload_n 1, 1) := by decide +kernel
theorem dX12_worthOf_136 : decode cX12_worthOf 136 = .ok (.iload_n 3, 1) := by decide +kernel
theorem dX12_worthOf_137 : decode cX12_worthOf 137 = .ok (.iaload, 1) := by decide +kernel
theorem dX12_worthOf_138 : decode cX12_worthOf 138 = .ok (.if_icmp .gt 20, 3) := by decide +kernel
theorem dX12_worthOf_141 : decode cX12_worthOf 141 = .ok (.aload_n 0, 1) := by decide +kernel
theorem dX12_worthOf_142 : decode cX12_worthOf 142 = .ok (.getfield 43, 3) := by decide +kernel
theorem dX12_worthOf_145 : decode cX12_worthOf 145 = .ok (.iload 4, 2) := by decide +kernel
theorem dX12_worthOf_147 : decode cX12_worthOf 147 = .ok (.dup2, 1) := by decide +kernel
theorem dX12_worthOf_148 : decode cX12_worthOf 148 = .ok (.iaload, 1) := by decide +kernel
theorem dX12_worthOf_149 : decode cX12_worthOf 149 = .ok (.iconst 1, 1) := by decide +kernel
theorem dX12_worthOf_150 : decode cX12_worthOf 150 = .ok (.iadd, 1) := by decide +kernel
theorem dX12_worthOf_151 : decode cX12_worthOf 151 = .ok (.iastore, 1) := by decide +kernel
theorem dX12_worthOf_152 : decode cX12_worthOf 152 = .ok (.iinc 4 1, 3) := by decide +kernel
theorem dX12_worthOf_155 : decode cX12_worthOf 155 = .ok (.goto (-22), 3) := by decide +kernel
theorem dX12_worthOf_158 : decode cX12_worthOf 158 = .ok (.iinc 3 1, 3) := by decide +kernel
theorem dX12_worthOf_161 : decode cX12_worthOf 161 = .ok (.goto (-90), 3) := by decide +kernel
theorem dX12_worthOf_164 : decode cX12_worthOf 164 = .ok (.iconst 1, 1) := by decide +kernel
theorem dX12_worthOf_165 : decode cX12_worthOf 165 = .ok (.istore_n 3, 1) := by decide +kernel
theorem dX12_worthOf_166 : decode cX12_worthOf 166 = .ok (.iload_n 3, 1) := by decide +kernel
theorem dX12_worthOf_167 : decode cX12_worthOf 167 = .ok (.bipush 13, 2) := by decide +kernel
theorem dX12_worthOf_169 : decode cX12_worthOf 169 = .ok (.if_icmp .gt 27, 3) := by decide +kernel
theorem dX12_worthOf_172 : decode cX12_worthOf 172 = .ok (.aload_n 0, 1) := by decide +kernel
theorem dX12_worthOf_173 : decode cX12_worthOf 173 = .ok (.getfield 24, 3) := by decide +kernel
theorem dX12_worthOf_176 : decode cX12_worthOf 176 = .ok (.iload_n 2, 1) := by decide +kernel
theorem dX12_worthOf_177 : decode cX12_worthOf 177 = .ok (.baload, 1) := by decide +kernel
theorem dX12_worthOf_178 : decode cX12_worthOf 178 = .ok (.ifCond .ne 18, 3) := by decide +kernel
theorem dX12_worthOf_181 : decode cX12_worthOf 181 = .ok (.aload_n 0, 1) := by decide +kernel
theorem dX12_worthOf_182 : decode cX12_worthOf 182 = .ok (.aload_n 0, 1) := by decide +kernel
theorem dX12_worthOf_183 : decode cX12_worthOf 183 = .ok (.getfield 88, 3) := by decide +kernel
theorem dX12_worthOf_186 : decode cX12_worthOf 186 = .ok (.iload_n 3, 1) := by decide +kernel
theorem dX12_worthOf_187 : decode cX12_worthOf 187 = .ok (.invokevirtual 94, 3) := by decide +kernel
theorem dX12_worthOf_190 : decode cX12_worthOf 190 = .ok (.iinc 3 1, 3) := by decide +kernel
theorem dX12_worthOf_193 : decode cX12_worthOf 193 = .ok (.goto (-27), 3) := by decide +kernel
theorem dX12_worthOf_196 : decode cX12_worthOf 196 = .ok (.aload_n 0, 1) := by decide +kernel
theorem dX12_worthOf_197 : decode cX12_worthOf 197 = .ok (.getfield 24, 3) := by decide +kernel
theorem dX12_worthOf_200 : decode cX12_worthOf 200 = .ok (.iload_n 2, 1) := by decide +kernel
theorem dX12_worthOf_201 : decode cX12_worthOf 201 = .ok (.baload, 1) := by decide +kernel
theorem dX12_worthOf_202 : decode cX12_worthOf 202 = .ok (.iconst 1, 1) := by decide +kernel
theorem dX12_worthOf_203 : decode cX12_worthOf 203 = .ok (.isub, 1) := by decide +kernel
theorem dX12_worthOf_204 : decode cX12_worthOf 204 = .ok (.ireturn, 1) := by decide +kernel
theorem dX12_shown_0 : decode cX12_shown 0 = .ok (.iload_n 0, 1) := by decide +kernel
theorem dX12_shown_1 : decode cX12_shown 1 = .ok (.bipush 13, 2) := by decide +kernel
theorem dX12_shown_3 : decode cX12_shown 3 = .ok (.if_icmp .ne 8, 3) := by decide +kernel
theorem dX12_shown_6 : decode cX12_shown 6 = .ok (.bipush (-9), 2) := by decide +kernel
theorem dX12_shown_8 : decode cX12_shown 8 = .ok (.goto 4, 3) := by decide +kernel
theorem dX12_shown_11 : decode cX12_shown 11 = .ok (.iload_n 0, 1) := by decide +kernel
theorem dX12_shown_12 : decode cX12_shown 12 = .ok (.ireturn, 1) := by decide +kernel
theorem dX12_begin_0 : decode cX12_begin 0 = .ok (.iload_n 1, 1) := by decide +kernel
theorem dX12_begin_1 : decode cX12_begin 1 = .ok (.iconst 0, 1) := by decide +kernel
theorem dX12_begin_2 : decode cX12_begin 2 = .ok (.iconst 2, 1) := by decide +kernel
theorem dX12_begin_3 : decode cX12_begin 3 = .ok (.invokestatic 53, 3) := by decide +kernel
theorem dX12_begin_6 : decode cX12_begin 6 = .ok (.ifCond .eq 26, 3) := by decide +kernel
theorem dX12_begin_9 : decode cX12_begin 9 = .ok (.iload_n 2, 1) := by decide +kernel
theorem dX12_begin_10 : decode cX12_begin 10 = .ok (.iconst 1, 1) := by decide +kernel
theorem dX12_begin_11 : decode cX12_begin 11 = .ok (.bipush 16, 2) := by decide +kernel
theorem dX12_begin_13 : decode cX12_begin 13 = .ok (.invokestatic 53, 3) := by decide +kernel
theorem dX12_begin_16 : decode cX12_begin 16 = .ok (.ifCond .eq 16, 3) := by decide +kernel
theorem dX12_begin_19 : decode cX12_begin 19 = .ok (.iload_n 1, 1) := by decide +kernel
theorem dX12_begin_20 : decode cX12_begin 20 = .ok (.ifCond .eq 14, 3) := by decide +kernel
theorem dX12_begin_23 : decode cX12_begin 23 = .ok (.iload_n 3, 1) := by decide +kernel
theorem dX12_begin_24 : decode cX12_begin 24 = .ok (.iconst 0, 1) := by decide +kernel
theorem dX12_begin_25 : decode cX12_begin 25 = .ok (.iconst 3, 1) := by decide +kernel
theorem dX12_begin_26 : decode cX12_begin 26 = .ok (.invokestatic 53, 3) := by decide +kernel
theorem dX12_begin_29 : decode cX12_begin 29 = .ok (.ifCond .ne 5, 3) := by decide +kernel
theorem dX12_begin_32 : decode cX12_begin 32 = .ok (.iconst (-1), 1) := by decide +kernel
theorem dX12_begin_33 : decode cX12_begin 33 = .ok (.ireturn, 1) := by decide +kernel
theorem dX12_begin_34 : decode cX12_begin 34 = .ok (.aload_n 0, 1) := by decide +kernel
theorem dX12_begin_35 : decode cX12_begin 35 = .ok (.iconst 1, 1) := by decide +kernel
theorem dX12_begin_36 : decode cX12_begin 36 = .ok (.putfield 49, 3) := by decide +kernel
theorem dX12_begin_39 : decode cX12_begin 39 = .ok (.aload_n 0, 1) := by decide +kernel
theorem dX12_begin_40 : decode cX12_begin 40 = .ok (.iload_n 1, 1) := by decide +kernel
theorem dX12_begin_41 : decode cX12_begin 41 = .ok (.putfield 88, 3) := by decide +kernel
theorem dX12_begin_44 : decode cX12_begin 44 = .ok (.aload_n 0, 1) := by decide +kernel
theorem dX12_begin_45 : decode cX12_begin 45 = .ok (.iload_n 2, 1) := by decide +kernel
theorem dX12_begin_46 : decode cX12_begin 46 = .ok (.putfield 91, 3) := by decide +kernel
theorem dX12_begin_49 : decode cX12_begin 49 = .ok (.aload_n 0, 1) := by decide +kernel
theorem dX12_begin_50 : decode cX12_begin 50 = .ok (.iload_n 1, 1) := by decide +kernel
theorem dX12_begin_51 : decode cX12_begin 51 = .ok (.ifCond .ne 7, 3) := by decide +kernel
theorem dX12_begin_54 : decode cX12_begin 54 = .ok (.iconst 0, 1) := by decide +kernel
theorem dX12_begin_55 : decode cX12_begin 55 = .ok (.goto 4, 3) := by decide +kernel
theorem dX12_begin_58 : decode cX12_begin 58 = .ok (.iload_n 3, 1) := by decide +kernel
theorem dX12_begin_59 : decode cX12_begin 59 = .ok (.putfield 98, 3) := by decide +kernel
theorem dX12_begin_62 : decode cX12_begin 62 = .ok (.aload_n 0, 1) := by decide +kernel
theorem dX12_begin_63 : decode cX12_begin 63 = .ok (.iconst 0, 1) := by decide +kernel
theorem dX12_begin_64 : decode cX12_begin 64 = .ok (.putfield 101, 3) := by decide +kernel
theorem dX12_begin_67 : decode cX12_begin 67 = .ok (.aload_n 0, 1) := by decide +kernel
theorem dX12_begin_68 : decode cX12_begin 68 = .ok (.iconst (-1), 1) := by decide +kernel
theorem dX12_begin_69 : decode cX12_begin 69 = .ok (.putfield 7, 3) := by decide +kernel
theorem dX12_begin_72 : decode cX12_begin 72 = .ok (.iconst 0, 1) := by decide +kernel
theorem dX12_begin_73 : decode cX12_begin 73 = .ok (.istore 4, 2) := by decide +kernel
theorem dX12_begin_75 : decode cX12_begin 75 = .ok (.iload 4, 2) := by decide +kernel
theorem dX12_begin_77 : decode cX12_begin 77 = .ok (.bipush 16, 2) := by decide +kernel
theorem dX12_begin_79 : decode cX12_begin 79 = .ok (.if_icmp .ge 33, 3) := by decide +kernel
theorem dX12_begin_82 : decode cX12_begin 82 = .ok (.aload_n 0, 1) := by decide +kernel
theorem dX12_begin_83 : decode cX12_begin 83 = .ok (.getfield 13, 3) := by decide +kernel
theorem dX12_begin_86 : decode cX12_begin 86 = .ok (.iload 4, 2) := by decide +kernel
theorem dX12_begin_88 : decode cX12_begin 88 = .ok (.iload 4, 2) := by decide +kernel
theorem dX12_begin_90 : decode cX12_begin 90 = .ok (.aload_n 0, 1) := by decide +kernel
theorem dX12_begin_91 : decode cX12_begin 91 = .ok (.getfield 91, 3) := by decide +kernel
theorem dX12_begin_94 : decode cX12_begin 94 = .ok (.if_icmp .ge 10, 3) := by decide +kernel
theorem dX12_begin_97 : decode cX12_begin 97 = .ok (.aload_n 0, 1) := by decide +kernel
theorem dX12_begin_98 : decode cX12_begin 98 = .ok (.getfield 98, 3) := by decide +kernel
theorem dX12_begin_101 : decode cX12_begin 101 = .ok (.goto 4, 3) := by decide +kernel
theorem dX12_begin_104 : decode cX12_begin 104 = .ok (.iconst (-1), 1) := by decide +kernel
theorem dX12_begin_105 : decode cX12_begin 105 = .ok (.iastore, 1) := by decide +kernel
theorem dX12_begin_106 : decode cX12_begin 106 = .ok (.iinc 4 1, 3) := by decide +kernel
theorem dX12_begin_109 : decode cX12_begin 109 = .ok (.goto (-34), 3) := by decide +kernel
theorem dX12_begin_112 : decode cX12_begin 112 = .ok (.aload_n 0, 1) := by decide +kernel
theorem dX12_begin_113 : decode cX12_begin 113 = .ok (.aload_n 0, 1) := by decide +kernel
theorem dX12_begin_114 : decode cX12_begin 114 = .ok (.getfield 13, 3) := by decide +kernel
theorem dX12_begin_117 : decode cX12_begin 117 = .ok (.invokevirtual 104, 3) := by decide +kernel
theorem dX12_begin_120 : decode cX12_begin 120 = .ok (.invokestatic 108, 3) := by decide +kernel
theorem dX12_begin_123 : decode cX12_begin 123 = .ok (.ireturn, 1) := by decide +kernel
theorem dX12_many_0 : decode cX12_many 0 = .ok (.iconst 0, 1) := by decide +kernel
theorem dX12_many_1 : decode cX12_many 1 = .ok (.istore_n 1, 1) := by decide +kernel
theorem dX12_many_2 : decode cX12_many 2 = .ok (.iconst 0, 1) := by decide +kernel
theorem dX12_many_3 : decode cX12_many 3 = .ok (.istore_n 2, 1) := by decide +kernel
theorem dX12_many_4 : decode cX12_many 4 = .ok (.iload_n 2, 1) := by decide +kernel
theorem dX12_many_5 : decode cX12_many 5 = .ok (.aload_n 0, 1) := by decide +kernel
theorem dX12_many_6 : decode cX12_many 6 = .ok (.getfield 91, 3) := by decide +kernel
theorem dX12_many_9 : decode cX12_many 9 = .ok (.if_icmp .ge 26, 3) := by decide +kernel
theorem dX12_many_12 : decode cX12_many 12 = .ok (.iload_n 1, 1) := by decide +kernel
theorem dX12_many_13 : decode cX12_many 13 = .ok (.aload_n 0, 1) := by decide +kernel
theorem dX12_many_14 : decode cX12_many 14 = .ok (.getfield 13, 3) := by decide +kernel
theorem dX12_many_17 : decode cX12_many 17 = .ok (.iload_n 2, 1) := by decide +kernel
theorem dX12_many_18 : decode cX12_many 18 = .ok (.iaload, 1) := by decide +kernel
theorem dX12_many_19 : decode cX12_many 19 = .ok (.ifCond .lt 7, 3) := by decide +kernel
theorem dX12_many_22 : decode cX12_many 22 = .ok (.iconst 1, 1) := by decide +kernel
theorem dX12_many_23 : decode cX12_many 23 = .ok (.goto 4, 3) := by decide +kernel
theorem dX12_many_26 : decode cX12_many 26 = .ok (.iconst 0, 1) := by decide +kernel
theorem dX12_many_27 : decode cX12_many 27 = .ok (.iadd, 1) := by decide +kernel
theorem dX12_many_28 : decode cX12_many 28 = .ok (.istore_n 1, 1) := by decide +kernel
theorem dX12_many_29 : decode cX12_many 29 = .ok (.iinc 2 1, 3) := by decide +kernel
theorem dX12_many_32 : decode cX12_many 32 = .ok (.goto (-28), 3) := by decide +kernel
theorem dX12_many_35 : decode cX12_many 35 = .ok (.iload_n 1, 1) := by decide +kernel
theorem dX12_many_36 : decode cX12_many 36 = .ok (.ireturn, 1) := by decide +kernel
theorem dX12_ask_0 : decode cX12_ask 0 = .ok (.aload_n 0, 1) := by decide +kernel
theorem dX12_ask_1 : decode cX12_ask 1 = .ok (.getfield 49, 3) := by decide +kernel
theorem dX12_ask_4 : decode cX12_ask 4 = .ok (.ifCond .ne 20, 3) := by decide +kernel
theorem dX12_ask_7 : decode cX12_ask 7 = .ok (.iload_n 1, 1) := by decide +kernel
theorem dX12_ask_8 : decode cX12_ask 8 = .ok (.iconst 0, 1) := by decide +kernel
theorem dX12_ask_9 : decode cX12_ask 9 = .ok (.ldc 112, 2) := by decide +kernel
theorem dX12_ask_11 : decode cX12_ask 11 = .ok (.invokestatic 53, 3) := by decide +kernel
theorem dX12_ask_14 : decode cX12_ask 14 = .ok (.ifCond .eq 8, 3) := by decide +kernel
theorem dX12_ask_17 : decode cX12_ask 17 = .ok (.bipush (-2), 2) := by decide +kernel
theorem dX12_ask_19 : decode cX12_ask 19 = .ok (.goto 4, 3) := by decide +kernel
theorem dX12_ask_22 : decode cX12_ask 22 = .ok (.iconst (-1), 1) := by decide +kernel
theorem dX12_ask_23 : decode cX12_ask 23 = .ok (.ireturn, 1) := by decide +kernel
theorem dX12_ask_24 : decode cX12_ask 24 = .ok (.iload_n 1, 1) := by decide +kernel
theorem dX12_ask_25 : decode cX12_ask 25 = .ok (.iconst 0, 1) := by decide +kernel
theorem dX12_ask_26 : decode cX12_ask 26 = .ok (.iconst 1, 1) := by decide +kernel
theorem dX12_ask_27 : decode cX12_ask 27 = .ok (.aload_n 0, 1) := by decide +kernel
theorem dX12_ask_28 : decode cX12_ask 28 = .ok (.getfield 91, 3) := by decide +kernel
theorem dX12_ask_31 : decode cX12_ask 31 = .ok (.ishl, 1) := by decide +kernel
theorem dX12_ask_32 : decode cX12_ask 32 = .ok (.iconst 1, 1) := by decide +kernel
theorem dX12_ask_33 : decode cX12_ask 33 = .ok (.isub, 1) := by decide +kernel
theorem dX12_ask_34 : decode cX12_ask 34 = .ok (.invokestatic 53, 3) := by decide +kernel
theorem dX12_ask_37 : decode cX12_ask 37 = .ok (.ifCond .ne 5, 3) := by decide +kernel
theorem dX12_ask_40 : decode cX12_ask 40 = .ok (.iconst (-1), 1) := by decide +kernel
theorem dX12_ask_41 : decode cX12_ask 41 = .ok (.ireturn, 1) := by decide +kernel
theorem dX12_ask_42 : decode cX12_ask 42 = .ok (.aload_n 0, 1) := by decide +kernel
theorem dX12_ask_43 : decode cX12_ask 43 = .ok (.iload_n 1, 1) := by decide +kernel
theorem dX12_ask_44 : decode cX12_ask 44 = .ok (.putfield 7, 3) := by decide +kernel
theorem dX12_ask_47 : decode cX12_ask 47 = .ok (.iconst 0, 1) := by decide +kernel
theorem dX12_ask_48 : decode cX12_ask 48 = .ok (.istore_n 2, 1) := by decide +kernel
theorem dX12_ask_49 : decode cX12_ask 49 = .ok (.iconst 0, 1) := by decide +kernel
theorem dX12_ask_50 : decode cX12_ask 50 = .ok (.istore_n 3, 1) := by decide +kernel
theorem dX12_ask_51 : decode cX12_ask 51 = .ok (.iload_n 3, 1) := by decide +kernel
theorem dX12_ask_52 : decode cX12_ask 52 = .ok (.aload_n 0, 1) := by decide +kernel
theorem dX12_ask_53 : decode cX12_ask 53 = .ok (.getfield 91, 3) := by decide +kernel
theorem dX12_ask_56 : decode cX12_ask 56 = .ok (.if_icmp .ge 35, 3) := by decide +kernel
theorem dX12_ask_59 : decode cX12_ask 59 = .ok (.iload_n 2, 1) := by decide +kernel
theorem dX12_ask_60 : decode cX12_ask 60 = .ok (.aload_n 0, 1) := by decide +kernel
theorem dX12_ask_61 : decode cX12_ask 61 = .ok (.getfield 13, 3) := by decide +kernel
theorem dX12_ask_64 : decode cX12_ask 64 = .ok (.iload_n 3, 1) := by decide +kernel
theorem dX12_ask_65 : decode cX12_ask 65 = .ok (.iaload, 1) := by decide +kernel
theorem dX12_ask_66 : decode cX12_ask 66 = .ok (.ifCond .lt 16, 3) := by decide +kernel
theorem dX12_ask_69 : decode cX12_ask 69 = .ok (.iload_n 1, 1) := by decide +kernel
theorem dX12_ask_70 : decode cX12_ask 70 = .ok (.iload_n 3, 1) := by decide +kernel
theorem dX12_ask_71 : decode cX12_ask 71 = .ok (.ishr, 1) := by decide +kernel
theorem dX12_ask_72 : decode cX12_ask 72 = .ok (.iconst 1, 1) := by decide +kernel
theorem dX12_ask_73 : decode cX12_ask 73 = .ok (.iand, 1) := by decide +kernel
theorem dX12_ask_74 : decode cX12_ask 74 = .ok (.iconst 1, 1) := by decide +kernel
theorem dX12_ask_75 : decode cX12_ask 75 = .ok (.if_icmp .ne 7, 3) := by decide +kernel
theorem dX12_ask_78 : decode cX12_ask 78 = .ok (.iconst 1, 1) := by decide +kernel
theorem dX12_ask_79 : decode cX12_ask 79 = .ok (.goto 4, 3) := by decide +kernel
theorem dX12_ask_82 : decode cX12_ask 82 = .ok (.iconst 0, 1) := by decide +kernel
theorem dX12_ask_83 : decode cX12_ask 83 = .ok (.iadd, 1) := by decide +kernel
theorem dX12_ask_84 : decode cX12_ask 84 = .ok (.istore_n 2, 1) := by decide +kernel
theorem dX12_ask_85 : decode cX12_ask 85 = .ok (.iinc 3 1, 3) := by decide +kernel
theorem dX12_ask_88 : decode cX12_ask 88 = .ok (.goto (-37), 3) := by decide +kernel
theorem dX12_ask_91 : decode cX12_ask 91 = .ok (.iload_n 2, 1) := by decide +kernel
theorem dX12_ask_92 : decode cX12_ask 92 = .ok (.ireturn, 1) := by decide +kernel
theorem dX12_tries_0 : decode cX12_tries 0 = .ok (.iconst 0, 1) := by decide +kernel
theorem dX12_tries_1 : decode cX12_tries 1 = .ok (.istore_n 3, 1) := by decide +kernel
theorem dX12_tries_2 : decode cX12_tries 2 = .ok (.iconst 0, 1) := by decide +kernel
theorem dX12_tries_3 : decode cX12_tries 3 = .ok (.istore 4, 2) := by decide +kernel
theorem dX12_tries_5 : decode cX12_tries 5 = .ok (.iload 4, 2) := by decide +kernel
theorem dX12_tries_7 : decode cX12_tries 7 = .ok (.aload_n 0, 1) := by decide +kernel
theorem dX12_tries_8 : decode cX12_tries 8 = .ok (.getfield 91, 3) := by decide +kernel
theorem dX12_tries_11 : decode cX12_tries 11 = .ok (.if_icmp .ge 87, 3) := by decide +kernel
theorem dX12_tries_14 : decode cX12_tries 14 = .ok (.aload_n 0, 1) := by decide +kernel
theorem dX12_tries_15 : decode cX12_tries 15 = .ok (.getfield 13, 3) := by decide +kernel
theorem dX12_tries_18 : decode cX12_tries 18 = .ok (.iload 4, 2) := by decide +kernel
theorem dX12_tries_20 : decode cX12_tries 20 = .ok (.iaload, 1) := by decide +kernel
theorem dX12_tries_21 : decode cX12_tries 21 = .ok (.ifCond .ge 7, 3) := by decide +kernel
theorem dX12_tries_24 : decode cX12_tries 24 = .ok (.iconst (-1), 1) := by decide +kernel
theorem dX12_tries_25 : decode cX12_tries 25 = .ok (.goto 34, 3) := by decide +kernel
theorem dX12_tries_28 : decode cX12_tries 28 = .ok (.aload_n 0, 1) := by decide +kernel
theorem dX12_tries_29 : decode cX12_tries 29 = .ok (.getfield 13, 3) := by decide +kernel
theorem dX12_tries_32 : decode cX12_tries 32 = .ok (.iload 4, 2) := by decide +kernel
theorem dX12_tries_34 : decode cX12_tries 34 = .ok (.iaload, 1) := by decide +kernel
theorem dX12_tries_35 : decode cX12_tries 35 = .ok (.aload_n 0, 1) := by decide +kernel
theorem dX12_tries_36 : decode cX12_tries 36 = .ok (.getfield 88, 3) := by decide +kernel
theorem dX12_tries_39 : decode cX12_tries 39 = .ok (.iload_n 2, 1) := by decide +kernel
theorem dX12_tries_40 : decode cX12_tries 40 = .ok (.iload_n 1, 1) := by decide +kernel
theorem dX12_tries_41 : decode cX12_tries 41 = .ok (.iload 4, 2) := by decide +kernel
theorem dX12_tries_43 : decode cX12_tries 43 = .ok (.ishr, 1) := by decide +kernel
theorem dX12_tries_44 : decode cX12_tries 44 = .ok (.iconst 1, 1) := by decide +kernel
theorem dX12_tries_45 : decode cX12_tries 45 = .ok (.iand, 1) := by decide +kernel
theorem dX12_tries_46 : decode cX12_tries 46 = .ok (.iconst 1, 1) := by decide +kernel
theorem dX12_tries_47 : decode cX12_tries 47 = .ok (.if_icmp .ne 7, 3) := by decide +kernel
theorem dX12_tries_50 : decode cX12_tries 50 = .ok (.iconst 1, 1) := by decide +kernel
theorem dX12_tries_51 : decode cX12_tries 51 = .ok (.goto 4, 3) := by decide +kernel
theorem dX12_tries_54 : decode cX12_tries 54 = .ok (.iconst 0, 1) := by decide +kernel
theorem dX12_tries_55 : decode cX12_tries 55 = .ok (.invokestatic 65, 3) := by decide +kernel
theorem dX12_tries_58 : decode cX12_tries 58 = .ok (.isub, 1) := by decide +kernel
theorem dX12_tries_59 : decode cX12_tries 59 = .ok (.istore 5, 2) := by decide +kernel
theorem dX12_tries_61 : decode cX12_tries 61 = .ok (.aload_n 0, 1) := by decide +kernel
theorem dX12_tries_62 : decode cX12_tries 62 = .ok (.getfield 46, 3) := by decide +kernel
theorem dX12_tries_65 : decode cX12_tries 65 = .ok (.iload 4, 2) := by decide +kernel
theorem dX12_tries_67 : decode cX12_tries 67 = .ok (.iload 5, 2) := by decide +kernel
theorem dX12_tries_69 : decode cX12_tries 69 = .ok (.ifCond .ge 7, 3) := by decide +kernel
theorem dX12_tries_72 : decode cX12_tries 72 = .ok (.iconst (-1), 1) := by decide +kernel
theorem dX12_tries_73 : decode cX12_tries 73 = .ok (.goto 5, 3) := by decide +kernel
theorem dX12_tries_76 : decode cX12_tries 76 = .ok (.iload 5, 2) := by decide +kernel
theorem dX12_tries_78 : decode cX12_tries 78 = .ok (.iastore, 1) := by decide +kernel
theorem dX12_tries_79 : decode cX12_tries 79 = .ok (.iload_n 3, 1) := by decide +kernel
theorem dX12_tries_80 : decode cX12_tries 80 = .ok (.iload 5, 2) := by decide +kernel
theorem dX12_tries_82 : decode cX12_tries 82 = .ok (.ifCond .ge 7, 3) := by decide +kernel
theorem dX12_tries_85 : decode cX12_tries 85 = .ok (.iconst 0, 1) := by decide +kernel
theorem dX12_tries_86 : decode cX12_tries 86 = .ok (.goto 4, 3) := by decide +kernel
theorem dX12_tries_89 : decode cX12_tries 89 = .ok (.iconst 1, 1) := by decide +kernel
theorem dX12_tries_90 : decode cX12_tries 90 = .ok (.iadd, 1) := by decide +kernel
theorem dX12_tries_91 : decode cX12_tries 91 = .ok (.istore_n 3, 1) := by decide +kernel
theorem dX12_tries_92 : decode cX12_tries 92 = .ok (.iinc 4 1, 3) := by decide +kernel
theorem dX12_tries_95 : decode cX12_tries 95 = .ok (.goto (-90), 3) := by decide +kernel
theorem dX12_tries_98 : decode cX12_tries 98 = .ok (.iload_n 3, 1) := by decide +kernel
theorem dX12_tries_99 : decode cX12_tries 99 = .ok (.ireturn, 1) := by decide +kernel
theorem dX12_answer_0 : decode cX12_answer 0 = .ok (.aload_n 0, 1) := by decide +kernel
theorem dX12_answer_1 : decode cX12_answer 1 = .ok (.getfield 49, 3) := by decide +kernel
theorem dX12_answer_4 : decode cX12_answer 4 = .ok (.ifCond .eq 10, 3) := by decide +kernel
theorem dX12_answer_7 : decode cX12_answer 7 = .ok (.aload_n 0, 1) := by decide +kernel
theorem dX12_answer_8 : decode cX12_answer 8 = .ok (.getfield 7, 3) := by decide +kernel
theorem dX12_answer_11 : decode cX12_answer 11 = .ok (.ifCond .ge 6, 3) := by decide +kernel
theorem dX12_answer_14 : decode cX12_answer 14 = .ok (.bipush (-2), 2) := by decide +kernel
theorem dX12_answer_16 : decode cX12_answer 16 = .ok (.ireturn, 1) := by decide +kernel
theorem dX12_answer_17 : decode cX12_answer 17 = .ok (.aload_n 0, 1) := by decide +kernel
theorem dX12_answer_18 : decode cX12_answer 18 = .ok (.aload_n 0, 1) := by decide +kernel
theorem dX12_answer_19 : decode cX12_answer 19 = .ok (.getfield 7, 3) := by decide +kernel
theorem dX12_answer_22 : decode cX12_answer 22 = .ok (.iload_n 1, 1) := by decide +kernel
theorem dX12_answer_23 : decode cX12_answer 23 = .ok (.invokevirtual 113, 3) := by decide +kernel
theorem dX12_answer_26 : decode cX12_answer 26 = .ok (.istore_n 2, 1) := by decide +kernel
theorem dX12_answer_27 : decode cX12_answer 27 = .ok (.iload_n 2, 1) := by decide +kernel
theorem dX12_answer_28 : decode cX12_answer 28 = .ok (.ifCond .ne 6, 3) := by decide +kernel
theorem dX12_answer_31 : decode cX12_answer 31 = .ok (.bipush (-2), 2) := by decide +kernel
theorem dX12_answer_33 : decode cX12_answer 33 = .ok (.ireturn, 1) := by decide +kernel
theorem dX12_answer_34 : decode cX12_answer 34 = .ok (.aload_n 0, 1) := by decide +kernel
theorem dX12_answer_35 : decode cX12_answer 35 = .ok (.getfield 101, 3) := by decide +kernel
theorem dX12_answer_38 : decode cX12_answer 38 = .ok (.bipush 60, 2) := by decide +kernel
theorem dX12_answer_40 : decode cX12_answer 40 = .ok (.if_icmp .ne 6, 3) := by decide +kernel
theorem dX12_answer_43 : decode cX12_answer 43 = .ok (.bipush (-3), 2) := by decide +kernel
theorem dX12_answer_45 : decode cX12_answer 45 = .ok (.ireturn, 1) := by decide +kernel
theorem dX12_answer_46 : decode cX12_answer 46 = .ok (.iconst 0, 1) := by decide +kernel
theorem dX12_answer_47 : decode cX12_answer 47 = .ok (.istore_n 3, 1) := by decide +kernel
theorem dX12_answer_48 : decode cX12_answer 48 = .ok (.iload_n 3, 1) := by decide +kernel
theorem dX12_answer_49 : decode cX12_answer 49 = .ok (.aload_n 0, 1) := by decide +kernel
theorem dX12_answer_50 : decode cX12_answer 50 = .ok (.getfield 91, 3) := by decide +kernel
theorem dX12_answer_53 : decode cX12_answer 53 = .ok (.if_icmp .ge 41, 3) := by decide +kernel
theorem dX12_answer_56 : decode cX12_answer 56 = .ok (.aload_n 0, 1) := by decide +kernel
theorem dX12_answer_57 : decode cX12_answer 57 = .ok (.getfield 17, 3) := by decide +kernel
theorem dX12_answer_60 : decode cX12_answer 60 = .ok (.bipush 16, 2) := by decide +kernel
theorem dX12_answer_62 : decode cX12_answer 62 = .ok (.aload_n 0, 1) := by decide +kernel
theorem dX12_answer_63 : decode cX12_answer 63 = .ok (.getfield 101, 3) := by decide +kernel
theorem dX12_answer_66 : decode cX12_answer 66 = .ok (.imul, 1) := by decide +kernel
theorem dX12_answer_67 : decode cX12_answer 67 = .ok (.iload_n 3, 1) := by decide +kernel
theorem dX12_answer_68 : decode cX12_answer 68 = .ok (.iadd, 1) := by decide +kernel
theorem dX12_answer_69 : decode cX12_answer 69 = .ok (.aload_n 0, 1) := by decide +kernel
theorem dX12_answer_70 : decode cX12_answer 70 = .ok (.getfield 13, 3) := by decide +kernel
theorem dX12_answer_73 : decode cX12_answer 73 = .ok (.iload_n 3, 1) := by decide +kernel
theorem dX12_answer_74 : decode cX12_answer 74 = .ok (.iaload, 1) := by decide +kernel
theorem dX12_answer_75 : decode cX12_answer 75 = .ok (.iastore, 1) := by decide +kernel
theorem dX12_answer_76 : decode cX12_answer 76 = .ok (.aload_n 0, 1) := by decide +kernel
theorem dX12_answer_77 : decode cX12_answer 77 = .ok (.getfield 13, 3) := by decide +kernel
theorem dX12_answer_80 : decode cX12_answer 80 = .ok (.iload_n 3, 1) := by decide +kernel
theorem dX12_answer_81 : decode cX12_answer 81 = .ok (.aload_n 0, 1) := by decide +kernel
theorem dX12_answer_82 : decode cX12_answer 82 = .ok (.getfield 46, 3) := by decide +kernel
theorem dX12_answer_85 : decode cX12_answer 85 = .ok (.iload_n 3, 1) := by decide +kernel
theorem dX12_answer_86 : decode cX12_answer 86 = .ok (.iaload, 1) := by decide +kernel
theorem dX12_answer_87 : decode cX12_answer 87 = .ok (.iastore, 1) := by decide +kernel
theorem dX12_answer_88 : decode cX12_answer 88 = .ok (.iinc 3 1, 3) := by decide +kernel
theorem dX12_answer_91 : decode cX12_answer 91 = .ok (.goto (-43), 3) := by decide +kernel
theorem dX12_answer_94 : decode cX12_answer 94 = .ok (.aload_n 0, 1) := by decide +kernel
theorem dX12_answer_95 : decode cX12_answer 95 = .ok (.dup, 1) := by decide +kernel
theorem dX12_answer_96 : decode cX12_answer 96 = .ok (.getfield 101, 3) := by decide +kernel
theorem dX12_answer_99 : decode cX12_answer 99 = .ok (.iconst 1, 1) := by decide +kernel
theorem dX12_answer_100 : decode cX12_answer 100 = .ok (.iadd, 1) := by decide +kernel
theorem dX12_answer_101 : decode cX12_answer 101 = .ok (.putfield 101, 3) := by decide +kernel
theorem dX12_answer_104 : decode cX12_answer 104 = .ok (.aload_n 0, 1) := by decide +kernel
theorem dX12_answer_105 : decode cX12_answer 105 = .ok (.iconst (-1), 1) := by decide +kernel
theorem dX12_answer_106 : decode cX12_answer 106 = .ok (.putfield 7, 3) := by decide +kernel
theorem dX12_answer_109 : decode cX12_answer 109 = .ok (.iload_n 2, 1) := by decide +kernel
theorem dX12_answer_110 : decode cX12_answer 110 = .ok (.ireturn, 1) := by decide +kernel
theorem dX12_back_0 : decode cX12_back 0 = .ok (.aload_n 0, 1) := by decide +kernel
theorem dX12_back_1 : decode cX12_back 1 = .ok (.getfield 49, 3) := by decide +kernel
theorem dX12_back_4 : decode cX12_back 4 = .ok (.ifCond .eq 10, 3) := by decide +kernel
theorem dX12_back_7 : decode cX12_back 7 = .ok (.aload_n 0, 1) := by decide +kernel
theorem dX12_back_8 : decode cX12_back 8 = .ok (.getfield 101, 3) := by decide +kernel
theorem dX12_back_11 : decode cX12_back 11 = .ok (.ifCond .ne 6, 3) := by decide +kernel
theorem dX12_back_14 : decode cX12_back 14 = .ok (.bipush (-2), 2) := by decide +kernel
theorem dX12_back_16 : decode cX12_back 16 = .ok (.ireturn, 1) := by decide +kernel
theorem dX12_back_17 : decode cX12_back 17 = .ok (.aload_n 0, 1) := by decide +kernel
theorem dX12_back_18 : decode cX12_back 18 = .ok (.dup, 1) := by decide +kernel
theorem dX12_back_19 : decode cX12_back 19 = .ok (.getfield 101, 3) := by decide +kernel
theorem dX12_back_22 : decode cX12_back 22 = .ok (.iconst 1, 1) := by decide +kernel
theorem dX12_back_23 : decode cX12_back 23 = .ok (.isub, 1) := by decide +kernel
theorem dX12_back_24 : decode cX12_back 24 = .ok (.putfield 101, 3) := by decide +kernel
theorem dX12_back_27 : decode cX12_back 27 = .ok (.iconst 0, 1) := by decide +kernel
theorem dX12_back_28 : decode cX12_back 28 = .ok (.istore_n 1, 1) := by decide +kernel
theorem dX12_back_29 : decode cX12_back 29 = .ok (.iload_n 1, 1) := by decide +kernel
theorem dX12_back_30 : decode cX12_back 30 = .ok (.aload_n 0, 1) := by decide +kernel
theorem dX12_back_31 : decode cX12_back 31 = .ok (.getfield 91, 3) := by decide +kernel
theorem dX12_back_34 : decode cX12_back 34 = .ok (.if_icmp .ge 29, 3) := by decide +kernel
theorem dX12_back_37 : decode cX12_back 37 = .ok (.aload_n 0, 1) := by decide +kernel
theorem dX12_back_38 : decode cX12_back 38 = .ok (.getfield 13, 3) := by decide +kernel
theorem dX12_back_41 : decode cX12_back 41 = .ok (.iload_n 1, 1) := by decide +kernel
theorem dX12_back_42 : decode cX12_back 42 = .ok (.aload_n 0, 1) := by decide +kernel
theorem dX12_back_43 : decode cX12_back 43 = .ok (.getfield 17, 3) := by decide +kernel
theorem dX12_back_46 : decode cX12_back 46 = .ok (.bipush 16, 2) := by decide +kernel
theorem dX12_back_48 : decode cX12_back 48 = .ok (.aload_n 0, 1) := by decide +kernel
theorem dX12_back_49 : decode cX12_back 49 = .ok (.getfield 101, 3) := by decide +kernel
theorem dX12_back_52 : decode cX12_back 52 = .ok (.imul, 1) := by decide +kernel
theorem dX12_back_53 : decode cX12_back 53 = .ok (.iload_n 1, 1) := by decide +kernel
theorem dX12_back_54 : decode cX12_back 54 = .ok (.iadd, 1) := by decide +kernel
theorem dX12_back_55 : decode cX12_back 55 = .ok (.iaload, 1) := by decide +kernel
theorem dX12_back_56 : decode cX12_back 56 = .ok (.iastore, 1) := by decide +kernel
theorem dX12_back_57 : decode cX12_back 57 = .ok (.iinc 1 1, 3) := by decide +kernel
theorem dX12_back_60 : decode cX12_back 60 = .ok (.goto (-31), 3) := by decide +kernel
theorem dX12_back_63 : decode cX12_back 63 = .ok (.aload_n 0, 1) := by decide +kernel
theorem dX12_back_64 : decode cX12_back 64 = .ok (.iconst (-1), 1) := by decide +kernel
theorem dX12_back_65 : decode cX12_back 65 = .ok (.putfield 7, 3) := by decide +kernel
theorem dX12_back_68 : decode cX12_back 68 = .ok (.aload_n 0, 1) := by decide +kernel
theorem dX12_back_69 : decode cX12_back 69 = .ok (.dup, 1) := by decide +kernel
theorem dX12_back_70 : decode cX12_back 70 = .ok (.getfield 117, 3) := by decide +kernel
theorem dX12_back_73 : decode cX12_back 73 = .ok (.iconst 1, 1) := by decide +kernel
theorem dX12_back_74 : decode cX12_back 74 = .ok (.iadd, 1) := by decide +kernel
theorem dX12_back_75 : decode cX12_back 75 = .ok (.putfield 117, 3) := by decide +kernel
theorem dX12_back_78 : decode cX12_back 78 = .ok (.aload_n 0, 1) := by decide +kernel
theorem dX12_back_79 : decode cX12_back 79 = .ok (.getfield 101, 3) := by decide +kernel
theorem dX12_back_82 : decode cX12_back 82 = .ok (.ireturn, 1) := by decide +kernel
theorem dX12_left_0 : decode cX12_left 0 = .ok (.aload_n 0, 1) := by decide +kernel
theorem dX12_left_1 : decode cX12_left 1 = .ok (.getfield 49, 3) := by decide +kernel
theorem dX12_left_4 : decode cX12_left 4 = .ok (.ifCond .ne 21, 3) := by decide +kernel
theorem dX12_left_7 : decode cX12_left 7 = .ok (.iload_n 1, 1) := by decide +kernel
theorem dX12_left_8 : decode cX12_left 8 = .ok (.iconst 0, 1) := by decide +kernel
theorem dX12_left_9 : decode cX12_left 9 = .ok (.bipush 15, 2) := by decide +kernel
theorem dX12_left_11 : decode cX12_left 11 = .ok (.invokestatic 53, 3) := by decide +kernel
theorem dX12_left_14 : decode cX12_left 14 = .ok (.ifCond .eq 8, 3) := by decide +kernel
theorem dX12_left_17 : decode cX12_left 17 = .ok (.bipush (-3), 2) := by decide +kernel
theorem dX12_left_19 : decode cX12_left 19 = .ok (.goto 5, 3) := by decide +kernel
theorem dX12_left_22 : decode cX12_left 22 = .ok (.bipush (-2), 2) := by decide +kernel
theorem dX12_left_24 : decode cX12_left 24 = .ok (.ireturn, 1) := by decide +kernel
theorem dX12_left_25 : decode cX12_left 25 = .ok (.iload_n 1, 1) := by decide +kernel
theorem dX12_left_26 : decode cX12_left 26 = .ok (.iconst 0, 1) := by decide +kernel
theorem dX12_left_27 : decode cX12_left 27 = .ok (.aload_n 0, 1) := by decide +kernel
theorem dX12_left_28 : decode cX12_left 28 = .ok (.getfield 91, 3) := by decide +kernel
theorem dX12_left_31 : decode cX12_left 31 = .ok (.iconst 1, 1) := by decide +kernel
theorem dX12_left_32 : decode cX12_left 32 = .ok (.isub, 1) := by decide +kernel
theorem dX12_left_33 : decode cX12_left 33 = .ok (.invokestatic 53, 3) := by decide +kernel
theorem dX12_left_36 : decode cX12_left 36 = .ok (.ifCond .eq 12, 3) := by decide +kernel
theorem dX12_left_39 : decode cX12_left 39 = .ok (.aload_n 0, 1) := by decide +kernel
theorem dX12_left_40 : decode cX12_left 40 = .ok (.getfield 13, 3) := by decide +kernel
theorem dX12_left_43 : decode cX12_left 43 = .ok (.iload_n 1, 1) := by decide +kernel
theorem dX12_left_44 : decode cX12_left 44 = .ok (.iaload, 1) := by decide +kernel
theorem dX12_left_45 : decode cX12_left 45 = .ok (.goto 5, 3) := by decide +kernel
theorem dX12_left_48 : decode cX12_left 48 = .ok (.bipush (-2), 2) := by decide +kernel
theorem dX12_left_50 : decode cX12_left 50 = .ok (.ireturn, 1) := by decide +kernel
theorem dX12_state_0 : decode cX12_state 0 = .ok (.iload_n 1, 1) := by decide +kernel
theorem dX12_state_1 : decode cX12_state 1 = .ok (.iconst 0, 1) := by decide +kernel
theorem dX12_state_2 : decode cX12_state 2 = .ok (.iconst 3, 1) := by decide +kernel
theorem dX12_state_3 : decode cX12_state 3 = .ok (.invokestatic 53, 3) := by decide +kernel
theorem dX12_state_6 : decode cX12_state 6 = .ok (.ifCond .ne 5, 3) := by decide +kernel
theorem dX12_state_9 : decode cX12_state 9 = .ok (.iconst (-1), 1) := by decide +kernel
theorem dX12_state_10 : decode cX12_state 10 = .ok (.ireturn, 1) := by decide +kernel
theorem dX12_state_11 : decode cX12_state 11 = .ok (.aload_n 0, 1) := by decide +kernel
theorem dX12_state_12 : decode cX12_state 12 = .ok (.getfield 49, 3) := by decide +kernel
theorem dX12_state_15 : decode cX12_state 15 = .ok (.ifCond .ne 6, 3) := by decide +kernel
theorem dX12_state_18 : decode cX12_state 18 = .ok (.bipush (-2), 2) := by decide +kernel
theorem dX12_state_20 : decode cX12_state 20 = .ok (.ireturn, 1) := by decide +kernel
theorem dX12_state_21 : decode cX12_state 21 = .ok (.iconst 0, 1) := by decide +kernel
theorem dX12_state_22 : decode cX12_state 22 = .ok (.istore_n 2, 1) := by decide +kernel
theorem dX12_state_23 : decode cX12_state 23 = .ok (.iconst 0, 1) := by decide +kernel
theorem dX12_state_24 : decode cX12_state 24 = .ok (.istore_n 3, 1) := by decide +kernel
theorem dX12_state_25 : decode cX12_state 25 = .ok (.iload_n 3, 1) := by decide +kernel
theorem dX12_state_26 : decode cX12_state 26 = .ok (.aload_n 0, 1) := by decide +kernel
theorem dX12_state_27 : decode cX12_state 27 = .ok (.getfield 91, 3) := by decide +kernel
theorem dX12_state_30 : decode cX12_state 30 = .ok (.if_icmp .ge 27, 3) := by decide +kernel
theorem dX12_state_33 : decode cX12_state 33 = .ok (.iload_n 2, 1) := by decide +kernel
theorem dX12_state_34 : decode cX12_state 34 = .ok (.aload_n 0, 1) := by decide +kernel
theorem dX12_state_35 : decode cX12_state 35 = .ok (.getfield 13, 3) := by decide +kernel
theorem dX12_state_38 : decode cX12_state 38 = .ok (.iload_n 3, 1) := by decide +kernel
theorem dX12_state_39 : decode cX12_state 39 = .ok (.iaload, 1) := by decide +kernel
theorem dX12_state_40 : decode cX12_state 40 = .ok (.iload_n 1, 1) := by decide +kernel
theorem dX12_state_41 : decode cX12_state 41 = .ok (.if_icmp .ne 7, 3) := by decide +kernel
theorem dX12_state_44 : decode cX12_state 44 = .ok (.iconst 1, 1) := by decide +kernel
theorem dX12_state_45 : decode cX12_state 45 = .ok (.goto 4, 3) := by decide +kernel
theorem dX12_state_48 : decode cX12_state 48 = .ok (.iconst 0, 1) := by decide +kernel
theorem dX12_state_49 : decode cX12_state 49 = .ok (.iadd, 1) := by decide +kernel
theorem dX12_state_50 : decode cX12_state 50 = .ok (.istore_n 2, 1) := by decide +kernel
theorem dX12_state_51 : decode cX12_state 51 = .ok (.iinc 3 1, 3) := by decide +kernel
theorem dX12_state_54 : decode cX12_state 54 = .ok (.goto (-29), 3) := by decide +kernel
theorem dX12_state_57 : decode cX12_state 57 = .ok (.iload_n 2, 1) := by decide +kernel
theorem dX12_state_58 : decode cX12_state 58 = .ok (.ireturn, 1) := by decide +kernel
theorem dX12_found_0 : decode cX12_found 0 = .ok (.aload_n 0, 1) := by decide +kernel
theorem dX12_found_1 : decode cX12_found 1 = .ok (.getfield 49, 3) := by decide +kernel
theorem dX12_found_4 : decode cX12_found 4 = .ok (.ifCond .ne 6, 3) := by decide +kernel
theorem dX12_found_7 : decode cX12_found 7 = .ok (.bipush (-2), 2) := by decide +kernel
theorem dX12_found_9 : decode cX12_found 9 = .ok (.ireturn, 1) := by decide +kernel
theorem dX12_found_10 : decode cX12_found 10 = .ok (.aload_n 0, 1) := by decide +kernel
theorem dX12_found_11 : decode cX12_found 11 = .ok (.invokevirtual 120, 3) := by decide +kernel
theorem dX12_found_14 : decode cX12_found 14 = .ok (.iconst 1, 1) := by decide +kernel
theorem dX12_found_15 : decode cX12_found 15 = .ok (.if_icmp .eq 6, 3) := by decide +kernel
theorem dX12_found_18 : decode cX12_found 18 = .ok (.bipush (-9), 2) := by decide +kernel
theorem dX12_found_20 : decode cX12_found 20 = .ok (.ireturn, 1) := by decide +kernel
theorem dX12_found_21 : decode cX12_found 21 = .ok (.iconst 0, 1) := by decide +kernel
theorem dX12_found_22 : decode cX12_found 22 = .ok (.istore_n 1, 1) := by decide +kernel
theorem dX12_found_23 : decode cX12_found 23 = .ok (.aload_n 0, 1) := by decide +kernel
theorem dX12_found_24 : decode cX12_found 24 = .ok (.getfield 13, 3) := by decide +kernel
theorem dX12_found_27 : decode cX12_found 27 = .ok (.iload_n 1, 1) := by decide +kernel
theorem dX12_found_28 : decode cX12_found 28 = .ok (.iaload, 1) := by decide +kernel
theorem dX12_found_29 : decode cX12_found 29 = .ok (.ifCond .ge 9, 3) := by decide +kernel
theorem dX12_found_32 : decode cX12_found 32 = .ok (.iinc 1 1, 3) := by decide +kernel
theorem dX12_found_35 : decode cX12_found 35 = .ok (.goto (-12), 3) := by decide +kernel
theorem dX12_found_38 : decode cX12_found 38 = .ok (.iload_n 1, 1) := by decide +kernel
theorem dX12_found_39 : decode cX12_found 39 = .ok (.ireturn, 1) := by decide +kernel
theorem dX12_fewest_0 : decode cX12_fewest 0 = .ok (.aload_n 0, 1) := by decide +kernel
theorem dX12_fewest_1 : decode cX12_fewest 1 = .ok (.getfield 49, 3) := by decide +kernel
theorem dX12_fewest_4 : decode cX12_fewest 4 = .ok (.ifCond .eq 17, 3) := by decide +kernel
theorem dX12_fewest_7 : decode cX12_fewest 7 = .ok (.aload_n 0, 1) := by decide +kernel
theorem dX12_fewest_8 : decode cX12_fewest 8 = .ok (.aload_n 0, 1) := by decide +kernel
theorem dX12_fewest_9 : decode cX12_fewest 9 = .ok (.getfield 13, 3) := by decide +kernel
theorem dX12_fewest_12 : decode cX12_fewest 12 = .ok (.invokevirtual 104, 3) := by decide +kernel
theorem dX12_fewest_15 : decode cX12_fewest 15 = .ok (.invokestatic 108, 3) := by decide +kernel
theorem dX12_fewest_18 : decode cX12_fewest 18 = .ok (.goto 5, 3) := by decide +kernel
theorem dX12_fewest_21 : decode cX12_fewest 21 = .ok (.bipush (-2), 2) := by decide +kernel
theorem dX12_fewest_23 : decode cX12_fewest 23 = .ok (.ireturn, 1) := by decide +kernel
theorem dX12_spanBehind_0 : decode cX12_spanBehind 0 = .ok (.iconst 0, 1) := by decide +kernel
theorem dX12_spanBehind_1 : decode cX12_spanBehind 1 = .ok (.istore 5, 2) := by decide +kernel
theorem dX12_spanBehind_3 : decode cX12_spanBehind 3 = .ok (.iconst 0, 1) := by decide +kernel
theorem dX12_spanBehind_4 : decode cX12_spanBehind 4 = .ok (.istore 6, 2) := by decide +kernel
theorem dX12_spanBehind_6 : decode cX12_spanBehind 6 = .ok (.iload 6, 2) := by decide +kernel
theorem dX12_spanBehind_8 : decode cX12_spanBehind 8 = .ok (.aload_n 0, 1) := by decide +kernel
theorem dX12_spanBehind_9 : decode cX12_spanBehind 9 = .ok (.getfield 91, 3) := by decide +kernel
theorem dX12_spanBehind_12 : decode cX12_spanBehind 12 = .ok (.if_icmp .ge 74, 3) := by decide +kernel
theorem dX12_spanBehind_15 : decode cX12_spanBehind 15 = .ok (.iload_n 1, 1) := by decide +kernel
theorem dX12_spanBehind_16 : decode cX12_spanBehind 16 = .ok (.iconst 2, 1) := by decide +kernel
theorem dX12_spanBehind_17 : decode cX12_spanBehind 17 = .ok (.iload 6, 2) := by decide +kernel
theorem dX12_spanBehind_19 : decode cX12_spanBehind 19 = .ok (.imul, 1) := by decide +kernel
theorem dX12_spanBehind_20 : decode cX12_spanBehind 20 = .ok (.ishr, 1) := by decide +kernel
theorem dX12_spanBehind_21 : decode cX12_spanBehind 21 = .ok (.iconst 3, 1) := by decide +kernel
theorem dX12_spanBehind_22 : decode cX12_spanBehind 22 = .ok (.iand, 1) := by decide +kernel
theorem dX12_spanBehind_23 : decode cX12_spanBehind 23 = .ok (.iconst 1, 1) := by decide +kernel
theorem dX12_spanBehind_24 : decode cX12_spanBehind 24 = .ok (.isub, 1) := by decide +kernel
theorem dX12_spanBehind_25 : decode cX12_spanBehind 25 = .ok (.istore 7, 2) := by decide +kernel
theorem dX12_spanBehind_27 : decode cX12_spanBehind 27 = .ok (.iload 7, 2) := by decide +kernel
theorem dX12_spanBehind_29 : decode cX12_spanBehind 29 = .ok (.iload 7, 2) := by decide +kernel
theorem dX12_spanBehind_31 : decode cX12_spanBehind 31 = .ok (.ifCond .ge 7, 3) := by decide +kernel
theorem dX12_spanBehind_34 : decode cX12_spanBehind 34 = .ok (.iconst 0, 1) := by decide +kernel
theorem dX12_spanBehind_35 : decode cX12_spanBehind 35 = .ok (.goto 19, 3) := by decide +kernel
theorem dX12_spanBehind_38 : decode cX12_spanBehind 38 = .ok (.aload_n 0, 1) := by decide +kernel
theorem dX12_spanBehind_39 : decode cX12_spanBehind 39 = .ok (.getfield 88, 3) := by decide +kernel
theorem dX12_spanBehind_42 : decode cX12_spanBehind 42 = .ok (.iload 4, 2) := by decide +kernel
theorem dX12_spanBehind_44 : decode cX12_spanBehind 44 = .ok (.iload 6, 2) := by decide +kernel
theorem dX12_spanBehind_46 : decode cX12_spanBehind 46 = .ok (.iload_n 2, 1) := by decide +kernel
theorem dX12_spanBehind_47 : decode cX12_spanBehind 47 = .ok (.iload_n 3, 1) := by decide +kernel
theorem dX12_spanBehind_48 : decode cX12_spanBehind 48 = .ok (.invokestatic 53, 3) := by decide +kernel
theorem dX12_spanBehind_51 : decode cX12_spanBehind 51 = .ok (.invokestatic 65, 3) := by decide +kernel
theorem dX12_spanBehind_54 : decode cX12_spanBehind 54 = .ok (.isub, 1) := by decide +kernel
theorem dX12_spanBehind_55 : decode cX12_spanBehind 55 = .ok (.istore 7, 2) := by decide +kernel
theorem dX12_spanBehind_57 : decode cX12_spanBehind 57 = .ok (.iload 5, 2) := by decide +kernel
theorem dX12_spanBehind_59 : decode cX12_spanBehind 59 = .ok (.iload 7, 2) := by decide +kernel
theorem dX12_spanBehind_61 : decode cX12_spanBehind 61 = .ok (.ifCond .ge 7, 3) := by decide +kernel
theorem dX12_spanBehind_64 : decode cX12_spanBehind 64 = .ok (.iconst 0, 1) := by decide +kernel
theorem dX12_spanBehind_65 : decode cX12_spanBehind 65 = .ok (.goto 7, 3) := by decide +kernel
theorem dX12_spanBehind_68 : decode cX12_spanBehind 68 = .ok (.iload 7, 2) := by decide +kernel
theorem dX12_spanBehind_70 : decode cX12_spanBehind 70 = .ok (.iconst 1, 1) := by decide +kernel
theorem dX12_spanBehind_71 : decode cX12_spanBehind 71 = .ok (.iadd, 1) := by decide +kernel
theorem dX12_spanBehind_72 : decode cX12_spanBehind 72 = .ok (.iconst 2, 1) := by decide +kernel
theorem dX12_spanBehind_73 : decode cX12_spanBehind 73 = .ok (.iload 6, 2) := by decide +kernel
theorem dX12_spanBehind_75 : decode cX12_spanBehind 75 = .ok (.imul, 1) := by decide +kernel
theorem dX12_spanBehind_76 : decode cX12_spanBehind 76 = .ok (.ishl, 1) := by decide +kernel
theorem dX12_spanBehind_77 : decode cX12_spanBehind 77 = .ok (.ior, 1) := by decide +kernel
theorem dX12_spanBehind_78 : decode cX12_spanBehind 78 = .ok (.istore 5, 2) := by decide +kernel
theorem dX12_spanBehind_80 : decode cX12_spanBehind 80 = .ok (.iinc 6 1, 3) := by decide +kernel
theorem dX12_spanBehind_83 : decode cX12_spanBehind 83 = .ok (.goto (-77), 3) := by decide +kernel
theorem dX12_spanBehind_86 : decode cX12_spanBehind 86 = .ok (.iload 5, 2) := by decide +kernel
theorem dX12_spanBehind_88 : decode cX12_spanBehind 88 = .ok (.ireturn, 1) := by decide +kernel
theorem dX12_canSpan_0 : decode cX12_canSpan 0 = .ok (.iconst 0, 1) := by decide +kernel
theorem dX12_canSpan_1 : decode cX12_canSpan 1 = .ok (.istore_n 3, 1) := by decide +kernel
theorem dX12_canSpan_2 : decode cX12_canSpan 2 = .ok (.iload_n 3, 1) := by decide +kernel
theorem dX12_canSpan_3 : decode cX12_canSpan 3 = .ok (.aload_n 0, 1) := by decide +kernel
theorem dX12_canSpan_4 : decode cX12_canSpan 4 = .ok (.getfield 91, 3) := by decide +kernel
theorem dX12_canSpan_7 : decode cX12_canSpan 7 = .ok (.if_icmp .ge 73, 3) := by decide +kernel
theorem dX12_canSpan_10 : decode cX12_canSpan 10 = .ok (.iload_n 3, 1) := by decide +kernel
theorem dX12_canSpan_11 : decode cX12_canSpan 11 = .ok (.istore 4, 2) := by decide +kernel
theorem dX12_canSpan_13 : decode cX12_canSpan 13 = .ok (.iload 4, 2) := by decide +kernel
theorem dX12_canSpan_15 : decode cX12_canSpan 15 = .ok (.aload_n 0, 1) := by decide +kernel
theorem dX12_canSpan_16 : decode cX12_canSpan 16 = .ok (.getfield 91, 3) := by decide +kernel
theorem dX12_canSpan_19 : decode cX12_canSpan 19 = .ok (.if_icmp .ge 55, 3) := by decide +kernel
theorem dX12_canSpan_22 : decode cX12_canSpan 22 = .ok (.aload_n 0, 1) := by decide +kernel
theorem dX12_canSpan_23 : decode cX12_canSpan 23 = .ok (.getfield 31, 3) := by decide +kernel
theorem dX12_canSpan_26 : decode cX12_canSpan 26 = .ok (.aload_n 0, 1) := by decide +kernel
theorem dX12_canSpan_27 : decode cX12_canSpan 27 = .ok (.iload_n 1, 1) := by decide +kernel
theorem dX12_canSpan_28 : decode cX12_canSpan 28 = .ok (.iload_n 3, 1) := by decide +kernel
theorem dX12_canSpan_29 : decode cX12_canSpan 29 = .ok (.iload 4, 2) := by decide +kernel
theorem dX12_canSpan_31 : decode cX12_canSpan 31 = .ok (.iconst 1, 1) := by decide +kernel
theorem dX12_canSpan_32 : decode cX12_canSpan 32 = .ok (.invokevirtual 124, 3) := by decide +kernel
theorem dX12_canSpan_35 : decode cX12_canSpan 35 = .ok (.iaload, 1) := by decide +kernel
theorem dX12_canSpan_36 : decode cX12_canSpan 36 = .ok (.istore 5, 2) := by decide +kernel
theorem dX12_canSpan_38 : decode cX12_canSpan 38 = .ok (.aload_n 0, 1) := by decide +kernel
theorem dX12_canSpan_39 : decode cX12_canSpan 39 = .ok (.getfield 31, 3) := by decide +kernel
theorem dX12_canSpan_42 : decode cX12_canSpan 42 = .ok (.aload_n 0, 1) := by decide +kernel
theorem dX12_canSpan_43 : decode cX12_canSpan 43 = .ok (.iload_n 1, 1) := by decide +kernel
theorem dX12_canSpan_44 : decode cX12_canSpan 44 = .ok (.iload_n 3, 1) := by decide +kernel
theorem dX12_canSpan_45 : decode cX12_canSpan 45 = .ok (.iload 4, 2) := by decide +kernel
theorem dX12_canSpan_47 : decode cX12_canSpan 47 = .ok (.iconst 0, 1) := by decide +kernel
theorem dX12_canSpan_48 : decode cX12_canSpan 48 = .ok (.invokevirtual 124, 3) := by decide +kernel
theorem dX12_canSpan_51 : decode cX12_canSpan 51 = .ok (.iaload, 1) := by decide +kernel
theorem dX12_canSpan_52 : decode cX12_canSpan 52 = .ok (.istore 6, 2) := by decide +kernel
theorem dX12_canSpan_54 : decode cX12_canSpan 54 = .ok (.iload 5, 2) := by decide +kernel
theorem dX12_canSpan_56 : decode cX12_canSpan 56 = .ok (.iload_n 2, 1) := by decide +kernel
theorem dX12_canSpan_57 : decode cX12_canSpan 57 = .ok (.if_icmp .gt 11, 3) := by decide +kernel
theorem dX12_canSpan_60 : decode cX12_canSpan 60 = .ok (.iload 6, 2) := by decide +kernel
theorem dX12_canSpan_62 : decode cX12_canSpan 62 = .ok (.iload_n 2, 1) := by decide +kernel
theorem dX12_canSpan_63 : decode cX12_canSpan 63 = .ok (.if_icmp .gt 5, 3) := by decide +kernel
theorem dX12_canSpan_66 : decode cX12_canSpan 66 = .ok (.iconst 1, 1) := by decide +kernel
theorem dX12_canSpan_67 : decode cX12_canSpan 67 = .ok (.ireturn, 1) := by decide +kernel
theorem dX12_canSpan_68 : decode cX12_canSpan 68 = .ok (.iinc 4 1, 3) := by decide +kernel
theorem dX12_canSpan_71 : decode cX12_canSpan 71 = .ok (.goto (-58), 3) := by decide +kernel
theorem dX12_canSpan_74 : decode cX12_canSpan 74 = .ok (.iinc 3 1, 3) := by decide +kernel
theorem dX12_canSpan_77 : decode cX12_canSpan 77 = .ok (.goto (-75), 3) := by decide +kernel
theorem dX12_canSpan_80 : decode cX12_canSpan 80 = .ok (.iconst 0, 1) := by decide +kernel
theorem dX12_canSpan_81 : decode cX12_canSpan 81 = .ok (.ireturn, 1) := by decide +kernel
theorem dX12_knowSpans_0 : decode cX12_knowSpans 0 = .ok (.aload_n 0, 1) := by decide +kernel
theorem dX12_knowSpans_1 : decode cX12_knowSpans 1 = .ok (.getfield 28, 3) := by decide +kernel
theorem dX12_knowSpans_4 : decode cX12_knowSpans 4 = .ok (.aload_n 0, 1) := by decide +kernel
theorem dX12_knowSpans_5 : decode cX12_knowSpans 5 = .ok (.getfield 88, 3) := by decide +kernel
theorem dX12_knowSpans_8 : decode cX12_knowSpans 8 = .ok (.if_icmp .ne 15, 3) := by decide +kernel
theorem dX12_knowSpans_11 : decode cX12_knowSpans 11 = .ok (.aload_n 0, 1) := by decide +kernel
theorem dX12_knowSpans_12 : decode cX12_knowSpans 12 = .ok (.getfield 128, 3) := by decide +kernel
theorem dX12_knowSpans_15 : decode cX12_knowSpans 15 = .ok (.aload_n 0, 1) := by decide +kernel
theorem dX12_knowSpans_16 : decode cX12_knowSpans 16 = .ok (.getfield 91, 3) := by decide +kernel
theorem dX12_knowSpans_19 : decode cX12_knowSpans 19 = .ok (.if_icmp .ne 4, 3) := by decide +kernel
theorem dX12_knowSpans_22 : decode cX12_knowSpans 22 = .ok (.return_, 1) := by decide +kernel
theorem dX12_knowSpans_23 : decode cX12_knowSpans 23 = .ok (.aload_n 0, 1) := by decide +kernel
theorem dX12_knowSpans_24 : decode cX12_knowSpans 24 = .ok (.aload_n 0, 1) := by decide +kernel
theorem dX12_knowSpans_25 : decode cX12_knowSpans 25 = .ok (.getfield 88, 3) := by decide +kernel
theorem dX12_knowSpans_28 : decode cX12_knowSpans 28 = .ok (.putfield 28, 3) := by decide +kernel
theorem dX12_knowSpans_31 : decode cX12_knowSpans 31 = .ok (.aload_n 0, 1) := by decide +kernel
theorem dX12_knowSpans_32 : decode cX12_knowSpans 32 = .ok (.aload_n 0, 1) := by decide +kernel
theorem dX12_knowSpans_33 : decode cX12_knowSpans 33 = .ok (.getfield 91, 3) := by decide +kernel
theorem dX12_knowSpans_36 : decode cX12_knowSpans 36 = .ok (.putfield 128, 3) := by decide +kernel
theorem dX12_knowSpans_39 : decode cX12_knowSpans 39 = .ok (.iconst 1, 1) := by decide +kernel
theorem dX12_knowSpans_40 : decode cX12_knowSpans 40 = .ok (.iconst 2, 1) := by decide +kernel
theorem dX12_knowSpans_41 : decode cX12_knowSpans 41 = .ok (.aload_n 0, 1) := by decide +kernel
theorem dX12_knowSpans_42 : decode cX12_knowSpans 42 = .ok (.getfield 91, 3) := by decide +kernel
theorem dX12_knowSpans_45 : decode cX12_knowSpans 45 = .ok (.imul, 1) := by decide +kernel
theorem dX12_knowSpans_46 : decode cX12_knowSpans 46 = .ok (.ishl, 1) := by decide +kernel
theorem dX12_knowSpans_47 : decode cX12_knowSpans 47 = .ok (.istore_n 1, 1) := by decide +kernel
theorem dX12_knowSpans_48 : decode cX12_knowSpans 48 = .ok (.iconst 0, 1) := by decide +kernel
theorem dX12_knowSpans_49 : decode cX12_knowSpans 49 = .ok (.istore_n 2, 1) := by decide +kernel
theorem dX12_knowSpans_50 : decode cX12_knowSpans 50 = .ok (.iload_n 2, 1) := by decide +kernel
theorem dX12_knowSpans_51 : decode cX12_knowSpans 51 = .ok (.iload_n 1, 1) := by decide +kernel
theorem dX12_knowSpans_52 : decode cX12_knowSpans 52 = .ok (.if_icmp .ge 73, 3) := by decide +kernel
theorem dX12_knowSpans_55 : decode cX12_knowSpans 55 = .ok (.iconst 0, 1) := by decide +kernel
theorem dX12_knowSpans_56 : decode cX12_knowSpans 56 = .ok (.istore_n 3, 1) := by decide +kernel
theorem dX12_knowSpans_57 : decode cX12_knowSpans 57 = .ok (.iconst 0, 1) := by decide +kernel
theorem dX12_knowSpans_58 : decode cX12_knowSpans 58 = .ok (.istore 4, 2) := by decide +kernel
theorem dX12_knowSpans_60 : decode cX12_knowSpans 60 = .ok (.iload 4, 2) := by decide +kernel
theorem dX12_knowSpans_62 : decode cX12_knowSpans 62 = .ok (.aload_n 0, 1) := by decide +kernel
theorem dX12_knowSpans_63 : decode cX12_knowSpans 63 = .ok (.getfield 91, 3) := by decide +kernel
theorem dX12_knowSpans_66 : decode cX12_knowSpans 66 = .ok (.if_icmp .ge 28, 3) := by decide +kernel
theorem dX12_knowSpans_69 : decode cX12_knowSpans 69 = .ok (.iload_n 3, 1) := by decide +kernel
theorem dX12_knowSpans_70 : decode cX12_knowSpans 70 = .ok (.iload_n 2, 1) := by decide +kernel
theorem dX12_knowSpans_71 : decode cX12_knowSpans 71 = .ok (.iconst 2, 1) := by decide +kernel
theorem dX12_knowSpans_72 : decode cX12_knowSpans 72 = .ok (.iload 4, 2) := by decide +kernel
theorem dX12_knowSpans_74 : decode cX12_knowSpans 74 = .ok (.imul, 1) := by decide +kernel
theorem dX12_knowSpans_75 : decode cX12_knowSpans 75 = .ok (.ishr, 1) := by decide +kernel
theorem dX12_knowSpans_76 : decode cX12_knowSpans 76 = .ok (.iconst 3, 1) := by decide +kernel
theorem dX12_knowSpans_77 : decode cX12_knowSpans 77 = .ok (.iand, 1) := by decide +kernel
theorem dX12_knowSpans_78 : decode cX12_knowSpans 78 = .ok (.ifCond .le 7, 3) := by decide +kernel
theorem dX12_knowSpans_81 : decode cX12_knowSpans 81 = .ok (.iconst 1, 1) := by decide +kernel
theorem dX12_knowSpans_82 : decode cX12_knowSpans 82 = .ok (.goto 4, 3) := by decide +kernel
theorem dX12_knowSpans_85 : decode cX12_knowSpans 85 = .ok (.iconst 0, 1) := by decide +kernel
theorem dX12_knowSpans_86 : decode cX12_knowSpans 86 = .ok (.iadd, 1) := by decide +kernel
theorem dX12_knowSpans_87 : decode cX12_knowSpans 87 = .ok (.istore_n 3, 1) := by decide +kernel
theorem dX12_knowSpans_88 : decode cX12_knowSpans 88 = .ok (.iinc 4 1, 3) := by decide +kernel
theorem dX12_knowSpans_91 : decode cX12_knowSpans 91 = .ok (.goto (-31), 3) := by decide +kernel
theorem dX12_knowSpans_94 : decode cX12_knowSpans 94 = .ok (.aload_n 0, 1) := by decide +kernel
theorem dX12_knowSpans_95 : decode cX12_knowSpans 95 = .ok (.getfield 31, 3) := by decide +kernel
theorem dX12_knowSpans_98 : decode cX12_knowSpans 98 = .ok (.iload_n 2, 1) := by decide +kernel
theorem dX12_knowSpans_99 : decode cX12_knowSpans 99 = .ok (.iload_n 3, 1) := by decide +kernel
theorem dX12_knowSpans_100 : decode cX12_knowSpans 100 = .ok (.ifCond .ne 7, 3) := by decide +kernel
theorem dX12_knowSpans_103 : decode cX12_knowSpans 103 = .ok (.iconst (-1), 1) := by decide +kernel
theorem dX12_knowSpans_104 : decode cX12_knowSpans 104 = .ok (.goto 14, 3) := by decide +kernel
theorem dX12_knowSpans_107 : decode cX12_knowSpans 107 = .ok (.iload_n 3, 1) := by decide +kernel
theorem dX12_knowSpans_108 : decode cX12_knowSpans 108 = .ok (.iconst 1, 1) := by decide +kernel
theorem dX12_knowSpans_109 : decode cX12_knowSpans 109 = .ok (.if_icmp .ne 7, 3) := by decide +kernel
theorem dX12_knowSpans_112 : decode cX12_knowSpans 112 = .ok (.iconst 0, 1) := by decide +kernel
theorem dX12_knowSpans_113 : decode cX12_knowSpans 113 = .ok (.goto 5, 3) := by decide +kernel
theorem dX12_knowSpans_116 : decode cX12_knowSpans 116 = .ok (.bipush 13, 2) := by decide +kernel
theorem dX12_knowSpans_118 : decode cX12_knowSpans 118 = .ok (.iastore, 1) := by decide +kernel
theorem dX12_knowSpans_119 : decode cX12_knowSpans 119 = .ok (.iinc 2 1, 3) := by decide +kernel
theorem dX12_knowSpans_122 : decode cX12_knowSpans 122 = .ok (.goto (-72), 3) := by decide +kernel
theorem dX12_knowSpans_125 : decode cX12_knowSpans 125 = .ok (.iconst 0, 1) := by decide +kernel
theorem dX12_knowSpans_126 : decode cX12_knowSpans 126 = .ok (.istore_n 2, 1) := by decide +kernel
theorem dX12_knowSpans_127 : decode cX12_knowSpans 127 = .ok (.iload_n 2, 1) := by decide +kernel
theorem dX12_knowSpans_128 : decode cX12_knowSpans 128 = .ok (.bipush 12, 2) := by decide +kernel
theorem dX12_knowSpans_130 : decode cX12_knowSpans 130 = .ok (.if_icmp .ge 51, 3) := by decide +kernel
theorem dX12_knowSpans_133 : decode cX12_knowSpans 133 = .ok (.iconst 0, 1) := by decide +kernel
theorem dX12_knowSpans_134 : decode cX12_knowSpans 134 = .ok (.istore_n 3, 1) := by decide +kernel
theorem dX12_knowSpans_135 : decode cX12_knowSpans 135 = .ok (.iload_n 3, 1) := by decide +kernel
theorem dX12_knowSpans_136 : decode cX12_knowSpans 136 = .ok (.iload_n 1, 1) := by decide +kernel
theorem dX12_knowSpans_137 : decode cX12_knowSpans 137 = .ok (.if_icmp .ge 38, 3) := by decide +kernel
theorem dX12_knowSpans_140 : decode cX12_knowSpans 140 = .ok (.aload_n 0, 1) := by decide +kernel
theorem dX12_knowSpans_141 : decode cX12_knowSpans 141 = .ok (.getfield 31, 3) := by decide +kernel
theorem dX12_knowSpans_144 : decode cX12_knowSpans 144 = .ok (.iload_n 3, 1) := by decide +kernel
theorem dX12_knowSpans_145 : decode cX12_knowSpans 145 = .ok (.iaload, 1) := by decide +kernel
theorem dX12_knowSpans_146 : decode cX12_knowSpans 146 = .ok (.bipush 13, 2) := by decide +kernel
theorem dX12_knowSpans_148 : decode cX12_knowSpans 148 = .ok (.if_icmp .ne 21, 3) := by decide +kernel
theorem dX12_knowSpans_151 : decode cX12_knowSpans 151 = .ok (.aload_n 0, 1) := by decide +kernel
theorem dX12_knowSpans_152 : decode cX12_knowSpans 152 = .ok (.iload_n 3, 1) := by decide +kernel
theorem dX12_knowSpans_153 : decode cX12_knowSpans 153 = .ok (.iload_n 2, 1) := by decide +kernel
theorem dX12_knowSpans_154 : decode cX12_knowSpans 154 = .ok (.invokevirtual 131, 3) := by decide +kernel
theorem dX12_knowSpans_157 : decode cX12_knowSpans 157 = .ok (.ifCond .eq 12, 3) := by decide +kernel
theorem dX12_knowSpans_160 : decode cX12_knowSpans 160 = .ok (.aload_n 0, 1) := by decide +kernel
theorem dX12_knowSpans_161 : decode cX12_knowSpans 161 = .ok (.getfield 31, 3) := by decide +kernel
theorem dX12_knowSpans_164 : decode cX12_knowSpans 164 = .ok (.iload_n 3, 1) := by decide +kernel
theorem dX12_knowSpans_165 : decode cX12_knowSpans 165 = .ok (.iload_n 2, 1) := by decide +kernel
theorem dX12_knowSpans_166 : decode cX12_knowSpans 166 = .ok (.iconst 1, 1) := by decide +kernel
theorem dX12_knowSpans_167 : decode cX12_knowSpans 167 = .ok (.iadd, 1) := by decide +kernel
theorem dX12_knowSpans_168 : decode cX12_knowSpans 168 = .ok (.iastore, 1) := by decide +kernel
theorem dX12_knowSpans_169 : decode cX12_knowSpans 169 = .ok (.iinc 3 1, 3) := by decide +kernel
theorem dX12_knowSpans_172 : decode cX12_knowSpans 172 = .ok (.goto (-37), 3) := by decide +kernel
theorem dX12_knowSpans_175 : decode cX12_knowSpans 175 = .ok (.iinc 2 1, 3) := by decide +kernel
theorem dX12_knowSpans_178 : decode cX12_knowSpans 178 = .ok (.goto (-51), 3) := by decide +kernel
theorem dX12_knowSpans_181 : decode cX12_knowSpans 181 = .ok (.return_, 1) := by decide +kernel
theorem dX12_spans_0 : decode cX12_spans 0 = .ok (.aload_n 0, 1) := by decide +kernel
theorem dX12_spans_1 : decode cX12_spans 1 = .ok (.getfield 49, 3) := by decide +kernel
theorem dX12_spans_4 : decode cX12_spans 4 = .ok (.ifCond .ne 6, 3) := by decide +kernel
theorem dX12_spans_7 : decode cX12_spans 7 = .ok (.bipush (-2), 2) := by decide +kernel
theorem dX12_spans_9 : decode cX12_spans 9 = .ok (.ireturn, 1) := by decide +kernel
theorem dX12_spans_10 : decode cX12_spans 10 = .ok (.aload_n 0, 1) := by decide +kernel
theorem dX12_spans_11 : decode cX12_spans 11 = .ok (.getfield 91, 3) := by decide +kernel
theorem dX12_spans_14 : decode cX12_spans 14 = .ok (.bipush 6, 2) := by decide +kernel
theorem dX12_spans_16 : decode cX12_spans 16 = .ok (.if_icmp .gt 11, 3) := by decide +kernel
theorem dX12_spans_19 : decode cX12_spans 19 = .ok (.aload_n 0, 1) := by decide +kernel
theorem dX12_spans_20 : decode cX12_spans 20 = .ok (.getfield 98, 3) := by decide +kernel
theorem dX12_spans_23 : decode cX12_spans 23 = .ok (.iconst 2, 1) := by decide +kernel
theorem dX12_spans_24 : decode cX12_spans 24 = .ok (.if_icmp .le 5, 3) := by decide +kernel
theorem dX12_spans_27 : decode cX12_spans 27 = .ok (.iconst (-1), 1) := by decide +kernel
theorem dX12_spans_28 : decode cX12_spans 28 = .ok (.ireturn, 1) := by decide +kernel
theorem dX12_spans_29 : decode cX12_spans 29 = .ok (.aload_n 0, 1) := by decide +kernel
theorem dX12_spans_30 : decode cX12_spans 30 = .ok (.invokevirtual 134, 3) := by decide +kernel
theorem dX12_spans_33 : decode cX12_spans 33 = .ok (.iconst 0, 1) := by decide +kernel
theorem dX12_spans_34 : decode cX12_spans 34 = .ok (.istore_n 1, 1) := by decide +kernel
theorem dX12_spans_35 : decode cX12_spans 35 = .ok (.iconst 0, 1) := by decide +kernel
theorem dX12_spans_36 : decode cX12_spans 36 = .ok (.istore_n 2, 1) := by decide +kernel
theorem dX12_spans_37 : decode cX12_spans 37 = .ok (.iload_n 2, 1) := by decide +kernel
theorem dX12_spans_38 : decode cX12_spans 38 = .ok (.aload_n 0, 1) := by decide +kernel
theorem dX12_spans_39 : decode cX12_spans 39 = .ok (.getfield 91, 3) := by decide +kernel
theorem dX12_spans_42 : decode cX12_spans 42 = .ok (.if_icmp .ge 24, 3) := by decide +kernel
theorem dX12_spans_45 : decode cX12_spans 45 = .ok (.iload_n 1, 1) := by decide +kernel
theorem dX12_spans_46 : decode cX12_spans 46 = .ok (.aload_n 0, 1) := by decide +kernel
theorem dX12_spans_47 : decode cX12_spans 47 = .ok (.getfield 13, 3) := by decide +kernel
theorem dX12_spans_50 : decode cX12_spans 50 = .ok (.iload_n 2, 1) := by decide +kernel
theorem dX12_spans_51 : decode cX12_spans 51 = .ok (.iaload, 1) := by decide +kernel
theorem dX12_spans_52 : decode cX12_spans 52 = .ok (.iconst 1, 1) := by decide +kernel
theorem dX12_spans_53 : decode cX12_spans 53 = .ok (.iadd, 1) := by decide +kernel
theorem dX12_spans_54 : decode cX12_spans 54 = .ok (.iconst 2, 1) := by decide +kernel
theorem dX12_spans_55 : decode cX12_spans 55 = .ok (.iload_n 2, 1) := by decide +kernel
theorem dX12_spans_56 : decode cX12_spans 56 = .ok (.imul, 1) := by decide +kernel
theorem dX12_spans_57 : decode cX12_spans 57 = .ok (.ishl, 1) := by decide +kernel
theorem dX12_spans_58 : decode cX12_spans 58 = .ok (.ior, 1) := by decide +kernel
theorem dX12_spans_59 : decode cX12_spans 59 = .ok (.istore_n 1, 1) := by decide +kernel
theorem dX12_spans_60 : decode cX12_spans 60 = .ok (.iinc 2 1, 3) := by decide +kernel
theorem dX12_spans_63 : decode cX12_spans 63 = .ok (.goto (-26), 3) := by decide +kernel
theorem dX12_spans_66 : decode cX12_spans 66 = .ok (.aload_n 0, 1) := by decide +kernel
theorem dX12_spans_67 : decode cX12_spans 67 = .ok (.getfield 31, 3) := by decide +kernel
theorem dX12_spans_70 : decode cX12_spans 70 = .ok (.iload_n 1, 1) := by decide +kernel
theorem dX12_spans_71 : decode cX12_spans 71 = .ok (.iaload, 1) := by decide +kernel
theorem dX12_spans_72 : decode cX12_spans 72 = .ok (.invokestatic 108, 3) := by decide +kernel
theorem dX12_spans_75 : decode cX12_spans 75 = .ok (.ireturn, 1) := by decide +kernel
theorem dX12_choose_0 : decode cX12_choose 0 = .ok (.lconst 1, 1) := by decide +kernel
theorem dX12_choose_1 : decode cX12_choose 1 = .ok (.lstore_n 2, 1) := by decide +kernel
theorem dX12_choose_2 : decode cX12_choose 2 = .ok (.iconst 1, 1) := by decide +kernel
theorem dX12_choose_3 : decode cX12_choose 3 = .ok (.istore 4, 2) := by decide +kernel
theorem dX12_choose_5 : decode cX12_choose 5 = .ok (.iload 4, 2) := by decide +kernel
theorem dX12_choose_7 : decode cX12_choose 7 = .ok (.iload_n 1, 1) := by decide +kernel
theorem dX12_choose_8 : decode cX12_choose 8 = .ok (.if_icmp .gt 23, 3) := by decide +kernel
theorem dX12_choose_11 : decode cX12_choose 11 = .ok (.lload_n 2, 1) := by decide +kernel
theorem dX12_choose_12 : decode cX12_choose 12 = .ok (.iload_n 0, 1) := by decide +kernel
theorem dX12_choose_13 : decode cX12_choose 13 = .ok (.iconst 1, 1) := by decide +kernel
theorem dX12_choose_14 : decode cX12_choose 14 = .ok (.iadd, 1) := by decide +kernel
theorem dX12_choose_15 : decode cX12_choose 15 = .ok (.iload 4, 2) := by decide +kernel
theorem dX12_choose_17 : decode cX12_choose 17 = .ok (.isub, 1) := by decide +kernel
theorem dX12_choose_18 : decode cX12_choose 18 = .ok (.i2l, 1) := by decide +kernel
theorem dX12_choose_19 : decode cX12_choose 19 = .ok (.lmul, 1) := by decide +kernel
theorem dX12_choose_20 : decode cX12_choose 20 = .ok (.iload 4, 2) := by decide +kernel
theorem dX12_choose_22 : decode cX12_choose 22 = .ok (.i2l, 1) := by decide +kernel
theorem dX12_choose_23 : decode cX12_choose 23 = .ok (.ldiv, 1) := by decide +kernel
theorem dX12_choose_24 : decode cX12_choose 24 = .ok (.lstore_n 2, 1) := by decide +kernel
theorem dX12_choose_25 : decode cX12_choose 25 = .ok (.iinc 4 1, 3) := by decide +kernel
theorem dX12_choose_28 : decode cX12_choose 28 = .ok (.goto (-23), 3) := by decide +kernel
theorem dX12_choose_31 : decode cX12_choose 31 = .ok (.iload_n 1, 1) := by decide +kernel
theorem dX12_choose_32 : decode cX12_choose 32 = .ok (.iload_n 0, 1) := by decide +kernel
theorem dX12_choose_33 : decode cX12_choose 33 = .ok (.if_icmp .le 7, 3) := by decide +kernel
theorem dX12_choose_36 : decode cX12_choose 36 = .ok (.lconst 0, 1) := by decide +kernel
theorem dX12_choose_37 : decode cX12_choose 37 = .ok (.goto 4, 3) := by decide +kernel
theorem dX12_choose_40 : decode cX12_choose 40 = .ok (.lload_n 2, 1) := by decide +kernel
theorem dX12_choose_41 : decode cX12_choose 41 = .ok (.lreturn, 1) := by decide +kernel
theorem dX12_weight_0 : decode cX12_weight 0 = .ok (.iload_n 1, 1) := by decide +kernel
theorem dX12_weight_1 : decode cX12_weight 1 = .ok (.iconst 0, 1) := by decide +kernel
theorem dX12_weight_2 : decode cX12_weight 2 = .ok (.bipush 20, 2) := by decide +kernel
theorem dX12_weight_4 : decode cX12_weight 4 = .ok (.invokestatic 53, 3) := by decide +kernel
theorem dX12_weight_7 : decode cX12_weight 7 = .ok (.ifCond .eq 18, 3) := by decide +kernel
theorem dX12_weight_10 : decode cX12_weight 10 = .ok (.aload_n 0, 1) := by decide +kernel
theorem dX12_weight_11 : decode cX12_weight 11 = .ok (.getfield 49, 3) := by decide +kernel
theorem dX12_weight_14 : decode cX12_weight 14 = .ok (.ifCond .eq 11, 3) := by decide +kernel
theorem dX12_weight_17 : decode cX12_weight 17 = .ok (.aload_n 0, 1) := by decide +kernel
theorem dX12_weight_18 : decode cX12_weight 18 = .ok (.getfield 88, 3) := by decide +kernel
theorem dX12_weight_21 : decode cX12_weight 21 = .ok (.iconst 1, 1) := by decide +kernel
theorem dX12_weight_22 : decode cX12_weight 22 = .ok (.if_icmp .eq 7, 3) := by decide +kernel
theorem dX12_weight_25 : decode cX12_weight 25 = .ok (.ldc2_w 137, 3) := by decide +kernel
theorem dX12_weight_28 : decode cX12_weight 28 = .ok (.lreturn, 1) := by decide +kernel
theorem dX12_weight_29 : decode cX12_weight 29 = .ok (.lconst 0, 1) := by decide +kernel
theorem dX12_weight_30 : decode cX12_weight 30 = .ok (.lstore_n 2, 1) := by decide +kernel
theorem dX12_weight_31 : decode cX12_weight 31 = .ok (.iconst 0, 1) := by decide +kernel
theorem dX12_weight_32 : decode cX12_weight 32 = .ok (.istore 4, 2) := by decide +kernel
theorem dX12_weight_34 : decode cX12_weight 34 = .ok (.iload 4, 2) := by decide +kernel
theorem dX12_weight_36 : decode cX12_weight 36 = .ok (.aload_n 0, 1) := by decide +kernel
theorem dX12_weight_37 : decode cX12_weight 37 = .ok (.getfield 91, 3) := by decide +kernel
theorem dX12_weight_40 : decode cX12_weight 40 = .ok (.if_icmp .ge 39, 3) := by decide +kernel
theorem dX12_weight_43 : decode cX12_weight 43 = .ok (.iconst 0, 1) := by decide +kernel
theorem dX12_weight_44 : decode cX12_weight 44 = .ok (.istore 5, 2) := by decide +kernel
theorem dX12_weight_46 : decode cX12_weight 46 = .ok (.iload 5, 2) := by decide +kernel
theorem dX12_weight_48 : decode cX12_weight 48 = .ok (.aload_n 0, 1) := by decide +kernel
theorem dX12_weight_49 : decode cX12_weight 49 = .ok (.getfield 13, 3) := by decide +kernel
theorem dX12_weight_52 : decode cX12_weight 52 = .ok (.iload 4, 2) := by decide +kernel
theorem dX12_weight_54 : decode cX12_weight 54 = .ok (.iaload, 1) := by decide +kernel
theorem dX12_weight_55 : decode cX12_weight 55 = .ok (.if_icmp .gt 18, 3) := by decide +kernel
theorem dX12_weight_58 : decode cX12_weight 58 = .ok (.lload_n 2, 1) := by decide +kernel
theorem dX12_weight_59 : decode cX12_weight 59 = .ok (.iload_n 1, 1) := by decide +kernel
theorem dX12_weight_60 : decode cX12_weight 60 = .ok (.iload 5, 2) := by decide +kernel
theorem dX12_weight_62 : decode cX12_weight 62 = .ok (.invokestatic 139, 3) := by decide +kernel
theorem dX12_weight_65 : decode cX12_weight 65 = .ok (.ladd, 1) := by decide +kernel
theorem dX12_weight_66 : decode cX12_weight 66 = .ok (.lstore_n 2, 1) := by decide +kernel
theorem dX12_weight_67 : decode cX12_weight 67 = .ok (.iinc 5 1, 3) := by decide +kernel
theorem dX12_weight_70 : decode cX12_weight 70 = .ok (.goto (-24), 3) := by decide +kernel
theorem dX12_weight_73 : decode cX12_weight 73 = .ok (.iinc 4 1, 3) := by decide +kernel
theorem dX12_weight_76 : decode cX12_weight 76 = .ok (.goto (-42), 3) := by decide +kernel
theorem dX12_weight_79 : decode cX12_weight 79 = .ok (.lload_n 2, 1) := by decide +kernel
theorem dX12_weight_80 : decode cX12_weight 80 = .ok (.lreturn, 1) := by decide +kernel
theorem dX12_greater_0 : decode cX12_greater 0 = .ok (.aload_n 0, 1) := by decide +kernel
theorem dX12_greater_1 : decode cX12_greater 1 = .ok (.iload_n 1, 1) := by decide +kernel
theorem dX12_greater_2 : decode cX12_greater 2 = .ok (.iconst 1, 1) := by decide +kernel
theorem dX12_greater_3 : decode cX12_greater 3 = .ok (.invokevirtual 113, 3) := by decide +kernel
theorem dX12_greater_6 : decode cX12_greater 6 = .ok (.ifCond .ne 7, 3) := by decide +kernel
theorem dX12_greater_9 : decode cX12_greater 9 = .ok (.iconst (-1), 1) := by decide +kernel
theorem dX12_greater_10 : decode cX12_greater 10 = .ok (.goto 11, 3) := by decide +kernel
theorem dX12_greater_13 : decode cX12_greater 13 = .ok (.aload_n 0, 1) := by decide +kernel
theorem dX12_greater_14 : decode cX12_greater 14 = .ok (.aload_n 0, 1) := by decide +kernel
theorem dX12_greater_15 : decode cX12_greater 15 = .ok (.getfield 46, 3) := by decide +kernel
theorem dX12_greater_18 : decode cX12_greater 18 = .ok (.invokevirtual 104, 3) := by decide +kernel
theorem dX12_greater_21 : decode cX12_greater 21 = .ok (.istore_n 2, 1) := by decide +kernel
theorem dX12_greater_22 : decode cX12_greater 22 = .ok (.aload_n 0, 1) := by decide +kernel
theorem dX12_greater_23 : decode cX12_greater 23 = .ok (.iload_n 1, 1) := by decide +kernel
theorem dX12_greater_24 : decode cX12_greater 24 = .ok (.iconst 0, 1) := by decide +kernel
theorem dX12_greater_25 : decode cX12_greater 25 = .ok (.invokevirtual 113, 3) := by decide +kernel
theorem dX12_greater_28 : decode cX12_greater 28 = .ok (.ifCond .ne 7, 3) := by decide +kernel
theorem dX12_greater_31 : decode cX12_greater 31 = .ok (.iconst (-1), 1) := by decide +kernel
theorem dX12_greater_32 : decode cX12_greater 32 = .ok (.goto 11, 3) := by decide +kernel
theorem dX12_greater_35 : decode cX12_greater 35 = .ok (.aload_n 0, 1) := by decide +kernel
theorem dX12_greater_36 : decode cX12_greater 36 = .ok (.aload_n 0, 1) := by decide +kernel
theorem dX12_greater_37 : decode cX12_greater 37 = .ok (.getfield 46, 3) := by decide +kernel
theorem dX12_greater_40 : decode cX12_greater 40 = .ok (.invokevirtual 104, 3) := by decide +kernel
theorem dX12_greater_43 : decode cX12_greater 43 = .ok (.istore_n 3, 1) := by decide +kernel
theorem dX12_greater_44 : decode cX12_greater 44 = .ok (.iload_n 2, 1) := by decide +kernel
theorem dX12_greater_45 : decode cX12_greater 45 = .ok (.iload_n 3, 1) := by decide +kernel
theorem dX12_greater_46 : decode cX12_greater 46 = .ok (.if_icmp .le 7, 3) := by decide +kernel
theorem dX12_greater_49 : decode cX12_greater 49 = .ok (.iload_n 2, 1) := by decide +kernel
theorem dX12_greater_50 : decode cX12_greater 50 = .ok (.goto 4, 3) := by decide +kernel
theorem dX12_greater_53 : decode cX12_greater 53 = .ok (.iload_n 3, 1) := by decide +kernel
theorem dX12_greater_54 : decode cX12_greater 54 = .ok (.ireturn, 1) := by decide +kernel
theorem dX12_best_0 : decode cX12_best 0 = .ok (.aload_n 0, 1) := by decide +kernel
theorem dX12_best_1 : decode cX12_best 1 = .ok (.getfield 49, 3) := by decide +kernel
theorem dX12_best_4 : decode cX12_best 4 = .ok (.ifCond .eq 27, 3) := by decide +kernel
theorem dX12_best_7 : decode cX12_best 7 = .ok (.aload_n 0, 1) := by decide +kernel
theorem dX12_best_8 : decode cX12_best 8 = .ok (.aload_n 0, 1) := by decide +kernel
theorem dX12_best_9 : decode cX12_best 9 = .ok (.getfield 13, 3) := by decide +kernel
theorem dX12_best_12 : decode cX12_best 12 = .ok (.invokevirtual 104, 3) := by decide +kernel
theorem dX12_best_15 : decode cX12_best 15 = .ok (.ifCond .eq 16, 3) := by decide +kernel
theorem dX12_best_18 : decode cX12_best 18 = .ok (.aload_n 0, 1) := by decide +kernel
theorem dX12_best_19 : decode cX12_best 19 = .ok (.aload_n 0, 1) := by decide +kernel
theorem dX12_best_20 : decode cX12_best 20 = .ok (.getfield 13, 3) := by decide +kernel
theorem dX12_best_23 : decode cX12_best 23 = .ok (.invokevirtual 104, 3) := by decide +kernel
theorem dX12_best_26 : decode cX12_best 26 = .ok (.bipush 13, 2) := by decide +kernel
theorem dX12_best_28 : decode cX12_best 28 = .ok (.if_icmp .ne 6, 3) := by decide +kernel
theorem dX12_best_31 : decode cX12_best 31 = .ok (.bipush (-2), 2) := by decide +kernel
theorem dX12_best_33 : decode cX12_best 33 = .ok (.ireturn, 1) := by decide +kernel
theorem dX12_best_34 : decode cX12_best 34 = .ok (.aload_n 0, 1) := by decide +kernel
theorem dX12_best_35 : decode cX12_best 35 = .ok (.aload_n 0, 1) := by decide +kernel
theorem dX12_best_36 : decode cX12_best 36 = .ok (.getfield 13, 3) := by decide +kernel
theorem dX12_best_39 : decode cX12_best 39 = .ok (.invokevirtual 104, 3) := by decide +kernel
theorem dX12_best_42 : decode cX12_best 42 = .ok (.istore_n 1, 1) := by decide +kernel
theorem dX12_best_43 : decode cX12_best 43 = .ok (.iconst 1, 1) := by decide +kernel
theorem dX12_best_44 : decode cX12_best 44 = .ok (.istore_n 2, 1) := by decide +kernel
theorem dX12_best_45 : decode cX12_best 45 = .ok (.iload_n 2, 1) := by decide +kernel
theorem dX12_best_46 : decode cX12_best 46 = .ok (.bipush 13, 2) := by decide +kernel
theorem dX12_best_48 : decode cX12_best 48 = .ok (.if_icmp .gt 18, 3) := by decide +kernel
theorem dX12_best_51 : decode cX12_best 51 = .ok (.aload_n 0, 1) := by decide +kernel
theorem dX12_best_52 : decode cX12_best 52 = .ok (.aload_n 0, 1) := by decide +kernel
theorem dX12_best_53 : decode cX12_best 53 = .ok (.getfield 88, 3) := by decide +kernel
theorem dX12_best_56 : decode cX12_best 56 = .ok (.iload_n 2, 1) := by decide +kernel
theorem dX12_best_57 : decode cX12_best 57 = .ok (.invokevirtual 94, 3) := by decide +kernel
theorem dX12_best_60 : decode cX12_best 60 = .ok (.iinc 2 1, 3) := by decide +kernel
theorem dX12_best_63 : decode cX12_best 63 = .ok (.goto (-18), 3) := by decide +kernel
theorem dX12_best_66 : decode cX12_best 66 = .ok (.iconst 0, 1) := by decide +kernel
theorem dX12_best_67 : decode cX12_best 67 = .ok (.istore_n 2, 1) := by decide +kernel
theorem dX12_best_68 : decode cX12_best 68 = .ok (.aload_n 0, 1) := by decide +kernel
theorem dX12_best_69 : decode cX12_best 69 = .ok (.iconst 0, 1) := by decide +kernel
theorem dX12_best_70 : decode cX12_best 70 = .ok (.invokevirtual 143, 3) := by decide +kernel
theorem dX12_best_73 : decode cX12_best 73 = .ok (.istore_n 3, 1) := by decide +kernel
theorem dX12_best_74 : decode cX12_best 74 = .ok (.iconst 1, 1) := by decide +kernel
theorem dX12_best_75 : decode cX12_best 75 = .ok (.istore 4, 2) := by decide +kernel
theorem dX12_best_77 : decode cX12_best 77 = .ok (.iload 4, 2) := by decide +kernel
theorem dX12_best_79 : decode cX12_best 79 = .ok (.iconst 1, 1) := by decide +kernel
theorem dX12_best_80 : decode cX12_best 80 = .ok (.aload_n 0, 1) := by decide +kernel
theorem dX12_best_81 : decode cX12_best 81 = .ok (.getfield 91, 3) := by decide +kernel
theorem dX12_best_84 : decode cX12_best 84 = .ok (.ishl, 1) := by decide +kernel
theorem dX12_best_85 : decode cX12_best 85 = .ok (.if_icmp .ge 29, 3) := by decide +kernel
theorem dX12_best_88 : decode cX12_best 88 = .ok (.aload_n 0, 1) := by decide +kernel
theorem dX12_best_89 : decode cX12_best 89 = .ok (.iload 4, 2) := by decide +kernel
theorem dX12_best_91 : decode cX12_best 91 = .ok (.invokevirtual 143, 3) := by decide +kernel
theorem dX12_best_94 : decode cX12_best 94 = .ok (.istore 5, 2) := by decide +kernel
theorem dX12_best_96 : decode cX12_best 96 = .ok (.iload 5, 2) := by decide +kernel
theorem dX12_best_98 : decode cX12_best 98 = .ok (.iload_n 3, 1) := by decide +kernel
theorem dX12_best_99 : decode cX12_best 99 = .ok (.if_icmp .ge 9, 3) := by decide +kernel
theorem dX12_best_102 : decode cX12_best 102 = .ok (.iload 4, 2) := by decide +kernel
theorem dX12_best_104 : decode cX12_best 104 = .ok (.istore_n 2, 1) := by decide +kernel
theorem dX12_best_105 : decode cX12_best 105 = .ok (.iload 5, 2) := by decide +kernel
theorem dX12_best_107 : decode cX12_best 107 = .ok (.istore_n 3, 1) := by decide +kernel
theorem dX12_best_108 : decode cX12_best 108 = .ok (.iinc 4 1, 3) := by decide +kernel
theorem dX12_best_111 : decode cX12_best 111 = .ok (.goto (-34), 3) := by decide +kernel
theorem dX12_best_114 : decode cX12_best 114 = .ok (.iload_n 2, 1) := by decide +kernel
theorem dX12_best_115 : decode cX12_best 115 = .ok (.ireturn, 1) := by decide +kernel
theorem dX12_worse_0 : decode cX12_worse 0 = .ok (.aload_n 0, 1) := by decide +kernel
theorem dX12_worse_1 : decode cX12_worse 1 = .ok (.getfield 49, 3) := by decide +kernel
theorem dX12_worse_4 : decode cX12_worse 4 = .ok (.ifCond .eq 10, 3) := by decide +kernel
theorem dX12_worse_7 : decode cX12_worse 7 = .ok (.aload_n 0, 1) := by decide +kernel
theorem dX12_worse_8 : decode cX12_worse 8 = .ok (.getfield 7, 3) := by decide +kernel
theorem dX12_worse_11 : decode cX12_worse 11 = .ok (.ifCond .ge 6, 3) := by decide +kernel
theorem dX12_worse_14 : decode cX12_worse 14 = .ok (.bipush (-2), 2) := by decide +kernel
theorem dX12_worse_16 : decode cX12_worse 16 = .ok (.ireturn, 1) := by decide +kernel
theorem dX12_worse_17 : decode cX12_worse 17 = .ok (.aload_n 0, 1) := by decide +kernel
theorem dX12_worse_18 : decode cX12_worse 18 = .ok (.aload_n 0, 1) := by decide +kernel
theorem dX12_worse_19 : decode cX12_worse 19 = .ok (.getfield 7, 3) := by decide +kernel
theorem dX12_worse_22 : decode cX12_worse 22 = .ok (.iconst 1, 1) := by decide +kernel
theorem dX12_worse_23 : decode cX12_worse 23 = .ok (.invokevirtual 113, 3) := by decide +kernel
theorem dX12_worse_26 : decode cX12_worse 26 = .ok (.ifCond .ne 7, 3) := by decide +kernel
theorem dX12_worse_29 : decode cX12_worse 29 = .ok (.iconst (-1), 1) := by decide +kernel
theorem dX12_worse_30 : decode cX12_worse 30 = .ok (.goto 11, 3) := by decide +kernel
theorem dX12_worse_33 : decode cX12_worse 33 = .ok (.aload_n 0, 1) := by decide +kernel
theorem dX12_worse_34 : decode cX12_worse 34 = .ok (.aload_n 0, 1) := by decide +kernel
theorem dX12_worse_35 : decode cX12_worse 35 = .ok (.getfield 46, 3) := by decide +kernel
theorem dX12_worse_38 : decode cX12_worse 38 = .ok (.invokevirtual 104, 3) := by decide +kernel
theorem dX12_worse_41 : decode cX12_worse 41 = .ok (.istore_n 1, 1) := by decide +kernel
theorem dX12_worse_42 : decode cX12_worse 42 = .ok (.aload_n 0, 1) := by decide +kernel
theorem dX12_worse_43 : decode cX12_worse 43 = .ok (.aload_n 0, 1) := by decide +kernel
theorem dX12_worse_44 : decode cX12_worse 44 = .ok (.getfield 7, 3) := by decide +kernel
theorem dX12_worse_47 : decode cX12_worse 47 = .ok (.iconst 0, 1) := by decide +kernel
theorem dX12_worse_48 : decode cX12_worse 48 = .ok (.invokevirtual 113, 3) := by decide +kernel
theorem dX12_worse_51 : decode cX12_worse 51 = .ok (.ifCond .ne 7, 3) := by decide +kernel
theorem dX12_worse_54 : decode cX12_worse 54 = .ok (.iconst (-1), 1) := by decide +kernel
theorem dX12_worse_55 : decode cX12_worse 55 = .ok (.goto 11, 3) := by decide +kernel
theorem dX12_worse_58 : decode cX12_worse 58 = .ok (.aload_n 0, 1) := by decide +kernel
theorem dX12_worse_59 : decode cX12_worse 59 = .ok (.aload_n 0, 1) := by decide +kernel
theorem dX12_worse_60 : decode cX12_worse 60 = .ok (.getfield 46, 3) := by decide +kernel
theorem dX12_worse_63 : decode cX12_worse 63 = .ok (.invokevirtual 104, 3) := by decide +kernel
theorem dX12_worse_66 : decode cX12_worse 66 = .ok (.istore_n 2, 1) := by decide +kernel
theorem dX12_worse_67 : decode cX12_worse 67 = .ok (.iload_n 1, 1) := by decide +kernel
theorem dX12_worse_68 : decode cX12_worse 68 = .ok (.bipush 13, 2) := by decide +kernel
theorem dX12_worse_70 : decode cX12_worse 70 = .ok (.if_icmp .eq 9, 3) := by decide +kernel
theorem dX12_worse_73 : decode cX12_worse 73 = .ok (.iload_n 2, 1) := by decide +kernel
theorem dX12_worse_74 : decode cX12_worse 74 = .ok (.bipush 13, 2) := by decide +kernel
theorem dX12_worse_76 : decode cX12_worse 76 = .ok (.if_icmp .ne 8, 3) := by decide +kernel
theorem dX12_worse_79 : decode cX12_worse 79 = .ok (.bipush (-2), 2) := by decide +kernel
theorem dX12_worse_81 : decode cX12_worse 81 = .ok (.goto 13, 3) := by decide +kernel
theorem dX12_worse_84 : decode cX12_worse 84 = .ok (.iload_n 1, 1) := by decide +kernel
theorem dX12_worse_85 : decode cX12_worse 85 = .ok (.iload_n 2, 1) := by decide +kernel
theorem dX12_worse_86 : decode cX12_worse 86 = .ok (.if_icmp .lt 7, 3) := by decide +kernel
theorem dX12_worse_89 : decode cX12_worse 89 = .ok (.iconst 1, 1) := by decide +kernel
theorem dX12_worse_90 : decode cX12_worse 90 = .ok (.goto 4, 3) := by decide +kernel
theorem dX12_worse_93 : decode cX12_worse 93 = .ok (.iconst 0, 1) := by decide +kernel
theorem dX12_worse_94 : decode cX12_worse 94 = .ok (.ireturn, 1) := by decide +kernel
theorem dX12_set_0 : decode cX12_set 0 = .ok (.iload_n 1, 1) := by decide +kernel
theorem dX12_set_1 : decode cX12_set 1 = .ok (.iconst 0, 1) := by decide +kernel
theorem dX12_set_2 : decode cX12_set 2 = .ok (.ldc 112, 2) := by decide +kernel
theorem dX12_set_4 : decode cX12_set 4 = .ok (.invokestatic 53, 3) := by decide +kernel
theorem dX12_set_7 : decode cX12_set 7 = .ok (.ifCond .ne 5, 3) := by decide +kernel
theorem dX12_set_10 : decode cX12_set 10 = .ok (.iconst (-1), 1) := by decide +kernel
theorem dX12_set_11 : decode cX12_set 11 = .ok (.ireturn, 1) := by decide +kernel
theorem dX12_set_12 : decode cX12_set 12 = .ok (.aload_n 0, 1) := by decide +kernel
theorem dX12_set_13 : decode cX12_set 13 = .ok (.getfield 146, 3) := by decide +kernel
theorem dX12_set_16 : decode cX12_set 16 = .ok (.bipush 12, 2) := by decide +kernel
theorem dX12_set_18 : decode cX12_set 18 = .ok (.if_icmp .ne 6, 3) := by decide +kernel
theorem dX12_set_21 : decode cX12_set 21 = .ok (.bipush (-3), 2) := by decide +kernel
theorem dX12_set_23 : decode cX12_set 23 = .ok (.ireturn, 1) := by decide +kernel
theorem dX12_set_24 : decode cX12_set 24 = .ok (.aload_n 0, 1) := by decide +kernel
theorem dX12_set_25 : decode cX12_set 25 = .ok (.getfield 20, 3) := by decide +kernel
theorem dX12_set_28 : decode cX12_set 28 = .ok (.aload_n 0, 1) := by decide +kernel
theorem dX12_set_29 : decode cX12_set 29 = .ok (.getfield 146, 3) := by decide +kernel
theorem dX12_set_32 : decode cX12_set 32 = .ok (.iload_n 1, 1) := by decide +kernel
theorem dX12_set_33 : decode cX12_set 33 = .ok (.iastore, 1) := by decide +kernel
theorem dX12_set_34 : decode cX12_set 34 = .ok (.aload_n 0, 1) := by decide +kernel
theorem dX12_set_35 : decode cX12_set 35 = .ok (.dup, 1) := by decide +kernel
theorem dX12_set_36 : decode cX12_set 36 = .ok (.getfield 146, 3) := by decide +kernel
theorem dX12_set_39 : decode cX12_set 39 = .ok (.iconst 1, 1) := by decide +kernel
theorem dX12_set_40 : decode cX12_set 40 = .ok (.iadd, 1) := by decide +kernel
theorem dX12_set_41 : decode cX12_set 41 = .ok (.putfield 146, 3) := by decide +kernel
theorem dX12_set_44 : decode cX12_set 44 = .ok (.aload_n 0, 1) := by decide +kernel
theorem dX12_set_45 : decode cX12_set 45 = .ok (.getfield 146, 3) := by decide +kernel
theorem dX12_set_48 : decode cX12_set 48 = .ok (.ireturn, 1) := by decide +kernel
theorem dX12_drop_0 : decode cX12_drop 0 = .ok (.aload_n 0, 1) := by decide +kernel
theorem dX12_drop_1 : decode cX12_drop 1 = .ok (.getfield 146, 3) := by decide +kernel
theorem dX12_drop_4 : decode cX12_drop 4 = .ok (.ifCond .ne 6, 3) := by decide +kernel
theorem dX12_drop_7 : decode cX12_drop 7 = .ok (.bipush (-2), 2) := by decide +kernel
theorem dX12_drop_9 : decode cX12_drop 9 = .ok (.ireturn, 1) := by decide +kernel
theorem dX12_drop_10 : decode cX12_drop 10 = .ok (.aload_n 0, 1) := by decide +kernel
theorem dX12_drop_11 : decode cX12_drop 11 = .ok (.dup, 1) := by decide +kernel
theorem dX12_drop_12 : decode cX12_drop 12 = .ok (.getfield 146, 3) := by decide +kernel
theorem dX12_drop_15 : decode cX12_drop 15 = .ok (.iconst 1, 1) := by decide +kernel
theorem dX12_drop_16 : decode cX12_drop 16 = .ok (.isub, 1) := by decide +kernel
theorem dX12_drop_17 : decode cX12_drop 17 = .ok (.putfield 146, 3) := by decide +kernel
theorem dX12_drop_20 : decode cX12_drop 20 = .ok (.aload_n 0, 1) := by decide +kernel
theorem dX12_drop_21 : decode cX12_drop 21 = .ok (.getfield 146, 3) := by decide +kernel
theorem dX12_drop_24 : decode cX12_drop 24 = .ok (.ireturn, 1) := by decide +kernel
theorem dX12_wordOf_0 : decode cX12_wordOf 0 = .ok (.iconst 0, 1) := by decide +kernel
theorem dX12_wordOf_1 : decode cX12_wordOf 1 = .ok (.istore_n 2, 1) := by decide +kernel
theorem dX12_wordOf_2 : decode cX12_wordOf 2 = .ok (.iconst 0, 1) := by decide +kernel
theorem dX12_wordOf_3 : decode cX12_wordOf 3 = .ok (.istore_n 3, 1) := by decide +kernel
theorem dX12_wordOf_4 : decode cX12_wordOf 4 = .ok (.iload_n 3, 1) := by decide +kernel
theorem dX12_wordOf_5 : decode cX12_wordOf 5 = .ok (.aload_n 0, 1) := by decide +kernel
theorem dX12_wordOf_6 : decode cX12_wordOf 6 = .ok (.getfield 146, 3) := by decide +kernel
theorem dX12_wordOf_9 : decode cX12_wordOf 9 = .ok (.if_icmp .ge 24, 3) := by decide +kernel
theorem dX12_wordOf_12 : decode cX12_wordOf 12 = .ok (.iload_n 2, 1) := by decide +kernel
theorem dX12_wordOf_13 : decode cX12_wordOf 13 = .ok (.aload_n 0, 1) := by decide +kernel
theorem dX12_wordOf_14 : decode cX12_wordOf 14 = .ok (.getfield 20, 3) := by decide +kernel
theorem dX12_wordOf_17 : decode cX12_wordOf 17 = .ok (.iload_n 3, 1) := by decide +kernel
theorem dX12_wordOf_18 : decode cX12_wordOf 18 = .ok (.iaload, 1) := by decide +kernel
theorem dX12_wordOf_19 : decode cX12_wordOf 19 = .ok (.iload_n 1, 1) := by decide +kernel
theorem dX12_wordOf_20 : decode cX12_wordOf 20 = .ok (.ishr, 1) := by decide +kernel
theorem dX12_wordOf_21 : decode cX12_wordOf 21 = .ok (.iconst 1, 1) := by decide +kernel
theorem dX12_wordOf_22 : decode cX12_wordOf 22 = .ok (.iand, 1) := by decide +kernel
theorem dX12_wordOf_23 : decode cX12_wordOf 23 = .ok (.iload_n 3, 1) := by decide +kernel
theorem dX12_wordOf_24 : decode cX12_wordOf 24 = .ok (.ishl, 1) := by decide +kernel
theorem dX12_wordOf_25 : decode cX12_wordOf 25 = .ok (.ior, 1) := by decide +kernel
theorem dX12_wordOf_26 : decode cX12_wordOf 26 = .ok (.istore_n 2, 1) := by decide +kernel
theorem dX12_wordOf_27 : decode cX12_wordOf 27 = .ok (.iinc 3 1, 3) := by decide +kernel
theorem dX12_wordOf_30 : decode cX12_wordOf 30 = .ok (.goto (-26), 3) := by decide +kernel
theorem dX12_wordOf_33 : decode cX12_wordOf 33 = .ok (.iload_n 2, 1) := by decide +kernel
theorem dX12_wordOf_34 : decode cX12_wordOf 34 = .ok (.ireturn, 1) := by decide +kernel
theorem dX12_isNumber_0 : decode cX12_isNumber 0 = .ok (.iload_n 0, 1) := by decide +kernel
theorem dX12_isNumber_1 : decode cX12_isNumber 1 = .ok (.iconst 0, 1) := by decide +kernel
theorem dX12_isNumber_2 : decode cX12_isNumber 2 = .ok (.bipush 15, 2) := by decide +kernel
theorem dX12_isNumber_4 : decode cX12_isNumber 4 = .ok (.invokestatic 53, 3) := by decide +kernel
theorem dX12_isNumber_7 : decode cX12_isNumber 7 = .ok (.ireturn, 1) := by decide +kernel
theorem dX12_word_0 : decode cX12_word 0 = .ok (.iload_n 1, 1) := by decide +kernel
theorem dX12_word_1 : decode cX12_word 1 = .ok (.invokestatic 149, 3) := by decide +kernel
theorem dX12_word_4 : decode cX12_word 4 = .ok (.ifCond .eq 11, 3) := by decide +kernel
theorem dX12_word_7 : decode cX12_word 7 = .ok (.aload_n 0, 1) := by decide +kernel
theorem dX12_word_8 : decode cX12_word 8 = .ok (.iload_n 1, 1) := by decide +kernel
theorem dX12_word_9 : decode cX12_word 9 = .ok (.invokevirtual 153, 3) := by decide +kernel
theorem dX12_word_12 : decode cX12_word 12 = .ok (.goto 4, 3) := by decide +kernel
theorem dX12_word_15 : decode cX12_word 15 = .ok (.iconst (-1), 1) := by decide +kernel
theorem dX12_word_16 : decode cX12_word 16 = .ok (.ireturn, 1) := by decide +kernel
theorem dX12_ones_0 : decode cX12_ones 0 = .ok (.iconst 0, 1) := by decide +kernel
theorem dX12_ones_1 : decode cX12_ones 1 = .ok (.istore_n 1, 1) := by decide +kernel
theorem dX12_ones_2 : decode cX12_ones 2 = .ok (.iload_n 0, 1) := by decide +kernel
theorem dX12_ones_3 : decode cX12_ones 3 = .ok (.istore_n 2, 1) := by decide +kernel
theorem dX12_ones_4 : decode cX12_ones 4 = .ok (.iload_n 2, 1) := by decide +kernel
theorem dX12_ones_5 : decode cX12_ones 5 = .ok (.ifCond .eq 15, 3) := by decide +kernel
theorem dX12_ones_8 : decode cX12_ones 8 = .ok (.iinc 1 1, 3) := by decide +kernel
theorem dX12_ones_11 : decode cX12_ones 11 = .ok (.iload_n 2, 1) := by decide +kernel
theorem dX12_ones_12 : decode cX12_ones 12 = .ok (.iload_n 2, 1) := by decide +kernel
theorem dX12_ones_13 : decode cX12_ones 13 = .ok (.iconst 1, 1) := by decide +kernel
theorem dX12_ones_14 : decode cX12_ones 14 = .ok (.isub, 1) := by decide +kernel
theorem dX12_ones_15 : decode cX12_ones 15 = .ok (.iand, 1) := by decide +kernel
theorem dX12_ones_16 : decode cX12_ones 16 = .ok (.istore_n 2, 1) := by decide +kernel
theorem dX12_ones_17 : decode cX12_ones 17 = .ok (.goto (-13), 3) := by decide +kernel
theorem dX12_ones_20 : decode cX12_ones 20 = .ok (.iload_n 1, 1) := by decide +kernel
theorem dX12_ones_21 : decode cX12_ones 21 = .ok (.ireturn, 1) := by decide +kernel
theorem dX12_apart_0 : decode cX12_apart 0 = .ok (.iload_n 1, 1) := by decide +kernel
theorem dX12_apart_1 : decode cX12_apart 1 = .ok (.invokestatic 149, 3) := by decide +kernel
theorem dX12_apart_4 : decode cX12_apart 4 = .ok (.ifCond .eq 27, 3) := by decide +kernel
theorem dX12_apart_7 : decode cX12_apart 7 = .ok (.iload_n 2, 1) := by decide +kernel
theorem dX12_apart_8 : decode cX12_apart 8 = .ok (.invokestatic 149, 3) := by decide +kernel
theorem dX12_apart_11 : decode cX12_apart 11 = .ok (.ifCond .eq 20, 3) := by decide +kernel
theorem dX12_apart_14 : decode cX12_apart 14 = .ok (.aload_n 0, 1) := by decide +kernel
theorem dX12_apart_15 : decode cX12_apart 15 = .ok (.iload_n 1, 1) := by decide +kernel
theorem dX12_apart_16 : decode cX12_apart 16 = .ok (.invokevirtual 153, 3) := by decide +kernel
theorem dX12_apart_19 : decode cX12_apart 19 = .ok (.aload_n 0, 1) := by decide +kernel
theorem dX12_apart_20 : decode cX12_apart 20 = .ok (.iload_n 2, 1) := by decide +kernel
theorem dX12_apart_21 : decode cX12_apart 21 = .ok (.invokevirtual 153, 3) := by decide +kernel
theorem dX12_apart_24 : decode cX12_apart 24 = .ok (.ixor, 1) := by decide +kernel
theorem dX12_apart_25 : decode cX12_apart 25 = .ok (.invokestatic 156, 3) := by decide +kernel
theorem dX12_apart_28 : decode cX12_apart 28 = .ok (.goto 4, 3) := by decide +kernel
theorem dX12_apart_31 : decode cX12_apart 31 = .ok (.iconst (-1), 1) := by decide +kernel
theorem dX12_apart_32 : decode cX12_apart 32 = .ok (.ireturn, 1) := by decide +kernel
theorem dX12_serves_0 : decode cX12_serves 0 = .ok (.iload_n 1, 1) := by decide +kernel
theorem dX12_serves_1 : decode cX12_serves 1 = .ok (.iconst 1, 1) := by decide +kernel
theorem dX12_serves_2 : decode cX12_serves 2 = .ok (.bipush 16, 2) := by decide +kernel
theorem dX12_serves_4 : decode cX12_serves 4 = .ok (.invokestatic 53, 3) := by decide +kernel
theorem dX12_serves_7 : decode cX12_serves 7 = .ok (.ifCond .eq 12, 3) := by decide +kernel
theorem dX12_serves_10 : decode cX12_serves 10 = .ok (.iload_n 2, 1) := by decide +kernel
theorem dX12_serves_11 : decode cX12_serves 11 = .ok (.iconst 0, 1) := by decide +kernel
theorem dX12_serves_12 : decode cX12_serves 12 = .ok (.iconst 3, 1) := by decide +kernel
theorem dX12_serves_13 : decode cX12_serves 13 = .ok (.invokestatic 53, 3) := by decide +kernel
theorem dX12_serves_16 : decode cX12_serves 16 = .ok (.ifCond .ne 5, 3) := by decide +kernel
theorem dX12_serves_19 : decode cX12_serves 19 = .ok (.iconst (-1), 1) := by decide +kernel
theorem dX12_serves_20 : decode cX12_serves 20 = .ok (.ireturn, 1) := by decide +kernel
theorem dX12_serves_21 : decode cX12_serves 21 = .ok (.iconst 1, 1) := by decide +kernel
theorem dX12_serves_22 : decode cX12_serves 22 = .ok (.istore_n 3, 1) := by decide +kernel
theorem dX12_serves_23 : decode cX12_serves 23 = .ok (.iconst 0, 1) := by decide +kernel
theorem dX12_serves_24 : decode cX12_serves 24 = .ok (.istore 4, 2) := by decide +kernel
theorem dX12_serves_26 : decode cX12_serves 26 = .ok (.iload 4, 2) := by decide +kernel
theorem dX12_serves_28 : decode cX12_serves 28 = .ok (.iload_n 1, 1) := by decide +kernel
theorem dX12_serves_29 : decode cX12_serves 29 = .ok (.if_icmp .ge 59, 3) := by decide +kernel
theorem dX12_serves_32 : decode cX12_serves 32 = .ok (.iload 4, 2) := by decide +kernel
theorem dX12_serves_34 : decode cX12_serves 34 = .ok (.iconst 1, 1) := by decide +kernel
theorem dX12_serves_35 : decode cX12_serves 35 = .ok (.iadd, 1) := by decide +kernel
theorem dX12_serves_36 : decode cX12_serves 36 = .ok (.istore 5, 2) := by decide +kernel
theorem dX12_serves_38 : decode cX12_serves 38 = .ok (.iload 5, 2) := by decide +kernel
theorem dX12_serves_40 : decode cX12_serves 40 = .ok (.iload_n 1, 1) := by decide +kernel
theorem dX12_serves_41 : decode cX12_serves 41 = .ok (.if_icmp .ge 41, 3) := by decide +kernel
theorem dX12_serves_44 : decode cX12_serves 44 = .ok (.iload_n 3, 1) := by decide +kernel
theorem dX12_serves_45 : decode cX12_serves 45 = .ok (.ifCond .eq 29, 3) := by decide +kernel
theorem dX12_serves_48 : decode cX12_serves 48 = .ok (.aload_n 0, 1) := by decide +kernel
theorem dX12_serves_49 : decode cX12_serves 49 = .ok (.iload 4, 2) := by decide +kernel
theorem dX12_serves_51 : decode cX12_serves 51 = .ok (.invokevirtual 153, 3) := by decide +kernel
theorem dX12_serves_54 : decode cX12_serves 54 = .ok (.aload_n 0, 1) := by decide +kernel
theorem dX12_serves_55 : decode cX12_serves 55 = .ok (.iload 5, 2) := by decide +kernel
theorem dX12_serves_57 : decode cX12_serves 57 = .ok (.invokevirtual 153, 3) := by decide +kernel
theorem dX12_serves_60 : decode cX12_serves 60 = .ok (.ixor, 1) := by decide +kernel
theorem dX12_serves_61 : decode cX12_serves 61 = .ok (.invokestatic 156, 3) := by decide +kernel
theorem dX12_serves_64 : decode cX12_serves 64 = .ok (.iconst 2, 1) := by decide +kernel
theorem dX12_serves_65 : decode cX12_serves 65 = .ok (.iload_n 2, 1) := by decide +kernel
theorem dX12_serves_66 : decode cX12_serves 66 = .ok (.imul, 1) := by decide +kernel
theorem dX12_serves_67 : decode cX12_serves 67 = .ok (.if_icmp .le 7, 3) := by decide +kernel
theorem dX12_serves_70 : decode cX12_serves 70 = .ok (.iconst 1, 1) := by decide +kernel
theorem dX12_serves_71 : decode cX12_serves 71 = .ok (.goto 4, 3) := by decide +kernel
theorem dX12_serves_74 : decode cX12_serves 74 = .ok (.iconst 0, 1) := by decide +kernel
theorem dX12_serves_75 : decode cX12_serves 75 = .ok (.istore_n 3, 1) := by decide +kernel
theorem dX12_serves_76 : decode cX12_serves 76 = .ok (.iinc 5 1, 3) := by decide +kernel
theorem dX12_serves_79 : decode cX12_serves 79 = .ok (.goto (-41), 3) := by decide +kernel
theorem dX12_serves_82 : decode cX12_serves 82 = .ok (.iinc 4 1, 3) := by decide +kernel
theorem dX12_serves_85 : decode cX12_serves 85 = .ok (.goto (-59), 3) := by decide +kernel
theorem dX12_serves_88 : decode cX12_serves 88 = .ok (.iload_n 3, 1) := by decide +kernel
theorem dX12_serves_89 : decode cX12_serves 89 = .ok (.ifCond .eq 7, 3) := by decide +kernel
theorem dX12_serves_92 : decode cX12_serves 92 = .ok (.iconst 1, 1) := by decide +kernel
theorem dX12_serves_93 : decode cX12_serves 93 = .ok (.goto 4, 3) := by decide +kernel
theorem dX12_serves_96 : decode cX12_serves 96 = .ok (.iconst 0, 1) := by decide +kernel
theorem dX12_serves_97 : decode cX12_serves 97 = .ok (.ireturn, 1) := by decide +kernel
theorem dX12_isWord_0 : decode cX12_isWord 0 = .ok (.iload_n 1, 1) := by decide +kernel
theorem dX12_isWord_1 : decode cX12_isWord 1 = .ok (.iconst 0, 1) := by decide +kernel
theorem dX12_isWord_2 : decode cX12_isWord 2 = .ok (.iconst 1, 1) := by decide +kernel
theorem dX12_isWord_3 : decode cX12_isWord 3 = .ok (.aload_n 0, 1) := by decide +kernel
theorem dX12_isWord_4 : decode cX12_isWord 4 = .ok (.getfield 146, 3) := by decide +kernel
theorem dX12_isWord_7 : decode cX12_isWord 7 = .ok (.ishl, 1) := by decide +kernel
theorem dX12_isWord_8 : decode cX12_isWord 8 = .ok (.iconst 1, 1) := by decide +kernel
theorem dX12_isWord_9 : decode cX12_isWord 9 = .ok (.isub, 1) := by decide +kernel
theorem dX12_isWord_10 : decode cX12_isWord 10 = .ok (.invokestatic 53, 3) := by decide +kernel
theorem dX12_isWord_13 : decode cX12_isWord 13 = .ok (.ireturn, 1) := by decide +kernel
theorem dX12_read_0 : decode cX12_read 0 = .ok (.aload_n 0, 1) := by decide +kernel
theorem dX12_read_1 : decode cX12_read 1 = .ok (.iload_n 1, 1) := by decide +kernel
theorem dX12_read_2 : decode cX12_read 2 = .ok (.invokevirtual 159, 3) := by decide +kernel
theorem dX12_read_5 : decode cX12_read 5 = .ok (.ifCond .eq 22, 3) := by decide +kernel
theorem dX12_read_8 : decode cX12_read 8 = .ok (.iload_n 2, 1) := by decide +kernel
theorem dX12_read_9 : decode cX12_read 9 = .ok (.iconst 1, 1) := by decide +kernel
theorem dX12_read_10 : decode cX12_read 10 = .ok (.bipush 16, 2) := by decide +kernel
theorem dX12_read_12 : decode cX12_read 12 = .ok (.invokestatic 53, 3) := by decide +kernel
theorem dX12_read_15 : decode cX12_read 15 = .ok (.ifCond .eq 12, 3) := by decide +kernel
theorem dX12_read_18 : decode cX12_read 18 = .ok (.iload_n 3, 1) := by decide +kernel
theorem dX12_read_19 : decode cX12_read 19 = .ok (.iconst 0, 1) := by decide +kernel
theorem dX12_read_20 : decode cX12_read 20 = .ok (.iconst 3, 1) := by decide +kernel
theorem dX12_read_21 : decode cX12_read 21 = .ok (.invokestatic 53, 3) := by decide +kernel
theorem dX12_read_24 : decode cX12_read 24 = .ok (.ifCond .ne 5, 3) := by decide +kernel
theorem dX12_read_27 : decode cX12_read 27 = .ok (.iconst (-1), 1) := by decide +kernel
theorem dX12_read_28 : decode cX12_read 28 = .ok (.ireturn, 1) := by decide +kernel
theorem dX12_read_29 : decode cX12_read 29 = .ok (.bipush (-9), 2) := by decide +kernel
theorem dX12_read_31 : decode cX12_read 31 = .ok (.istore 4, 2) := by decide +kernel
theorem dX12_read_33 : decode cX12_read 33 = .ok (.iconst 0, 1) := by decide +kernel
theorem dX12_read_34 : decode cX12_read 34 = .ok (.istore 5, 2) := by decide +kernel
theorem dX12_read_36 : decode cX12_read 36 = .ok (.iload 5, 2) := by decide +kernel
theorem dX12_read_38 : decode cX12_read 38 = .ok (.iload_n 2, 1) := by decide +kernel
theorem dX12_read_39 : decode cX12_read 39 = .ok (.if_icmp .ge 38, 3) := by decide +kernel
theorem dX12_read_42 : decode cX12_read 42 = .ok (.aload_n 0, 1) := by decide +kernel
theorem dX12_read_43 : decode cX12_read 43 = .ok (.iload 5, 2) := by decide +kernel
theorem dX12_read_45 : decode cX12_read 45 = .ok (.invokevirtual 153, 3) := by decide +kernel
theorem dX12_read_48 : decode cX12_read 48 = .ok (.iload_n 1, 1) := by decide +kernel
theorem dX12_read_49 : decode cX12_read 49 = .ok (.ixor, 1) := by decide +kernel
theorem dX12_read_50 : decode cX12_read 50 = .ok (.invokestatic 156, 3) := by decide +kernel
theorem dX12_read_53 : decode cX12_read 53 = .ok (.iload_n 3, 1) := by decide +kernel
theorem dX12_read_54 : decode cX12_read 54 = .ok (.if_icmp .gt 17, 3) := by decide +kernel
theorem dX12_read_57 : decode cX12_read 57 = .ok (.iload 4, 2) := by decide +kernel
theorem dX12_read_59 : decode cX12_read 59 = .ok (.bipush (-9), 2) := by decide +kernel
theorem dX12_read_61 : decode cX12_read 61 = .ok (.if_icmp .eq 6, 3) := by decide +kernel
theorem dX12_read_64 : decode cX12_read 64 = .ok (.bipush (-9), 2) := by decide +kernel
theorem dX12_read_66 : decode cX12_read 66 = .ok (.ireturn, 1) := by decide +kernel
theorem dX12_read_67 : decode cX12_read 67 = .ok (.iload 5, 2) := by decide +kernel
theorem dX12_read_69 : decode cX12_read 69 = .ok (.istore 4, 2) := by decide +kernel
theorem dX12_read_71 : decode cX12_read 71 = .ok (.iinc 5 1, 3) := by decide +kernel
theorem dX12_read_74 : decode cX12_read 74 = .ok (.goto (-38), 3) := by decide +kernel
theorem dX12_read_77 : decode cX12_read 77 = .ok (.iload 4, 2) := by decide +kernel
theorem dX12_read_79 : decode cX12_read 79 = .ok (.ireturn, 1) := by decide +kernel
theorem dX12_play_0 : decode cX12_play 0 = .ok (.aload_n 0, 1) := by decide +kernel
theorem dX12_play_1 : decode cX12_play 1 = .ok (.iload_n 1, 1) := by decide +kernel
theorem dX12_play_2 : decode cX12_play 2 = .ok (.invokevirtual 159, 3) := by decide +kernel
theorem dX12_play_5 : decode cX12_play 5 = .ok (.ifCond .ne 5, 3) := by decide +kernel
theorem dX12_play_8 : decode cX12_play 8 = .ok (.iconst (-1), 1) := by decide +kernel
theorem dX12_play_9 : decode cX12_play 9 = .ok (.ireturn, 1) := by decide +kernel
theorem dX12_play_10 : decode cX12_play 10 = .ok (.aload_n 0, 1) := by decide +kernel
theorem dX12_play_11 : decode cX12_play 11 = .ok (.getfield 49, 3) := by decide +kernel
theorem dX12_play_14 : decode cX12_play 14 = .ok (.ifCond .ne 6, 3) := by decide +kernel
theorem dX12_play_17 : decode cX12_play 17 = .ok (.bipush (-2), 2) := by decide +kernel
theorem dX12_play_19 : decode cX12_play 19 = .ok (.ireturn, 1) := by decide +kernel
theorem dX12_play_20 : decode cX12_play 20 = .ok (.iconst 0, 1) := by decide +kernel
theorem dX12_play_21 : decode cX12_play 21 = .ok (.istore_n 2, 1) := by decide +kernel
theorem dX12_play_22 : decode cX12_play 22 = .ok (.iconst 1, 1) := by decide +kernel
theorem dX12_play_23 : decode cX12_play 23 = .ok (.istore_n 3, 1) := by decide +kernel
theorem dX12_play_24 : decode cX12_play 24 = .ok (.iload_n 3, 1) := by decide +kernel
theorem dX12_play_25 : decode cX12_play 25 = .ok (.ifCond .eq 72, 3) := by decide +kernel
theorem dX12_play_28 : decode cX12_play 28 = .ok (.iload_n 2, 1) := by decide +kernel
theorem dX12_play_29 : decode cX12_play 29 = .ok (.aload_n 0, 1) := by decide +kernel
theorem dX12_play_30 : decode cX12_play 30 = .ok (.getfield 146, 3) := by decide +kernel
theorem dX12_play_33 : decode cX12_play 33 = .ok (.if_icmp .ge 64, 3) := by decide +kernel
theorem dX12_play_36 : decode cX12_play 36 = .ok (.aload_n 0, 1) := by decide +kernel
theorem dX12_play_37 : decode cX12_play 37 = .ok (.aload_n 0, 1) := by decide +kernel
theorem dX12_play_38 : decode cX12_play 38 = .ok (.getfield 20, 3) := by decide +kernel
theorem dX12_play_41 : decode cX12_play 41 = .ok (.iload_n 2, 1) := by decide +kernel
theorem dX12_play_42 : decode cX12_play 42 = .ok (.iaload, 1) := by decide +kernel
theorem dX12_play_43 : decode cX12_play 43 = .ok (.iconst 1, 1) := by decide +kernel
theorem dX12_play_44 : decode cX12_play 44 = .ok (.aload_n 0, 1) := by decide +kernel
theorem dX12_play_45 : decode cX12_play 45 = .ok (.getfield 91, 3) := by decide +kernel
theorem dX12_play_48 : decode cX12_play 48 = .ok (.ishl, 1) := by decide +kernel
theorem dX12_play_49 : decode cX12_play 49 = .ok (.iconst 1, 1) := by decide +kernel
theorem dX12_play_50 : decode cX12_play 50 = .ok (.isub, 1) := by decide +kernel
theorem dX12_play_51 : decode cX12_play 51 = .ok (.iand, 1) := by decide +kernel
theorem dX12_play_52 : decode cX12_play 52 = .ok (.putfield 7, 3) := by decide +kernel
theorem dX12_play_55 : decode cX12_play 55 = .ok (.aload_n 0, 1) := by decide +kernel
theorem dX12_play_56 : decode cX12_play 56 = .ok (.iload_n 1, 1) := by decide +kernel
theorem dX12_play_57 : decode cX12_play 57 = .ok (.iload_n 2, 1) := by decide +kernel
theorem dX12_play_58 : decode cX12_play 58 = .ok (.ishr, 1) := by decide +kernel
theorem dX12_play_59 : decode cX12_play 59 = .ok (.iconst 1, 1) := by decide +kernel
theorem dX12_play_60 : decode cX12_play 60 = .ok (.iand, 1) := by decide +kernel
theorem dX12_play_61 : decode cX12_play 61 = .ok (.iconst 1, 1) := by decide +kernel
theorem dX12_play_62 : decode cX12_play 62 = .ok (.if_icmp .ne 7, 3) := by decide +kernel
theorem dX12_play_65 : decode cX12_play 65 = .ok (.iconst 1, 1) := by decide +kernel
theorem dX12_play_66 : decode cX12_play 66 = .ok (.goto 4, 3) := by decide +kernel
theorem dX12_play_69 : decode cX12_play 69 = .ok (.iconst 0, 1) := by decide +kernel
theorem dX12_play_70 : decode cX12_play 70 = .ok (.invokevirtual 162, 3) := by decide +kernel
theorem dX12_play_73 : decode cX12_play 73 = .ok (.ifCond .le 7, 3) := by decide +kernel
theorem dX12_play_76 : decode cX12_play 76 = .ok (.iconst 1, 1) := by decide +kernel
theorem dX12_play_77 : decode cX12_play 77 = .ok (.goto 4, 3) := by decide +kernel
theorem dX12_play_80 : decode cX12_play 80 = .ok (.iconst 0, 1) := by decide +kernel
theorem dX12_play_81 : decode cX12_play 81 = .ok (.istore_n 3, 1) := by decide +kernel
theorem dX12_play_82 : decode cX12_play 82 = .ok (.iload_n 2, 1) := by decide +kernel
theorem dX12_play_83 : decode cX12_play 83 = .ok (.iload_n 3, 1) := by decide +kernel
theorem dX12_play_84 : decode cX12_play 84 = .ok (.ifCond .eq 7, 3) := by decide +kernel
theorem dX12_play_87 : decode cX12_play 87 = .ok (.iconst 1, 1) := by decide +kernel
theorem dX12_play_88 : decode cX12_play 88 = .ok (.goto 4, 3) := by decide +kernel
theorem dX12_play_91 : decode cX12_play 91 = .ok (.iconst 0, 1) := by decide +kernel
theorem dX12_play_92 : decode cX12_play 92 = .ok (.iadd, 1) := by decide +kernel
theorem dX12_play_93 : decode cX12_play 93 = .ok (.istore_n 2, 1) := by decide +kernel
theorem dX12_play_94 : decode cX12_play 94 = .ok (.goto (-70), 3) := by decide +kernel
theorem dX12_play_97 : decode cX12_play 97 = .ok (.aload_n 0, 1) := by decide +kernel
theorem dX12_play_98 : decode cX12_play 98 = .ok (.iconst (-1), 1) := by decide +kernel
theorem dX12_play_99 : decode cX12_play 99 = .ok (.putfield 7, 3) := by decide +kernel
theorem dX12_play_102 : decode cX12_play 102 = .ok (.iload_n 2, 1) := by decide +kernel
theorem dX12_play_103 : decode cX12_play 103 = .ok (.ireturn, 1) := by decide +kernel
theorem dX12_told_0 : decode cX12_told 0 = .ok (.iload_n 1, 1) := by decide +kernel
theorem dX12_told_1 : decode cX12_told 1 = .ok (.tableswitch 95 0 7 #[47, 60, 65, 70, 75, 80, 85, 90], 47) := by decide +kernel
theorem dX12_told_48 : decode cX12_told 48 = .ok (.aload_n 0, 1) := by decide +kernel
theorem dX12_told_49 : decode cX12_told 49 = .ok (.getfield 49, 3) := by decide +kernel
theorem dX12_told_52 : decode cX12_told 52 = .ok (.ifCond .eq 7, 3) := by decide +kernel
theorem dX12_told_55 : decode cX12_told 55 = .ok (.iconst 1, 1) := by decide +kernel
theorem dX12_told_56 : decode cX12_told 56 = .ok (.goto 4, 3) := by decide +kernel
theorem dX12_told_59 : decode cX12_told 59 = .ok (.iconst 0, 1) := by decide +kernel
theorem dX12_told_60 : decode cX12_told 60 = .ok (.ireturn, 1) := by decide +kernel
theorem dX12_told_61 : decode cX12_told 61 = .ok (.aload_n 0, 1) := by decide +kernel
theorem dX12_told_62 : decode cX12_told 62 = .ok (.getfield 88, 3) := by decide +kernel
theorem dX12_told_65 : decode cX12_told 65 = .ok (.ireturn, 1) := by decide +kernel
theorem dX12_told_66 : decode cX12_told 66 = .ok (.aload_n 0, 1) := by decide +kernel
theorem dX12_told_67 : decode cX12_told 67 = .ok (.getfield 91, 3) := by decide +kernel
theorem dX12_told_70 : decode cX12_told 70 = .ok (.ireturn, 1) := by decide +kernel
theorem dX12_told_71 : decode cX12_told 71 = .ok (.aload_n 0, 1) := by decide +kernel
theorem dX12_told_72 : decode cX12_told 72 = .ok (.getfield 98, 3) := by decide +kernel
theorem dX12_told_75 : decode cX12_told 75 = .ok (.ireturn, 1) := by decide +kernel
theorem dX12_told_76 : decode cX12_told 76 = .ok (.aload_n 0, 1) := by decide +kernel
theorem dX12_told_77 : decode cX12_told 77 = .ok (.getfield 101, 3) := by decide +kernel
theorem dX12_told_80 : decode cX12_told 80 = .ok (.ireturn, 1) := by decide +kernel
theorem dX12_told_81 : decode cX12_told 81 = .ok (.aload_n 0, 1) := by decide +kernel
theorem dX12_told_82 : decode cX12_told 82 = .ok (.getfield 7, 3) := by decide +kernel
theorem dX12_told_85 : decode cX12_told 85 = .ok (.ireturn, 1) := by decide +kernel
theorem dX12_told_86 : decode cX12_told 86 = .ok (.aload_n 0, 1) := by decide +kernel
theorem dX12_told_87 : decode cX12_told 87 = .ok (.getfield 146, 3) := by decide +kernel
theorem dX12_told_90 : decode cX12_told 90 = .ok (.ireturn, 1) := by decide +kernel
theorem dX12_told_91 : decode cX12_told 91 = .ok (.aload_n 0, 1) := by decide +kernel
theorem dX12_told_92 : decode cX12_told 92 = .ok (.getfield 117, 3) := by decide +kernel
theorem dX12_told_95 : decode cX12_told 95 = .ok (.ireturn, 1) := by decide +kernel
theorem dX12_told_96 : decode cX12_told 96 = .ok (.bipush (-2), 2) := by decide +kernel
theorem dX12_told_98 : decode cX12_told 98 = .ok (.ireturn, 1) := by decide +kernel
theorem dX12_trace_0 : decode cX12_trace 0 = .ok (.aload_n 0, 1) := by decide +kernel
theorem dX12_trace_1 : decode cX12_trace 1 = .ok (.getfield 57, 3) := by decide +kernel
theorem dX12_trace_4 : decode cX12_trace 4 = .ok (.lreturn, 1) := by decide +kernel
theorem dJ6_bitCount_0f7a4_0 : decode cJ6_bitCount_0f7a4 0 = .ok (.iload_n 0, 1) := by decide +kernel
theorem dJ6_bitCount_0f7a4_1 : decode cJ6_bitCount_0f7a4 1 = .ok (.iload_n 0, 1) := by decide +kernel
theorem dJ6_bitCount_0f7a4_2 : decode cJ6_bitCount_0f7a4 2 = .ok (.iconst 1, 1) := by decide +kernel
theorem dJ6_bitCount_0f7a4_3 : decode cJ6_bitCount_0f7a4 3 = .ok (.iushr, 1) := by decide +kernel
theorem dJ6_bitCount_0f7a4_4 : decode cJ6_bitCount_0f7a4 4 = .ok (.ldc_w 265, 3) := by decide +kernel
theorem dJ6_bitCount_0f7a4_7 : decode cJ6_bitCount_0f7a4 7 = .ok (.iand, 1) := by decide +kernel
theorem dJ6_bitCount_0f7a4_8 : decode cJ6_bitCount_0f7a4 8 = .ok (.isub, 1) := by decide +kernel
theorem dJ6_bitCount_0f7a4_9 : decode cJ6_bitCount_0f7a4 9 = .ok (.istore_n 0, 1) := by decide +kernel
theorem dJ6_bitCount_0f7a4_10 : decode cJ6_bitCount_0f7a4 10 = .ok (.iload_n 0, 1) := by decide +kernel
theorem dJ6_bitCount_0f7a4_11 : decode cJ6_bitCount_0f7a4 11 = .ok (.ldc_w 266, 3) := by decide +kernel
theorem dJ6_bitCount_0f7a4_14 : decode cJ6_bitCount_0f7a4 14 = .ok (.iand, 1) := by decide +kernel
theorem dJ6_bitCount_0f7a4_15 : decode cJ6_bitCount_0f7a4 15 = .ok (.iload_n 0, 1) := by decide +kernel
theorem dJ6_bitCount_0f7a4_16 : decode cJ6_bitCount_0f7a4 16 = .ok (.iconst 2, 1) := by decide +kernel
theorem dJ6_bitCount_0f7a4_17 : decode cJ6_bitCount_0f7a4 17 = .ok (.iushr, 1) := by decide +kernel
theorem dJ6_bitCount_0f7a4_18 : decode cJ6_bitCount_0f7a4 18 = .ok (.ldc_w 266, 3) := by decide +kernel
theorem dJ6_bitCount_0f7a4_21 : decode cJ6_bitCount_0f7a4 21 = .ok (.iand, 1) := by decide +kernel
theorem dJ6_bitCount_0f7a4_22 : decode cJ6_bitCount_0f7a4 22 = .ok (.iadd, 1) := by decide +kernel
theorem dJ6_bitCount_0f7a4_23 : decode cJ6_bitCount_0f7a4 23 = .ok (.istore_n 0, 1) := by decide +kernel
theorem dJ6_bitCount_0f7a4_24 : decode cJ6_bitCount_0f7a4 24 = .ok (.iload_n 0, 1) := by decide +kernel
theorem dJ6_bitCount_0f7a4_25 : decode cJ6_bitCount_0f7a4 25 = .ok (.iload_n 0, 1) := by decide +kernel
theorem dJ6_bitCount_0f7a4_26 : decode cJ6_bitCount_0f7a4 26 = .ok (.iconst 4, 1) := by decide +kernel
theorem dJ6_bitCount_0f7a4_27 : decode cJ6_bitCount_0f7a4 27 = .ok (.iushr, 1) := by decide +kernel
theorem dJ6_bitCount_0f7a4_28 : decode cJ6_bitCount_0f7a4 28 = .ok (.iadd, 1) := by decide +kernel
theorem dJ6_bitCount_0f7a4_29 : decode cJ6_bitCount_0f7a4 29 = .ok (.ldc_w 267, 3) := by decide +kernel
theorem dJ6_bitCount_0f7a4_32 : decode cJ6_bitCount_0f7a4 32 = .ok (.iand, 1) := by decide +kernel
theorem dJ6_bitCount_0f7a4_33 : decode cJ6_bitCount_0f7a4 33 = .ok (.istore_n 0, 1) := by decide +kernel
theorem dJ6_bitCount_0f7a4_34 : decode cJ6_bitCount_0f7a4 34 = .ok (.iload_n 0, 1) := by decide +kernel
theorem dJ6_bitCount_0f7a4_35 : decode cJ6_bitCount_0f7a4 35 = .ok (.iload_n 0, 1) := by decide +kernel
theorem dJ6_bitCount_0f7a4_36 : decode cJ6_bitCount_0f7a4 36 = .ok (.bipush 8, 2) := by decide +kernel
theorem dJ6_bitCount_0f7a4_38 : decode cJ6_bitCount_0f7a4 38 = .ok (.iushr, 1) := by decide +kernel
theorem dJ6_bitCount_0f7a4_39 : decode cJ6_bitCount_0f7a4 39 = .ok (.iadd, 1) := by decide +kernel
theorem dJ6_bitCount_0f7a4_40 : decode cJ6_bitCount_0f7a4 40 = .ok (.istore_n 0, 1) := by decide +kernel
theorem dJ6_bitCount_0f7a4_41 : decode cJ6_bitCount_0f7a4 41 = .ok (.iload_n 0, 1) := by decide +kernel
theorem dJ6_bitCount_0f7a4_42 : decode cJ6_bitCount_0f7a4 42 = .ok (.iload_n 0, 1) := by decide +kernel
theorem dJ6_bitCount_0f7a4_43 : decode cJ6_bitCount_0f7a4 43 = .ok (.bipush 16, 2) := by decide +kernel
theorem dJ6_bitCount_0f7a4_45 : decode cJ6_bitCount_0f7a4 45 = .ok (.iushr, 1) := by decide +kernel
theorem dJ6_bitCount_0f7a4_46 : decode cJ6_bitCount_0f7a4 46 = .ok (.iadd, 1) := by decide +kernel
theorem dJ6_bitCount_0f7a4_47 : decode cJ6_bitCount_0f7a4 47 = .ok (.istore_n 0, 1) := by decide +kernel
theorem dJ6_bitCount_0f7a4_48 : decode cJ6_bitCount_0f7a4 48 = .ok (.iload_n 0, 1) := by decide +kernel
theorem dJ6_bitCount_0f7a4_49 : decode cJ6_bitCount_0f7a4 49 = .ok (.bipush 63, 2) := by decide +kernel
theorem dJ6_bitCount_0f7a4_51 : decode cJ6_bitCount_0f7a4 51 = .ok (.iand, 1) := by decide +kernel
theorem dJ6_bitCount_0f7a4_52 : decode cJ6_bitCount_0f7a4 52 = .ok (.ireturn, 1) := by decide +kernel
theorem dJ9_max_7cf53_0 : decode cJ9_max_7cf53 0 = .ok (.iload_n 0, 1) := by decide +kernel
theorem dJ9_max_7cf53_1 : decode cJ9_max_7cf53 1 = .ok (.iload_n 1, 1) := by decide +kernel
theorem dJ9_max_7cf53_2 : decode cJ9_max_7cf53 2 = .ok (.if_icmp .lt 7, 3) := by decide +kernel
theorem dJ9_max_7cf53_5 : decode cJ9_max_7cf53 5 = .ok (.iload_n 0, 1) := by decide +kernel
theorem dJ9_max_7cf53_6 : decode cJ9_max_7cf53 6 = .ok (.goto 4, 3) := by decide +kernel
theorem dJ9_max_7cf53_9 : decode cJ9_max_7cf53 9 = .ok (.iload_n 1, 1) := by decide +kernel
theorem dJ9_max_7cf53_10 : decode cJ9_max_7cf53 10 = .ok (.ireturn, 1) := by decide +kernel
theorem dJ9_min_7cf53_0 : decode cJ9_min_7cf53 0 = .ok (.iload_n 0, 1) := by decide +kernel
theorem dJ9_min_7cf53_1 : decode cJ9_min_7cf53 1 = .ok (.iload_n 1, 1) := by decide +kernel
theorem dJ9_min_7cf53_2 : decode cJ9_min_7cf53 2 = .ok (.if_icmp .gt 7, 3) := by decide +kernel
theorem dJ9_min_7cf53_5 : decode cJ9_min_7cf53 5 = .ok (.iload_n 0, 1) := by decide +kernel
theorem dJ9_min_7cf53_6 : decode cJ9_min_7cf53 6 = .ok (.goto 4, 3) := by decide +kernel
theorem dJ9_min_7cf53_9 : decode cJ9_min_7cf53 9 = .ok (.iload_n 1, 1) := by decide +kernel
theorem dJ9_min_7cf53_10 : decode cJ9_min_7cf53 10 = .ok (.ireturn, 1) := by decide +kernel
theorem dL_law_0 : decode cL_law 0 = .ok (.new 7, 3) := by decide +kernel
theorem dL_law_3 : decode cL_law 3 = .ok (.dup, 1) := by decide +kernel
theorem dL_law_4 : decode cL_law 4 = .ok (.invokespecial 9, 3) := by decide +kernel
theorem dL_law_7 : decode cL_law 7 = .ok (.astore_n 1, 1) := by decide +kernel
theorem dL_law_8 : decode cL_law 8 = .ok (.new 10, 3) := by decide +kernel
theorem dL_law_11 : decode cL_law 11 = .ok (.dup, 1) := by decide +kernel
theorem dL_law_12 : decode cL_law 12 = .ok (.invokespecial 12, 3) := by decide +kernel
theorem dL_law_15 : decode cL_law 15 = .ok (.astore_n 2, 1) := by decide +kernel
theorem dL_law_16 : decode cL_law 16 = .ok (.iconst 0, 1) := by decide +kernel
theorem dL_law_17 : decode cL_law 17 = .ok (.istore_n 3, 1) := by decide +kernel
theorem dL_law_18 : decode cL_law 18 = .ok (.iload_n 3, 1) := by decide +kernel
theorem dL_law_19 : decode cL_law 19 = .ok (.aload_n 0, 1) := by decide +kernel
theorem dL_law_20 : decode cL_law 20 = .ok (.arraylength, 1) := by decide +kernel
theorem dL_law_21 : decode cL_law 21 = .ok (.iconst 4, 1) := by decide +kernel
theorem dL_law_22 : decode cL_law 22 = .ok (.isub, 1) := by decide +kernel
theorem dL_law_23 : decode cL_law 23 = .ok (.if_icmp .gt 675, 3) := by decide +kernel
theorem dL_law_26 : decode cL_law 26 = .ok (.aload_n 0, 1) := by decide +kernel
theorem dL_law_27 : decode cL_law 27 = .ok (.iload_n 3, 1) := by decide +kernel
theorem dL_law_28 : decode cL_law 28 = .ok (.iaload, 1) := by decide +kernel
theorem dL_law_29 : decode cL_law 29 = .ok (.bipush 31, 2) := by decide +kernel
theorem dL_law_31 : decode cL_law 31 = .ok (.iand, 1) := by decide +kernel
theorem dL_law_32 : decode cL_law 32 = .ok (.tableswitch 660 0 21 #[104, 147, 222, 245, 284, 297, 320, 343, 356, 369, 382, 406, 419, 432, 455, 468, 491, 524, 557, 600, 623, 646], 104) := by decide +kernel
theorem dL_law_136 : decode cL_law 136 = .ok (.aload_n 1, 1) := by decide +kernel
theorem dL_law_137 : decode cL_law 137 = .ok (.aload_n 0, 1) := by decide +kernel
theorem dL_law_138 : decode cL_law 138 = .ok (.iload_n 3, 1) := by decide +kernel
theorem dL_law_139 : decode cL_law 139 = .ok (.iconst 1, 1) := by decide +kernel
theorem dL_law_140 : decode cL_law 140 = .ok (.iadd, 1) := by decide +kernel
theorem dL_law_141 : decode cL_law 141 = .ok (.iaload, 1) := by decide +kernel
theorem dL_law_142 : decode cL_law 142 = .ok (.aload_n 0, 1) := by decide +kernel
theorem dL_law_143 : decode cL_law 143 = .ok (.iload_n 3, 1) := by decide +kernel
theorem dL_law_144 : decode cL_law 144 = .ok (.iconst 2, 1) := by decide +kernel
theorem dL_law_145 : decode cL_law 145 = .ok (.iadd, 1) := by decide +kernel
theorem dL_law_146 : decode cL_law 146 = .ok (.iaload, 1) := by decide +kernel
theorem dL_law_147 : decode cL_law 147 = .ok (.aload_n 0, 1) := by decide +kernel
theorem dL_law_148 : decode cL_law 148 = .ok (.iload_n 3, 1) := by decide +kernel
theorem dL_law_149 : decode cL_law 149 = .ok (.iconst 3, 1) := by decide +kernel
theorem dL_law_150 : decode cL_law 150 = .ok (.iadd, 1) := by decide +kernel
theorem dL_law_151 : decode cL_law 151 = .ok (.iaload, 1) := by decide +kernel
theorem dL_law_152 : decode cL_law 152 = .ok (.invokevirtual 13, 3) := by decide +kernel
theorem dL_law_155 : decode cL_law 155 = .ok (.aload_n 2, 1) := by decide +kernel
theorem dL_law_156 : decode cL_law 156 = .ok (.aload_n 0, 1) := by decide +kernel
theorem dL_law_157 : decode cL_law 157 = .ok (.iload_n 3, 1) := by decide +kernel
theorem dL_law_158 : decode cL_law 158 = .ok (.iconst 1, 1) := by decide +kernel
theorem dL_law_159 : decode cL_law 159 = .ok (.iadd, 1) := by decide +kernel
theorem dL_law_160 : decode cL_law 160 = .ok (.iaload, 1) := by decide +kernel
theorem dL_law_161 : decode cL_law 161 = .ok (.aload_n 0, 1) := by decide +kernel
theorem dL_law_162 : decode cL_law 162 = .ok (.iload_n 3, 1) := by decide +kernel
theorem dL_law_163 : decode cL_law 163 = .ok (.iconst 2, 1) := by decide +kernel
theorem dL_law_164 : decode cL_law 164 = .ok (.iadd, 1) := by decide +kernel
theorem dL_law_165 : decode cL_law 165 = .ok (.iaload, 1) := by decide +kernel
theorem dL_law_166 : decode cL_law 166 = .ok (.aload_n 0, 1) := by decide +kernel
theorem dL_law_167 : decode cL_law 167 = .ok (.iload_n 3, 1) := by decide +kernel
theorem dL_law_168 : decode cL_law 168 = .ok (.iconst 3, 1) := by decide +kernel
theorem dL_law_169 : decode cL_law 169 = .ok (.iadd, 1) := by decide +kernel
theorem dL_law_170 : decode cL_law 170 = .ok (.iaload, 1) := by decide +kernel
theorem dL_law_171 : decode cL_law 171 = .ok (.invokevirtual 17, 3) := by decide +kernel
theorem dL_law_174 : decode cL_law 174 = .ok (.if_icmp .eq 518, 3) := by decide +kernel
theorem dL_law_177 : decode cL_law 177 = .ok (.iconst 0, 1) := by decide +kernel
theorem dL_law_178 : decode cL_law 178 = .ok (.ireturn, 1) := by decide +kernel
theorem dL_law_179 : decode cL_law 179 = .ok (.aload_n 1, 1) := by decide +kernel
theorem dL_law_180 : decode cL_law 180 = .ok (.aload_n 0, 1) := by decide +kernel
theorem dL_law_181 : decode cL_law 181 = .ok (.iload_n 3, 1) := by decide +kernel
theorem dL_law_182 : decode cL_law 182 = .ok (.iconst 1, 1) := by decide +kernel
theorem dL_law_183 : decode cL_law 183 = .ok (.iadd, 1) := by decide +kernel
theorem dL_law_184 : decode cL_law 184 = .ok (.iaload, 1) := by decide +kernel
theorem dL_law_185 : decode cL_law 185 = .ok (.aload_n 0, 1) := by decide +kernel
theorem dL_law_186 : decode cL_law 186 = .ok (.iload_n 3, 1) := by decide +kernel
theorem dL_law_187 : decode cL_law 187 = .ok (.iconst 2, 1) := by decide +kernel
theorem dL_law_188 : decode cL_law 188 = .ok (.iadd, 1) := by decide +kernel
theorem dL_law_189 : decode cL_law 189 = .ok (.iaload, 1) := by decide +kernel
theorem dL_law_190 : decode cL_law 190 = .ok (.ifCond .eq 7, 3) := by decide +kernel
theorem dL_law_193 : decode cL_law 193 = .ok (.iconst 1, 1) := by decide +kernel
theorem dL_law_194 : decode cL_law 194 = .ok (.goto 4, 3) := by decide +kernel
theorem dL_law_197 : decode cL_law 197 = .ok (.iconst 0, 1) := by decide +kernel
theorem dL_law_198 : decode cL_law 198 = .ok (.aload_n 0, 1) := by decide +kernel
theorem dL_law_199 : decode cL_law 199 = .ok (.iload_n 3, 1) := by decide +kernel
theorem dL_law_200 : decode cL_law 200 = .ok (.iconst 3, 1) := by decide +kernel
theorem dL_law_201 : decode cL_law 201 = .ok (.iadd, 1) := by decide +kernel
theorem dL_law_202 : decode cL_law 202 = .ok (.iaload, 1) := by decide +kernel
theorem dL_law_203 : decode cL_law 203 = .ok (.ifCond .eq 7, 3) := by decide +kernel
theorem dL_law_206 : decode cL_law 206 = .ok (.iconst 1, 1) := by decide +kernel
theorem dL_law_207 : decode cL_law 207 = .ok (.goto 4, 3) := by decide +kernel
theorem dL_law_210 : decode cL_law 210 = .ok (.iconst 0, 1) := by decide +kernel
theorem dL_law_211 : decode cL_law 211 = .ok (.invokevirtual 18, 3) := by decide +kernel
theorem dL_law_214 : decode cL_law 214 = .ok (.aload_n 2, 1) := by decide +kernel
theorem dL_law_215 : decode cL_law 215 = .ok (.aload_n 0, 1) := by decide +kernel
theorem dL_law_216 : decode cL_law 216 = .ok (.iload_n 3, 1) := by decide +kernel
theorem dL_law_217 : decode cL_law 217 = .ok (.iconst 1, 1) := by decide +kernel
theorem dL_law_218 : decode cL_law 218 = .ok (.iadd, 1) := by decide +kernel
theorem dL_law_219 : decode cL_law 219 = .ok (.iaload, 1) := by decide +kernel
theorem dL_law_220 : decode cL_law 220 = .ok (.aload_n 0, 1) := by decide +kernel
theorem dL_law_221 : decode cL_law 221 = .ok (.iload_n 3, 1) := by decide +kernel
theorem dL_law_222 : decode cL_law 222 = .ok (.iconst 2, 1) := by decide +kernel
theorem dL_law_223 : decode cL_law 223 = .ok (.iadd, 1) := by decide +kernel
theorem dL_law_224 : decode cL_law 224 = .ok (.iaload, 1) := by decide +kernel
theorem dL_law_225 : decode cL_law 225 = .ok (.ifCond .eq 7, 3) := by decide +kernel
theorem dL_law_228 : decode cL_law 228 = .ok (.iconst 1, 1) := by decide +kernel
theorem dL_law_229 : decode cL_law 229 = .ok (.goto 4, 3) := by decide +kernel
theorem dL_law_232 : decode cL_law 232 = .ok (.iconst 0, 1) := by decide +kernel
theorem dL_law_233 : decode cL_law 233 = .ok (.aload_n 0, 1) := by decide +kernel
theorem dL_law_234 : decode cL_law 234 = .ok (.iload_n 3, 1) := by decide +kernel
theorem dL_law_235 : decode cL_law 235 = .ok (.iconst 3, 1) := by decide +kernel
theorem dL_law_236 : decode cL_law 236 = .ok (.iadd, 1) := by decide +kernel
theorem dL_law_237 : decode cL_law 237 = .ok (.iaload, 1) := by decide +kernel
theorem dL_law_238 : decode cL_law 238 = .ok (.ifCond .eq 7, 3) := by decide +kernel
theorem dL_law_241 : decode cL_law 241 = .ok (.iconst 1, 1) := by decide +kernel
theorem dL_law_242 : decode cL_law 242 = .ok (.goto 4, 3) := by decide +kernel
theorem dL_law_245 : decode cL_law 245 = .ok (.iconst 0, 1) := by decide +kernel
theorem dL_law_246 : decode cL_law 246 = .ok (.invokevirtual 22, 3) := by decide +kernel
theorem dL_law_249 : decode cL_law 249 = .ok (.if_icmp .eq 443, 3) := by decide +kernel
theorem dL_law_252 : decode cL_law 252 = .ok (.iconst 0, 1) := by decide +kernel
theorem dL_law_253 : decode cL_law 253 = .ok (.ireturn, 1) := by decide +kernel
theorem dL_law_254 : decode cL_law 254 = .ok (.aload_n 1, 1) := by decide +kernel
theorem dL_law_255 : decode cL_law 255 = .ok (.aload_n 0, 1) := by decide +kernel
theorem dL_law_256 : decode cL_law 256 = .ok (.iload_n 3, 1) := by decide +kernel
theorem dL_law_257 : decode cL_law 257 = .ok (.iconst 1, 1) := by decide +kernel
theorem dL_law_258 : decode cL_law 258 = .ok (.iadd, 1) := by decide +kernel
theorem dL_law_259 : decode cL_law 259 = .ok (.iaload, 1) := by decide +kernel
theorem dL_law_260 : decode cL_law 260 = .ok (.invokevirtual 23, 3) := by decide +kernel
theorem dL_law_263 : decode cL_law 263 = .ok (.aload_n 2, 1) := by decide +kernel
theorem dL_law_264 : decode cL_law 264 = .ok (.aload_n 0, 1) := by decide +kernel
theorem dL_law_265 : decode cL_law 265 = .ok (.iload_n 3, 1) := by decide +kernel
theorem dL_law_266 : decode cL_law 266 = .ok (.iconst 1, 1) := by decide +kernel
theorem dL_law_267 : decode cL_law 267 = .ok (.iadd, 1) := by decide +kernel
theorem dL_law_268 : decode cL_law 268 = .ok (.iaload, 1) := by decide +kernel
theorem dL_law_269 : decode cL_law 269 = .ok (.invokevirtual 27, 3) := by decide +kernel
theorem dL_law_272 : decode cL_law 272 = .ok (.if_icmp .eq 420, 3) := by decide +kernel
theorem dL_law_275 : decode cL_law 275 = .ok (.iconst 0, 1) := by decide +kernel
theorem dL_law_276 : decode cL_law 276 = .ok (.ireturn, 1) := by decide +kernel
theorem dL_law_277 : decode cL_law 277 = .ok (.aload_n 1, 1) := by decide +kernel
theorem dL_law_278 : decode cL_law 278 = .ok (.aload_n 0, 1) := by decide +kernel
theorem dL_law_279 : decode cL_law 279 = .ok (.iload_n 3, 1) := by decide +kernel
theorem dL_law_280 : decode cL_law 280 = .ok (.iconst 1, 1) := by decide +kernel
theorem dL_law_281 : decode cL_law 281 = .ok (.iadd, 1) := by decide +kernel
theorem dL_law_282 : decode cL_law 282 = .ok (.iaload, 1) := by decide +kernel
theorem dL_law_283 : decode cL_law 283 = .ok (.ifCond .eq 7, 3) := by decide +kernel
theorem dL_law_286 : decode cL_law 286 = .ok (.iconst 1, 1) := by decide +kernel
theorem dL_law_287 : decode cL_law 287 = .ok (.goto 4, 3) := by decide +kernel
theorem dL_law_290 : decode cL_law 290 = .ok (.iconst 0, 1) := by decide +kernel
theorem dL_law_291 : decode cL_law 291 = .ok (.invokevirtual 28, 3) := by decide +kernel
theorem dL_law_294 : decode cL_law 294 = .ok (.aload_n 2, 1) := by decide +kernel
theorem dL_law_295 : decode cL_law 295 = .ok (.aload_n 0, 1) := by decide +kernel
theorem dL_law_296 : decode cL_law 296 = .ok (.iload_n 3, 1) := by decide +kernel
theorem dL_law_297 : decode cL_law 297 = .ok (.iconst 1, 1) := by decide +kernel
theorem dL_law_298 : decode cL_law 298 = .ok (.iadd, 1) := by decide +kernel
theorem dL_law_299 : decode cL_law 299 = .ok (.iaload, 1) := by decide +kernel
theorem dL_law_300 : decode cL_law 300 = .ok (.ifCond .eq 7, 3) := by decide +kernel
theorem dL_law_303 : decode cL_law 303 = .ok (.iconst 1, 1) := by decide +kernel
theorem dL_law_304 : decode cL_law 304 = .ok (.goto 4, 3) := by decide +kernel
theorem dL_law_307 : decode cL_law 307 = .ok (.iconst 0, 1) := by decide +kernel
theorem dL_law_308 : decode cL_law 308 = .ok (.invokevirtual 32, 3) := by decide +kernel
theorem dL_law_311 : decode cL_law 311 = .ok (.if_icmp .eq 381, 3) := by decide +kernel
theorem dL_law_314 : decode cL_law 314 = .ok (.iconst 0, 1) := by decide +kernel
theorem dL_law_315 : decode cL_law 315 = .ok (.ireturn, 1) := by decide +kernel
theorem dL_law_316 : decode cL_law 316 = .ok (.aload_n 1, 1) := by decide +kernel
theorem dL_law_317 : decode cL_law 317 = .ok (.invokevirtual 33, 3) := by decide +kernel
theorem dL_law_320 : decode cL_law 320 = .ok (.aload_n 2, 1) := by decide +kernel
theorem dL_law_321 : decode cL_law 321 = .ok (.invokevirtual 37, 3) := by decide +kernel
theorem dL_law_324 : decode cL_law 324 = .ok (.if_icmp .eq 368, 3) := by decide +kernel
theorem dL_law_327 : decode cL_law 327 = .ok (.iconst 0, 1) := by decide +kernel
theorem dL_law_328 : decode cL_law 328 = .ok (.ireturn, 1) := by decide +kernel
theorem dL_law_329 : decode cL_law 329 = .ok (.aload_n 1, 1) := by decide +kernel
theorem dL_law_330 : decode cL_law 330 = .ok (.aload_n 0, 1) := by decide +kernel
theorem dL_law_331 : decode cL_law 331 = .ok (.iload_n 3, 1) := by decide +kernel
theorem dL_law_332 : decode cL_law 332 = .ok (.iconst 1, 1) := by decide +kernel
theorem dL_law_333 : decode cL_law 333 = .ok (.iadd, 1) := by decide +kernel
theorem dL_law_334 : decode cL_law 334 = .ok (.iaload, 1) := by decide +kernel
theorem dL_law_335 : decode cL_law 335 = .ok (.invokevirtual 38, 3) := by decide +kernel
theorem dL_law_338 : decode cL_law 338 = .ok (.aload_n 2, 1) := by decide +kernel
theorem dL_law_339 : decode cL_law 339 = .ok (.aload_n 0, 1) := by decide +kernel
theorem dL_law_340 : decode cL_law 340 = .ok (.iload_n 3, 1) := by decide +kernel
theorem dL_law_341 : decode cL_law 341 = .ok (.iconst 1, 1) := by decide +kernel
theorem dL_law_342 : decode cL_law 342 = .ok (.iadd, 1) := by decide +kernel
theorem dL_law_343 : decode cL_law 343 = .ok (.iaload, 1) := by decide +kernel
theorem dL_law_344 : decode cL_law 344 = .ok (.invokevirtual 41, 3) := by decide +kernel
theorem dL_law_347 : decode cL_law 347 = .ok (.if_icmp .eq 345, 3) := by decide +kernel
theorem dL_law_350 : decode cL_law 350 = .ok (.iconst 0, 1) := by decide +kernel
theorem dL_law_351 : decode cL_law 351 = .ok (.ireturn, 1) := by decide +kernel
theorem dL_law_352 : decode cL_law 352 = .ok (.aload_n 1, 1) := by decide +kernel
theorem dL_law_353 : decode cL_law 353 = .ok (.aload_n 0, 1) := by decide +kernel
theorem dL_law_354 : decode cL_law 354 = .ok (.iload_n 3, 1) := by decide +kernel
theorem dL_law_355 : decode cL_law 355 = .ok (.iconst 1, 1) := by decide +kernel
theorem dL_law_356 : decode cL_law 356 = .ok (.iadd, 1) := by decide +kernel
theorem dL_law_357 : decode cL_law 357 = .ok (.iaload, 1) := by decide +kernel
theorem dL_law_358 : decode cL_law 358 = .ok (.invokevirtual 42, 3) := by decide +kernel
theorem dL_law_361 : decode cL_law 361 = .ok (.aload_n 2, 1) := by decide +kernel
theorem dL_law_362 : decode cL_law 362 = .ok (.aload_n 0, 1) := by decide +kernel
theorem dL_law_363 : decode cL_law 363 = .ok (.iload_n 3, 1) := by decide +kernel
theorem dL_law_364 : decode cL_law 364 = .ok (.iconst 1, 1) := by decide +kernel
theorem dL_law_365 : decode cL_law 365 = .ok (.iadd, 1) := by decide +kernel
theorem dL_law_366 : decode cL_law 366 = .ok (.iaload, 1) := by decide +kernel
theorem dL_law_367 : decode cL_law 367 = .ok (.invokevirtual 45, 3) := by decide +kernel
theorem dL_law_370 : decode cL_law 370 = .ok (.if_icmp .eq 322, 3) := by decide +kernel
theorem dL_law_373 : decode cL_law 373 = .ok (.iconst 0, 1) := by decide +kernel
theorem dL_law_374 : decode cL_law 374 = .ok (.ireturn, 1) := by decide +kernel
theorem dL_law_375 : decode cL_law 375 = .ok (.aload_n 1, 1) := by decide +kernel
theorem dL_law_376 : decode cL_law 376 = .ok (.invokevirtual 46, 3) := by decide +kernel
theorem dL_law_379 : decode cL_law 379 = .ok (.aload_n 2, 1) := by decide +kernel
theorem dL_law_380 : decode cL_law 380 = .ok (.invokevirtual 49, 3) := by decide +kernel
theorem dL_law_383 : decode cL_law 383 = .ok (.if_icmp .eq 309, 3) := by decide +kernel
theorem dL_law_386 : decode cL_law 386 = .ok (.iconst 0, 1) := by decide +kernel
theorem dL_law_387 : decode cL_law 387 = .ok (.ireturn, 1) := by decide +kernel
theorem dL_law_388 : decode cL_law 388 = .ok (.aload_n 1, 1) := by decide +kernel
theorem dL_law_389 : decode cL_law 389 = .ok (.invokevirtual 50, 3) := by decide +kernel
theorem dL_law_392 : decode cL_law 392 = .ok (.aload_n 2, 1) := by decide +kernel
theorem dL_law_393 : decode cL_law 393 = .ok (.invokevirtual 53, 3) := by decide +kernel
theorem dL_law_396 : decode cL_law 396 = .ok (.if_icmp .eq 296, 3) := by decide +kernel
theorem dL_law_399 : decode cL_law 399 = .ok (.iconst 0, 1) := by decide +kernel
theorem dL_law_400 : decode cL_law 400 = .ok (.ireturn, 1) := by decide +kernel
theorem dL_law_401 : decode cL_law 401 = .ok (.aload_n 1, 1) := by decide +kernel
theorem dL_law_402 : decode cL_law 402 = .ok (.invokevirtual 54, 3) := by decide +kernel
theorem dL_law_405 : decode cL_law 405 = .ok (.aload_n 2, 1) := by decide +kernel
theorem dL_law_406 : decode cL_law 406 = .ok (.invokevirtual 57, 3) := by decide +kernel
theorem dL_law_409 : decode cL_law 409 = .ok (.if_icmp .eq 283, 3) := by decide +kernel
theorem dL_law_412 : decode cL_law 412 = .ok (.iconst 0, 1) := by decide +kernel
theorem dL_law_413 : decode cL_law 413 = .ok (.ireturn, 1) := by decide +kernel
theorem dL_law_414 : decode cL_law 414 = .ok (.aload_n 1, 1) := by decide +kernel
theorem dL_law_415 : decode cL_law 415 = .ok (.aload_n 0, 1) := by decide +kernel
theorem dL_law_416 : decode cL_law 416 = .ok (.iload_n 3, 1) := by decide +kernel
theorem dL_law_417 : decode cL_law 417 = .ok (.iconst 1, 1) := by decide +kernel
theorem dL_law_418 : decode cL_law 418 = .ok (.iadd, 1) := by decide +kernel
theorem dL_law_419 : decode cL_law 419 = .ok (.iaload, 1) := by decide +kernel
theorem dL_law_420 : decode cL_law 420 = .ok (.invokevirtual 58, 3) := by decide +kernel
theorem dL_law_423 : decode cL_law 423 = .ok (.aload_n 2, 1) := by decide +kernel
theorem dL_law_424 : decode cL_law 424 = .ok (.aload_n 0, 1) := by decide +kernel
theorem dL_law_425 : decode cL_law 425 = .ok (.iload_n 3, 1) := by decide +kernel
theorem dL_law_426 : decode cL_law 426 = .ok (.iconst 1, 1) := by decide +kernel
theorem dL_law_427 : decode cL_law 427 = .ok (.iadd, 1) := by decide +kernel
theorem dL_law_428 : decode cL_law 428 = .ok (.iaload, 1) := by decide +kernel
theorem dL_law_429 : decode cL_law 429 = .ok (.invokevirtual 62, 3) := by decide +kernel
theorem dL_law_432 : decode cL_law 432 = .ok (.lcmp, 1) := by decide +kernel
theorem dL_law_433 : decode cL_law 433 = .ok (.ifCond .eq 259, 3) := by decide +kernel
theorem dL_law_436 : decode cL_law 436 = .ok (.iconst 0, 1) := by decide +kernel
theorem dL_law_437 : decode cL_law 437 = .ok (.ireturn, 1) := by decide +kernel
theorem dL_law_438 : decode cL_law 438 = .ok (.aload_n 1, 1) := by decide +kernel
theorem dL_law_439 : decode cL_law 439 = .ok (.invokevirtual 63, 3) := by decide +kernel
theorem dL_law_442 : decode cL_law 442 = .ok (.aload_n 2, 1) := by decide +kernel
theorem dL_law_443 : decode cL_law 443 = .ok (.invokevirtual 66, 3) := by decide +kernel
theorem dL_law_446 : decode cL_law 446 = .ok (.if_icmp .eq 246, 3) := by decide +kernel
theorem dL_law_449 : decode cL_law 449 = .ok (.iconst 0, 1) := by decide +kernel
theorem dL_law_450 : decode cL_law 450 = .ok (.ireturn, 1) := by decide +kernel
theorem dL_law_451 : decode cL_law 451 = .ok (.aload_n 1, 1) := by decide +kernel
theorem dL_law_452 : decode cL_law 452 = .ok (.invokevirtual 67, 3) := by decide +kernel
theorem dL_law_455 : decode cL_law 455 = .ok (.aload_n 2, 1) := by decide +kernel
theorem dL_law_456 : decode cL_law 456 = .ok (.invokevirtual 70, 3) := by decide +kernel
theorem dL_law_459 : decode cL_law 459 = .ok (.if_icmp .eq 233, 3) := by decide +kernel
theorem dL_law_462 : decode cL_law 462 = .ok (.iconst 0, 1) := by decide +kernel
theorem dL_law_463 : decode cL_law 463 = .ok (.ireturn, 1) := by decide +kernel
theorem dL_law_464 : decode cL_law 464 = .ok (.aload_n 1, 1) := by decide +kernel
theorem dL_law_465 : decode cL_law 465 = .ok (.aload_n 0, 1) := by decide +kernel
theorem dL_law_466 : decode cL_law 466 = .ok (.iload_n 3, 1) := by decide +kernel
theorem dL_law_467 : decode cL_law 467 = .ok (.iconst 1, 1) := by decide +kernel
theorem dL_law_468 : decode cL_law 468 = .ok (.iadd, 1) := by decide +kernel
theorem dL_law_469 : decode cL_law 469 = .ok (.iaload, 1) := by decide +kernel
theorem dL_law_470 : decode cL_law 470 = .ok (.invokevirtual 71, 3) := by decide +kernel
theorem dL_law_473 : decode cL_law 473 = .ok (.aload_n 2, 1) := by decide +kernel
theorem dL_law_474 : decode cL_law 474 = .ok (.aload_n 0, 1) := by decide +kernel
theorem dL_law_475 : decode cL_law 475 = .ok (.iload_n 3, 1) := by decide +kernel
theorem dL_law_476 : decode cL_law 476 = .ok (.iconst 1, 1) := by decide +kernel
theorem dL_law_477 : decode cL_law 477 = .ok (.iadd, 1) := by decide +kernel
theorem dL_law_478 : decode cL_law 478 = .ok (.iaload, 1) := by decide +kernel
theorem dL_law_479 : decode cL_law 479 = .ok (.invokevirtual 74, 3) := by decide +kernel
theorem dL_law_482 : decode cL_law 482 = .ok (.if_icmp .eq 210, 3) := by decide +kernel
theorem dL_law_485 : decode cL_law 485 = .ok (.iconst 0, 1) := by decide +kernel
theorem dL_law_486 : decode cL_law 486 = .ok (.ireturn, 1) := by decide +kernel
theorem dL_law_487 : decode cL_law 487 = .ok (.aload_n 1, 1) := by decide +kernel
theorem dL_law_488 : decode cL_law 488 = .ok (.invokevirtual 75, 3) := by decide +kernel
theorem dL_law_491 : decode cL_law 491 = .ok (.aload_n 2, 1) := by decide +kernel
theorem dL_law_492 : decode cL_law 492 = .ok (.invokevirtual 78, 3) := by decide +kernel
theorem dL_law_495 : decode cL_law 495 = .ok (.if_icmp .eq 197, 3) := by decide +kernel
theorem dL_law_498 : decode cL_law 498 = .ok (.iconst 0, 1) := by decide +kernel
theorem dL_law_499 : decode cL_law 499 = .ok (.ireturn, 1) := by decide +kernel
theorem dL_law_500 : decode cL_law 500 = .ok (.aload_n 1, 1) := by decide +kernel
theorem dL_law_501 : decode cL_law 501 = .ok (.aload_n 0, 1) := by decide +kernel
theorem dL_law_502 : decode cL_law 502 = .ok (.iload_n 3, 1) := by decide +kernel
theorem dL_law_503 : decode cL_law 503 = .ok (.iconst 1, 1) := by decide +kernel
theorem dL_law_504 : decode cL_law 504 = .ok (.iadd, 1) := by decide +kernel
theorem dL_law_505 : decode cL_law 505 = .ok (.iaload, 1) := by decide +kernel
theorem dL_law_506 : decode cL_law 506 = .ok (.invokevirtual 79, 3) := by decide +kernel
theorem dL_law_509 : decode cL_law 509 = .ok (.aload_n 2, 1) := by decide +kernel
theorem dL_law_510 : decode cL_law 510 = .ok (.aload_n 0, 1) := by decide +kernel
theorem dL_law_511 : decode cL_law 511 = .ok (.iload_n 3, 1) := by decide +kernel
theorem dL_law_512 : decode cL_law 512 = .ok (.iconst 1, 1) := by decide +kernel
theorem dL_law_513 : decode cL_law 513 = .ok (.iadd, 1) := by decide +kernel
theorem dL_law_514 : decode cL_law 514 = .ok (.iaload, 1) := by decide +kernel
theorem dL_law_515 : decode cL_law 515 = .ok (.invokevirtual 82, 3) := by decide +kernel
theorem dL_law_518 : decode cL_law 518 = .ok (.if_icmp .eq 174, 3) := by decide +kernel
theorem dL_law_521 : decode cL_law 521 = .ok (.iconst 0, 1) := by decide +kernel
theorem dL_law_522 : decode cL_law 522 = .ok (.ireturn, 1) := by decide +kernel
theorem dL_law_523 : decode cL_law 523 = .ok (.aload_n 1, 1) := by decide +kernel
theorem dL_law_524 : decode cL_law 524 = .ok (.aload_n 0, 1) := by decide +kernel
theorem dL_law_525 : decode cL_law 525 = .ok (.iload_n 3, 1) := by decide +kernel
theorem dL_law_526 : decode cL_law 526 = .ok (.iconst 1, 1) := by decide +kernel
theorem dL_law_527 : decode cL_law 527 = .ok (.iadd, 1) := by decide +kernel
theorem dL_law_528 : decode cL_law 528 = .ok (.iaload, 1) := by decide +kernel
theorem dL_law_529 : decode cL_law 529 = .ok (.aload_n 0, 1) := by decide +kernel
theorem dL_law_530 : decode cL_law 530 = .ok (.iload_n 3, 1) := by decide +kernel
theorem dL_law_531 : decode cL_law 531 = .ok (.iconst 2, 1) := by decide +kernel
theorem dL_law_532 : decode cL_law 532 = .ok (.iadd, 1) := by decide +kernel
theorem dL_law_533 : decode cL_law 533 = .ok (.iaload, 1) := by decide +kernel
theorem dL_law_534 : decode cL_law 534 = .ok (.invokevirtual 83, 3) := by decide +kernel
theorem dL_law_537 : decode cL_law 537 = .ok (.aload_n 2, 1) := by decide +kernel
theorem dL_law_538 : decode cL_law 538 = .ok (.aload_n 0, 1) := by decide +kernel
theorem dL_law_539 : decode cL_law 539 = .ok (.iload_n 3, 1) := by decide +kernel
theorem dL_law_540 : decode cL_law 540 = .ok (.iconst 1, 1) := by decide +kernel
theorem dL_law_541 : decode cL_law 541 = .ok (.iadd, 1) := by decide +kernel
theorem dL_law_542 : decode cL_law 542 = .ok (.iaload, 1) := by decide +kernel
theorem dL_law_543 : decode cL_law 543 = .ok (.aload_n 0, 1) := by decide +kernel
theorem dL_law_544 : decode cL_law 544 = .ok (.iload_n 3, 1) := by decide +kernel
theorem dL_law_545 : decode cL_law 545 = .ok (.iconst 2, 1) := by decide +kernel
theorem dL_law_546 : decode cL_law 546 = .ok (.iadd, 1) := by decide +kernel
theorem dL_law_547 : decode cL_law 547 = .ok (.iaload, 1) := by decide +kernel
theorem dL_law_548 : decode cL_law 548 = .ok (.invokevirtual 87, 3) := by decide +kernel
theorem dL_law_551 : decode cL_law 551 = .ok (.if_icmp .eq 141, 3) := by decide +kernel
theorem dL_law_554 : decode cL_law 554 = .ok (.iconst 0, 1) := by decide +kernel
theorem dL_law_555 : decode cL_law 555 = .ok (.ireturn, 1) := by decide +kernel
theorem dL_law_556 : decode cL_law 556 = .ok (.aload_n 1, 1) := by decide +kernel
theorem dL_law_557 : decode cL_law 557 = .ok (.aload_n 0, 1) := by decide +kernel
theorem dL_law_558 : decode cL_law 558 = .ok (.iload_n 3, 1) := by decide +kernel
theorem dL_law_559 : decode cL_law 559 = .ok (.iconst 1, 1) := by decide +kernel
theorem dL_law_560 : decode cL_law 560 = .ok (.iadd, 1) := by decide +kernel
theorem dL_law_561 : decode cL_law 561 = .ok (.iaload, 1) := by decide +kernel
theorem dL_law_562 : decode cL_law 562 = .ok (.aload_n 0, 1) := by decide +kernel
theorem dL_law_563 : decode cL_law 563 = .ok (.iload_n 3, 1) := by decide +kernel
theorem dL_law_564 : decode cL_law 564 = .ok (.iconst 2, 1) := by decide +kernel
theorem dL_law_565 : decode cL_law 565 = .ok (.iadd, 1) := by decide +kernel
theorem dL_law_566 : decode cL_law 566 = .ok (.iaload, 1) := by decide +kernel
theorem dL_law_567 : decode cL_law 567 = .ok (.invokevirtual 88, 3) := by decide +kernel
theorem dL_law_570 : decode cL_law 570 = .ok (.aload_n 2, 1) := by decide +kernel
theorem dL_law_571 : decode cL_law 571 = .ok (.aload_n 0, 1) := by decide +kernel
theorem dL_law_572 : decode cL_law 572 = .ok (.iload_n 3, 1) := by decide +kernel
theorem dL_law_573 : decode cL_law 573 = .ok (.iconst 1, 1) := by decide +kernel
theorem dL_law_574 : decode cL_law 574 = .ok (.iadd, 1) := by decide +kernel
theorem dL_law_575 : decode cL_law 575 = .ok (.iaload, 1) := by decide +kernel
theorem dL_law_576 : decode cL_law 576 = .ok (.aload_n 0, 1) := by decide +kernel
theorem dL_law_577 : decode cL_law 577 = .ok (.iload_n 3, 1) := by decide +kernel
theorem dL_law_578 : decode cL_law 578 = .ok (.iconst 2, 1) := by decide +kernel
theorem dL_law_579 : decode cL_law 579 = .ok (.iadd, 1) := by decide +kernel
theorem dL_law_580 : decode cL_law 580 = .ok (.iaload, 1) := by decide +kernel
theorem dL_law_581 : decode cL_law 581 = .ok (.invokevirtual 91, 3) := by decide +kernel
theorem dL_law_584 : decode cL_law 584 = .ok (.if_icmp .eq 108, 3) := by decide +kernel
theorem dL_law_587 : decode cL_law 587 = .ok (.iconst 0, 1) := by decide +kernel
theorem dL_law_588 : decode cL_law 588 = .ok (.ireturn, 1) := by decide +kernel
theorem dL_law_589 : decode cL_law 589 = .ok (.aload_n 1, 1) := by decide +kernel
theorem dL_law_590 : decode cL_law 590 = .ok (.aload_n 0, 1) := by decide +kernel
theorem dL_law_591 : decode cL_law 591 = .ok (.iload_n 3, 1) := by decide +kernel
theorem dL_law_592 : decode cL_law 592 = .ok (.iconst 1, 1) := by decide +kernel
theorem dL_law_593 : decode cL_law 593 = .ok (.iadd, 1) := by decide +kernel
theorem dL_law_594 : decode cL_law 594 = .ok (.iaload, 1) := by decide +kernel
theorem dL_law_595 : decode cL_law 595 = .ok (.aload_n 0, 1) := by decide +kernel
theorem dL_law_596 : decode cL_law 596 = .ok (.iload_n 3, 1) := by decide +kernel
theorem dL_law_597 : decode cL_law 597 = .ok (.iconst 2, 1) := by decide +kernel
theorem dL_law_598 : decode cL_law 598 = .ok (.iadd, 1) := by decide +kernel
theorem dL_law_599 : decode cL_law 599 = .ok (.iaload, 1) := by decide +kernel
theorem dL_law_600 : decode cL_law 600 = .ok (.aload_n 0, 1) := by decide +kernel
theorem dL_law_601 : decode cL_law 601 = .ok (.iload_n 3, 1) := by decide +kernel
theorem dL_law_602 : decode cL_law 602 = .ok (.iconst 3, 1) := by decide +kernel
theorem dL_law_603 : decode cL_law 603 = .ok (.iadd, 1) := by decide +kernel
theorem dL_law_604 : decode cL_law 604 = .ok (.iaload, 1) := by decide +kernel
theorem dL_law_605 : decode cL_law 605 = .ok (.invokevirtual 92, 3) := by decide +kernel
theorem dL_law_608 : decode cL_law 608 = .ok (.aload_n 2, 1) := by decide +kernel
theorem dL_law_609 : decode cL_law 609 = .ok (.aload_n 0, 1) := by decide +kernel
theorem dL_law_610 : decode cL_law 610 = .ok (.iload_n 3, 1) := by decide +kernel
theorem dL_law_611 : decode cL_law 611 = .ok (.iconst 1, 1) := by decide +kernel
theorem dL_law_612 : decode cL_law 612 = .ok (.iadd, 1) := by decide +kernel
theorem dL_law_613 : decode cL_law 613 = .ok (.iaload, 1) := by decide +kernel
theorem dL_law_614 : decode cL_law 614 = .ok (.aload_n 0, 1) := by decide +kernel
theorem dL_law_615 : decode cL_law 615 = .ok (.iload_n 3, 1) := by decide +kernel
theorem dL_law_616 : decode cL_law 616 = .ok (.iconst 2, 1) := by decide +kernel
theorem dL_law_617 : decode cL_law 617 = .ok (.iadd, 1) := by decide +kernel
theorem dL_law_618 : decode cL_law 618 = .ok (.iaload, 1) := by decide +kernel
theorem dL_law_619 : decode cL_law 619 = .ok (.aload_n 0, 1) := by decide +kernel
theorem dL_law_620 : decode cL_law 620 = .ok (.iload_n 3, 1) := by decide +kernel
theorem dL_law_621 : decode cL_law 621 = .ok (.iconst 3, 1) := by decide +kernel
theorem dL_law_622 : decode cL_law 622 = .ok (.iadd, 1) := by decide +kernel
theorem dL_law_623 : decode cL_law 623 = .ok (.iaload, 1) := by decide +kernel
theorem dL_law_624 : decode cL_law 624 = .ok (.invokevirtual 95, 3) := by decide +kernel
theorem dL_law_627 : decode cL_law 627 = .ok (.if_icmp .eq 65, 3) := by decide +kernel
theorem dL_law_630 : decode cL_law 630 = .ok (.iconst 0, 1) := by decide +kernel
theorem dL_law_631 : decode cL_law 631 = .ok (.ireturn, 1) := by decide +kernel
theorem dL_law_632 : decode cL_law 632 = .ok (.aload_n 1, 1) := by decide +kernel
theorem dL_law_633 : decode cL_law 633 = .ok (.aload_n 0, 1) := by decide +kernel
theorem dL_law_634 : decode cL_law 634 = .ok (.iload_n 3, 1) := by decide +kernel
theorem dL_law_635 : decode cL_law 635 = .ok (.iconst 1, 1) := by decide +kernel
theorem dL_law_636 : decode cL_law 636 = .ok (.iadd, 1) := by decide +kernel
theorem dL_law_637 : decode cL_law 637 = .ok (.iaload, 1) := by decide +kernel
theorem dL_law_638 : decode cL_law 638 = .ok (.invokevirtual 96, 3) := by decide +kernel
theorem dL_law_641 : decode cL_law 641 = .ok (.aload_n 2, 1) := by decide +kernel
theorem dL_law_642 : decode cL_law 642 = .ok (.aload_n 0, 1) := by decide +kernel
theorem dL_law_643 : decode cL_law 643 = .ok (.iload_n 3, 1) := by decide +kernel
theorem dL_law_644 : decode cL_law 644 = .ok (.iconst 1, 1) := by decide +kernel
theorem dL_law_645 : decode cL_law 645 = .ok (.iadd, 1) := by decide +kernel
theorem dL_law_646 : decode cL_law 646 = .ok (.iaload, 1) := by decide +kernel
theorem dL_law_647 : decode cL_law 647 = .ok (.invokevirtual 99, 3) := by decide +kernel
theorem dL_law_650 : decode cL_law 650 = .ok (.if_icmp .eq 42, 3) := by decide +kernel
theorem dL_law_653 : decode cL_law 653 = .ok (.iconst 0, 1) := by decide +kernel
theorem dL_law_654 : decode cL_law 654 = .ok (.ireturn, 1) := by decide +kernel
theorem dL_law_655 : decode cL_law 655 = .ok (.aload_n 1, 1) := by decide +kernel
theorem dL_law_656 : decode cL_law 656 = .ok (.aload_n 0, 1) := by decide +kernel
theorem dL_law_657 : decode cL_law 657 = .ok (.iload_n 3, 1) := by decide +kernel
theorem dL_law_658 : decode cL_law 658 = .ok (.iconst 1, 1) := by decide +kernel
theorem dL_law_659 : decode cL_law 659 = .ok (.iadd, 1) := by decide +kernel
theorem dL_law_660 : decode cL_law 660 = .ok (.iaload, 1) := by decide +kernel
theorem dL_law_661 : decode cL_law 661 = .ok (.invokevirtual 100, 3) := by decide +kernel
theorem dL_law_664 : decode cL_law 664 = .ok (.aload_n 2, 1) := by decide +kernel
theorem dL_law_665 : decode cL_law 665 = .ok (.aload_n 0, 1) := by decide +kernel
theorem dL_law_666 : decode cL_law 666 = .ok (.iload_n 3, 1) := by decide +kernel
theorem dL_law_667 : decode cL_law 667 = .ok (.iconst 1, 1) := by decide +kernel
theorem dL_law_668 : decode cL_law 668 = .ok (.iadd, 1) := by decide +kernel
theorem dL_law_669 : decode cL_law 669 = .ok (.iaload, 1) := by decide +kernel
theorem dL_law_670 : decode cL_law 670 = .ok (.invokevirtual 103, 3) := by decide +kernel
theorem dL_law_673 : decode cL_law 673 = .ok (.if_icmp .eq 19, 3) := by decide +kernel
theorem dL_law_676 : decode cL_law 676 = .ok (.iconst 0, 1) := by decide +kernel
theorem dL_law_677 : decode cL_law 677 = .ok (.ireturn, 1) := by decide +kernel
theorem dL_law_678 : decode cL_law 678 = .ok (.aload_n 1, 1) := by decide +kernel
theorem dL_law_679 : decode cL_law 679 = .ok (.invokevirtual 104, 3) := by decide +kernel
theorem dL_law_682 : decode cL_law 682 = .ok (.aload_n 2, 1) := by decide +kernel
theorem dL_law_683 : decode cL_law 683 = .ok (.invokevirtual 108, 3) := by decide +kernel
theorem dL_law_686 : decode cL_law 686 = .ok (.lcmp, 1) := by decide +kernel
theorem dL_law_687 : decode cL_law 687 = .ok (.ifCond .eq 5, 3) := by decide +kernel
theorem dL_law_690 : decode cL_law 690 = .ok (.iconst 0, 1) := by decide +kernel
theorem dL_law_691 : decode cL_law 691 = .ok (.ireturn, 1) := by decide +kernel
theorem dL_law_692 : decode cL_law 692 = .ok (.iinc 3 4, 3) := by decide +kernel
theorem dL_law_695 : decode cL_law 695 = .ok (.goto (-677), 3) := by decide +kernel
theorem dL_law_698 : decode cL_law 698 = .ok (.iconst 1, 1) := by decide +kernel
theorem dL_law_699 : decode cL_law 699 = .ok (.ireturn, 1) := by decide +kernel
abbrev vwCl : List vw_C := [(RX0, TX0, 6), (RX1, TX1, 0), (RX2, TX2, 3), (RX3, TX3, 9), (RX4, TX4, 4), (RX6, TX6, 8), (RX7, TX7, 0), (RX8, TX8, 4), (RX9, TX9, 1), (RX10, TX10, 0), (RX11, TX11, 8), (RX12, TX12, 21)]
