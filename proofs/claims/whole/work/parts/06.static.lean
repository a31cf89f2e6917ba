theorem uw_0 : ∀ w ∈ u_ws RX0 TX0 6, w ∈ gt := by decide +kernel
theorem uw_1 : ∀ w ∈ u_ws RX1 TX1 0, w ∈ gt := by decide +kernel
theorem uw_2 : ∀ w ∈ u_ws RX2 TX2 3, w ∈ gt := by decide +kernel
theorem uw_3 : ∀ w ∈ u_ws RX3 TX3 9, w ∈ gt := by decide +kernel
theorem uw_4 : ∀ w ∈ u_ws RX4 TX4 4, w ∈ gt := by decide +kernel
theorem uw_5 : ∀ w ∈ u_ws RX6 TX6 8, w ∈ gt := by decide +kernel
theorem uw_6 : ∀ w ∈ u_ws RX7 TX7 0, w ∈ gt := by decide +kernel
theorem uw_7 : ∀ w ∈ u_ws RX8 TX8 4, w ∈ gt := by decide +kernel
theorem uw_8 : ∀ w ∈ u_ws RX9 TX9 1, w ∈ gt := by decide +kernel
theorem uw_9 : ∀ w ∈ u_ws RX10 TX10 0, w ∈ gt := by decide +kernel
theorem uw_10 : ∀ w ∈ u_ws RX11 TX11 8, w ∈ gt := by decide +kernel
theorem uw_11 : ∀ w ∈ u_ws RX12 TX12 21, w ∈ gt := by decide +kernel
theorem wd_231 : (Cond.code ({ cls := "LiarsAnswers$AnyHeap", name := "<init>", desc := "([III)V" } : MethodName) prog_2_method_1_code (4 : Nat) (Option.none : Option FieldType)) ∈ gt := gt_of (List.mem_of_getElem? (i := 231) (by decide +kernel)) (by decide +kernel)
theorem wd_40 : (Cond.initialized "LiarsAnswers$AnyHeap") ∈ gt := gt_of (List.mem_of_getElem? (i := 40) (by decide +kernel)) (by decide +kernel)
abbrev mX0_init : Mth := (yX0_init, cX0_init, 4, none)
theorem k_mX0_init : KM mX0_init 3 := ⟨wd_231, wd_40, by decide +kernel, by decide +kernel, by decide⟩
theorem wd_324 : (Cond.code ({ cls := "LiarsAnswers$AnyHeap", name := "hold", desc := "(IIII)V" } : MethodName) prog_2_method_2_code (5 : Nat) (Option.none : Option FieldType)) ∈ gt := gt_of (List.mem_of_getElem? (i := 324) (by decide +kernel)) (by decide +kernel)
abbrev mX0_hold : Mth := (yX0_hold, cX0_hold, 5, none)
theorem k_mX0_hold : KM mX0_hold 4 := ⟨wd_324, wd_40, by decide +kernel, by decide +kernel, by decide⟩
theorem wd_340 : (Cond.code ({ cls := "LiarsAnswers$AnyHeap", name := "last", desc := "(III)Z" } : MethodName) prog_2_method_3_code (5 : Nat) (Option.some FieldType.boolean)) ∈ gt := gt_of (List.mem_of_getElem? (i := 340) (by decide +kernel)) (by decide +kernel)
abbrev mX0_last : Mth := (yX0_last, cX0_last, 5, some FieldType.boolean)
theorem k_mX0_last : KM mX0_last 3 := ⟨wd_340, wd_40, by decide +kernel, by decide +kernel, by decide⟩
theorem wd_65 : (Cond.code ({ cls := "LiarsAnswers$BothLiar", name := "<init>", desc := "()V" } : MethodName) prog_3_method_1_code (1 : Nat) (Option.none : Option FieldType)) ∈ gt := gt_of (List.mem_of_getElem? (i := 65) (by decide +kernel)) (by decide +kernel)
theorem wd_32 : (Cond.initialized "LiarsAnswers$BothLiar") ∈ gt := gt_of (List.mem_of_getElem? (i := 32) (by decide +kernel)) (by decide +kernel)
abbrev mX1_init : Mth := (yX1_init, cX1_init, 1, none)
theorem k_mX1_init : KM mX1_init 0 := ⟨wd_65, wd_32, by decide +kernel, by decide +kernel, by decide⟩
theorem wd_200 : (Cond.code ({ cls := "LiarsAnswers$BothLiar", name := "price", desc := "(ZZLLiarsAnswers$Tally;)I" } : MethodName) prog_3_method_2_code (5 : Nat) (Option.some FieldType.int)) ∈ gt := gt_of (List.mem_of_getElem? (i := 200) (by decide +kernel)) (by decide +kernel)
abbrev mX1_price : Mth := (yX1_price, cX1_price, 5, some FieldType.int)
theorem k_mX1_price : KM mX1_price 3 := ⟨wd_200, wd_32, by decide +kernel, by decide +kernel, by decide⟩
theorem wd_139 : (Cond.code ({ cls := "LiarsAnswers$Code", name := "<init>", desc := "()V" } : MethodName) prog_4_method_1_code (1 : Nat) (Option.none : Option FieldType)) ∈ gt := gt_of (List.mem_of_getElem? (i := 139) (by decide +kernel)) (by decide +kernel)
theorem wd_36 : (Cond.initialized "LiarsAnswers$Code") ∈ gt := gt_of (List.mem_of_getElem? (i := 36) (by decide +kernel)) (by decide +kernel)
abbrev mX2_init : Mth := (yX2_init, cX2_init, 1, none)
theorem k_mX2_init : KM mX2_init 0 := ⟨wd_139, wd_36, by decide +kernel, by decide +kernel, by decide⟩
theorem wd_578 : (Cond.code ({ cls := "LiarsAnswers$Code", name := "add", desc := "(I)Z" } : MethodName) prog_4_method_2_code (3 : Nat) (Option.some FieldType.boolean)) ∈ gt := gt_of (List.mem_of_getElem? (i := 578) (by decide +kernel)) (by decide +kernel)
abbrev mX2_add : Mth := (yX2_add, cX2_add, 3, some FieldType.boolean)
theorem k_mX2_add : KM mX2_add 1 := ⟨wd_578, wd_36, by decide +kernel, by decide +kernel, by decide⟩
theorem wd_586 : (Cond.code ({ cls := "LiarsAnswers$Code", name := "removeLatest", desc := "()Z" } : MethodName) prog_4_method_3_code (2 : Nat) (Option.some FieldType.boolean)) ∈ gt := gt_of (List.mem_of_getElem? (i := 586) (by decide +kernel)) (by decide +kernel)
abbrev mX2_removeLatest : Mth := (yX2_removeLatest, cX2_removeLatest, 2, some FieldType.boolean)
theorem k_mX2_removeLatest : KM mX2_removeLatest 0 := ⟨wd_586, wd_36, by decide +kernel, by decide +kernel, by decide⟩
theorem wd_633 : (Cond.code ({ cls := "LiarsAnswers$Code", name := "question", desc := "(I)I" } : MethodName) prog_4_method_4_code (2 : Nat) (Option.some FieldType.int)) ∈ gt := gt_of (List.mem_of_getElem? (i := 633) (by decide +kernel)) (by decide +kernel)
abbrev mX2_question : Mth := (yX2_question, cX2_question, 2, some FieldType.int)
theorem k_mX2_question : KM mX2_question 1 := ⟨wd_633, wd_36, by decide +kernel, by decide +kernel, by decide⟩
theorem wd_617 : (Cond.code ({ cls := "LiarsAnswers$Code", name := "isWord", desc := "(I)Z" } : MethodName) prog_4_method_5_code (2 : Nat) (Option.some FieldType.boolean)) ∈ gt := gt_of (List.mem_of_getElem? (i := 617) (by decide +kernel)) (by decide +kernel)
abbrev mX2_isWord : Mth := (yX2_isWord, cX2_isWord, 2, some FieldType.boolean)
theorem k_mX2_isWord : KM mX2_isWord 1 := ⟨wd_617, wd_36, by decide +kernel, by decide +kernel, by decide⟩
theorem wd_594 : (Cond.code ({ cls := "LiarsAnswers$Code", name := "wordOf", desc := "(I)I" } : MethodName) prog_4_method_6_code (2 : Nat) (Option.some FieldType.int)) ∈ gt := gt_of (List.mem_of_getElem? (i := 594) (by decide +kernel)) (by decide +kernel)
abbrev mX2_wordOf : Mth := (yX2_wordOf, cX2_wordOf, 2, some FieldType.int)
theorem k_mX2_wordOf : KM mX2_wordOf 1 := ⟨wd_594, wd_36, by decide +kernel, by decide +kernel, by decide⟩
theorem wd_607 : (Cond.code ({ cls := "LiarsAnswers$Code", name := "allApart", desc := "(II)Z" } : MethodName) prog_4_method_7_code (6 : Nat) (Option.some FieldType.boolean)) ∈ gt := gt_of (List.mem_of_getElem? (i := 607) (by decide +kernel)) (by decide +kernel)
abbrev mX2_allApart : Mth := (yX2_allApart, cX2_allApart, 6, some FieldType.boolean)
theorem k_mX2_allApart : KM mX2_allApart 2 := ⟨wd_607, wd_36, by decide +kernel, by decide +kernel, by decide⟩
theorem wd_621 : (Cond.code ({ cls := "LiarsAnswers$Code", name := "onlyNear", desc := "(III)I" } : MethodName) prog_4_method_8_code (6 : Nat) (Option.some FieldType.int)) ∈ gt := gt_of (List.mem_of_getElem? (i := 621) (by decide +kernel)) (by decide +kernel)
abbrev mX2_onlyNear : Mth := (yX2_onlyNear, cX2_onlyNear, 6, some FieldType.int)
theorem k_mX2_onlyNear : KM mX2_onlyNear 3 := ⟨wd_621, wd_36, by decide +kernel, by decide +kernel, by decide⟩
theorem wd_97 : (Cond.code ({ cls := "LiarsAnswers$Game", name := "<init>", desc := "()V" } : MethodName) prog_5_method_1_code (1 : Nat) (Option.none : Option FieldType)) ∈ gt := gt_of (List.mem_of_getElem? (i := 97) (by decide +kernel)) (by decide +kernel)
theorem wd_35 : (Cond.initialized "LiarsAnswers$Game") ∈ gt := gt_of (List.mem_of_getElem? (i := 35) (by decide +kernel)) (by decide +kernel)
abbrev mX3_init : Mth := (yX3_init, cX3_init, 1, none)
theorem k_mX3_init : KM mX3_init 0 := ⟨wd_97, wd_35, by decide +kernel, by decide +kernel, by decide⟩
theorem wd_216 : (Cond.code ({ cls := "LiarsAnswers$Game", name := "start", desc := "(IIIII)V" } : MethodName) prog_5_method_2_code (7 : Nat) (Option.none : Option FieldType)) ∈ gt := gt_of (List.mem_of_getElem? (i := 216) (by decide +kernel)) (by decide +kernel)
abbrev mX3_start : Mth := (yX3_start, cX3_start, 7, none)
theorem k_mX3_start : KM mX3_start 5 := ⟨wd_216, wd_35, by decide +kernel, by decide +kernel, by decide⟩
theorem wd_369 : (Cond.code ({ cls := "LiarsAnswers$Game", name := "row", desc := "()I" } : MethodName) prog_5_method_3_code (1 : Nat) (Option.some FieldType.int)) ∈ gt := gt_of (List.mem_of_getElem? (i := 369) (by decide +kernel)) (by decide +kernel)
abbrev mX3_row : Mth := (yX3_row, cX3_row, 1, some FieldType.int)
theorem k_mX3_row : KM mX3_row 0 := ⟨wd_369, wd_35, by decide +kernel, by decide +kernel, by decide⟩
theorem wd_424 : (Cond.code ({ cls := "LiarsAnswers$Game", name := "rowBehind", desc := "()I" } : MethodName) prog_5_method_4_code (1 : Nat) (Option.some FieldType.int)) ∈ gt := gt_of (List.mem_of_getElem? (i := 424) (by decide +kernel)) (by decide +kernel)
abbrev mX3_rowBehind : Mth := (yX3_rowBehind, cX3_rowBehind, 1, some FieldType.int)
theorem k_mX3_rowBehind : KM mX3_rowBehind 0 := ⟨wd_424, wd_35, by decide +kernel, by decide +kernel, by decide⟩
theorem wd_395 : (Cond.code ({ cls := "LiarsAnswers$Game", name := "within", desc := "(I)I" } : MethodName) prog_5_method_5_code (2 : Nat) (Option.some FieldType.int)) ∈ gt := gt_of (List.mem_of_getElem? (i := 395) (by decide +kernel)) (by decide +kernel)
abbrev mX3_within : Mth := (yX3_within, cX3_within, 2, some FieldType.int)
theorem k_mX3_within : KM mX3_within 1 := ⟨wd_395, wd_35, by decide +kernel, by decide +kernel, by decide⟩
theorem wd_407 : (Cond.code ({ cls := "LiarsAnswers$Game", name := "leftOf", desc := "(I)I" } : MethodName) prog_5_method_6_code (2 : Nat) (Option.some FieldType.int)) ∈ gt := gt_of (List.mem_of_getElem? (i := 407) (by decide +kernel)) (by decide +kernel)
abbrev mX3_leftOf : Mth := (yX3_leftOf, cX3_leftOf, 2, some FieldType.int)
theorem k_mX3_leftOf : KM mX3_leftOf 1 := ⟨wd_407, wd_35, by decide +kernel, by decide +kernel, by decide⟩
theorem wd_452 : (Cond.code ({ cls := "LiarsAnswers$Game", name := "countOf", desc := "(I)I" } : MethodName) prog_5_method_7_code (4 : Nat) (Option.some FieldType.int)) ∈ gt := gt_of (List.mem_of_getElem? (i := 452) (by decide +kernel)) (by decide +kernel)
abbrev mX3_countOf : Mth := (yX3_countOf, cX3_countOf, 4, some FieldType.int)
theorem k_mX3_countOf : KM mX3_countOf 1 := ⟨wd_452, wd_35, by decide +kernel, by decide +kernel, by decide⟩
theorem wd_403 : (Cond.code ({ cls := "LiarsAnswers$Game", name := "standingIn", desc := "(I)I" } : MethodName) prog_5_method_8_code (4 : Nat) (Option.some FieldType.int)) ∈ gt := gt_of (List.mem_of_getElem? (i := 403) (by decide +kernel)) (by decide +kernel)
abbrev mX3_standingIn : Mth := (yX3_standingIn, cX3_standingIn, 4, some FieldType.int)
theorem k_mX3_standingIn : KM mX3_standingIn 1 := ⟨wd_403, wd_35, by decide +kernel, by decide +kernel, by decide⟩
theorem wd_399 : (Cond.code ({ cls := "LiarsAnswers$Game", name := "waitFor", desc := "(I)V" } : MethodName) prog_5_method_9_code (2 : Nat) (Option.none : Option FieldType)) ∈ gt := gt_of (List.mem_of_getElem? (i := 399) (by decide +kernel)) (by decide +kernel)
abbrev mX3_waitFor : Mth := (yX3_waitFor, cX3_waitFor, 2, none)
theorem k_mX3_waitFor : KM mX3_waitFor 1 := ⟨wd_399, wd_35, by decide +kernel, by decide +kernel, by decide⟩
theorem wd_416 : (Cond.code ({ cls := "LiarsAnswers$Game", name := "reply", desc := "(IZ)I" } : MethodName) prog_5_method_10_code (4 : Nat) (Option.some FieldType.int)) ∈ gt := gt_of (List.mem_of_getElem? (i := 416) (by decide +kernel)) (by decide +kernel)
abbrev mX3_reply : Mth := (yX3_reply, cX3_reply, 4, some FieldType.int)
theorem k_mX3_reply : KM mX3_reply 2 := ⟨wd_416, wd_35, by decide +kernel, by decide +kernel, by decide⟩
theorem wd_436 : (Cond.code ({ cls := "LiarsAnswers$Game", name := "forgetLatest", desc := "()V" } : MethodName) prog_5_method_11_code (1 : Nat) (Option.none : Option FieldType)) ∈ gt := gt_of (List.mem_of_getElem? (i := 436) (by decide +kernel)) (by decide +kernel)
abbrev mX3_forgetLatest : Mth := (yX3_forgetLatest, cX3_forgetLatest, 1, none)
theorem k_mX3_forgetLatest : KM mX3_forgetLatest 0 := ⟨wd_436, wd_35, by decide +kernel, by decide +kernel, by decide⟩
theorem wd_420 : (Cond.code ({ cls := "LiarsAnswers$Game", name := "layBehind", desc := "(IZ)I" } : MethodName) prog_5_method_12_code (7 : Nat) (Option.some FieldType.int)) ∈ gt := gt_of (List.mem_of_getElem? (i := 420) (by decide +kernel)) (by decide +kernel)
abbrev mX3_layBehind : Mth := (yX3_layBehind, cX3_layBehind, 7, some FieldType.int)
theorem k_mX3_layBehind : KM mX3_layBehind 2 := ⟨wd_420, wd_35, by decide +kernel, by decide +kernel, by decide⟩
theorem wd_428 : (Cond.code ({ cls := "LiarsAnswers$Game", name := "priceFor", desc := "(ZZ)I" } : MethodName) prog_5_method_13_code (3 : Nat) (Option.some FieldType.int)) ∈ gt := gt_of (List.mem_of_getElem? (i := 428) (by decide +kernel)) (by decide +kernel)
abbrev mX3_priceFor : Mth := (yX3_priceFor, cX3_priceFor, 3, some FieldType.int)
theorem k_mX3_priceFor : KM mX3_priceFor 2 := ⟨wd_428, wd_35, by decide +kernel, by decide +kernel, by decide⟩
theorem wd_491 : (Cond.code ({ cls := "LiarsAnswers$Game", name := "asDigits", desc := "()I" } : MethodName) prog_5_method_14_code (3 : Nat) (Option.some FieldType.int)) ∈ gt := gt_of (List.mem_of_getElem? (i := 491) (by decide +kernel)) (by decide +kernel)
abbrev mX3_asDigits : Mth := (yX3_asDigits, cX3_asDigits, 3, some FieldType.int)
theorem k_mX3_asDigits : KM mX3_asDigits 0 := ⟨wd_491, wd_35, by decide +kernel, by decide +kernel, by decide⟩
theorem wd_285 : (Cond.code ({ cls := "LiarsAnswers$HeapTable", name := "<init>", desc := "([ILLiarsAnswers$AnyHeap;LLiarsAnswers$LeastHeap;)V" } : MethodName) prog_6_method_1_code (4 : Nat) (Option.none : Option FieldType)) ∈ gt := gt_of (List.mem_of_getElem? (i := 285) (by decide +kernel)) (by decide +kernel)
theorem wd_42 : (Cond.initialized "LiarsAnswers$HeapTable") ∈ gt := gt_of (List.mem_of_getElem? (i := 42) (by decide +kernel)) (by decide +kernel)
abbrev mX4_init : Mth := (yX4_init, cX4_init, 4, none)
theorem k_mX4_init : KM mX4_init 3 := ⟨wd_285, wd_42, by decide +kernel, by decide +kernel, by decide⟩
theorem wd_303 : (Cond.code ({ cls := "LiarsAnswers$HeapTable", name := "learn", desc := "(II)V" } : MethodName) prog_6_method_2_code (8 : Nat) (Option.none : Option FieldType)) ∈ gt := gt_of (List.mem_of_getElem? (i := 303) (by decide +kernel)) (by decide +kernel)
abbrev mX4_learn : Mth := (yX4_learn, cX4_learn, 8, none)
theorem k_mX4_learn : KM mX4_learn 2 := ⟨wd_303, wd_42, by decide +kernel, by decide +kernel, by decide⟩
theorem wd_308 : (Cond.code ({ cls := "LiarsAnswers$HeapTable", name := "learnOne", desc := "(IIII)V" } : MethodName) prog_6_method_3_code (8 : Nat) (Option.none : Option FieldType)) ∈ gt := gt_of (List.mem_of_getElem? (i := 308) (by decide +kernel)) (by decide +kernel)
abbrev mX4_learnOne : Mth := (yX4_learnOne, cX4_learnOne, 8, none)
theorem k_mX4_learnOne : KM mX4_learnOne 4 := ⟨wd_308, wd_42, by decide +kernel, by decide +kernel, by decide⟩
theorem wd_320 : (Cond.code ({ cls := "LiarsAnswers$HeapTable", name := "stepTo", desc := "(II)I" } : MethodName) prog_6_method_4_code (2 : Nat) (Option.some FieldType.int)) ∈ gt := gt_of (List.mem_of_getElem? (i := 320) (by decide +kernel)) (by decide +kernel)
abbrev mX4_stepTo : Mth := (yX4_stepTo, cX4_stepTo, 2, some FieldType.int)
theorem k_mX4_stepTo : KM mX4_stepTo 2 := ⟨wd_320, wd_42, by decide +kernel, by decide +kernel, by decide⟩
theorem wd_317 : (Cond.code ({ cls := "LiarsAnswers$HeapTable", name := "fewAt", desc := "(I)I" } : MethodName) prog_6_method_5_code (2 : Nat) (Option.some FieldType.int)) ∈ gt := gt_of (List.mem_of_getElem? (i := 317) (by decide +kernel)) (by decide +kernel)
abbrev mX4_fewAt : Mth := (yX4_fewAt, cX4_fewAt, 2, some FieldType.int)
theorem k_mX4_fewAt : KM mX4_fewAt 1 := ⟨wd_317, wd_42, by decide +kernel, by decide +kernel, by decide⟩
theorem wd_373 : (Cond.code ({ cls := "LiarsAnswers$HeapTable", name := "fewestOf", desc := "([III)I" } : MethodName) prog_6_method_6_code (8 : Nat) (Option.some FieldType.int)) ∈ gt := gt_of (List.mem_of_getElem? (i := 373) (by decide +kernel)) (by decide +kernel)
abbrev mX4_fewestOf : Mth := (yX4_fewestOf, cX4_fewestOf, 8, some FieldType.int)
theorem k_mX4_fewestOf : KM mX4_fewestOf 3 := ⟨wd_373, wd_42, by decide +kernel, by decide +kernel, by decide⟩
theorem wd_546 : (Cond.code ({ cls := "LiarsAnswers$HeapTable", name := "bestHeap", desc := "([III)I" } : MethodName) prog_6_method_7_code (4 : Nat) (Option.some FieldType.int)) ∈ gt := gt_of (List.mem_of_getElem? (i := 546) (by decide +kernel)) (by decide +kernel)
abbrev mX4_bestHeap : Mth := (yX4_bestHeap, cX4_bestHeap, 4, some FieldType.int)
theorem k_mX4_bestHeap : KM mX4_bestHeap 3 := ⟨wd_546, wd_42, by decide +kernel, by decide +kernel, by decide⟩
theorem wd_234 : (Cond.code ({ cls := "LiarsAnswers$HeapWalk", name := "<init>", desc := "([III)V" } : MethodName) prog_7_method_1_code (4 : Nat) (Option.none : Option FieldType)) ∈ gt := gt_of (List.mem_of_getElem? (i := 234) (by decide +kernel)) (by decide +kernel)
theorem wd_39 : (Cond.initialized "LiarsAnswers$HeapWalk") ∈ gt := gt_of (List.mem_of_getElem? (i := 39) (by decide +kernel)) (by decide +kernel)
abbrev mX5_init : Mth := (yX5_init, cX5_init, 4, none)
theorem k_mX5_init : KM mX5_init 3 := ⟨wd_234, wd_39, by decide +kernel, by decide +kernel, by decide⟩
theorem wd_330 : (Cond.code ({ cls := "LiarsAnswers$HeapWalk", name := "walk", desc := "(I)Z" } : MethodName) prog_7_method_2_code (2 : Nat) (Option.some FieldType.boolean)) ∈ gt := gt_of (List.mem_of_getElem? (i := 330) (by decide +kernel)) (by decide +kernel)
abbrev mX5_walk : Mth := (yX5_walk, cX5_walk, 2, some FieldType.boolean)
theorem k_mX5_walk : KM mX5_walk 1 := ⟨wd_330, wd_39, by decide +kernel, by decide +kernel, by decide⟩
theorem wd_334 : (Cond.code ({ cls := "LiarsAnswers$HeapWalk", name := "down", desc := "(III)Z" } : MethodName) prog_7_method_3_code (12 : Nat) (Option.some FieldType.boolean)) ∈ gt := gt_of (List.mem_of_getElem? (i := 334) (by decide +kernel)) (by decide +kernel)
abbrev mX5_down : Mth := (yX5_down, cX5_down, 12, some FieldType.boolean)
theorem k_mX5_down : KM mX5_down 3 := ⟨wd_334, wd_39, by decide +kernel, by decide +kernel, by decide⟩
theorem wd_346 : (Cond.code ({ cls := "LiarsAnswers$HeapWalk", name := "isBeyond", desc := "(I)Z" } : MethodName) prog_7_method_5_code (2 : Nat) (Option.some FieldType.boolean)) ∈ gt := gt_of (List.mem_of_getElem? (i := 346) (by decide +kernel)) (by decide +kernel)
abbrev mX5_isBeyond : Mth := (yX5_isBeyond, cX5_isBeyond, 2, some FieldType.boolean)
theorem k_mX5_isBeyond : KM mX5_isBeyond 1 := ⟨wd_346, wd_39, by decide +kernel, by decide +kernel, by decide⟩
theorem wd_360 : (Cond.code ({ cls := "LiarsAnswers$HeapWalk", name := "outward", desc := "(II)I" } : MethodName) prog_7_method_6_code (3 : Nat) (Option.some FieldType.int)) ∈ gt := gt_of (List.mem_of_getElem? (i := 360) (by decide +kernel)) (by decide +kernel)
abbrev mX5_outward : Mth := (yX5_outward, cX5_outward, 3, some FieldType.int)
theorem k_mX5_outward : KM mX5_outward 2 := ⟨wd_360, wd_39, by decide +kernel, by decide +kernel, by decide⟩
theorem wd_267 : (Cond.code ({ cls := "LiarsAnswers$LeastHeap", name := "<init>", desc := "([III)V" } : MethodName) prog_8_method_1_code (4 : Nat) (Option.none : Option FieldType)) ∈ gt := gt_of (List.mem_of_getElem? (i := 267) (by decide +kernel)) (by decide +kernel)
theorem wd_41 : (Cond.initialized "LiarsAnswers$LeastHeap") ∈ gt := gt_of (List.mem_of_getElem? (i := 41) (by decide +kernel)) (by decide +kernel)
abbrev mX6_init : Mth := (yX6_init, cX6_init, 4, none)
theorem k_mX6_init : KM mX6_init 3 := ⟨wd_267, wd_41, by decide +kernel, by decide +kernel, by decide⟩
theorem wd_551 : (Cond.code ({ cls := "LiarsAnswers$LeastHeap", name := "find", desc := "([IIII)I" } : MethodName) prog_8_method_2_code (6 : Nat) (Option.some FieldType.int)) ∈ gt := gt_of (List.mem_of_getElem? (i := 551) (by decide +kernel)) (by decide +kernel)
abbrev mX6_find : Mth := (yX6_find, cX6_find, 6, some FieldType.int)
theorem k_mX6_find : KM mX6_find 4 := ⟨wd_551, wd_41, by decide +kernel, by decide +kernel, by decide⟩
theorem wd_555 : (Cond.code ({ cls := "LiarsAnswers$LeastHeap", name := "layLowest", desc := "([IIII)I" } : MethodName) prog_8_method_3_code (8 : Nat) (Option.some FieldType.int)) ∈ gt := gt_of (List.mem_of_getElem? (i := 555) (by decide +kernel)) (by decide +kernel)
abbrev mX6_layLowest : Mth := (yX6_layLowest, cX6_layLowest, 8, some FieldType.int)
theorem k_mX6_layLowest : KM mX6_layLowest 4 := ⟨wd_555, wd_41, by decide +kernel, by decide +kernel, by decide⟩
theorem wd_349 : (Cond.code ({ cls := "LiarsAnswers$LeastHeap", name := "last", desc := "(III)Z" } : MethodName) prog_8_method_4_code (5 : Nat) (Option.some FieldType.boolean)) ∈ gt := gt_of (List.mem_of_getElem? (i := 349) (by decide +kernel)) (by decide +kernel)
abbrev mX6_last : Mth := (yX6_last, cX6_last, 5, some FieldType.boolean)
theorem k_mX6_last : KM mX6_last 3 := ⟨wd_349, wd_41, by decide +kernel, by decide +kernel, by decide⟩
theorem wd_356 : (Cond.code ({ cls := "LiarsAnswers$LeastHeap", name := "lowestTaken", desc := "()I" } : MethodName) prog_8_method_5_code (4 : Nat) (Option.some FieldType.int)) ∈ gt := gt_of (List.mem_of_getElem? (i := 356) (by decide +kernel)) (by decide +kernel)
abbrev mX6_lowestTaken : Mth := (yX6_lowestTaken, cX6_lowestTaken, 4, some FieldType.int)
theorem k_mX6_lowestTaken : KM mX6_lowestTaken 0 := ⟨wd_356, wd_41, by decide +kernel, by decide +kernel, by decide⟩
theorem wd_58 : (Cond.code ({ cls := "LiarsAnswers$Liar", name := "<init>", desc := "()V" } : MethodName) prog_9_method_1_code (1 : Nat) (Option.none : Option FieldType)) ∈ gt := gt_of (List.mem_of_getElem? (i := 58) (by decide +kernel)) (by decide +kernel)
theorem wd_31 : (Cond.initialized "LiarsAnswers$Liar") ∈ gt := gt_of (List.mem_of_getElem? (i := 31) (by decide +kernel)) (by decide +kernel)
abbrev mX7_init : Mth := (yX7_init, cX7_init, 1, none)
theorem k_mX7_init : KM mX7_init 0 := ⟨wd_58, wd_31, by decide +kernel, by decide +kernel, by decide⟩
theorem wd_208 : (Cond.code ({ cls := "LiarsAnswers$Liar", name := "price", desc := "(ZZLLiarsAnswers$Tally;)I" } : MethodName) prog_9_method_2_code (4 : Nat) (Option.some FieldType.int)) ∈ gt := gt_of (List.mem_of_getElem? (i := 208) (by decide +kernel)) (by decide +kernel)
abbrev mX7_price : Mth := (yX7_price, cX7_price, 4, some FieldType.int)
theorem k_mX7_price : KM mX7_price 3 := ⟨wd_208, wd_31, by decide +kernel, by decide +kernel, by decide⟩
theorem wd_472 : (Cond.code ({ cls := "LiarsAnswers$SpanTable", name := "<init>", desc := "(II)V" } : MethodName) prog_10_method_1_code (3 : Nat) (Option.none : Option FieldType)) ∈ gt := gt_of (List.mem_of_getElem? (i := 472) (by decide +kernel)) (by decide +kernel)
theorem wd_43 : (Cond.initialized "LiarsAnswers$SpanTable") ∈ gt := gt_of (List.mem_of_getElem? (i := 43) (by decide +kernel)) (by decide +kernel)
abbrev mX8_init : Mth := (yX8_init, cX8_init, 3, none)
theorem k_mX8_init : KM mX8_init 2 := ⟨wd_472, wd_43, by decide +kernel, by decide +kernel, by decide⟩
theorem wd_495 : (Cond.code ({ cls := "LiarsAnswers$SpanTable", name := "fewestOf", desc := "(I)I" } : MethodName) prog_10_method_2_code (2 : Nat) (Option.some FieldType.int)) ∈ gt := gt_of (List.mem_of_getElem? (i := 495) (by decide +kernel)) (by decide +kernel)
abbrev mX8_fewestOf : Mth := (yX8_fewestOf, cX8_fewestOf, 2, some FieldType.int)
theorem k_mX8_fewestOf : KM mX8_fewestOf 1 := ⟨wd_495, wd_43, by decide +kernel, by decide +kernel, by decide⟩
theorem wd_499 : (Cond.code ({ cls := "LiarsAnswers$SpanTable", name := "learned", desc := "(I)I" } : MethodName) prog_10_method_3_code (4 : Nat) (Option.some FieldType.int)) ∈ gt := gt_of (List.mem_of_getElem? (i := 499) (by decide +kernel)) (by decide +kernel)
abbrev mX8_learned : Mth := (yX8_learned, cX8_learned, 4, some FieldType.int)
theorem k_mX8_learned : KM mX8_learned 1 := ⟨wd_499, wd_43, by decide +kernel, by decide +kernel, by decide⟩
theorem wd_519 : (Cond.code ({ cls := "LiarsAnswers$SpanTable", name := "leastQuestions", desc := "(II)I" } : MethodName) prog_10_method_4_code (8 : Nat) (Option.some FieldType.int)) ∈ gt := gt_of (List.mem_of_getElem? (i := 519) (by decide +kernel)) (by decide +kernel)
abbrev mX8_leastQuestions : Mth := (yX8_leastQuestions, cX8_leastQuestions, 8, some FieldType.int)
theorem k_mX8_leastQuestions : KM mX8_leastQuestions 2 := ⟨wd_519, wd_43, by decide +kernel, by decide +kernel, by decide⟩
theorem wd_522 : (Cond.code ({ cls := "LiarsAnswers$SpanTable", name := "digitOne", desc := "(I)I" } : MethodName) prog_10_method_5_code (1 : Nat) (Option.some FieldType.int)) ∈ gt := gt_of (List.mem_of_getElem? (i := 522) (by decide +kernel)) (by decide +kernel)
abbrev mX8_digitOne : Mth := (yX8_digitOne, cX8_digitOne, 1, some FieldType.int)
theorem k_mX8_digitOne : KM mX8_digitOne 1 := ⟨wd_522, wd_43, by decide +kernel, by decide +kernel, by decide⟩
theorem wd_527 : (Cond.code ({ cls := "LiarsAnswers$SpanTable", name := "greaterBehind", desc := "(II)I" } : MethodName) prog_10_method_6_code (5 : Nat) (Option.some FieldType.int)) ∈ gt := gt_of (List.mem_of_getElem? (i := 527) (by decide +kernel)) (by decide +kernel)
abbrev mX8_greaterBehind : Mth := (yX8_greaterBehind, cX8_greaterBehind, 5, some FieldType.int)
theorem k_mX8_greaterBehind : KM mX8_greaterBehind 2 := ⟨wd_527, wd_43, by decide +kernel, by decide +kernel, by decide⟩
theorem wd_530 : (Cond.code ({ cls := "LiarsAnswers$SpanTable", name := "charged", desc := "(III)I" } : MethodName) prog_10_method_7_code (5 : Nat) (Option.some FieldType.int)) ∈ gt := gt_of (List.mem_of_getElem? (i := 530) (by decide +kernel)) (by decide +kernel)
abbrev mX8_charged : Mth := (yX8_charged, cX8_charged, 5, some FieldType.int)
theorem k_mX8_charged : KM mX8_charged 3 := ⟨wd_530, wd_43, by decide +kernel, by decide +kernel, by decide⟩
theorem wd_505 : (Cond.code ({ cls := "LiarsAnswers$SpanTable", name := "standing", desc := "(I)I" } : MethodName) prog_10_method_8_code (1 : Nat) (Option.some FieldType.int)) ∈ gt := gt_of (List.mem_of_getElem? (i := 505) (by decide +kernel)) (by decide +kernel)
abbrev mX8_standing : Mth := (yX8_standing, cX8_standing, 1, some FieldType.int)
theorem k_mX8_standing : KM mX8_standing 1 := ⟨wd_505, wd_43, by decide +kernel, by decide +kernel, by decide⟩
theorem wd_502 : (Cond.code ({ cls := "LiarsAnswers$SpanTable", name := "lowestGap", desc := "(I)I" } : MethodName) prog_10_method_9_code (2 : Nat) (Option.some FieldType.int)) ∈ gt := gt_of (List.mem_of_getElem? (i := 502) (by decide +kernel)) (by decide +kernel)
abbrev mX8_lowestGap : Mth := (yX8_lowestGap, cX8_lowestGap, 2, some FieldType.int)
theorem k_mX8_lowestGap : KM mX8_lowestGap 1 := ⟨wd_502, wd_43, by decide +kernel, by decide +kernel, by decide⟩
theorem wd_509 : (Cond.code ({ cls := "LiarsAnswers$SpanTable", name := "fewAt", desc := "(I)I" } : MethodName) prog_10_method_10_code (2 : Nat) (Option.some FieldType.int)) ∈ gt := gt_of (List.mem_of_getElem? (i := 509) (by decide +kernel)) (by decide +kernel)
abbrev mX8_fewAt : Mth := (yX8_fewAt, cX8_fewAt, 2, some FieldType.int)
theorem k_mX8_fewAt : KM mX8_fewAt 1 := ⟨wd_509, wd_43, by decide +kernel, by decide +kernel, by decide⟩
theorem wd_79 : (Cond.code ({ cls := "LiarsAnswers$Tally", name := "<init>", desc := "()V" } : MethodName) prog_11_method_1_code (1 : Nat) (Option.none : Option FieldType)) ∈ gt := gt_of (List.mem_of_getElem? (i := 79) (by decide +kernel)) (by decide +kernel)
theorem wd_34 : (Cond.initialized "LiarsAnswers$Tally") ∈ gt := gt_of (List.mem_of_getElem? (i := 34) (by decide +kernel)) (by decide +kernel)
abbrev mX9_init : Mth := (yX9_init, cX9_init, 1, none)
theorem k_mX9_init : KM mX9_init 0 := ⟨wd_79, wd_34, by decide +kernel, by decide +kernel, by decide⟩
theorem wd_72 : (Cond.code ({ cls := "LiarsAnswers$YesLiar", name := "<init>", desc := "()V" } : MethodName) prog_12_method_1_code (1 : Nat) (Option.none : Option FieldType)) ∈ gt := gt_of (List.mem_of_getElem? (i := 72) (by decide +kernel)) (by decide +kernel)
theorem wd_33 : (Cond.initialized "LiarsAnswers$YesLiar") ∈ gt := gt_of (List.mem_of_getElem? (i := 33) (by decide +kernel)) (by decide +kernel)
abbrev mX10_init : Mth := (yX10_init, cX10_init, 1, none)
theorem k_mX10_init : KM mX10_init 0 := ⟨wd_72, wd_33, by decide +kernel, by decide +kernel, by decide⟩
theorem wd_205 : (Cond.code ({ cls := "LiarsAnswers$YesLiar", name := "price", desc := "(ZZLLiarsAnswers$Tally;)I" } : MethodName) prog_12_method_2_code (5 : Nat) (Option.some FieldType.int)) ∈ gt := gt_of (List.mem_of_getElem? (i := 205) (by decide +kernel)) (by decide +kernel)
abbrev mX10_price : Mth := (yX10_price, cX10_price, 5, some FieldType.int)
theorem k_mX10_price : KM mX10_price 3 := ⟨wd_205, wd_33, by decide +kernel, by decide +kernel, by decide⟩
theorem wd_49 : (Cond.code ({ cls := "LiarsAnswers", name := "<init>", desc := "()V" } : MethodName) prog_1_method_1_code (1 : Nat) (Option.none : Option FieldType)) ∈ gt := gt_of (List.mem_of_getElem? (i := 49) (by decide +kernel)) (by decide +kernel)
theorem wd_30 : (Cond.initialized "LiarsAnswers") ∈ gt := gt_of (List.mem_of_getElem? (i := 30) (by decide +kernel)) (by decide +kernel)
abbrev mX11_init : Mth := (yX11_init, cX11_init, 1, none)
theorem k_mX11_init : KM mX11_init 0 := ⟨wd_49, wd_30, by decide +kernel, by decide +kernel, by decide⟩
theorem wd_180 : (Cond.code ({ cls := "LiarsAnswers", name := "begin", desc := "(III)I" } : MethodName) prog_1_method_2_code (5 : Nat) (Option.some FieldType.int)) ∈ gt := gt_of (List.mem_of_getElem? (i := 180) (by decide +kernel)) (by decide +kernel)
abbrev mX11_begin : Mth := (yX11_begin, cX11_begin, 5, some FieldType.int)
theorem k_mX11_begin : KM mX11_begin 3 := ⟨wd_180, wd_30, by decide +kernel, by decide +kernel, by decide⟩
theorem wd_383 : (Cond.code ({ cls := "LiarsAnswers", name := "cost", desc := "(IZZ)I" } : MethodName) prog_1_method_3_code (4 : Nat) (Option.some FieldType.int)) ∈ gt := gt_of (List.mem_of_getElem? (i := 383) (by decide +kernel)) (by decide +kernel)
abbrev mX11_cost : Mth := (yX11_cost, cX11_cost, 4, some FieldType.int)
theorem k_mX11_cost : KM mX11_cost 3 := ⟨wd_383, wd_30, by decide +kernel, by decide +kernel, by decide⟩
theorem wd_387 : (Cond.code ({ cls := "LiarsAnswers", name := "ask", desc := "(I)I" } : MethodName) prog_1_method_4_code (2 : Nat) (Option.some FieldType.int)) ∈ gt := gt_of (List.mem_of_getElem? (i := 387) (by decide +kernel)) (by decide +kernel)
abbrev mX11_ask : Mth := (yX11_ask, cX11_ask, 2, some FieldType.int)
theorem k_mX11_ask : KM mX11_ask 1 := ⟨wd_387, wd_30, by decide +kernel, by decide +kernel, by decide⟩
theorem wd_412 : (Cond.code ({ cls := "LiarsAnswers", name := "answer", desc := "(Z)I" } : MethodName) prog_1_method_5_code (2 : Nat) (Option.some FieldType.int)) ∈ gt := gt_of (List.mem_of_getElem? (i := 412) (by decide +kernel)) (by decide +kernel)
abbrev mX11_answer : Mth := (yX11_answer, cX11_answer, 2, some FieldType.int)
theorem k_mX11_answer : KM mX11_answer 1 := ⟨wd_412, wd_30, by decide +kernel, by decide +kernel, by decide⟩
theorem wd_432 : (Cond.code ({ cls := "LiarsAnswers", name := "back", desc := "()I" } : MethodName) prog_1_method_6_code (1 : Nat) (Option.some FieldType.int)) ∈ gt := gt_of (List.mem_of_getElem? (i := 432) (by decide +kernel)) (by decide +kernel)
abbrev mX11_back : Mth := (yX11_back, cX11_back, 1, some FieldType.int)
theorem k_mX11_back : KM mX11_back 0 := ⟨wd_432, wd_30, by decide +kernel, by decide +kernel, by decide⟩
theorem wd_440 : (Cond.code ({ cls := "LiarsAnswers", name := "left", desc := "(I)I" } : MethodName) prog_1_method_7_code (2 : Nat) (Option.some FieldType.int)) ∈ gt := gt_of (List.mem_of_getElem? (i := 440) (by decide +kernel)) (by decide +kernel)
abbrev mX11_left : Mth := (yX11_left, cX11_left, 2, some FieldType.int)
theorem k_mX11_left : KM mX11_left 1 := ⟨wd_440, wd_30, by decide +kernel, by decide +kernel, by decide⟩
theorem wd_448 : (Cond.code ({ cls := "LiarsAnswers", name := "state", desc := "(I)I" } : MethodName) prog_1_method_8_code (2 : Nat) (Option.some FieldType.int)) ∈ gt := gt_of (List.mem_of_getElem? (i := 448) (by decide +kernel)) (by decide +kernel)
abbrev mX11_state : Mth := (yX11_state, cX11_state, 2, some FieldType.int)
theorem k_mX11_state : KM mX11_state 1 := ⟨wd_448, wd_30, by decide +kernel, by decide +kernel, by decide⟩
theorem wd_456 : (Cond.code ({ cls := "LiarsAnswers", name := "found", desc := "()I" } : MethodName) prog_1_method_9_code (4 : Nat) (Option.some FieldType.int)) ∈ gt := gt_of (List.mem_of_getElem? (i := 456) (by decide +kernel)) (by decide +kernel)
abbrev mX11_found : Mth := (yX11_found, cX11_found, 4, some FieldType.int)
theorem k_mX11_found : KM mX11_found 0 := ⟨wd_456, wd_30, by decide +kernel, by decide +kernel, by decide⟩
theorem wd_460 : (Cond.code ({ cls := "LiarsAnswers", name := "fewest", desc := "()I" } : MethodName) prog_1_method_10_code (1 : Nat) (Option.some FieldType.int)) ∈ gt := gt_of (List.mem_of_getElem? (i := 460) (by decide +kernel)) (by decide +kernel)
abbrev mX11_fewest : Mth := (yX11_fewest, cX11_fewest, 1, some FieldType.int)
theorem k_mX11_fewest : KM mX11_fewest 0 := ⟨wd_460, wd_30, by decide +kernel, by decide +kernel, by decide⟩
theorem wd_464 : (Cond.code ({ cls := "LiarsAnswers", name := "spans", desc := "()I" } : MethodName) prog_1_method_11_code (1 : Nat) (Option.some FieldType.int)) ∈ gt := gt_of (List.mem_of_getElem? (i := 464) (by decide +kernel)) (by decide +kernel)
abbrev mX11_spans : Mth := (yX11_spans, cX11_spans, 1, some FieldType.int)
theorem k_mX11_spans : KM mX11_spans 0 := ⟨wd_464, wd_30, by decide +kernel, by decide +kernel, by decide⟩
theorem wd_534 : (Cond.code ({ cls := "LiarsAnswers", name := "weight", desc := "(I)J" } : MethodName) prog_1_method_12_code (5 : Nat) (Option.some FieldType.long)) ∈ gt := gt_of (List.mem_of_getElem? (i := 534) (by decide +kernel)) (by decide +kernel)
abbrev mX11_weight : Mth := (yX11_weight, cX11_weight, 5, some FieldType.long)
theorem k_mX11_weight : KM mX11_weight 1 := ⟨wd_534, wd_30, by decide +kernel, by decide +kernel, by decide⟩
theorem wd_542 : (Cond.code ({ cls := "LiarsAnswers", name := "best", desc := "()I" } : MethodName) prog_1_method_13_code (2 : Nat) (Option.some FieldType.int)) ∈ gt := gt_of (List.mem_of_getElem? (i := 542) (by decide +kernel)) (by decide +kernel)
abbrev mX11_best : Mth := (yX11_best, cX11_best, 2, some FieldType.int)
theorem k_mX11_best : KM mX11_best 0 := ⟨wd_542, wd_30, by decide +kernel, by decide +kernel, by decide⟩
theorem wd_564 : (Cond.code ({ cls := "LiarsAnswers", name := "worse", desc := "()I" } : MethodName) prog_1_method_14_code (3 : Nat) (Option.some FieldType.int)) ∈ gt := gt_of (List.mem_of_getElem? (i := 564) (by decide +kernel)) (by decide +kernel)
abbrev mX11_worse : Mth := (yX11_worse, cX11_worse, 3, some FieldType.int)
theorem k_mX11_worse : KM mX11_worse 0 := ⟨wd_564, wd_30, by decide +kernel, by decide +kernel, by decide⟩
theorem wd_574 : (Cond.code ({ cls := "LiarsAnswers", name := "set", desc := "(I)I" } : MethodName) prog_1_method_15_code (2 : Nat) (Option.some FieldType.int)) ∈ gt := gt_of (List.mem_of_getElem? (i := 574) (by decide +kernel)) (by decide +kernel)
abbrev mX11_set : Mth := (yX11_set, cX11_set, 2, some FieldType.int)
theorem k_mX11_set : KM mX11_set 1 := ⟨wd_574, wd_30, by decide +kernel, by decide +kernel, by decide⟩
theorem wd_582 : (Cond.code ({ cls := "LiarsAnswers", name := "drop", desc := "()I" } : MethodName) prog_1_method_16_code (1 : Nat) (Option.some FieldType.int)) ∈ gt := gt_of (List.mem_of_getElem? (i := 582) (by decide +kernel)) (by decide +kernel)
abbrev mX11_drop : Mth := (yX11_drop, cX11_drop, 1, some FieldType.int)
theorem k_mX11_drop : KM mX11_drop 0 := ⟨wd_582, wd_30, by decide +kernel, by decide +kernel, by decide⟩
theorem wd_590 : (Cond.code ({ cls := "LiarsAnswers", name := "word", desc := "(I)I" } : MethodName) prog_1_method_17_code (2 : Nat) (Option.some FieldType.int)) ∈ gt := gt_of (List.mem_of_getElem? (i := 590) (by decide +kernel)) (by decide +kernel)
abbrev mX11_word : Mth := (yX11_word, cX11_word, 2, some FieldType.int)
theorem k_mX11_word : KM mX11_word 1 := ⟨wd_590, wd_30, by decide +kernel, by decide +kernel, by decide⟩
theorem wd_598 : (Cond.code ({ cls := "LiarsAnswers", name := "apart", desc := "(II)I" } : MethodName) prog_1_method_18_code (3 : Nat) (Option.some FieldType.int)) ∈ gt := gt_of (List.mem_of_getElem? (i := 598) (by decide +kernel)) (by decide +kernel)
abbrev mX11_apart : Mth := (yX11_apart, cX11_apart, 3, some FieldType.int)
theorem k_mX11_apart : KM mX11_apart 2 := ⟨wd_598, wd_30, by decide +kernel, by decide +kernel, by decide⟩
theorem wd_603 : (Cond.code ({ cls := "LiarsAnswers", name := "serves", desc := "(II)I" } : MethodName) prog_1_method_19_code (3 : Nat) (Option.some FieldType.int)) ∈ gt := gt_of (List.mem_of_getElem? (i := 603) (by decide +kernel)) (by decide +kernel)
abbrev mX11_serves : Mth := (yX11_serves, cX11_serves, 3, some FieldType.int)
theorem k_mX11_serves : KM mX11_serves 2 := ⟨wd_603, wd_30, by decide +kernel, by decide +kernel, by decide⟩
theorem wd_613 : (Cond.code ({ cls := "LiarsAnswers", name := "read", desc := "(III)I" } : MethodName) prog_1_method_20_code (4 : Nat) (Option.some FieldType.int)) ∈ gt := gt_of (List.mem_of_getElem? (i := 613) (by decide +kernel)) (by decide +kernel)
abbrev mX11_read : Mth := (yX11_read, cX11_read, 4, some FieldType.int)
theorem k_mX11_read : KM mX11_read 3 := ⟨wd_613, wd_30, by decide +kernel, by decide +kernel, by decide⟩
theorem wd_625 : (Cond.code ({ cls := "LiarsAnswers", name := "play", desc := "(I)I" } : MethodName) prog_1_method_21_code (3 : Nat) (Option.some FieldType.int)) ∈ gt := gt_of (List.mem_of_getElem? (i := 625) (by decide +kernel)) (by decide +kernel)
abbrev mX11_play : Mth := (yX11_play, cX11_play, 3, some FieldType.int)
theorem k_mX11_play : KM mX11_play 1 := ⟨wd_625, wd_30, by decide +kernel, by decide +kernel, by decide⟩
theorem wd_637 : (Cond.code ({ cls := "LiarsAnswers", name := "told", desc := "(I)I" } : MethodName) prog_1_method_22_code (2 : Nat) (Option.some FieldType.int)) ∈ gt := gt_of (List.mem_of_getElem? (i := 637) (by decide +kernel)) (by decide +kernel)
abbrev mX11_told : Mth := (yX11_told, cX11_told, 2, some FieldType.int)
theorem k_mX11_told : KM mX11_told 1 := ⟨wd_637, wd_30, by decide +kernel, by decide +kernel, by decide⟩
theorem wd_641 : (Cond.code ({ cls := "LiarsAnswers", name := "trace", desc := "()J" } : MethodName) prog_1_method_23_code (1 : Nat) (Option.some FieldType.long)) ∈ gt := gt_of (List.mem_of_getElem? (i := 641) (by decide +kernel)) (by decide +kernel)
abbrev mX11_trace : Mth := (yX11_trace, cX11_trace, 1, some FieldType.long)
theorem k_mX11_trace : KM mX11_trace 0 := ⟨wd_641, wd_30, by decide +kernel, by decide +kernel, by decide⟩
theorem wd_183 : (Cond.code ({ cls := "LiarsAnswers", name := "isKind", desc := "(I)Z" } : MethodName) prog_1_method_24_code (1 : Nat) (Option.some FieldType.boolean)) ∈ gt := gt_of (List.mem_of_getElem? (i := 183) (by decide +kernel)) (by decide +kernel)
abbrev mX11_isKind : Mth := (yX11_isKind, cX11_isKind, 1, some FieldType.boolean)
theorem k_mX11_isKind : KM mX11_isKind 1 := ⟨wd_183, wd_30, by decide +kernel, by decide +kernel, by decide⟩
theorem wd_443 : (Cond.code ({ cls := "LiarsAnswers", name := "isNumber", desc := "(I)Z" } : MethodName) prog_1_method_25_code (1 : Nat) (Option.some FieldType.boolean)) ∈ gt := gt_of (List.mem_of_getElem? (i := 443) (by decide +kernel)) (by decide +kernel)
abbrev mX11_isNumber : Mth := (yX11_isNumber, cX11_isNumber, 1, some FieldType.boolean)
theorem k_mX11_isNumber : KM mX11_isNumber 1 := ⟨wd_443, wd_30, by decide +kernel, by decide +kernel, by decide⟩
theorem wd_186 : (Cond.code ({ cls := "LiarsAnswers", name := "isCount", desc := "(I)Z" } : MethodName) prog_1_method_26_code (1 : Nat) (Option.some FieldType.boolean)) ∈ gt := gt_of (List.mem_of_getElem? (i := 186) (by decide +kernel)) (by decide +kernel)
abbrev mX11_isCount : Mth := (yX11_isCount, cX11_isCount, 1, some FieldType.boolean)
theorem k_mX11_isCount : KM mX11_isCount 1 := ⟨wd_186, wd_30, by decide +kernel, by decide +kernel, by decide⟩
theorem wd_189 : (Cond.code ({ cls := "LiarsAnswers", name := "isLies", desc := "(I)Z" } : MethodName) prog_1_method_27_code (1 : Nat) (Option.some FieldType.boolean)) ∈ gt := gt_of (List.mem_of_getElem? (i := 189) (by decide +kernel)) (by decide +kernel)
abbrev mX11_isLies : Mth := (yX11_isLies, cX11_isLies, 1, some FieldType.boolean)
theorem k_mX11_isLies : KM mX11_isLies 1 := ⟨wd_189, wd_30, by decide +kernel, by decide +kernel, by decide⟩
theorem wd_390 : (Cond.code ({ cls := "LiarsAnswers", name := "isHeap", desc := "(I)Z" } : MethodName) prog_1_method_28_code (1 : Nat) (Option.some FieldType.boolean)) ∈ gt := gt_of (List.mem_of_getElem? (i := 390) (by decide +kernel)) (by decide +kernel)
abbrev mX11_isHeap : Mth := (yX11_isHeap, cX11_isHeap, 1, some FieldType.boolean)
theorem k_mX11_isHeap : KM mX11_isHeap 1 := ⟨wd_390, wd_30, by decide +kernel, by decide +kernel, by decide⟩
theorem wd_193 : (Cond.code ({ cls := "LiarsAnswers", name := "yesPrice", desc := "(I)I" } : MethodName) prog_1_method_29_code (2 : Nat) (Option.some FieldType.int)) ∈ gt := gt_of (List.mem_of_getElem? (i := 193) (by decide +kernel)) (by decide +kernel)
abbrev mX11_yesPrice : Mth := (yX11_yesPrice, cX11_yesPrice, 2, some FieldType.int)
theorem k_mX11_yesPrice : KM mX11_yesPrice 1 := ⟨wd_193, wd_30, by decide +kernel, by decide +kernel, by decide⟩
theorem wd_212 : (Cond.code ({ cls := "LiarsAnswers", name := "noPrice", desc := "(I)I" } : MethodName) prog_1_method_30_code (2 : Nat) (Option.some FieldType.int)) ∈ gt := gt_of (List.mem_of_getElem? (i := 212) (by decide +kernel)) (by decide +kernel)
abbrev mX11_noPrice : Mth := (yX11_noPrice, cX11_noPrice, 2, some FieldType.int)
theorem k_mX11_noPrice : KM mX11_noPrice 1 := ⟨wd_212, wd_30, by decide +kernel, by decide +kernel, by decide⟩
theorem wd_226 : (Cond.code ({ cls := "LiarsAnswers", name := "heapTable", desc := "(I)LLiarsAnswers$HeapTable;" } : MethodName) prog_1_method_31_code (6 : Nat) (Option.some (FieldType.object "LiarsAnswers$HeapTable"))) ∈ gt := gt_of (List.mem_of_getElem? (i := 226) (by decide +kernel)) (by decide +kernel)
abbrev mX11_heapTable : Mth := (yX11_heapTable, cX11_heapTable, 6, some (FieldType.object "LiarsAnswers$HeapTable"))
theorem k_mX11_heapTable : KM mX11_heapTable 1 := ⟨wd_226, wd_30, by decide +kernel, by decide +kernel, by decide⟩
theorem wd_468 : (Cond.code ({ cls := "LiarsAnswers", name := "spanTable", desc := "(I)LLiarsAnswers$SpanTable;" } : MethodName) prog_1_method_32_code (3 : Nat) (Option.some (FieldType.object "LiarsAnswers$SpanTable"))) ∈ gt := gt_of (List.mem_of_getElem? (i := 468) (by decide +kernel)) (by decide +kernel)
abbrev mX11_spanTable : Mth := (yX11_spanTable, cX11_spanTable, 3, some (FieldType.object "LiarsAnswers$SpanTable"))
theorem k_mX11_spanTable : KM mX11_spanTable 1 := ⟨wd_468, wd_30, by decide +kernel, by decide +kernel, by decide⟩
theorem wd_365 : (Cond.code ({ cls := "LiarsAnswers", name := "fewestNow", desc := "()I" } : MethodName) prog_1_method_33_code (1 : Nat) (Option.some FieldType.int)) ∈ gt := gt_of (List.mem_of_getElem? (i := 365) (by decide +kernel)) (by decide +kernel)
abbrev mX11_fewestNow : Mth := (yX11_fewestNow, cX11_fewestNow, 1, some FieldType.int)
theorem k_mX11_fewestNow : KM mX11_fewestNow 0 := ⟨wd_365, wd_30, by decide +kernel, by decide +kernel, by decide⟩
theorem wd_568 : (Cond.code ({ cls := "LiarsAnswers", name := "fewestBehind", desc := "(Z)I" } : MethodName) prog_1_method_34_code (2 : Nat) (Option.some FieldType.int)) ∈ gt := gt_of (List.mem_of_getElem? (i := 568) (by decide +kernel)) (by decide +kernel)
abbrev mX11_fewestBehind : Mth := (yX11_fewestBehind, cX11_fewestBehind, 2, some FieldType.int)
theorem k_mX11_fewestBehind : KM mX11_fewestBehind 1 := ⟨wd_568, wd_30, by decide +kernel, by decide +kernel, by decide⟩
theorem wd_379 : (Cond.code ({ cls := "LiarsAnswers", name := "toldOrNone", desc := "(I)I" } : MethodName) prog_1_method_35_code (1 : Nat) (Option.some FieldType.int)) ∈ gt := gt_of (List.mem_of_getElem? (i := 379) (by decide +kernel)) (by decide +kernel)
abbrev mX11_toldOrNone : Mth := (yX11_toldOrNone, cX11_toldOrNone, 1, some FieldType.int)
theorem k_mX11_toldOrNone : KM mX11_toldOrNone 1 := ⟨wd_379, wd_30, by decide +kernel, by decide +kernel, by decide⟩
theorem wd_629 : (Cond.code ({ cls := "LiarsAnswers", name := "playOne", desc := "(II)Z" } : MethodName) prog_1_method_36_code (4 : Nat) (Option.some FieldType.boolean)) ∈ gt := gt_of (List.mem_of_getElem? (i := 629) (by decide +kernel)) (by decide +kernel)
abbrev mX11_playOne : Mth := (yX11_playOne, cX11_playOne, 4, some FieldType.boolean)
theorem k_mX11_playOne : KM mX11_playOne 2 := ⟨wd_629, wd_30, by decide +kernel, by decide +kernel, by decide⟩
theorem wd_538 : (Cond.code ({ cls := "LiarsAnswers", name := "waysToLie", desc := "(II)J" } : MethodName) prog_1_method_37_code (7 : Nat) (Option.some FieldType.long)) ∈ gt := gt_of (List.mem_of_getElem? (i := 538) (by decide +kernel)) (by decide +kernel)
abbrev mX11_waysToLie : Mth := (yX11_waysToLie, cX11_waysToLie, 7, some FieldType.long)
theorem k_mX11_waysToLie : KM mX11_waysToLie 2 := ⟨wd_538, wd_30, by decide +kernel, by decide +kernel, by decide⟩
theorem wd_311 : (Cond.code ({ cls := "LiarsAnswers", name := "placeOf", desc := "(II)I" } : MethodName) prog_1_method_38_code (3 : Nat) (Option.some FieldType.int)) ∈ gt := gt_of (List.mem_of_getElem? (i := 311) (by decide +kernel)) (by decide +kernel)
abbrev mX11_placeOf : Mth := (yX11_placeOf, cX11_placeOf, 3, some FieldType.int)
theorem k_mX11_placeOf : KM mX11_placeOf 2 := ⟨wd_311, wd_30, by decide +kernel, by decide +kernel, by decide⟩
theorem wd_376 : (Cond.code ({ cls := "LiarsAnswers", name := "leftAt", desc := "([II)I" } : MethodName) prog_1_method_39_code (2 : Nat) (Option.some FieldType.int)) ∈ gt := gt_of (List.mem_of_getElem? (i := 376) (by decide +kernel)) (by decide +kernel)
abbrev mX11_leftAt : Mth := (yX11_leftAt, cX11_leftAt, 2, some FieldType.int)
theorem k_mX11_leftAt : KM mX11_leftAt 2 := ⟨wd_376, wd_30, by decide +kernel, by decide +kernel, by decide⟩
theorem wd_646 : (Cond.code ({ cls := "LiarsAnswersModel", name := "<init>", desc := "()V" } : MethodName) prog_14_method_1_code (1 : Nat) (Option.none : Option FieldType)) ∈ gt := gt_of (List.mem_of_getElem? (i := 646) (by decide +kernel)) (by decide +kernel)
theorem wd_37 : (Cond.initialized "LiarsAnswersModel") ∈ gt := gt_of (List.mem_of_getElem? (i := 37) (by decide +kernel)) (by decide +kernel)
abbrev mX12_init : Mth := (yX12_init, cX12_init, 1, none)
theorem k_mX12_init : KM mX12_init 0 := ⟨wd_646, wd_37, by decide +kernel, by decide +kernel, by decide⟩
theorem wd_720 : (Cond.code ({ cls := "LiarsAnswersModel", name := "in", desc := "(III)Z" } : MethodName) prog_14_method_3_code (3 : Nat) (Option.some FieldType.boolean)) ∈ gt := gt_of (List.mem_of_getElem? (i := 720) (by decide +kernel)) (by decide +kernel)
abbrev mX12_in : Mth := (yX12_in, cX12_in, 3, some FieldType.boolean)
theorem k_mX12_in : KM mX12_in 3 := ⟨wd_720, wd_37, by decide +kernel, by decide +kernel, by decide⟩
theorem wd_725 : (Cond.code ({ cls := "LiarsAnswersModel", name := "costOf", desc := "(IZZ)I" } : MethodName) prog_14_method_4_code (4 : Nat) (Option.some FieldType.int)) ∈ gt := gt_of (List.mem_of_getElem? (i := 725) (by decide +kernel)) (by decide +kernel)
abbrev mX12_costOf : Mth := (yX12_costOf, cX12_costOf, 4, some FieldType.int)
theorem k_mX12_costOf : KM mX12_costOf 3 := ⟨wd_725, wd_37, by decide +kernel, by decide +kernel, by decide⟩
theorem wd_717 : (Cond.code ({ cls := "LiarsAnswersModel", name := "cost", desc := "(IZZ)I" } : MethodName) prog_14_method_5_code (4 : Nat) (Option.some FieldType.int)) ∈ gt := gt_of (List.mem_of_getElem? (i := 717) (by decide +kernel)) (by decide +kernel)
abbrev mX12_cost : Mth := (yX12_cost, cX12_cost, 4, some FieldType.int)
theorem k_mX12_cost : KM mX12_cost 3 := ⟨wd_717, wd_37, by decide +kernel, by decide +kernel, by decide⟩
theorem wd_741 : (Cond.code ({ cls := "LiarsAnswersModel", name := "place", desc := "(IIII)I" } : MethodName) prog_14_method_6_code (4 : Nat) (Option.some FieldType.int)) ∈ gt := gt_of (List.mem_of_getElem? (i := 741) (by decide +kernel)) (by decide +kernel)
abbrev mX12_place : Mth := (yX12_place, cX12_place, 4, some FieldType.int)
theorem k_mX12_place : KM mX12_place 4 := ⟨wd_741, wd_37, by decide +kernel, by decide +kernel, by decide⟩
theorem wd_752 : (Cond.code ({ cls := "LiarsAnswersModel", name := "behind", desc := "(IZ[I[I)I" } : MethodName) prog_14_method_7_code (9 : Nat) (Option.some FieldType.int)) ∈ gt := gt_of (List.mem_of_getElem? (i := 752) (by decide +kernel)) (by decide +kernel)
abbrev mX12_behind : Mth := (yX12_behind, cX12_behind, 9, some FieldType.int)
theorem k_mX12_behind : KM mX12_behind 4 := ⟨wd_752, wd_37, by decide +kernel, by decide +kernel, by decide⟩
theorem wd_749 : (Cond.code ({ cls := "LiarsAnswersModel", name := "canDo", desc := "(II)Z" } : MethodName) prog_14_method_8_code (8 : Nat) (Option.some FieldType.boolean)) ∈ gt := gt_of (List.mem_of_getElem? (i := 749) (by decide +kernel)) (by decide +kernel)
abbrev mX12_canDo : Mth := (yX12_canDo, cX12_canDo, 8, some FieldType.boolean)
theorem k_mX12_canDo : KM mX12_canDo 2 := ⟨wd_749, wd_37, by decide +kernel, by decide +kernel, by decide⟩
theorem wd_756 : (Cond.code ({ cls := "LiarsAnswersModel", name := "isWithin", desc := "(III)Z" } : MethodName) prog_14_method_9_code (5 : Nat) (Option.some FieldType.boolean)) ∈ gt := gt_of (List.mem_of_getElem? (i := 756) (by decide +kernel)) (by decide +kernel)
abbrev mX12_isWithin : Mth := (yX12_isWithin, cX12_isWithin, 5, some FieldType.boolean)
theorem k_mX12_isWithin : KM mX12_isWithin 3 := ⟨wd_756, wd_37, by decide +kernel, by decide +kernel, by decide⟩
theorem wd_745 : (Cond.code ({ cls := "LiarsAnswersModel", name := "mayDo", desc := "(II)Z" } : MethodName) prog_14_method_10_code (6 : Nat) (Option.some FieldType.boolean)) ∈ gt := gt_of (List.mem_of_getElem? (i := 745) (by decide +kernel)) (by decide +kernel)
abbrev mX12_mayDo : Mth := (yX12_mayDo, cX12_mayDo, 6, some FieldType.boolean)
theorem k_mX12_mayDo : KM mX12_mayDo 2 := ⟨wd_745, wd_37, by decide +kernel, by decide +kernel, by decide⟩
theorem wd_738 : (Cond.code ({ cls := "LiarsAnswersModel", name := "levels", desc := "(II)V" } : MethodName) prog_14_method_11_code (9 : Nat) (Option.none : Option FieldType)) ∈ gt := gt_of (List.mem_of_getElem? (i := 738) (by decide +kernel)) (by decide +kernel)
abbrev mX12_levels : Mth := (yX12_levels, cX12_levels, 9, none)
theorem k_mX12_levels : KM mX12_levels 2 := ⟨wd_738, wd_37, by decide +kernel, by decide +kernel, by decide⟩
theorem wd_733 : (Cond.code ({ cls := "LiarsAnswersModel", name := "worthOf", desc := "([I)I" } : MethodName) prog_14_method_12_code (5 : Nat) (Option.some FieldType.int)) ∈ gt := gt_of (List.mem_of_getElem? (i := 733) (by decide +kernel)) (by decide +kernel)
abbrev mX12_worthOf : Mth := (yX12_worthOf, cX12_worthOf, 5, some FieldType.int)
theorem k_mX12_worthOf : KM mX12_worthOf 1 := ⟨wd_733, wd_37, by decide +kernel, by decide +kernel, by decide⟩
theorem wd_759 : (Cond.code ({ cls := "LiarsAnswersModel", name := "shown", desc := "(I)I" } : MethodName) prog_14_method_13_code (1 : Nat) (Option.some FieldType.int)) ∈ gt := gt_of (List.mem_of_getElem? (i := 759) (by decide +kernel)) (by decide +kernel)
abbrev mX12_shown : Mth := (yX12_shown, cX12_shown, 1, some FieldType.int)
theorem k_mX12_shown : KM mX12_shown 1 := ⟨wd_759, wd_37, by decide +kernel, by decide +kernel, by decide⟩
theorem wd_729 : (Cond.code ({ cls := "LiarsAnswersModel", name := "begin", desc := "(III)I" } : MethodName) prog_14_method_14_code (5 : Nat) (Option.some FieldType.int)) ∈ gt := gt_of (List.mem_of_getElem? (i := 729) (by decide +kernel)) (by decide +kernel)
abbrev mX12_begin : Mth := (yX12_begin, cX12_begin, 5, some FieldType.int)
theorem k_mX12_begin : KM mX12_begin 3 := ⟨wd_729, wd_37, by decide +kernel, by decide +kernel, by decide⟩
theorem wd_792 : (Cond.code ({ cls := "LiarsAnswersModel", name := "many", desc := "()I" } : MethodName) prog_14_method_15_code (3 : Nat) (Option.some FieldType.int)) ∈ gt := gt_of (List.mem_of_getElem? (i := 792) (by decide +kernel)) (by decide +kernel)
abbrev mX12_many : Mth := (yX12_many, cX12_many, 3, some FieldType.int)
theorem k_mX12_many : KM mX12_many 0 := ⟨wd_792, wd_37, by decide +kernel, by decide +kernel, by decide⟩
theorem wd_763 : (Cond.code ({ cls := "LiarsAnswersModel", name := "ask", desc := "(I)I" } : MethodName) prog_14_method_16_code (4 : Nat) (Option.some FieldType.int)) ∈ gt := gt_of (List.mem_of_getElem? (i := 763) (by decide +kernel)) (by decide +kernel)
abbrev mX12_ask : Mth := (yX12_ask, cX12_ask, 4, some FieldType.int)
theorem k_mX12_ask : KM mX12_ask 1 := ⟨wd_763, wd_37, by decide +kernel, by decide +kernel, by decide⟩
theorem wd_772 : (Cond.code ({ cls := "LiarsAnswersModel", name := "tries", desc := "(IZ)I" } : MethodName) prog_14_method_17_code (6 : Nat) (Option.some FieldType.int)) ∈ gt := gt_of (List.mem_of_getElem? (i := 772) (by decide +kernel)) (by decide +kernel)
abbrev mX12_tries : Mth := (yX12_tries, cX12_tries, 6, some FieldType.int)
theorem k_mX12_tries : KM mX12_tries 2 := ⟨wd_772, wd_37, by decide +kernel, by decide +kernel, by decide⟩
theorem wd_768 : (Cond.code ({ cls := "LiarsAnswersModel", name := "answer", desc := "(Z)I" } : MethodName) prog_14_method_18_code (4 : Nat) (Option.some FieldType.int)) ∈ gt := gt_of (List.mem_of_getElem? (i := 768) (by decide +kernel)) (by decide +kernel)
abbrev mX12_answer : Mth := (yX12_answer, cX12_answer, 4, some FieldType.int)
theorem k_mX12_answer : KM mX12_answer 1 := ⟨wd_768, wd_37, by decide +kernel, by decide +kernel, by decide⟩
theorem wd_776 : (Cond.code ({ cls := "LiarsAnswersModel", name := "back", desc := "()I" } : MethodName) prog_14_method_19_code (2 : Nat) (Option.some FieldType.int)) ∈ gt := gt_of (List.mem_of_getElem? (i := 776) (by decide +kernel)) (by decide +kernel)
abbrev mX12_back : Mth := (yX12_back, cX12_back, 2, some FieldType.int)
theorem k_mX12_back : KM mX12_back 0 := ⟨wd_776, wd_37, by decide +kernel, by decide +kernel, by decide⟩
theorem wd_780 : (Cond.code ({ cls := "LiarsAnswersModel", name := "left", desc := "(I)I" } : MethodName) prog_14_method_20_code (2 : Nat) (Option.some FieldType.int)) ∈ gt := gt_of (List.mem_of_getElem? (i := 780) (by decide +kernel)) (by decide +kernel)
abbrev mX12_left : Mth := (yX12_left, cX12_left, 2, some FieldType.int)
theorem k_mX12_left : KM mX12_left 1 := ⟨wd_780, wd_37, by decide +kernel, by decide +kernel, by decide⟩
theorem wd_784 : (Cond.code ({ cls := "LiarsAnswersModel", name := "state", desc := "(I)I" } : MethodName) prog_14_method_21_code (4 : Nat) (Option.some FieldType.int)) ∈ gt := gt_of (List.mem_of_getElem? (i := 784) (by decide +kernel)) (by decide +kernel)
abbrev mX12_state : Mth := (yX12_state, cX12_state, 4, some FieldType.int)
theorem k_mX12_state : KM mX12_state 1 := ⟨wd_784, wd_37, by decide +kernel, by decide +kernel, by decide⟩
theorem wd_788 : (Cond.code ({ cls := "LiarsAnswersModel", name := "found", desc := "()I" } : MethodName) prog_14_method_22_code (2 : Nat) (Option.some FieldType.int)) ∈ gt := gt_of (List.mem_of_getElem? (i := 788) (by decide +kernel)) (by decide +kernel)
abbrev mX12_found : Mth := (yX12_found, cX12_found, 2, some FieldType.int)
theorem k_mX12_found : KM mX12_found 0 := ⟨wd_788, wd_37, by decide +kernel, by decide +kernel, by decide⟩
theorem wd_796 : (Cond.code ({ cls := "LiarsAnswersModel", name := "fewest", desc := "()I" } : MethodName) prog_14_method_23_code (1 : Nat) (Option.some FieldType.int)) ∈ gt := gt_of (List.mem_of_getElem? (i := 796) (by decide +kernel)) (by decide +kernel)
abbrev mX12_fewest : Mth := (yX12_fewest, cX12_fewest, 1, some FieldType.int)
theorem k_mX12_fewest : KM mX12_fewest 0 := ⟨wd_796, wd_37, by decide +kernel, by decide +kernel, by decide⟩
theorem wd_812 : (Cond.code ({ cls := "LiarsAnswersModel", name := "spanBehind", desc := "(IIIZ)I" } : MethodName) prog_14_method_24_code (8 : Nat) (Option.some FieldType.int)) ∈ gt := gt_of (List.mem_of_getElem? (i := 812) (by decide +kernel)) (by decide +kernel)
abbrev mX12_spanBehind : Mth := (yX12_spanBehind, cX12_spanBehind, 8, some FieldType.int)
theorem k_mX12_spanBehind : KM mX12_spanBehind 4 := ⟨wd_812, wd_37, by decide +kernel, by decide +kernel, by decide⟩
theorem wd_808 : (Cond.code ({ cls := "LiarsAnswersModel", name := "canSpan", desc := "(II)Z" } : MethodName) prog_14_method_25_code (7 : Nat) (Option.some FieldType.boolean)) ∈ gt := gt_of (List.mem_of_getElem? (i := 808) (by decide +kernel)) (by decide +kernel)
abbrev mX12_canSpan : Mth := (yX12_canSpan, cX12_canSpan, 7, some FieldType.boolean)
theorem k_mX12_canSpan : KM mX12_canSpan 2 := ⟨wd_808, wd_37, by decide +kernel, by decide +kernel, by decide⟩
theorem wd_804 : (Cond.code ({ cls := "LiarsAnswersModel", name := "knowSpans", desc := "()V" } : MethodName) prog_14_method_26_code (5 : Nat) (Option.none : Option FieldType)) ∈ gt := gt_of (List.mem_of_getElem? (i := 804) (by decide +kernel)) (by decide +kernel)
abbrev mX12_knowSpans : Mth := (yX12_knowSpans, cX12_knowSpans, 5, none)
theorem k_mX12_knowSpans : KM mX12_knowSpans 0 := ⟨wd_804, wd_37, by decide +kernel, by decide +kernel, by decide⟩
theorem wd_800 : (Cond.code ({ cls := "LiarsAnswersModel", name := "spans", desc := "()I" } : MethodName) prog_14_method_27_code (3 : Nat) (Option.some FieldType.int)) ∈ gt := gt_of (List.mem_of_getElem? (i := 800) (by decide +kernel)) (by decide +kernel)
abbrev mX12_spans : Mth := (yX12_spans, cX12_spans, 3, some FieldType.int)
theorem k_mX12_spans : KM mX12_spans 0 := ⟨wd_800, wd_37, by decide +kernel, by decide +kernel, by decide⟩
theorem wd_820 : (Cond.code ({ cls := "LiarsAnswersModel", name := "choose", desc := "(II)J" } : MethodName) prog_14_method_28_code (5 : Nat) (Option.some FieldType.long)) ∈ gt := gt_of (List.mem_of_getElem? (i := 820) (by decide +kernel)) (by decide +kernel)
abbrev mX12_choose : Mth := (yX12_choose, cX12_choose, 5, some FieldType.long)
theorem k_mX12_choose : KM mX12_choose 2 := ⟨wd_820, wd_37, by decide +kernel, by decide +kernel, by decide⟩
theorem wd_816 : (Cond.code ({ cls := "LiarsAnswersModel", name := "weight", desc := "(I)J" } : MethodName) prog_14_method_29_code (6 : Nat) (Option.some FieldType.long)) ∈ gt := gt_of (List.mem_of_getElem? (i := 816) (by decide +kernel)) (by decide +kernel)
abbrev mX12_weight : Mth := (yX12_weight, cX12_weight, 6, some FieldType.long)
theorem k_mX12_weight : KM mX12_weight 1 := ⟨wd_816, wd_37, by decide +kernel, by decide +kernel, by decide⟩
theorem wd_828 : (Cond.code ({ cls := "LiarsAnswersModel", name := "greater", desc := "(I)I" } : MethodName) prog_14_method_30_code (4 : Nat) (Option.some FieldType.int)) ∈ gt := gt_of (List.mem_of_getElem? (i := 828) (by decide +kernel)) (by decide +kernel)
abbrev mX12_greater : Mth := (yX12_greater, cX12_greater, 4, some FieldType.int)
theorem k_mX12_greater : KM mX12_greater 1 := ⟨wd_828, wd_37, by decide +kernel, by decide +kernel, by decide⟩
theorem wd_824 : (Cond.code ({ cls := "LiarsAnswersModel", name := "best", desc := "()I" } : MethodName) prog_14_method_31_code (6 : Nat) (Option.some FieldType.int)) ∈ gt := gt_of (List.mem_of_getElem? (i := 824) (by decide +kernel)) (by decide +kernel)
abbrev mX12_best : Mth := (yX12_best, cX12_best, 6, some FieldType.int)
theorem k_mX12_best : KM mX12_best 0 := ⟨wd_824, wd_37, by decide +kernel, by decide +kernel, by decide⟩
theorem wd_832 : (Cond.code ({ cls := "LiarsAnswersModel", name := "worse", desc := "()I" } : MethodName) prog_14_method_32_code (3 : Nat) (Option.some FieldType.int)) ∈ gt := gt_of (List.mem_of_getElem? (i := 832) (by decide +kernel)) (by decide +kernel)
abbrev mX12_worse : Mth := (yX12_worse, cX12_worse, 3, some FieldType.int)
theorem k_mX12_worse : KM mX12_worse 0 := ⟨wd_832, wd_37, by decide +kernel, by decide +kernel, by decide⟩
theorem wd_836 : (Cond.code ({ cls := "LiarsAnswersModel", name := "set", desc := "(I)I" } : MethodName) prog_14_method_33_code (2 : Nat) (Option.some FieldType.int)) ∈ gt := gt_of (List.mem_of_getElem? (i := 836) (by decide +kernel)) (by decide +kernel)
abbrev mX12_set : Mth := (yX12_set, cX12_set, 2, some FieldType.int)
theorem k_mX12_set : KM mX12_set 1 := ⟨wd_836, wd_37, by decide +kernel, by decide +kernel, by decide⟩
theorem wd_840 : (Cond.code ({ cls := "LiarsAnswersModel", name := "drop", desc := "()I" } : MethodName) prog_14_method_34_code (1 : Nat) (Option.some FieldType.int)) ∈ gt := gt_of (List.mem_of_getElem? (i := 840) (by decide +kernel)) (by decide +kernel)
abbrev mX12_drop : Mth := (yX12_drop, cX12_drop, 1, some FieldType.int)
theorem k_mX12_drop : KM mX12_drop 0 := ⟨wd_840, wd_37, by decide +kernel, by decide +kernel, by decide⟩
theorem wd_851 : (Cond.code ({ cls := "LiarsAnswersModel", name := "wordOf", desc := "(I)I" } : MethodName) prog_14_method_35_code (4 : Nat) (Option.some FieldType.int)) ∈ gt := gt_of (List.mem_of_getElem? (i := 851) (by decide +kernel)) (by decide +kernel)
abbrev mX12_wordOf : Mth := (yX12_wordOf, cX12_wordOf, 4, some FieldType.int)
theorem k_mX12_wordOf : KM mX12_wordOf 1 := ⟨wd_851, wd_37, by decide +kernel, by decide +kernel, by decide⟩
theorem wd_847 : (Cond.code ({ cls := "LiarsAnswersModel", name := "isNumber", desc := "(I)Z" } : MethodName) prog_14_method_36_code (1 : Nat) (Option.some FieldType.boolean)) ∈ gt := gt_of (List.mem_of_getElem? (i := 847) (by decide +kernel)) (by decide +kernel)
abbrev mX12_isNumber : Mth := (yX12_isNumber, cX12_isNumber, 1, some FieldType.boolean)
theorem k_mX12_isNumber : KM mX12_isNumber 1 := ⟨wd_847, wd_37, by decide +kernel, by decide +kernel, by decide⟩
theorem wd_844 : (Cond.code ({ cls := "LiarsAnswersModel", name := "word", desc := "(I)I" } : MethodName) prog_14_method_37_code (2 : Nat) (Option.some FieldType.int)) ∈ gt := gt_of (List.mem_of_getElem? (i := 844) (by decide +kernel)) (by decide +kernel)
abbrev mX12_word : Mth := (yX12_word, cX12_word, 2, some FieldType.int)
theorem k_mX12_word : KM mX12_word 1 := ⟨wd_844, wd_37, by decide +kernel, by decide +kernel, by decide⟩
theorem wd_858 : (Cond.code ({ cls := "LiarsAnswersModel", name := "ones", desc := "(I)I" } : MethodName) prog_14_method_38_code (3 : Nat) (Option.some FieldType.int)) ∈ gt := gt_of (List.mem_of_getElem? (i := 858) (by decide +kernel)) (by decide +kernel)
abbrev mX12_ones : Mth := (yX12_ones, cX12_ones, 3, some FieldType.int)
theorem k_mX12_ones : KM mX12_ones 1 := ⟨wd_858, wd_37, by decide +kernel, by decide +kernel, by decide⟩
theorem wd_855 : (Cond.code ({ cls := "LiarsAnswersModel", name := "apart", desc := "(II)I" } : MethodName) prog_14_method_39_code (3 : Nat) (Option.some FieldType.int)) ∈ gt := gt_of (List.mem_of_getElem? (i := 855) (by decide +kernel)) (by decide +kernel)
abbrev mX12_apart : Mth := (yX12_apart, cX12_apart, 3, some FieldType.int)
theorem k_mX12_apart : KM mX12_apart 2 := ⟨wd_855, wd_37, by decide +kernel, by decide +kernel, by decide⟩
theorem wd_862 : (Cond.code ({ cls := "LiarsAnswersModel", name := "serves", desc := "(II)I" } : MethodName) prog_14_method_40_code (6 : Nat) (Option.some FieldType.int)) ∈ gt := gt_of (List.mem_of_getElem? (i := 862) (by decide +kernel)) (by decide +kernel)
abbrev mX12_serves : Mth := (yX12_serves, cX12_serves, 6, some FieldType.int)
theorem k_mX12_serves : KM mX12_serves 2 := ⟨wd_862, wd_37, by decide +kernel, by decide +kernel, by decide⟩
theorem wd_870 : (Cond.code ({ cls := "LiarsAnswersModel", name := "isWord", desc := "(I)Z" } : MethodName) prog_14_method_41_code (2 : Nat) (Option.some FieldType.boolean)) ∈ gt := gt_of (List.mem_of_getElem? (i := 870) (by decide +kernel)) (by decide +kernel)
abbrev mX12_isWord : Mth := (yX12_isWord, cX12_isWord, 2, some FieldType.boolean)
theorem k_mX12_isWord : KM mX12_isWord 1 := ⟨wd_870, wd_37, by decide +kernel, by decide +kernel, by decide⟩
theorem wd_866 : (Cond.code ({ cls := "LiarsAnswersModel", name := "read", desc := "(III)I" } : MethodName) prog_14_method_42_code (6 : Nat) (Option.some FieldType.int)) ∈ gt := gt_of (List.mem_of_getElem? (i := 866) (by decide +kernel)) (by decide +kernel)
abbrev mX12_read : Mth := (yX12_read, cX12_read, 6, some FieldType.int)
theorem k_mX12_read : KM mX12_read 3 := ⟨wd_866, wd_37, by decide +kernel, by decide +kernel, by decide⟩
theorem wd_874 : (Cond.code ({ cls := "LiarsAnswersModel", name := "play", desc := "(I)I" } : MethodName) prog_14_method_43_code (4 : Nat) (Option.some FieldType.int)) ∈ gt := gt_of (List.mem_of_getElem? (i := 874) (by decide +kernel)) (by decide +kernel)
abbrev mX12_play : Mth := (yX12_play, cX12_play, 4, some FieldType.int)
theorem k_mX12_play : KM mX12_play 1 := ⟨wd_874, wd_37, by decide +kernel, by decide +kernel, by decide⟩
theorem wd_879 : (Cond.code ({ cls := "LiarsAnswersModel", name := "told", desc := "(I)I" } : MethodName) prog_14_method_44_code (2 : Nat) (Option.some FieldType.int)) ∈ gt := gt_of (List.mem_of_getElem? (i := 879) (by decide +kernel)) (by decide +kernel)
abbrev mX12_told : Mth := (yX12_told, cX12_told, 2, some FieldType.int)
theorem k_mX12_told : KM mX12_told 1 := ⟨wd_879, wd_37, by decide +kernel, by decide +kernel, by decide⟩
theorem wd_883 : (Cond.code ({ cls := "LiarsAnswersModel", name := "trace", desc := "()J" } : MethodName) prog_14_method_45_code (1 : Nat) (Option.some FieldType.long)) ∈ gt := gt_of (List.mem_of_getElem? (i := 883) (by decide +kernel)) (by decide +kernel)
abbrev mX12_trace : Mth := (yX12_trace, cX12_trace, 1, some FieldType.long)
theorem k_mX12_trace : KM mX12_trace 0 := ⟨wd_883, wd_37, by decide +kernel, by decide +kernel, by decide⟩
theorem wd_512 : (Cond.code ({ cls := "java/lang/Integer", name := "bitCount", desc := "(I)I" } : MethodName) prog_15_method_49_code (1 : Nat) (Option.some FieldType.int)) ∈ gt := gt_of (List.mem_of_getElem? (i := 512) (by decide +kernel)) (by decide +kernel)
theorem wd_44 : (Cond.initialized "java/lang/Integer") ∈ gt := gt_of (List.mem_of_getElem? (i := 44) (by decide +kernel)) (by decide +kernel)
abbrev mJ6_bitCount_0f7a4 : Mth := (yJ6_bitCount_0f7a4, cJ6_bitCount_0f7a4, 1, some FieldType.int)
theorem k_mJ6_bitCount_0f7a4 : KM mJ6_bitCount_0f7a4 1 := ⟨wd_512, wd_44, by decide +kernel, by decide +kernel, by decide⟩
theorem wd_222 : (Cond.code ({ cls := "java/lang/Math", name := "max", desc := "(II)I" } : MethodName) prog_16_method_65_code (2 : Nat) (Option.some FieldType.int)) ∈ gt := gt_of (List.mem_of_getElem? (i := 222) (by decide +kernel)) (by decide +kernel)
theorem wd_38 : (Cond.initialized "java/lang/Math") ∈ gt := gt_of (List.mem_of_getElem? (i := 38) (by decide +kernel)) (by decide +kernel)
abbrev mJ9_max_7cf53 : Mth := (yJ9_max_7cf53, cJ9_max_7cf53, 2, some FieldType.int)
theorem k_mJ9_max_7cf53 : KM mJ9_max_7cf53 2 := ⟨wd_222, wd_38, by decide +kernel, by decide +kernel, by decide⟩
theorem wd_219 : (Cond.code ({ cls := "java/lang/Math", name := "min", desc := "(II)I" } : MethodName) prog_16_method_69_code (2 : Nat) (Option.some FieldType.int)) ∈ gt := gt_of (List.mem_of_getElem? (i := 219) (by decide +kernel)) (by decide +kernel)
abbrev mJ9_min_7cf53 : Mth := (yJ9_min_7cf53, cJ9_min_7cf53, 2, some FieldType.int)
theorem k_mJ9_min_7cf53 : KM mJ9_min_7cf53 2 := ⟨wd_219, wd_38, by decide +kernel, by decide +kernel, by decide⟩
theorem wd_81 : (Cond.fieldLink "LiarsAnswers$Tally" (7 : Nat) "LiarsAnswers$Tally" "sum" "J") ∈ gt := gt_of (List.mem_of_getElem? (i := 81) (by decide +kernel)) (by decide +kernel)
theorem g_RX9_7_8 : GF RX9 7 8 0 := ⟨RX9, TX9, 1, "LiarsAnswers$Tally", rfl, uw_8, by decide, wd_81, Or.inl rfl⟩
theorem p_RX9_7_8 : PF RX9 7 8 0 (tyX9 0) false := ⟨RX9, TX9, 1, "LiarsAnswers$Tally", tyX9, rfl, uw_8, by decide, wd_81, Or.inl rfl, tyX9_ok, nmX9, rfl, rfl, fun h => by cases h⟩
theorem wd_82 : (Cond.fieldLink "LiarsAnswers$Liar" (9 : Nat) "LiarsAnswers$Tally" "sum" "J") ∈ gt := gt_of (List.mem_of_getElem? (i := 82) (by decide +kernel)) (by decide +kernel)
theorem g_RX7_9_8 : GF RX7 9 8 0 := ⟨RX9, TX9, 1, "LiarsAnswers$Tally", rfl, uw_8, by decide, wd_82, Or.inl rfl⟩
theorem p_RX7_9_8 : PF RX7 9 8 0 (tyX9 0) false := ⟨RX9, TX9, 1, "LiarsAnswers$Tally", tyX9, rfl, uw_8, by decide, wd_82, Or.inl rfl, tyX9_ok, nmX9, rfl, rfl, fun h => by cases h⟩
theorem wd_83 : (Cond.fieldLink "LiarsAnswers$BothLiar" (9 : Nat) "LiarsAnswers$Tally" "sum" "J") ∈ gt := gt_of (List.mem_of_getElem? (i := 83) (by decide +kernel)) (by decide +kernel)
theorem g_RX1_9_8 : GF RX1 9 8 0 := ⟨RX9, TX9, 1, "LiarsAnswers$Tally", rfl, uw_8, by decide, wd_83, Or.inl rfl⟩
theorem p_RX1_9_8 : PF RX1 9 8 0 (tyX9 0) false := ⟨RX9, TX9, 1, "LiarsAnswers$Tally", tyX9, rfl, uw_8, by decide, wd_83, Or.inl rfl, tyX9_ok, nmX9, rfl, rfl, fun h => by cases h⟩
theorem wd_84 : (Cond.fieldLink "LiarsAnswers$YesLiar" (9 : Nat) "LiarsAnswers$Tally" "sum" "J") ∈ gt := gt_of (List.mem_of_getElem? (i := 84) (by decide +kernel)) (by decide +kernel)
theorem g_RX10_9_8 : GF RX10 9 8 0 := ⟨RX9, TX9, 1, "LiarsAnswers$Tally", rfl, uw_8, by decide, wd_84, Or.inl rfl⟩
theorem p_RX10_9_8 : PF RX10 9 8 0 (tyX9 0) false := ⟨RX9, TX9, 1, "LiarsAnswers$Tally", tyX9, rfl, uw_8, by decide, wd_84, Or.inl rfl, tyX9_ok, nmX9, rfl, rfl, fun h => by cases h⟩
theorem wd_85 : (Cond.fieldLink "LiarsAnswers" (213 : Nat) "LiarsAnswers$Tally" "sum" "J") ∈ gt := gt_of (List.mem_of_getElem? (i := 85) (by decide +kernel)) (by decide +kernel)
theorem g_RX11_213_8 : GF RX11 213 8 0 := ⟨RX9, TX9, 1, "LiarsAnswers$Tally", rfl, uw_8, by decide, wd_85, Or.inl rfl⟩
theorem p_RX11_213_8 : PF RX11 213 8 0 (tyX9 0) false := ⟨RX9, TX9, 1, "LiarsAnswers$Tally", tyX9, rfl, uw_8, by decide, wd_85, Or.inl rfl, tyX9_ok, nmX9, rfl, rfl, fun h => by cases h⟩
theorem wd_99 : (Cond.fieldLink "LiarsAnswers$Game" (9 : Nat) "LiarsAnswers$Game" "on" "Z") ∈ gt := gt_of (List.mem_of_getElem? (i := 99) (by decide +kernel)) (by decide +kernel)
theorem g_RX3_9_3 : GF RX3 9 3 0 := ⟨RX3, TX3, 9, "LiarsAnswers$Game", rfl, uw_3, by decide, wd_99, Or.inl rfl⟩
theorem p_RX3_9_3 : PF RX3 9 3 0 (tyX3 0) false := ⟨RX3, TX3, 9, "LiarsAnswers$Game", tyX3, rfl, uw_3, by decide, wd_99, Or.inl rfl, tyX3_ok, nmX3, rfl, rfl, fun h => by cases h⟩
theorem wd_100 : (Cond.fieldLink "LiarsAnswers" (105 : Nat) "LiarsAnswers$Game" "on" "Z") ∈ gt := gt_of (List.mem_of_getElem? (i := 100) (by decide +kernel)) (by decide +kernel)
theorem g_RX11_105_3 : GF RX11 105 3 0 := ⟨RX3, TX3, 9, "LiarsAnswers$Game", rfl, uw_3, by decide, wd_100, Or.inl rfl⟩
theorem p_RX11_105_3 : PF RX11 105 3 0 (tyX3 0) false := ⟨RX3, TX3, 9, "LiarsAnswers$Game", tyX3, rfl, uw_3, by decide, wd_100, Or.inl rfl, tyX3_ok, nmX3, rfl, rfl, fun h => by cases h⟩
theorem wd_101 : (Cond.fieldLink "LiarsAnswers$Game" (15 : Nat) "LiarsAnswers$Game" "kind" "I") ∈ gt := gt_of (List.mem_of_getElem? (i := 101) (by decide +kernel)) (by decide +kernel)
theorem g_RX3_15_3 : GF RX3 15 3 1 := ⟨RX3, TX3, 9, "LiarsAnswers$Game", rfl, uw_3, by decide, wd_101, Or.inl rfl⟩
theorem p_RX3_15_3 : PF RX3 15 3 1 (tyX3 1) false := ⟨RX3, TX3, 9, "LiarsAnswers$Game", tyX3, rfl, uw_3, by decide, wd_101, Or.inl rfl, tyX3_ok, nmX3, rfl, rfl, fun h => by cases h⟩
theorem wd_102 : (Cond.fieldLink "LiarsAnswers" (147 : Nat) "LiarsAnswers$Game" "kind" "I") ∈ gt := gt_of (List.mem_of_getElem? (i := 102) (by decide +kernel)) (by decide +kernel)
theorem g_RX11_147_3 : GF RX11 147 3 1 := ⟨RX3, TX3, 9, "LiarsAnswers$Game", rfl, uw_3, by decide, wd_102, Or.inl rfl⟩
theorem p_RX11_147_3 : PF RX11 147 3 1 (tyX3 1) false := ⟨RX3, TX3, 9, "LiarsAnswers$Game", tyX3, rfl, uw_3, by decide, wd_102, Or.inl rfl, tyX3_ok, nmX3, rfl, rfl, fun h => by cases h⟩
theorem wd_103 : (Cond.fieldLink "LiarsAnswers$Game" (19 : Nat) "LiarsAnswers$Game" "n" "I") ∈ gt := gt_of (List.mem_of_getElem? (i := 103) (by decide +kernel)) (by decide +kernel)
theorem g_RX3_19_3 : GF RX3 19 3 2 := ⟨RX3, TX3, 9, "LiarsAnswers$Game", rfl, uw_3, by decide, wd_103, Or.inl rfl⟩
theorem p_RX3_19_3 : PF RX3 19 3 2 (tyX3 2) false := ⟨RX3, TX3, 9, "LiarsAnswers$Game", tyX3, rfl, uw_3, by decide, wd_103, Or.inl rfl, tyX3_ok, nmX3, rfl, rfl, fun h => by cases h⟩
theorem wd_104 : (Cond.fieldLink "LiarsAnswers" (135 : Nat) "LiarsAnswers$Game" "n" "I") ∈ gt := gt_of (List.mem_of_getElem? (i := 104) (by decide +kernel)) (by decide +kernel)
theorem g_RX11_135_3 : GF RX11 135 3 2 := ⟨RX3, TX3, 9, "LiarsAnswers$Game", rfl, uw_3, by decide, wd_104, Or.inl rfl⟩
theorem p_RX11_135_3 : PF RX11 135 3 2 (tyX3 2) false := ⟨RX3, TX3, 9, "LiarsAnswers$Game", tyX3, rfl, uw_3, by decide, wd_104, Or.inl rfl, tyX3_ok, nmX3, rfl, rfl, fun h => by cases h⟩
theorem wd_105 : (Cond.fieldLink "LiarsAnswers$Game" (22 : Nat) "LiarsAnswers$Game" "e" "I") ∈ gt := gt_of (List.mem_of_getElem? (i := 105) (by decide +kernel)) (by decide +kernel)
theorem g_RX3_22_3 : GF RX3 22 3 3 := ⟨RX3, TX3, 9, "LiarsAnswers$Game", rfl, uw_3, by decide, wd_105, Or.inl rfl⟩
theorem p_RX3_22_3 : PF RX3 22 3 3 (tyX3 3) false := ⟨RX3, TX3, 9, "LiarsAnswers$Game", tyX3, rfl, uw_3, by decide, wd_105, Or.inl rfl, tyX3_ok, nmX3, rfl, rfl, fun h => by cases h⟩
theorem wd_106 : (Cond.fieldLink "LiarsAnswers" (144 : Nat) "LiarsAnswers$Game" "e" "I") ∈ gt := gt_of (List.mem_of_getElem? (i := 106) (by decide +kernel)) (by decide +kernel)
theorem g_RX11_144_3 : GF RX11 144 3 3 := ⟨RX3, TX3, 9, "LiarsAnswers$Game", rfl, uw_3, by decide, wd_106, Or.inl rfl⟩
theorem p_RX11_144_3 : PF RX11 144 3 3 (tyX3 3) false := ⟨RX3, TX3, 9, "LiarsAnswers$Game", tyX3, rfl, uw_3, by decide, wd_106, Or.inl rfl, tyX3_ok, nmX3, rfl, rfl, fun h => by cases h⟩
theorem wd_107 : (Cond.fieldLink "LiarsAnswers$Game" (25 : Nat) "LiarsAnswers$Game" "answers" "I") ∈ gt := gt_of (List.mem_of_getElem? (i := 107) (by decide +kernel)) (by decide +kernel)
theorem g_RX3_25_3 : GF RX3 25 3 4 := ⟨RX3, TX3, 9, "LiarsAnswers$Game", rfl, uw_3, by decide, wd_107, Or.inl rfl⟩
theorem p_RX3_25_3 : PF RX3 25 3 4 (tyX3 4) false := ⟨RX3, TX3, 9, "LiarsAnswers$Game", tyX3, rfl, uw_3, by decide, wd_107, Or.inl rfl, tyX3_ok, nmX3, rfl, rfl, fun h => by cases h⟩
theorem wd_108 : (Cond.fieldLink "LiarsAnswers" (126 : Nat) "LiarsAnswers$Game" "answers" "I") ∈ gt := gt_of (List.mem_of_getElem? (i := 108) (by decide +kernel)) (by decide +kernel)
theorem g_RX11_126_3 : GF RX11 126 3 4 := ⟨RX3, TX3, 9, "LiarsAnswers$Game", rfl, uw_3, by decide, wd_108, Or.inl rfl⟩
theorem p_RX11_126_3 : PF RX11 126 3 4 (tyX3 4) false := ⟨RX3, TX3, 9, "LiarsAnswers$Game", tyX3, rfl, uw_3, by decide, wd_108, Or.inl rfl, tyX3_ok, nmX3, rfl, rfl, fun h => by cases h⟩
theorem wd_109 : (Cond.fieldLink "LiarsAnswers$Game" (28 : Nat) "LiarsAnswers$Game" "waits" "I") ∈ gt := gt_of (List.mem_of_getElem? (i := 109) (by decide +kernel)) (by decide +kernel)
theorem g_RX3_28_3 : GF RX3 28 3 5 := ⟨RX3, TX3, 9, "LiarsAnswers$Game", rfl, uw_3, by decide, wd_109, Or.inl rfl⟩
theorem p_RX3_28_3 : PF RX3 28 3 5 (tyX3 5) false := ⟨RX3, TX3, 9, "LiarsAnswers$Game", tyX3, rfl, uw_3, by decide, wd_109, Or.inl rfl, tyX3_ok, nmX3, rfl, rfl, fun h => by cases h⟩
theorem wd_110 : (Cond.fieldLink "LiarsAnswers" (119 : Nat) "LiarsAnswers$Game" "waits" "I") ∈ gt := gt_of (List.mem_of_getElem? (i := 110) (by decide +kernel)) (by decide +kernel)
theorem g_RX11_119_3 : GF RX11 119 3 5 := ⟨RX3, TX3, 9, "LiarsAnswers$Game", rfl, uw_3, by decide, wd_110, Or.inl rfl⟩
theorem p_RX11_119_3 : PF RX11 119 3 5 (tyX3 5) false := ⟨RX3, TX3, 9, "LiarsAnswers$Game", tyX3, rfl, uw_3, by decide, wd_110, Or.inl rfl, tyX3_ok, nmX3, rfl, rfl, fun h => by cases h⟩
theorem wd_111 : (Cond.fieldLink "LiarsAnswers$Game" (31 : Nat) "LiarsAnswers$Game" "yesPrice" "I") ∈ gt := gt_of (List.mem_of_getElem? (i := 111) (by decide +kernel)) (by decide +kernel)
theorem g_RX3_31_3 : GF RX3 31 3 6 := ⟨RX3, TX3, 9, "LiarsAnswers$Game", rfl, uw_3, by decide, wd_111, Or.inl rfl⟩
theorem p_RX3_31_3 : PF RX3 31 3 6 (tyX3 6) false := ⟨RX3, TX3, 9, "LiarsAnswers$Game", tyX3, rfl, uw_3, by decide, wd_111, Or.inl rfl, tyX3_ok, nmX3, rfl, rfl, fun h => by cases h⟩
theorem wd_112 : (Cond.fieldLink "LiarsAnswers$Game" (34 : Nat) "LiarsAnswers$Game" "noPrice" "I") ∈ gt := gt_of (List.mem_of_getElem? (i := 112) (by decide +kernel)) (by decide +kernel)
theorem g_RX3_34_3 : GF RX3 34 3 7 := ⟨RX3, TX3, 9, "LiarsAnswers$Game", rfl, uw_3, by decide, wd_112, Or.inl rfl⟩
theorem p_RX3_34_3 : PF RX3 34 3 7 (tyX3 7) false := ⟨RX3, TX3, 9, "LiarsAnswers$Game", tyX3, rfl, uw_3, by decide, wd_112, Or.inl rfl, tyX3_ok, nmX3, rfl, rfl, fun h => by cases h⟩
theorem wd_113 : (Cond.fieldLink "LiarsAnswers$Game" (37 : Nat) "LiarsAnswers$Game" "lefts" "[I") ∈ gt := gt_of (List.mem_of_getElem? (i := 113) (by decide +kernel)) (by decide +kernel)
theorem g_RX3_37_3 : GF RX3 37 3 8 := ⟨RX3, TX3, 9, "LiarsAnswers$Game", rfl, uw_3, by decide, wd_113, Or.inl rfl⟩
theorem p_RX3_37_3 : PF RX3 37 3 8 (tyX3 8) true := ⟨RX3, TX3, 9, "LiarsAnswers$Game", tyX3, rfl, uw_3, by decide, wd_113, Or.inl rfl, tyX3_ok, nmX3, rfl, rfl, fun _ => rfl⟩
theorem wd_114 : (Cond.fieldLink "LiarsAnswers" (166 : Nat) "LiarsAnswers$Game" "lefts" "[I") ∈ gt := gt_of (List.mem_of_getElem? (i := 114) (by decide +kernel)) (by decide +kernel)
theorem g_RX11_166_3 : GF RX11 166 3 8 := ⟨RX3, TX3, 9, "LiarsAnswers$Game", rfl, uw_3, by decide, wd_114, Or.inl rfl⟩
theorem wd_141 : (Cond.fieldLink "LiarsAnswers$Code" (9 : Nat) "LiarsAnswers$Code" "questions" "[I") ∈ gt := gt_of (List.mem_of_getElem? (i := 141) (by decide +kernel)) (by decide +kernel)
theorem g_RX2_9_2 : GF RX2 9 2 0 := ⟨RX2, TX2, 3, "LiarsAnswers$Code", rfl, uw_2, by decide, wd_141, Or.inl rfl⟩
theorem p_RX2_9_2 : PF RX2 9 2 0 (tyX2 0) true := ⟨RX2, TX2, 3, "LiarsAnswers$Code", tyX2, rfl, uw_2, by decide, wd_141, Or.inl rfl, tyX2_ok, nmX2, rfl, rfl, fun _ => rfl⟩
theorem wd_142 : (Cond.fieldLink "LiarsAnswers$Code" (15 : Nat) "LiarsAnswers$Code" "words" "[I") ∈ gt := gt_of (List.mem_of_getElem? (i := 142) (by decide +kernel)) (by decide +kernel)
theorem g_RX2_15_2 : GF RX2 15 2 1 := ⟨RX2, TX2, 3, "LiarsAnswers$Code", rfl, uw_2, by decide, wd_142, Or.inl rfl⟩
theorem p_RX2_15_2 : PF RX2 15 2 1 (tyX2 1) true := ⟨RX2, TX2, 3, "LiarsAnswers$Code", tyX2, rfl, uw_2, by decide, wd_142, Or.inl rfl, tyX2_ok, nmX2, rfl, rfl, fun _ => rfl⟩
theorem wd_143 : (Cond.fieldLink "LiarsAnswers$Code" (18 : Nat) "LiarsAnswers$Code" "size" "I") ∈ gt := gt_of (List.mem_of_getElem? (i := 143) (by decide +kernel)) (by decide +kernel)
theorem g_RX2_18_2 : GF RX2 18 2 2 := ⟨RX2, TX2, 3, "LiarsAnswers$Code", rfl, uw_2, by decide, wd_143, Or.inl rfl⟩
theorem p_RX2_18_2 : PF RX2 18 2 2 (tyX2 2) false := ⟨RX2, TX2, 3, "LiarsAnswers$Code", tyX2, rfl, uw_2, by decide, wd_143, Or.inl rfl, tyX2_ok, nmX2, rfl, rfl, fun h => by cases h⟩
theorem wd_144 : (Cond.fieldLink "LiarsAnswers" (184 : Nat) "LiarsAnswers$Code" "size" "I") ∈ gt := gt_of (List.mem_of_getElem? (i := 144) (by decide +kernel)) (by decide +kernel)
theorem g_RX11_184_2 : GF RX11 184 2 2 := ⟨RX2, TX2, 3, "LiarsAnswers$Code", rfl, uw_2, by decide, wd_144, Or.inl rfl⟩
theorem p_RX11_184_2 : PF RX11 184 2 2 (tyX2 2) false := ⟨RX2, TX2, 3, "LiarsAnswers$Code", tyX2, rfl, uw_2, by decide, wd_144, Or.inl rfl, tyX2_ok, nmX2, rfl, rfl, fun h => by cases h⟩
theorem wd_152 : (Cond.fieldLink "LiarsAnswers" (18 : Nat) "LiarsAnswers" "liars" "[LLiarsAnswers$Liar;") ∈ gt := gt_of (List.mem_of_getElem? (i := 152) (by decide +kernel)) (by decide +kernel)
theorem g_RX11_18_10 : GF RX11 18 10 0 := ⟨RX11, TX11, 8, "LiarsAnswers", rfl, uw_10, by decide, wd_152, Or.inl rfl⟩
theorem p_RX11_18_10 : PF RX11 18 10 0 (tyX11 0) true := ⟨RX11, TX11, 8, "LiarsAnswers", tyX11, rfl, uw_10, by decide, wd_152, Or.inl rfl, tyX11_ok, nmX11, rfl, rfl, fun _ => rfl⟩
theorem wd_153 : (Cond.fieldLink "LiarsAnswers" (25 : Nat) "LiarsAnswers" "traced" "LLiarsAnswers$Tally;") ∈ gt := gt_of (List.mem_of_getElem? (i := 153) (by decide +kernel)) (by decide +kernel)
theorem g_RX11_25_10 : GF RX11 25 10 1 := ⟨RX11, TX11, 8, "LiarsAnswers", rfl, uw_10, by decide, wd_153, Or.inl rfl⟩
theorem p_RX11_25_10 : PF RX11 25 10 1 (tyX11 1) true := ⟨RX11, TX11, 8, "LiarsAnswers", tyX11, rfl, uw_10, by decide, wd_153, Or.inl rfl, tyX11_ok, nmX11, rfl, rfl, fun _ => rfl⟩
theorem wd_154 : (Cond.fieldLink "LiarsAnswers" (29 : Nat) "LiarsAnswers" "untold" "LLiarsAnswers$Tally;") ∈ gt := gt_of (List.mem_of_getElem? (i := 154) (by decide +kernel)) (by decide +kernel)
theorem g_RX11_29_10 : GF RX11 29 10 2 := ⟨RX11, TX11, 8, "LiarsAnswers", rfl, uw_10, by decide, wd_154, Or.inl rfl⟩
theorem p_RX11_29_10 : PF RX11 29 10 2 (tyX11 2) true := ⟨RX11, TX11, 8, "LiarsAnswers", tyX11, rfl, uw_10, by decide, wd_154, Or.inl rfl, tyX11_ok, nmX11, rfl, rfl, fun _ => rfl⟩
theorem wd_155 : (Cond.fieldLink "LiarsAnswers" (34 : Nat) "LiarsAnswers" "heapTables" "[LLiarsAnswers$HeapTable;") ∈ gt := gt_of (List.mem_of_getElem? (i := 155) (by decide +kernel)) (by decide +kernel)
theorem g_RX11_34_10 : GF RX11 34 10 3 := ⟨RX11, TX11, 8, "LiarsAnswers", rfl, uw_10, by decide, wd_155, Or.inl rfl⟩
theorem p_RX11_34_10 : PF RX11 34 10 3 (tyX11 3) true := ⟨RX11, TX11, 8, "LiarsAnswers", tyX11, rfl, uw_10, by decide, wd_155, Or.inl rfl, tyX11_ok, nmX11, rfl, rfl, fun _ => rfl⟩
theorem wd_156 : (Cond.fieldLink "LiarsAnswers" (40 : Nat) "LiarsAnswers" "spanTables" "[LLiarsAnswers$SpanTable;") ∈ gt := gt_of (List.mem_of_getElem? (i := 156) (by decide +kernel)) (by decide +kernel)
theorem g_RX11_40_10 : GF RX11 40 10 4 := ⟨RX11, TX11, 8, "LiarsAnswers", rfl, uw_10, by decide, wd_156, Or.inl rfl⟩
theorem p_RX11_40_10 : PF RX11 40 10 4 (tyX11 4) true := ⟨RX11, TX11, 8, "LiarsAnswers", tyX11, rfl, uw_10, by decide, wd_156, Or.inl rfl, tyX11_ok, nmX11, rfl, rfl, fun _ => rfl⟩
theorem wd_157 : (Cond.fieldLink "LiarsAnswers" (47 : Nat) "LiarsAnswers" "game" "LLiarsAnswers$Game;") ∈ gt := gt_of (List.mem_of_getElem? (i := 157) (by decide +kernel)) (by decide +kernel)
theorem g_RX11_47_10 : GF RX11 47 10 5 := ⟨RX11, TX11, 8, "LiarsAnswers", rfl, uw_10, by decide, wd_157, Or.inl rfl⟩
theorem p_RX11_47_10 : PF RX11 47 10 5 (tyX11 5) true := ⟨RX11, TX11, 8, "LiarsAnswers", tyX11, rfl, uw_10, by decide, wd_157, Or.inl rfl, tyX11_ok, nmX11, rfl, rfl, fun _ => rfl⟩
theorem wd_158 : (Cond.fieldLink "LiarsAnswers" (54 : Nat) "LiarsAnswers" "code" "LLiarsAnswers$Code;") ∈ gt := gt_of (List.mem_of_getElem? (i := 158) (by decide +kernel)) (by decide +kernel)
theorem g_RX11_54_10 : GF RX11 54 10 6 := ⟨RX11, TX11, 8, "LiarsAnswers", rfl, uw_10, by decide, wd_158, Or.inl rfl⟩
theorem p_RX11_54_10 : PF RX11 54 10 6 (tyX11 6) true := ⟨RX11, TX11, 8, "LiarsAnswers", tyX11, rfl, uw_10, by decide, wd_158, Or.inl rfl, tyX11_ok, nmX11, rfl, rfl, fun _ => rfl⟩
theorem wd_159 : (Cond.fieldLink "LiarsAnswers" (58 : Nat) "LiarsAnswers" "takenBack" "I") ∈ gt := gt_of (List.mem_of_getElem? (i := 159) (by decide +kernel)) (by decide +kernel)
theorem g_RX11_58_10 : GF RX11 58 10 7 := ⟨RX11, TX11, 8, "LiarsAnswers", rfl, uw_10, by decide, wd_159, Or.inl rfl⟩
theorem p_RX11_58_10 : PF RX11 58 10 7 (tyX11 7) false := ⟨RX11, TX11, 8, "LiarsAnswers", tyX11, rfl, uw_10, by decide, wd_159, Or.inl rfl, tyX11_ok, nmX11, rfl, rfl, fun h => by cases h⟩
theorem wd_238 : (Cond.fieldLink "LiarsAnswers$HeapWalk" (22 : Nat) "LiarsAnswers$HeapWalk" "few" "[I") ∈ gt := gt_of (List.mem_of_getElem? (i := 238) (by decide +kernel)) (by decide +kernel)
theorem g_RX5_22_0 : GF RX5 22 0 0 := ⟨RX0, TX0, 6, "LiarsAnswers$HeapWalk", rfl, uw_0, by decide, wd_238, Or.inl rfl⟩
theorem p_RX5_22_0 : PF RX5 22 0 0 (tyX0 0) true := ⟨RX0, TX0, 6, "LiarsAnswers$HeapWalk", tyX0, rfl, uw_0, by decide, wd_238, Or.inl rfl, tyX0_ok, nmX0, rfl, rfl, fun _ => rfl⟩
theorem g_RX5_22_5 : GF RX5 22 5 0 := ⟨RX6, TX6, 8, "LiarsAnswers$HeapWalk", rfl, uw_5, by decide, wd_238, Or.inl rfl⟩
theorem p_RX5_22_5 : PF RX5 22 5 0 (tyX6 0) true := ⟨RX6, TX6, 8, "LiarsAnswers$HeapWalk", tyX6, rfl, uw_5, by decide, wd_238, Or.inl rfl, tyX6_ok, nmX6, rfl, rfl, fun _ => rfl⟩
theorem wd_239 : (Cond.fieldLink "LiarsAnswers$HeapWalk" (34 : Nat) "LiarsAnswers$HeapWalk" "yesPrice" "I") ∈ gt := gt_of (List.mem_of_getElem? (i := 239) (by decide +kernel)) (by decide +kernel)
theorem g_RX5_34_0 : GF RX5 34 0 1 := ⟨RX0, TX0, 6, "LiarsAnswers$HeapWalk", rfl, uw_0, by decide, wd_239, Or.inl rfl⟩
theorem p_RX5_34_0 : PF RX5 34 0 1 (tyX0 1) true := ⟨RX0, TX0, 6, "LiarsAnswers$HeapWalk", tyX0, rfl, uw_0, by decide, wd_239, Or.inl rfl, tyX0_ok, nmX0, rfl, rfl, fun _ => rfl⟩
theorem g_RX5_34_5 : GF RX5 34 5 1 := ⟨RX6, TX6, 8, "LiarsAnswers$HeapWalk", rfl, uw_5, by decide, wd_239, Or.inl rfl⟩
theorem p_RX5_34_5 : PF RX5 34 5 1 (tyX6 1) true := ⟨RX6, TX6, 8, "LiarsAnswers$HeapWalk", tyX6, rfl, uw_5, by decide, wd_239, Or.inl rfl, tyX6_ok, nmX6, rfl, rfl, fun _ => rfl⟩
theorem wd_240 : (Cond.fieldLink "LiarsAnswers$HeapWalk" (37 : Nat) "LiarsAnswers$HeapWalk" "noPrice" "I") ∈ gt := gt_of (List.mem_of_getElem? (i := 240) (by decide +kernel)) (by decide +kernel)
theorem g_RX5_37_0 : GF RX5 37 0 2 := ⟨RX0, TX0, 6, "LiarsAnswers$HeapWalk", rfl, uw_0, by decide, wd_240, Or.inl rfl⟩
theorem p_RX5_37_0 : PF RX5 37 0 2 (tyX0 2) true := ⟨RX0, TX0, 6, "LiarsAnswers$HeapWalk", tyX0, rfl, uw_0, by decide, wd_240, Or.inl rfl, tyX0_ok, nmX0, rfl, rfl, fun _ => rfl⟩
theorem g_RX5_37_5 : GF RX5 37 5 2 := ⟨RX6, TX6, 8, "LiarsAnswers$HeapWalk", rfl, uw_5, by decide, wd_240, Or.inl rfl⟩
theorem p_RX5_37_5 : PF RX5 37 5 2 (tyX6 2) true := ⟨RX6, TX6, 8, "LiarsAnswers$HeapWalk", tyX6, rfl, uw_5, by decide, wd_240, Or.inl rfl, tyX6_ok, nmX6, rfl, rfl, fun _ => rfl⟩
theorem wd_241 : (Cond.fieldLink "LiarsAnswers$HeapWalk" (9 : Nat) "LiarsAnswers$HeapWalk" "have" "[I") ∈ gt := gt_of (List.mem_of_getElem? (i := 241) (by decide +kernel)) (by decide +kernel)
theorem g_RX5_9_0 : GF RX5 9 0 3 := ⟨RX0, TX0, 6, "LiarsAnswers$HeapWalk", rfl, uw_0, by decide, wd_241, Or.inl rfl⟩
theorem p_RX5_9_0 : PF RX5 9 0 3 (tyX0 3) true := ⟨RX0, TX0, 6, "LiarsAnswers$HeapWalk", tyX0, rfl, uw_0, by decide, wd_241, Or.inl rfl, tyX0_ok, nmX0, rfl, rfl, fun _ => rfl⟩
theorem g_RX5_9_5 : GF RX5 9 5 3 := ⟨RX6, TX6, 8, "LiarsAnswers$HeapWalk", rfl, uw_5, by decide, wd_241, Or.inl rfl⟩
theorem p_RX5_9_5 : PF RX5 9 5 3 (tyX6 3) true := ⟨RX6, TX6, 8, "LiarsAnswers$HeapWalk", tyX6, rfl, uw_5, by decide, wd_241, Or.inl rfl, tyX6_ok, nmX6, rfl, rfl, fun _ => rfl⟩
theorem wd_242 : (Cond.fieldLink "LiarsAnswers$AnyHeap" (7 : Nat) "LiarsAnswers$AnyHeap" "have" "[I") ∈ gt := gt_of (List.mem_of_getElem? (i := 242) (by decide +kernel)) (by decide +kernel)
theorem wd_243 : (Cond.sameField "LiarsAnswers$AnyHeap" "LiarsAnswers$HeapWalk" "have" "[I") ∈ gt := gt_of (List.mem_of_getElem? (i := 243) (by decide +kernel)) (by decide +kernel)
theorem g_RX0_7_0 : GF RX0 7 0 3 := ⟨RX0, TX0, 6, "LiarsAnswers$AnyHeap", rfl, uw_0, by decide, wd_242, Or.inr wd_243⟩
theorem wd_244 : (Cond.fieldLink "LiarsAnswers$LeastHeap" (19 : Nat) "LiarsAnswers$LeastHeap" "have" "[I") ∈ gt := gt_of (List.mem_of_getElem? (i := 244) (by decide +kernel)) (by decide +kernel)
theorem wd_245 : (Cond.sameField "LiarsAnswers$LeastHeap" "LiarsAnswers$HeapWalk" "have" "[I") ∈ gt := gt_of (List.mem_of_getElem? (i := 245) (by decide +kernel)) (by decide +kernel)
theorem g_RX6_19_5 : GF RX6 19 5 3 := ⟨RX6, TX6, 8, "LiarsAnswers$LeastHeap", rfl, uw_5, by decide, wd_244, Or.inr wd_245⟩
theorem wd_246 : (Cond.fieldLink "LiarsAnswers$HeapWalk" (15 : Nat) "LiarsAnswers$HeapWalk" "taken" "[I") ∈ gt := gt_of (List.mem_of_getElem? (i := 246) (by decide +kernel)) (by decide +kernel)
theorem g_RX5_15_0 : GF RX5 15 0 4 := ⟨RX0, TX0, 6, "LiarsAnswers$HeapWalk", rfl, uw_0, by decide, wd_246, Or.inl rfl⟩
theorem p_RX5_15_0 : PF RX5 15 0 4 (tyX0 4) true := ⟨RX0, TX0, 6, "LiarsAnswers$HeapWalk", tyX0, rfl, uw_0, by decide, wd_246, Or.inl rfl, tyX0_ok, nmX0, rfl, rfl, fun _ => rfl⟩
theorem g_RX5_15_5 : GF RX5 15 5 4 := ⟨RX6, TX6, 8, "LiarsAnswers$HeapWalk", rfl, uw_5, by decide, wd_246, Or.inl rfl⟩
theorem p_RX5_15_5 : PF RX5 15 5 4 (tyX6 4) true := ⟨RX6, TX6, 8, "LiarsAnswers$HeapWalk", tyX6, rfl, uw_5, by decide, wd_246, Or.inl rfl, tyX6_ok, nmX6, rfl, rfl, fun _ => rfl⟩
theorem wd_247 : (Cond.fieldLink "LiarsAnswers$LeastHeap" (38 : Nat) "LiarsAnswers$LeastHeap" "taken" "[I") ∈ gt := gt_of (List.mem_of_getElem? (i := 247) (by decide +kernel)) (by decide +kernel)
theorem wd_248 : (Cond.sameField "LiarsAnswers$LeastHeap" "LiarsAnswers$HeapWalk" "taken" "[I") ∈ gt := gt_of (List.mem_of_getElem? (i := 248) (by decide +kernel)) (by decide +kernel)
theorem g_RX6_38_5 : GF RX6 38 5 4 := ⟨RX6, TX6, 8, "LiarsAnswers$LeastHeap", rfl, uw_5, by decide, wd_247, Or.inr wd_248⟩
theorem wd_249 : (Cond.fieldLink "LiarsAnswers$HeapWalk" (18 : Nat) "LiarsAnswers$HeapWalk" "goal" "I") ∈ gt := gt_of (List.mem_of_getElem? (i := 249) (by decide +kernel)) (by decide +kernel)
theorem g_RX5_18_0 : GF RX5 18 0 5 := ⟨RX0, TX0, 6, "LiarsAnswers$HeapWalk", rfl, uw_0, by decide, wd_249, Or.inl rfl⟩
theorem p_RX5_18_0 : PF RX5 18 0 5 (tyX0 5) false := ⟨RX0, TX0, 6, "LiarsAnswers$HeapWalk", tyX0, rfl, uw_0, by decide, wd_249, Or.inl rfl, tyX0_ok, nmX0, rfl, rfl, fun h => by cases h⟩
theorem g_RX5_18_5 : GF RX5 18 5 5 := ⟨RX6, TX6, 8, "LiarsAnswers$HeapWalk", rfl, uw_5, by decide, wd_249, Or.inl rfl⟩
theorem p_RX5_18_5 : PF RX5 18 5 5 (tyX6 5) false := ⟨RX6, TX6, 8, "LiarsAnswers$HeapWalk", tyX6, rfl, uw_5, by decide, wd_249, Or.inl rfl, tyX6_ok, nmX6, rfl, rfl, fun h => by cases h⟩
theorem wd_269 : (Cond.fieldLink "LiarsAnswers$LeastHeap" (9 : Nat) "LiarsAnswers$LeastHeap" "lowest" "[I") ∈ gt := gt_of (List.mem_of_getElem? (i := 269) (by decide +kernel)) (by decide +kernel)
theorem g_RX6_9_5 : GF RX6 9 5 6 := ⟨RX6, TX6, 8, "LiarsAnswers$LeastHeap", rfl, uw_5, by decide, wd_269, Or.inl rfl⟩
theorem p_RX6_9_5 : PF RX6 9 5 6 (tyX6 6) true := ⟨RX6, TX6, 8, "LiarsAnswers$LeastHeap", tyX6, rfl, uw_5, by decide, wd_269, Or.inl rfl, tyX6_ok, nmX6, rfl, rfl, fun _ => rfl⟩
theorem wd_270 : (Cond.fieldLink "LiarsAnswers$LeastHeap" (15 : Nat) "LiarsAnswers$LeastHeap" "least" "I") ∈ gt := gt_of (List.mem_of_getElem? (i := 270) (by decide +kernel)) (by decide +kernel)
theorem g_RX6_15_5 : GF RX6 15 5 7 := ⟨RX6, TX6, 8, "LiarsAnswers$LeastHeap", rfl, uw_5, by decide, wd_270, Or.inl rfl⟩
theorem p_RX6_15_5 : PF RX6 15 5 7 (tyX6 7) false := ⟨RX6, TX6, 8, "LiarsAnswers$LeastHeap", tyX6, rfl, uw_5, by decide, wd_270, Or.inl rfl, tyX6_ok, nmX6, rfl, rfl, fun h => by cases h⟩
theorem wd_287 : (Cond.fieldLink "LiarsAnswers$HeapTable" (15 : Nat) "LiarsAnswers$HeapTable" "few" "[I") ∈ gt := gt_of (List.mem_of_getElem? (i := 287) (by decide +kernel)) (by decide +kernel)
theorem g_RX4_15_4 : GF RX4 15 4 0 := ⟨RX4, TX4, 4, "LiarsAnswers$HeapTable", rfl, uw_4, by decide, wd_287, Or.inl rfl⟩
theorem p_RX4_15_4 : PF RX4 15 4 0 (tyX4 0) true := ⟨RX4, TX4, 4, "LiarsAnswers$HeapTable", tyX4, rfl, uw_4, by decide, wd_287, Or.inl rfl, tyX4_ok, nmX4, rfl, rfl, fun _ => rfl⟩
theorem wd_288 : (Cond.fieldLink "LiarsAnswers$HeapTable" (9 : Nat) "LiarsAnswers$HeapTable" "known" "[I") ∈ gt := gt_of (List.mem_of_getElem? (i := 288) (by decide +kernel)) (by decide +kernel)
theorem g_RX4_9_4 : GF RX4 9 4 1 := ⟨RX4, TX4, 4, "LiarsAnswers$HeapTable", rfl, uw_4, by decide, wd_288, Or.inl rfl⟩
theorem p_RX4_9_4 : PF RX4 9 4 1 (tyX4 1) true := ⟨RX4, TX4, 4, "LiarsAnswers$HeapTable", tyX4, rfl, uw_4, by decide, wd_288, Or.inl rfl, tyX4_ok, nmX4, rfl, rfl, fun _ => rfl⟩
theorem wd_289 : (Cond.fieldLink "LiarsAnswers$HeapTable" (18 : Nat) "LiarsAnswers$HeapTable" "anyHeap" "LLiarsAnswers$AnyHeap;") ∈ gt := gt_of (List.mem_of_getElem? (i := 289) (by decide +kernel)) (by decide +kernel)
theorem g_RX4_18_4 : GF RX4 18 4 2 := ⟨RX4, TX4, 4, "LiarsAnswers$HeapTable", rfl, uw_4, by decide, wd_289, Or.inl rfl⟩
theorem p_RX4_18_4 : PF RX4 18 4 2 (tyX4 2) true := ⟨RX4, TX4, 4, "LiarsAnswers$HeapTable", tyX4, rfl, uw_4, by decide, wd_289, Or.inl rfl, tyX4_ok, nmX4, rfl, rfl, fun _ => rfl⟩
theorem wd_290 : (Cond.fieldLink "LiarsAnswers$HeapTable" (22 : Nat) "LiarsAnswers$HeapTable" "leastHeap" "LLiarsAnswers$LeastHeap;") ∈ gt := gt_of (List.mem_of_getElem? (i := 290) (by decide +kernel)) (by decide +kernel)
theorem g_RX4_22_4 : GF RX4 22 4 3 := ⟨RX4, TX4, 4, "LiarsAnswers$HeapTable", rfl, uw_4, by decide, wd_290, Or.inl rfl⟩
theorem p_RX4_22_4 : PF RX4 22 4 3 (tyX4 3) true := ⟨RX4, TX4, 4, "LiarsAnswers$HeapTable", tyX4, rfl, uw_4, by decide, wd_290, Or.inl rfl, tyX4_ok, nmX4, rfl, rfl, fun _ => rfl⟩
theorem wd_312 : (Cond.fieldLink "LiarsAnswers" (242 : Nat) "LiarsAnswers" "PLACES" "[I") ∈ gt := gt_of (List.mem_of_getElem? (i := 312) (by decide +kernel)) (by decide +kernel)
theorem wd_475 : (Cond.fieldLink "LiarsAnswers$SpanTable" (25 : Nat) "LiarsAnswers$SpanTable" "yesPrice" "I") ∈ gt := gt_of (List.mem_of_getElem? (i := 475) (by decide +kernel)) (by decide +kernel)
theorem g_RX8_25_7 : GF RX8 25 7 0 := ⟨RX8, TX8, 4, "LiarsAnswers$SpanTable", rfl, uw_7, by decide, wd_475, Or.inl rfl⟩
theorem p_RX8_25_7 : PF RX8 25 7 0 (tyX8 0) true := ⟨RX8, TX8, 4, "LiarsAnswers$SpanTable", tyX8, rfl, uw_7, by decide, wd_475, Or.inl rfl, tyX8_ok, nmX8, rfl, rfl, fun _ => rfl⟩
theorem wd_476 : (Cond.fieldLink "LiarsAnswers$SpanTable" (28 : Nat) "LiarsAnswers$SpanTable" "noPrice" "I") ∈ gt := gt_of (List.mem_of_getElem? (i := 476) (by decide +kernel)) (by decide +kernel)
theorem g_RX8_28_7 : GF RX8 28 7 1 := ⟨RX8, TX8, 4, "LiarsAnswers$SpanTable", rfl, uw_7, by decide, wd_476, Or.inl rfl⟩
theorem p_RX8_28_7 : PF RX8 28 7 1 (tyX8 1) true := ⟨RX8, TX8, 4, "LiarsAnswers$SpanTable", tyX8, rfl, uw_7, by decide, wd_476, Or.inl rfl, tyX8_ok, nmX8, rfl, rfl, fun _ => rfl⟩
theorem wd_477 : (Cond.fieldLink "LiarsAnswers$SpanTable" (9 : Nat) "LiarsAnswers$SpanTable" "few" "[I") ∈ gt := gt_of (List.mem_of_getElem? (i := 477) (by decide +kernel)) (by decide +kernel)
theorem g_RX8_9_7 : GF RX8 9 7 2 := ⟨RX8, TX8, 4, "LiarsAnswers$SpanTable", rfl, uw_7, by decide, wd_477, Or.inl rfl⟩
theorem p_RX8_9_7 : PF RX8 9 7 2 (tyX8 2) true := ⟨RX8, TX8, 4, "LiarsAnswers$SpanTable", tyX8, rfl, uw_7, by decide, wd_477, Or.inl rfl, tyX8_ok, nmX8, rfl, rfl, fun _ => rfl⟩
theorem wd_478 : (Cond.fieldLink "LiarsAnswers$SpanTable" (15 : Nat) "LiarsAnswers$SpanTable" "known" "I") ∈ gt := gt_of (List.mem_of_getElem? (i := 478) (by decide +kernel)) (by decide +kernel)
theorem g_RX8_15_7 : GF RX8 15 7 3 := ⟨RX8, TX8, 4, "LiarsAnswers$SpanTable", rfl, uw_7, by decide, wd_478, Or.inl rfl⟩
theorem p_RX8_15_7 : PF RX8 15 7 3 (tyX8 3) false := ⟨RX8, TX8, 4, "LiarsAnswers$SpanTable", tyX8, rfl, uw_7, by decide, wd_478, Or.inl rfl, tyX8_ok, nmX8, rfl, rfl, fun h => by cases h⟩
theorem wd_649 : (Cond.fieldLink "LiarsAnswersModel" (49 : Nat) "LiarsAnswersModel" "hasGame" "Z") ∈ gt := gt_of (List.mem_of_getElem? (i := 649) (by decide +kernel)) (by decide +kernel)
theorem g_RX12_49_11 : GF RX12 49 11 0 := ⟨RX12, TX12, 21, "LiarsAnswersModel", rfl, uw_11, by decide, wd_649, Or.inl rfl⟩
theorem p_RX12_49_11 : PF RX12 49 11 0 (tyX12 0) false := ⟨RX12, TX12, 21, "LiarsAnswersModel", tyX12, rfl, uw_11, by decide, wd_649, Or.inl rfl, tyX12_ok, nmX12, rfl, rfl, fun h => by cases h⟩
theorem wd_650 : (Cond.fieldLink "LiarsAnswersModel" (88 : Nat) "LiarsAnswersModel" "kind" "I") ∈ gt := gt_of (List.mem_of_getElem? (i := 650) (by decide +kernel)) (by decide +kernel)
theorem g_RX12_88_11 : GF RX12 88 11 1 := ⟨RX12, TX12, 21, "LiarsAnswersModel", rfl, uw_11, by decide, wd_650, Or.inl rfl⟩
theorem p_RX12_88_11 : PF RX12 88 11 1 (tyX12 1) false := ⟨RX12, TX12, 21, "LiarsAnswersModel", tyX12, rfl, uw_11, by decide, wd_650, Or.inl rfl, tyX12_ok, nmX12, rfl, rfl, fun h => by cases h⟩
theorem wd_651 : (Cond.fieldLink "LiarsAnswersModel" (91 : Nat) "LiarsAnswersModel" "n" "I") ∈ gt := gt_of (List.mem_of_getElem? (i := 651) (by decide +kernel)) (by decide +kernel)
theorem g_RX12_91_11 : GF RX12 91 11 2 := ⟨RX12, TX12, 21, "LiarsAnswersModel", rfl, uw_11, by decide, wd_651, Or.inl rfl⟩
theorem p_RX12_91_11 : PF RX12 91 11 2 (tyX12 2) false := ⟨RX12, TX12, 21, "LiarsAnswersModel", tyX12, rfl, uw_11, by decide, wd_651, Or.inl rfl, tyX12_ok, nmX12, rfl, rfl, fun h => by cases h⟩
theorem wd_652 : (Cond.fieldLink "LiarsAnswersModel" (98 : Nat) "LiarsAnswersModel" "e" "I") ∈ gt := gt_of (List.mem_of_getElem? (i := 652) (by decide +kernel)) (by decide +kernel)
theorem g_RX12_98_11 : GF RX12 98 11 3 := ⟨RX12, TX12, 21, "LiarsAnswersModel", rfl, uw_11, by decide, wd_652, Or.inl rfl⟩
theorem p_RX12_98_11 : PF RX12 98 11 3 (tyX12 3) false := ⟨RX12, TX12, 21, "LiarsAnswersModel", tyX12, rfl, uw_11, by decide, wd_652, Or.inl rfl, tyX12_ok, nmX12, rfl, rfl, fun h => by cases h⟩
theorem wd_653 : (Cond.fieldLink "LiarsAnswersModel" (101 : Nat) "LiarsAnswersModel" "answers" "I") ∈ gt := gt_of (List.mem_of_getElem? (i := 653) (by decide +kernel)) (by decide +kernel)
theorem g_RX12_101_11 : GF RX12 101 11 4 := ⟨RX12, TX12, 21, "LiarsAnswersModel", rfl, uw_11, by decide, wd_653, Or.inl rfl⟩
theorem p_RX12_101_11 : PF RX12 101 11 4 (tyX12 4) false := ⟨RX12, TX12, 21, "LiarsAnswersModel", tyX12, rfl, uw_11, by decide, wd_653, Or.inl rfl, tyX12_ok, nmX12, rfl, rfl, fun h => by cases h⟩
theorem wd_654 : (Cond.fieldLink "LiarsAnswersModel" (7 : Nat) "LiarsAnswersModel" "waits" "I") ∈ gt := gt_of (List.mem_of_getElem? (i := 654) (by decide +kernel)) (by decide +kernel)
theorem g_RX12_7_11 : GF RX12 7 11 5 := ⟨RX12, TX12, 21, "LiarsAnswersModel", rfl, uw_11, by decide, wd_654, Or.inl rfl⟩
theorem p_RX12_7_11 : PF RX12 7 11 5 (tyX12 5) false := ⟨RX12, TX12, 21, "LiarsAnswersModel", tyX12, rfl, uw_11, by decide, wd_654, Or.inl rfl, tyX12_ok, nmX12, rfl, rfl, fun h => by cases h⟩
theorem wd_655 : (Cond.fieldLink "LiarsAnswersModel" (13 : Nat) "LiarsAnswersModel" "left" "[I") ∈ gt := gt_of (List.mem_of_getElem? (i := 655) (by decide +kernel)) (by decide +kernel)
theorem g_RX12_13_11 : GF RX12 13 11 6 := ⟨RX12, TX12, 21, "LiarsAnswersModel", rfl, uw_11, by decide, wd_655, Or.inl rfl⟩
theorem p_RX12_13_11 : PF RX12 13 11 6 (tyX12 6) true := ⟨RX12, TX12, 21, "LiarsAnswersModel", tyX12, rfl, uw_11, by decide, wd_655, Or.inl rfl, tyX12_ok, nmX12, rfl, rfl, fun _ => rfl⟩
theorem wd_656 : (Cond.fieldLink "LiarsAnswersModel" (17 : Nat) "LiarsAnswersModel" "before" "[I") ∈ gt := gt_of (List.mem_of_getElem? (i := 656) (by decide +kernel)) (by decide +kernel)
theorem g_RX12_17_11 : GF RX12 17 11 7 := ⟨RX12, TX12, 21, "LiarsAnswersModel", rfl, uw_11, by decide, wd_656, Or.inl rfl⟩
theorem p_RX12_17_11 : PF RX12 17 11 7 (tyX12 7) true := ⟨RX12, TX12, 21, "LiarsAnswersModel", tyX12, rfl, uw_11, by decide, wd_656, Or.inl rfl, tyX12_ok, nmX12, rfl, rfl, fun _ => rfl⟩
theorem wd_657 : (Cond.fieldLink "LiarsAnswersModel" (117 : Nat) "LiarsAnswersModel" "tookBack" "I") ∈ gt := gt_of (List.mem_of_getElem? (i := 657) (by decide +kernel)) (by decide +kernel)
theorem g_RX12_117_11 : GF RX12 117 11 8 := ⟨RX12, TX12, 21, "LiarsAnswersModel", rfl, uw_11, by decide, wd_657, Or.inl rfl⟩
theorem p_RX12_117_11 : PF RX12 117 11 8 (tyX12 8) false := ⟨RX12, TX12, 21, "LiarsAnswersModel", tyX12, rfl, uw_11, by decide, wd_657, Or.inl rfl, tyX12_ok, nmX12, rfl, rfl, fun h => by cases h⟩
theorem wd_658 : (Cond.fieldLink "LiarsAnswersModel" (146 : Nat) "LiarsAnswersModel" "questions" "I") ∈ gt := gt_of (List.mem_of_getElem? (i := 658) (by decide +kernel)) (by decide +kernel)
theorem g_RX12_146_11 : GF RX12 146 11 9 := ⟨RX12, TX12, 21, "LiarsAnswersModel", rfl, uw_11, by decide, wd_658, Or.inl rfl⟩
theorem p_RX12_146_11 : PF RX12 146 11 9 (tyX12 9) false := ⟨RX12, TX12, 21, "LiarsAnswersModel", tyX12, rfl, uw_11, by decide, wd_658, Or.inl rfl, tyX12_ok, nmX12, rfl, rfl, fun h => by cases h⟩
theorem wd_659 : (Cond.fieldLink "LiarsAnswersModel" (20 : Nat) "LiarsAnswersModel" "question" "[I") ∈ gt := gt_of (List.mem_of_getElem? (i := 659) (by decide +kernel)) (by decide +kernel)
theorem g_RX12_20_11 : GF RX12 20 11 10 := ⟨RX12, TX12, 21, "LiarsAnswersModel", rfl, uw_11, by decide, wd_659, Or.inl rfl⟩
theorem p_RX12_20_11 : PF RX12 20 11 10 (tyX12 10) true := ⟨RX12, TX12, 21, "LiarsAnswersModel", tyX12, rfl, uw_11, by decide, wd_659, Or.inl rfl, tyX12_ok, nmX12, rfl, rfl, fun _ => rfl⟩
theorem wd_660 : (Cond.fieldLink "LiarsAnswersModel" (57 : Nat) "LiarsAnswersModel" "trace" "J") ∈ gt := gt_of (List.mem_of_getElem? (i := 660) (by decide +kernel)) (by decide +kernel)
theorem g_RX12_57_11 : GF RX12 57 11 11 := ⟨RX12, TX12, 21, "LiarsAnswersModel", rfl, uw_11, by decide, wd_660, Or.inl rfl⟩
theorem p_RX12_57_11 : PF RX12 57 11 11 (tyX12 11) false := ⟨RX12, TX12, 21, "LiarsAnswersModel", tyX12, rfl, uw_11, by decide, wd_660, Or.inl rfl, tyX12_ok, nmX12, rfl, rfl, fun h => by cases h⟩
theorem wd_661 : (Cond.fieldLink "LiarsAnswersModel" (24 : Nat) "LiarsAnswersModel" "row" "[B") ∈ gt := gt_of (List.mem_of_getElem? (i := 661) (by decide +kernel)) (by decide +kernel)
theorem g_RX12_24_11 : GF RX12 24 11 12 := ⟨RX12, TX12, 21, "LiarsAnswersModel", rfl, uw_11, by decide, wd_661, Or.inl rfl⟩
theorem p_RX12_24_11 : PF RX12 24 11 12 (tyX12 12) true := ⟨RX12, TX12, 21, "LiarsAnswersModel", tyX12, rfl, uw_11, by decide, wd_661, Or.inl rfl, tyX12_ok, nmX12, rfl, rfl, fun _ => rfl⟩
theorem wd_662 : (Cond.fieldLink "LiarsAnswersModel" (28 : Nat) "LiarsAnswersModel" "spansKind" "I") ∈ gt := gt_of (List.mem_of_getElem? (i := 662) (by decide +kernel)) (by decide +kernel)
theorem g_RX12_28_11 : GF RX12 28 11 13 := ⟨RX12, TX12, 21, "LiarsAnswersModel", rfl, uw_11, by decide, wd_662, Or.inl rfl⟩
theorem p_RX12_28_11 : PF RX12 28 11 13 (tyX12 13) false := ⟨RX12, TX12, 21, "LiarsAnswersModel", tyX12, rfl, uw_11, by decide, wd_662, Or.inl rfl, tyX12_ok, nmX12, rfl, rfl, fun h => by cases h⟩
theorem wd_663 : (Cond.fieldLink "LiarsAnswersModel" (128 : Nat) "LiarsAnswersModel" "spansMany" "I") ∈ gt := gt_of (List.mem_of_getElem? (i := 663) (by decide +kernel)) (by decide +kernel)
theorem g_RX12_128_11 : GF RX12 128 11 14 := ⟨RX12, TX12, 21, "LiarsAnswersModel", rfl, uw_11, by decide, wd_663, Or.inl rfl⟩
theorem p_RX12_128_11 : PF RX12 128 11 14 (tyX12 14) false := ⟨RX12, TX12, 21, "LiarsAnswersModel", tyX12, rfl, uw_11, by decide, wd_663, Or.inl rfl, tyX12_ok, nmX12, rfl, rfl, fun h => by cases h⟩
theorem wd_664 : (Cond.fieldLink "LiarsAnswersModel" (31 : Nat) "LiarsAnswersModel" "spanFewest" "[I") ∈ gt := gt_of (List.mem_of_getElem? (i := 664) (by decide +kernel)) (by decide +kernel)
theorem g_RX12_31_11 : GF RX12 31 11 15 := ⟨RX12, TX12, 21, "LiarsAnswersModel", rfl, uw_11, by decide, wd_664, Or.inl rfl⟩
theorem p_RX12_31_11 : PF RX12 31 11 15 (tyX12 15) true := ⟨RX12, TX12, 21, "LiarsAnswersModel", tyX12, rfl, uw_11, by decide, wd_664, Or.inl rfl, tyX12_ok, nmX12, rfl, rfl, fun _ => rfl⟩
theorem wd_665 : (Cond.fieldLink "LiarsAnswersModel" (34 : Nat) "LiarsAnswersModel" "heap" "[I") ∈ gt := gt_of (List.mem_of_getElem? (i := 665) (by decide +kernel)) (by decide +kernel)
theorem g_RX12_34_11 : GF RX12 34 11 16 := ⟨RX12, TX12, 21, "LiarsAnswersModel", rfl, uw_11, by decide, wd_665, Or.inl rfl⟩
theorem p_RX12_34_11 : PF RX12 34 11 16 (tyX12 16) true := ⟨RX12, TX12, 21, "LiarsAnswersModel", tyX12, rfl, uw_11, by decide, wd_665, Or.inl rfl, tyX12_ok, nmX12, rfl, rfl, fun _ => rfl⟩
theorem wd_666 : (Cond.fieldLink "LiarsAnswersModel" (37 : Nat) "LiarsAnswersModel" "beside" "[I") ∈ gt := gt_of (List.mem_of_getElem? (i := 666) (by decide +kernel)) (by decide +kernel)
theorem g_RX12_37_11 : GF RX12 37 11 17 := ⟨RX12, TX12, 21, "LiarsAnswersModel", rfl, uw_11, by decide, wd_666, Or.inl rfl⟩
theorem p_RX12_37_11 : PF RX12 37 11 17 (tyX12 17) true := ⟨RX12, TX12, 21, "LiarsAnswersModel", tyX12, rfl, uw_11, by decide, wd_666, Or.inl rfl, tyX12_ok, nmX12, rfl, rfl, fun _ => rfl⟩
theorem wd_667 : (Cond.fieldLink "LiarsAnswersModel" (40 : Nat) "LiarsAnswersModel" "counts" "[I") ∈ gt := gt_of (List.mem_of_getElem? (i := 667) (by decide +kernel)) (by decide +kernel)
theorem g_RX12_40_11 : GF RX12 40 11 18 := ⟨RX12, TX12, 21, "LiarsAnswersModel", rfl, uw_11, by decide, wd_667, Or.inl rfl⟩
theorem p_RX12_40_11 : PF RX12 40 11 18 (tyX12 18) true := ⟨RX12, TX12, 21, "LiarsAnswersModel", tyX12, rfl, uw_11, by decide, wd_667, Or.inl rfl, tyX12_ok, nmX12, rfl, rfl, fun _ => rfl⟩
theorem wd_668 : (Cond.fieldLink "LiarsAnswersModel" (43 : Nat) "LiarsAnswersModel" "most" "[I") ∈ gt := gt_of (List.mem_of_getElem? (i := 668) (by decide +kernel)) (by decide +kernel)
theorem g_RX12_43_11 : GF RX12 43 11 19 := ⟨RX12, TX12, 21, "LiarsAnswersModel", rfl, uw_11, by decide, wd_668, Or.inl rfl⟩
theorem p_RX12_43_11 : PF RX12 43 11 19 (tyX12 19) true := ⟨RX12, TX12, 21, "LiarsAnswersModel", tyX12, rfl, uw_11, by decide, wd_668, Or.inl rfl, tyX12_ok, nmX12, rfl, rfl, fun _ => rfl⟩
theorem wd_669 : (Cond.fieldLink "LiarsAnswersModel" (46 : Nat) "LiarsAnswersModel" "then" "[I") ∈ gt := gt_of (List.mem_of_getElem? (i := 669) (by decide +kernel)) (by decide +kernel)
theorem g_RX12_46_11 : GF RX12 46 11 20 := ⟨RX12, TX12, 21, "LiarsAnswersModel", rfl, uw_11, by decide, wd_669, Or.inl rfl⟩
theorem p_RX12_46_11 : PF RX12 46 11 20 (tyX12 20) true := ⟨RX12, TX12, 21, "LiarsAnswersModel", tyX12, rfl, uw_11, by decide, wd_669, Or.inl rfl, tyX12_ok, nmX12, rfl, rfl, fun _ => rfl⟩
theorem wd_45 : (Cond.classLink "LiarsAnswersLaw" (7 : Nat) "LiarsAnswers") ∈ gt := gt_of (List.mem_of_getElem? (i := 45) (by decide +kernel)) (by decide +kernel)
theorem wd_46 : (Cond.instantiable "LiarsAnswers" (8 : Nat)) ∈ gt := gt_of (List.mem_of_getElem? (i := 46) (by decide +kernel)) (by decide +kernel)
theorem n_RL_7 : NW RL 7 10 [.null, .null, .null, .null, .null, .null, .null, .int 0] := ⟨RX11, TX11, tyX11, rfl, uw_10, tyX11_ok, wd_45, wd_46, wd_30, by decide +kernel⟩
theorem wd_53 : (Cond.classLink "LiarsAnswers" (9 : Nat) "LiarsAnswers$Liar") ∈ gt := gt_of (List.mem_of_getElem? (i := 53) (by decide +kernel)) (by decide +kernel)
theorem wd_55 : (Cond.instantiable "LiarsAnswers$Liar" (0 : Nat)) ∈ gt := gt_of (List.mem_of_getElem? (i := 55) (by decide +kernel)) (by decide +kernel)
theorem n_RX11_9 : NW RX11 9 6 [] := ⟨RX7, TX7, tyX7, rfl, uw_6, tyX7_ok, wd_53, wd_55, wd_31, by decide +kernel⟩
theorem wd_61 : (Cond.classLink "LiarsAnswers" (12 : Nat) "LiarsAnswers$BothLiar") ∈ gt := gt_of (List.mem_of_getElem? (i := 61) (by decide +kernel)) (by decide +kernel)
theorem wd_62 : (Cond.instantiable "LiarsAnswers$BothLiar" (0 : Nat)) ∈ gt := gt_of (List.mem_of_getElem? (i := 62) (by decide +kernel)) (by decide +kernel)
theorem n_RX11_12 : NW RX11 12 1 [] := ⟨RX1, TX1, tyX1, rfl, uw_1, tyX1_ok, wd_61, wd_62, wd_32, by decide +kernel⟩
theorem wd_68 : (Cond.classLink "LiarsAnswers" (15 : Nat) "LiarsAnswers$YesLiar") ∈ gt := gt_of (List.mem_of_getElem? (i := 68) (by decide +kernel)) (by decide +kernel)
theorem wd_69 : (Cond.instantiable "LiarsAnswers$YesLiar" (0 : Nat)) ∈ gt := gt_of (List.mem_of_getElem? (i := 69) (by decide +kernel)) (by decide +kernel)
theorem n_RX11_15 : NW RX11 15 9 [] := ⟨RX10, TX10, tyX10, rfl, uw_9, tyX10_ok, wd_68, wd_69, wd_33, by decide +kernel⟩
theorem wd_75 : (Cond.classLink "LiarsAnswers" (22 : Nat) "LiarsAnswers$Tally") ∈ gt := gt_of (List.mem_of_getElem? (i := 75) (by decide +kernel)) (by decide +kernel)
theorem wd_76 : (Cond.instantiable "LiarsAnswers$Tally" (1 : Nat)) ∈ gt := gt_of (List.mem_of_getElem? (i := 76) (by decide +kernel)) (by decide +kernel)
theorem n_RX11_22 : NW RX11 22 8 [.long 0] := ⟨RX9, TX9, tyX9, rfl, uw_8, tyX9_ok, wd_75, wd_76, wd_34, by decide +kernel⟩
theorem wd_89 : (Cond.classLink "LiarsAnswers" (32 : Nat) "LiarsAnswers$HeapTable") ∈ gt := gt_of (List.mem_of_getElem? (i := 89) (by decide +kernel)) (by decide +kernel)
theorem wd_282 : (Cond.instantiable "LiarsAnswers$HeapTable" (4 : Nat)) ∈ gt := gt_of (List.mem_of_getElem? (i := 282) (by decide +kernel)) (by decide +kernel)
theorem n_RX11_32 : NW RX11 32 4 [.null, .null, .null, .null] := ⟨RX4, TX4, tyX4, rfl, uw_4, tyX4_ok, wd_89, wd_282, wd_42, by decide +kernel⟩
theorem wd_91 : (Cond.classLink "LiarsAnswers" (38 : Nat) "LiarsAnswers$SpanTable") ∈ gt := gt_of (List.mem_of_getElem? (i := 91) (by decide +kernel)) (by decide +kernel)
theorem wd_469 : (Cond.instantiable "LiarsAnswers$SpanTable" (4 : Nat)) ∈ gt := gt_of (List.mem_of_getElem? (i := 469) (by decide +kernel)) (by decide +kernel)
theorem n_RX11_38 : NW RX11 38 7 [.int 0, .int 0, .null, .int 0] := ⟨RX8, TX8, tyX8, rfl, uw_7, tyX8_ok, wd_91, wd_469, wd_43, by decide +kernel⟩
theorem wd_93 : (Cond.classLink "LiarsAnswers" (44 : Nat) "LiarsAnswers$Game") ∈ gt := gt_of (List.mem_of_getElem? (i := 93) (by decide +kernel)) (by decide +kernel)
theorem wd_94 : (Cond.instantiable "LiarsAnswers$Game" (9 : Nat)) ∈ gt := gt_of (List.mem_of_getElem? (i := 94) (by decide +kernel)) (by decide +kernel)
theorem n_RX11_44 : NW RX11 44 3 [.int 0, .int 0, .int 0, .int 0, .int 0, .int 0, .int 0, .int 0, .null] := ⟨RX3, TX3, tyX3, rfl, uw_3, tyX3_ok, wd_93, wd_94, wd_35, by decide +kernel⟩
theorem wd_135 : (Cond.classLink "LiarsAnswers" (51 : Nat) "LiarsAnswers$Code") ∈ gt := gt_of (List.mem_of_getElem? (i := 135) (by decide +kernel)) (by decide +kernel)
theorem wd_136 : (Cond.instantiable "LiarsAnswers$Code" (3 : Nat)) ∈ gt := gt_of (List.mem_of_getElem? (i := 136) (by decide +kernel)) (by decide +kernel)
theorem n_RX11_51 : NW RX11 51 2 [.null, .null, .int 0] := ⟨RX2, TX2, tyX2, rfl, uw_2, tyX2_ok, wd_135, wd_136, wd_36, by decide +kernel⟩
theorem wd_227 : (Cond.classLink "LiarsAnswers" (218 : Nat) "LiarsAnswers$AnyHeap") ∈ gt := gt_of (List.mem_of_getElem? (i := 227) (by decide +kernel)) (by decide +kernel)
theorem wd_228 : (Cond.instantiable "LiarsAnswers$AnyHeap" (6 : Nat)) ∈ gt := gt_of (List.mem_of_getElem? (i := 228) (by decide +kernel)) (by decide +kernel)
theorem n_RX11_218 : NW RX11 218 0 [.null, .int 0, .int 0, .null, .null, .int 0] := ⟨RX0, TX0, tyX0, rfl, uw_0, tyX0_ok, wd_227, wd_228, wd_40, by decide +kernel⟩
theorem wd_263 : (Cond.classLink "LiarsAnswers" (223 : Nat) "LiarsAnswers$LeastHeap") ∈ gt := gt_of (List.mem_of_getElem? (i := 263) (by decide +kernel)) (by decide +kernel)
theorem wd_264 : (Cond.instantiable "LiarsAnswers$LeastHeap" (8 : Nat)) ∈ gt := gt_of (List.mem_of_getElem? (i := 264) (by decide +kernel)) (by decide +kernel)
theorem n_RX11_223 : NW RX11 223 5 [.null, .int 0, .int 0, .null, .null, .int 0, .null, .int 0] := ⟨RX6, TX6, tyX6, rfl, uw_5, tyX6_ok, wd_263, wd_264, wd_41, by decide +kernel⟩
theorem wd_642 : (Cond.classLink "LiarsAnswersLaw" (10 : Nat) "LiarsAnswersModel") ∈ gt := gt_of (List.mem_of_getElem? (i := 642) (by decide +kernel)) (by decide +kernel)
theorem wd_643 : (Cond.instantiable "LiarsAnswersModel" (21 : Nat)) ∈ gt := gt_of (List.mem_of_getElem? (i := 643) (by decide +kernel)) (by decide +kernel)
theorem n_RL_10 : NW RL 10 11 [.int 0, .int 0, .int 0, .int 0, .int 0, .int 0, .null, .null, .int 0, .int 0, .null, .long 0, .null, .int 0, .int 0, .null, .null, .null, .null, .null, .null] := ⟨RX12, TX12, tyX12, rfl, uw_11, tyX12_ok, wd_642, wd_643, wd_37, by decide +kernel⟩
theorem wd_47 : (Cond.methodLink "LiarsAnswersLaw" (9 : Nat) ({ cls := "LiarsAnswers", name := "<init>", desc := "()V" } : MethodName)) ∈ gt := gt_of (List.mem_of_getElem? (i := 47) (by decide +kernel)) (by decide +kernel)
theorem wd_48 : (Cond.instanceMethod ({ cls := "LiarsAnswers", name := "<init>", desc := "()V" } : MethodName)) ∈ gt := gt_of (List.mem_of_getElem? (i := 48) (by decide +kernel)) (by decide +kernel)
theorem c_RL_9 : Cond.methodLink RL 9 mX11_init.1 ∈ gt ∧ Cond.instanceMethod mX11_init.1 ∈ gt ∧ mX11_init.1.name = "<init>" ∧ mX11_init.2.2.2 = none := ⟨wd_47, wd_48, rfl, rfl⟩
theorem wd_50 : (Cond.methodLink "LiarsAnswers" (3 : Nat) ({ cls := "java/lang/Object", name := "<init>", desc := "()V" } : MethodName)) ∈ gt := gt_of (List.mem_of_getElem? (i := 50) (by decide +kernel)) (by decide +kernel)
theorem wn_56 : (Cond.methodLinkNest "LiarsAnswers" (11 : Nat) ({ cls := "LiarsAnswers$Liar", name := "<init>", desc := "()V" } : MethodName) "LiarsAnswers") ∈ lw_tbl := List.mem_of_getElem? (i := 56) (by decide +kernel)
theorem wd_57 : (Cond.instanceMethod ({ cls := "LiarsAnswers$Liar", name := "<init>", desc := "()V" } : MethodName)) ∈ gt := gt_of (List.mem_of_getElem? (i := 57) (by decide +kernel)) (by decide +kernel)
theorem c_RX11_11 : Cond.methodLinkNest RX11 11 mX7_init.1 "LiarsAnswers" ∈ lw_tbl ∧ Cond.instanceMethod mX7_init.1 ∈ gt ∧ mX7_init.1.name = "<init>" ∧ mX7_init.2.2.2 = none := ⟨wn_56, wd_57, rfl, rfl⟩
theorem wd_59 : (Cond.methodLink "LiarsAnswers$Liar" (3 : Nat) ({ cls := "java/lang/Object", name := "<init>", desc := "()V" } : MethodName)) ∈ gt := gt_of (List.mem_of_getElem? (i := 59) (by decide +kernel)) (by decide +kernel)
theorem wn_63 : (Cond.methodLinkNest "LiarsAnswers" (14 : Nat) ({ cls := "LiarsAnswers$BothLiar", name := "<init>", desc := "()V" } : MethodName) "LiarsAnswers") ∈ lw_tbl := List.mem_of_getElem? (i := 63) (by decide +kernel)
theorem wd_64 : (Cond.instanceMethod ({ cls := "LiarsAnswers$BothLiar", name := "<init>", desc := "()V" } : MethodName)) ∈ gt := gt_of (List.mem_of_getElem? (i := 64) (by decide +kernel)) (by decide +kernel)
theorem c_RX11_14 : Cond.methodLinkNest RX11 14 mX1_init.1 "LiarsAnswers" ∈ lw_tbl ∧ Cond.instanceMethod mX1_init.1 ∈ gt ∧ mX1_init.1.name = "<init>" ∧ mX1_init.2.2.2 = none := ⟨wn_63, wd_64, rfl, rfl⟩
theorem wn_66 : (Cond.methodLinkNest "LiarsAnswers$BothLiar" (3 : Nat) ({ cls := "LiarsAnswers$Liar", name := "<init>", desc := "()V" } : MethodName) "LiarsAnswers") ∈ lw_tbl := List.mem_of_getElem? (i := 66) (by decide +kernel)
theorem c_RX1_3 : Cond.methodLinkNest RX1 3 mX7_init.1 "LiarsAnswers" ∈ lw_tbl ∧ Cond.instanceMethod mX7_init.1 ∈ gt ∧ mX7_init.1.name = "<init>" ∧ mX7_init.2.2.2 = none := ⟨wn_66, wd_57, rfl, rfl⟩
theorem wn_70 : (Cond.methodLinkNest "LiarsAnswers" (17 : Nat) ({ cls := "LiarsAnswers$YesLiar", name := "<init>", desc := "()V" } : MethodName) "LiarsAnswers") ∈ lw_tbl := List.mem_of_getElem? (i := 70) (by decide +kernel)
theorem wd_71 : (Cond.instanceMethod ({ cls := "LiarsAnswers$YesLiar", name := "<init>", desc := "()V" } : MethodName)) ∈ gt := gt_of (List.mem_of_getElem? (i := 71) (by decide +kernel)) (by decide +kernel)
theorem c_RX11_17 : Cond.methodLinkNest RX11 17 mX10_init.1 "LiarsAnswers" ∈ lw_tbl ∧ Cond.instanceMethod mX10_init.1 ∈ gt ∧ mX10_init.1.name = "<init>" ∧ mX10_init.2.2.2 = none := ⟨wn_70, wd_71, rfl, rfl⟩
theorem wn_73 : (Cond.methodLinkNest "LiarsAnswers$YesLiar" (3 : Nat) ({ cls := "LiarsAnswers$BothLiar", name := "<init>", desc := "()V" } : MethodName) "LiarsAnswers") ∈ lw_tbl := List.mem_of_getElem? (i := 73) (by decide +kernel)
theorem c_RX10_3 : Cond.methodLinkNest RX10 3 mX1_init.1 "LiarsAnswers" ∈ lw_tbl ∧ Cond.instanceMethod mX1_init.1 ∈ gt ∧ mX1_init.1.name = "<init>" ∧ mX1_init.2.2.2 = none := ⟨wn_73, wd_64, rfl, rfl⟩
theorem wn_77 : (Cond.methodLinkNest "LiarsAnswers" (24 : Nat) ({ cls := "LiarsAnswers$Tally", name := "<init>", desc := "()V" } : MethodName) "LiarsAnswers") ∈ lw_tbl := List.mem_of_getElem? (i := 77) (by decide +kernel)
theorem wd_78 : (Cond.instanceMethod ({ cls := "LiarsAnswers$Tally", name := "<init>", desc := "()V" } : MethodName)) ∈ gt := gt_of (List.mem_of_getElem? (i := 78) (by decide +kernel)) (by decide +kernel)
theorem c_RX11_24 : Cond.methodLinkNest RX11 24 mX9_init.1 "LiarsAnswers" ∈ lw_tbl ∧ Cond.instanceMethod mX9_init.1 ∈ gt ∧ mX9_init.1.name = "<init>" ∧ mX9_init.2.2.2 = none := ⟨wn_77, wd_78, rfl, rfl⟩
theorem wd_80 : (Cond.methodLink "LiarsAnswers$Tally" (1 : Nat) ({ cls := "java/lang/Object", name := "<init>", desc := "()V" } : MethodName)) ∈ gt := gt_of (List.mem_of_getElem? (i := 80) (by decide +kernel)) (by decide +kernel)
theorem wn_95 : (Cond.methodLinkNest "LiarsAnswers" (46 : Nat) ({ cls := "LiarsAnswers$Game", name := "<init>", desc := "()V" } : MethodName) "LiarsAnswers") ∈ lw_tbl := List.mem_of_getElem? (i := 95) (by decide +kernel)
theorem wd_96 : (Cond.instanceMethod ({ cls := "LiarsAnswers$Game", name := "<init>", desc := "()V" } : MethodName)) ∈ gt := gt_of (List.mem_of_getElem? (i := 96) (by decide +kernel)) (by decide +kernel)
theorem c_RX11_46 : Cond.methodLinkNest RX11 46 mX3_init.1 "LiarsAnswers" ∈ lw_tbl ∧ Cond.instanceMethod mX3_init.1 ∈ gt ∧ mX3_init.1.name = "<init>" ∧ mX3_init.2.2.2 = none := ⟨wn_95, wd_96, rfl, rfl⟩
theorem wd_98 : (Cond.methodLink "LiarsAnswers$Game" (3 : Nat) ({ cls := "java/lang/Object", name := "<init>", desc := "()V" } : MethodName)) ∈ gt := gt_of (List.mem_of_getElem? (i := 98) (by decide +kernel)) (by decide +kernel)
theorem wn_137 : (Cond.methodLinkNest "LiarsAnswers" (53 : Nat) ({ cls := "LiarsAnswers$Code", name := "<init>", desc := "()V" } : MethodName) "LiarsAnswers") ∈ lw_tbl := List.mem_of_getElem? (i := 137) (by decide +kernel)
theorem wd_138 : (Cond.instanceMethod ({ cls := "LiarsAnswers$Code", name := "<init>", desc := "()V" } : MethodName)) ∈ gt := gt_of (List.mem_of_getElem? (i := 138) (by decide +kernel)) (by decide +kernel)
theorem c_RX11_53 : Cond.methodLinkNest RX11 53 mX2_init.1 "LiarsAnswers" ∈ lw_tbl ∧ Cond.instanceMethod mX2_init.1 ∈ gt ∧ mX2_init.1.name = "<init>" ∧ mX2_init.2.2.2 = none := ⟨wn_137, wd_138, rfl, rfl⟩
theorem wd_140 : (Cond.methodLink "LiarsAnswers$Code" (3 : Nat) ({ cls := "java/lang/Object", name := "<init>", desc := "()V" } : MethodName)) ∈ gt := gt_of (List.mem_of_getElem? (i := 140) (by decide +kernel)) (by decide +kernel)
theorem wd_177 : (Cond.methodLink "LiarsAnswersLaw" (13 : Nat) ({ cls := "LiarsAnswers", name := "begin", desc := "(III)I" } : MethodName)) ∈ gt := gt_of (List.mem_of_getElem? (i := 177) (by decide +kernel)) (by decide +kernel)
theorem wd_179 : (Cond.selects "LiarsAnswers" ({ cls := "LiarsAnswers", name := "begin", desc := "(III)I" } : MethodName) ({ cls := "LiarsAnswers", name := "begin", desc := "(III)I" } : MethodName)) ∈ gt := gt_of (List.mem_of_getElem? (i := 179) (by decide +kernel)) (by decide +kernel)
theorem wd_178 : (Cond.instanceMethod ({ cls := "LiarsAnswers", name := "begin", desc := "(III)I" } : MethodName)) ∈ gt := gt_of (List.mem_of_getElem? (i := 178) (by decide +kernel)) (by decide +kernel)
theorem c_RL_13_10 : KV RL 13 mX11_begin 10 := ⟨TX11, 8, rfl, wd_177, wd_178, wd_179⟩
theorem wd_181 : (Cond.methodLink "LiarsAnswers" (62 : Nat) ({ cls := "LiarsAnswers", name := "isKind", desc := "(I)Z" } : MethodName)) ∈ gt := gt_of (List.mem_of_getElem? (i := 181) (by decide +kernel)) (by decide +kernel)
theorem wd_182 : (Cond.static ({ cls := "LiarsAnswers", name := "isKind", desc := "(I)Z" } : MethodName)) ∈ gt := gt_of (List.mem_of_getElem? (i := 182) (by decide +kernel)) (by decide +kernel)
theorem c_RX11_62 : Cond.methodLink RX11 62 mX11_isKind.1 ∈ gt ∧ Cond.static mX11_isKind.1 ∈ gt := ⟨wd_181, wd_182⟩
theorem wd_184 : (Cond.methodLink "LiarsAnswers" (66 : Nat) ({ cls := "LiarsAnswers", name := "isCount", desc := "(I)Z" } : MethodName)) ∈ gt := gt_of (List.mem_of_getElem? (i := 184) (by decide +kernel)) (by decide +kernel)
theorem wd_185 : (Cond.static ({ cls := "LiarsAnswers", name := "isCount", desc := "(I)Z" } : MethodName)) ∈ gt := gt_of (List.mem_of_getElem? (i := 185) (by decide +kernel)) (by decide +kernel)
theorem c_RX11_66 : Cond.methodLink RX11 66 mX11_isCount.1 ∈ gt ∧ Cond.static mX11_isCount.1 ∈ gt := ⟨wd_184, wd_185⟩
theorem wd_187 : (Cond.methodLink "LiarsAnswers" (69 : Nat) ({ cls := "LiarsAnswers", name := "isLies", desc := "(I)Z" } : MethodName)) ∈ gt := gt_of (List.mem_of_getElem? (i := 187) (by decide +kernel)) (by decide +kernel)
theorem wd_188 : (Cond.static ({ cls := "LiarsAnswers", name := "isLies", desc := "(I)Z" } : MethodName)) ∈ gt := gt_of (List.mem_of_getElem? (i := 188) (by decide +kernel)) (by decide +kernel)
theorem c_RX11_69 : Cond.methodLink RX11 69 mX11_isLies.1 ∈ gt ∧ Cond.static mX11_isLies.1 ∈ gt := ⟨wd_187, wd_188⟩
theorem wd_190 : (Cond.methodLink "LiarsAnswers" (72 : Nat) ({ cls := "LiarsAnswers", name := "yesPrice", desc := "(I)I" } : MethodName)) ∈ gt := gt_of (List.mem_of_getElem? (i := 190) (by decide +kernel)) (by decide +kernel)
theorem wd_0 : (Cond.selects "LiarsAnswers" ({ cls := "LiarsAnswers", name := "yesPrice", desc := "(I)I" } : MethodName) ({ cls := "LiarsAnswers", name := "yesPrice", desc := "(I)I" } : MethodName)) ∈ gt := gt_of (List.mem_of_getElem? (i := 0) (by decide +kernel)) (by decide +kernel)
theorem wd_192 : (Cond.instanceMethod ({ cls := "LiarsAnswers", name := "yesPrice", desc := "(I)I" } : MethodName)) ∈ gt := gt_of (List.mem_of_getElem? (i := 192) (by decide +kernel)) (by decide +kernel)
theorem c_RX11_72_10 : KV RX11 72 mX11_yesPrice 10 := ⟨TX11, 8, rfl, wd_190, wd_192, wd_0⟩
theorem wd_194 : (Cond.methodLink "LiarsAnswers" (98 : Nat) ({ cls := "LiarsAnswers$Liar", name := "price", desc := "(ZZLLiarsAnswers$Tally;)I" } : MethodName)) ∈ gt := gt_of (List.mem_of_getElem? (i := 194) (by decide +kernel)) (by decide +kernel)
theorem wd_198 : (Cond.selects "LiarsAnswers$BothLiar" ({ cls := "LiarsAnswers$Liar", name := "price", desc := "(ZZLLiarsAnswers$Tally;)I" } : MethodName) ({ cls := "LiarsAnswers$BothLiar", name := "price", desc := "(ZZLLiarsAnswers$Tally;)I" } : MethodName)) ∈ gt := gt_of (List.mem_of_getElem? (i := 198) (by decide +kernel)) (by decide +kernel)
theorem wd_195 : (Cond.instanceMethod ({ cls := "LiarsAnswers$Liar", name := "price", desc := "(ZZLLiarsAnswers$Tally;)I" } : MethodName)) ∈ gt := gt_of (List.mem_of_getElem? (i := 195) (by decide +kernel)) (by decide +kernel)
theorem wd_197 : (Cond.sameMethod "LiarsAnswers$Liar" "LiarsAnswers$Liar" "price" "(ZZLLiarsAnswers$Tally;)I") ∈ gt := gt_of (List.mem_of_getElem? (i := 197) (by decide +kernel)) (by decide +kernel)
theorem wd_199 : (Cond.instanceMethod ({ cls := "LiarsAnswers$BothLiar", name := "price", desc := "(ZZLLiarsAnswers$Tally;)I" } : MethodName)) ∈ gt := gt_of (List.mem_of_getElem? (i := 199) (by decide +kernel)) (by decide +kernel)
theorem c_RX11_98_1 : KU RX11 98 ⟨"LiarsAnswers$Liar", "price", "(ZZLLiarsAnswers$Tally;)I"⟩ "LiarsAnswers$Liar" mX1_price 1 3 := ⟨RX1, TX1, 0, rfl, wd_194, wd_197, fun _ _ h => h _ wd_198, wd_199, by decide +kernel, by decide +kernel, Or.inr ⟨wd_195, _, _, _, wd_208⟩⟩
theorem wd_196 : (Cond.selects "LiarsAnswers$Liar" ({ cls := "LiarsAnswers$Liar", name := "price", desc := "(ZZLLiarsAnswers$Tally;)I" } : MethodName) ({ cls := "LiarsAnswers$Liar", name := "price", desc := "(ZZLLiarsAnswers$Tally;)I" } : MethodName)) ∈ gt := gt_of (List.mem_of_getElem? (i := 196) (by decide +kernel)) (by decide +kernel)
theorem c_RX11_98_6 : KV RX11 98 mX7_price 6 := ⟨TX7, 0, rfl, wd_194, wd_195, wd_196⟩
theorem wd_203 : (Cond.selects "LiarsAnswers$YesLiar" ({ cls := "LiarsAnswers$Liar", name := "price", desc := "(ZZLLiarsAnswers$Tally;)I" } : MethodName) ({ cls := "LiarsAnswers$YesLiar", name := "price", desc := "(ZZLLiarsAnswers$Tally;)I" } : MethodName)) ∈ gt := gt_of (List.mem_of_getElem? (i := 203) (by decide +kernel)) (by decide +kernel)
theorem wd_204 : (Cond.instanceMethod ({ cls := "LiarsAnswers$YesLiar", name := "price", desc := "(ZZLLiarsAnswers$Tally;)I" } : MethodName)) ∈ gt := gt_of (List.mem_of_getElem? (i := 204) (by decide +kernel)) (by decide +kernel)
theorem c_RX11_98_9 : KU RX11 98 ⟨"LiarsAnswers$Liar", "price", "(ZZLLiarsAnswers$Tally;)I"⟩ "LiarsAnswers$Liar" mX10_price 9 3 := ⟨RX10, TX10, 0, rfl, wd_194, wd_197, fun _ _ h => h _ wd_203, wd_204, by decide +kernel, by decide +kernel, Or.inr ⟨wd_195, _, _, _, wd_208⟩⟩
theorem wd_202 : (Cond.methodLink "LiarsAnswers$BothLiar" (17 : Nat) ({ cls := "LiarsAnswers$Liar", name := "price", desc := "(ZZLLiarsAnswers$Tally;)I" } : MethodName)) ∈ gt := gt_of (List.mem_of_getElem? (i := 202) (by decide +kernel)) (by decide +kernel)
theorem c_RX1_17_1 : KU RX1 17 ⟨"LiarsAnswers$Liar", "price", "(ZZLLiarsAnswers$Tally;)I"⟩ "LiarsAnswers$Liar" mX1_price 1 3 := ⟨RX1, TX1, 0, rfl, wd_202, wd_197, fun _ _ h => h _ wd_198, wd_199, by decide +kernel, by decide +kernel, Or.inr ⟨wd_195, _, _, _, wd_208⟩⟩
theorem c_RX1_17_6 : KV RX1 17 mX7_price 6 := ⟨TX7, 0, rfl, wd_202, wd_195, wd_196⟩
theorem c_RX1_17_9 : KU RX1 17 ⟨"LiarsAnswers$Liar", "price", "(ZZLLiarsAnswers$Tally;)I"⟩ "LiarsAnswers$Liar" mX10_price 9 3 := ⟨RX10, TX10, 0, rfl, wd_202, wd_197, fun _ _ h => h _ wd_203, wd_204, by decide +kernel, by decide +kernel, Or.inr ⟨wd_195, _, _, _, wd_208⟩⟩
theorem wd_67 : (Cond.superclass "LiarsAnswers$BothLiar" "LiarsAnswers$Liar") ∈ gt := gt_of (List.mem_of_getElem? (i := 67) (by decide +kernel)) (by decide +kernel)
theorem c_RX1_17_s : KP RX1 17 mX7_price 3 := ⟨List.forall_mem_cons.mpr ⟨wd_202, List.forall_mem_cons.mpr ⟨wd_197, List.forall_mem_cons.mpr ⟨wd_67, List.forall_mem_cons.mpr ⟨wd_195, List.forall_mem_cons.mpr ⟨wd_31, fun _ h => absurd h List.not_mem_nil⟩⟩⟩⟩⟩, by decide +kernel, by decide +kernel⟩
theorem wd_207 : (Cond.methodLink "LiarsAnswers$YesLiar" (17 : Nat) ({ cls := "LiarsAnswers$BothLiar", name := "price", desc := "(ZZLLiarsAnswers$Tally;)I" } : MethodName)) ∈ gt := gt_of (List.mem_of_getElem? (i := 207) (by decide +kernel)) (by decide +kernel)
theorem wd_884 : (Cond.sameMethod "LiarsAnswers$BothLiar" "LiarsAnswers$BothLiar" "price" "(ZZLLiarsAnswers$Tally;)I") ∈ gt := gt_of (List.mem_of_getElem? (i := 884) (by decide +kernel)) (by decide +kernel)
theorem wd_74 : (Cond.superclass "LiarsAnswers$YesLiar" "LiarsAnswers$BothLiar") ∈ gt := gt_of (List.mem_of_getElem? (i := 74) (by decide +kernel)) (by decide +kernel)
theorem c_RX10_17_s : KP RX10 17 mX1_price 3 := ⟨List.forall_mem_cons.mpr ⟨wd_207, List.forall_mem_cons.mpr ⟨wd_884, List.forall_mem_cons.mpr ⟨wd_74, List.forall_mem_cons.mpr ⟨wd_199, List.forall_mem_cons.mpr ⟨wd_32, fun _ h => absurd h List.not_mem_nil⟩⟩⟩⟩⟩, by decide +kernel, by decide +kernel⟩
theorem wd_209 : (Cond.methodLink "LiarsAnswers" (76 : Nat) ({ cls := "LiarsAnswers", name := "noPrice", desc := "(I)I" } : MethodName)) ∈ gt := gt_of (List.mem_of_getElem? (i := 209) (by decide +kernel)) (by decide +kernel)
theorem wd_1 : (Cond.selects "LiarsAnswers" ({ cls := "LiarsAnswers", name := "noPrice", desc := "(I)I" } : MethodName) ({ cls := "LiarsAnswers", name := "noPrice", desc := "(I)I" } : MethodName)) ∈ gt := gt_of (List.mem_of_getElem? (i := 1) (by decide +kernel)) (by decide +kernel)
theorem wd_211 : (Cond.instanceMethod ({ cls := "LiarsAnswers", name := "noPrice", desc := "(I)I" } : MethodName)) ∈ gt := gt_of (List.mem_of_getElem? (i := 211) (by decide +kernel)) (by decide +kernel)
theorem c_RX11_76_10 : KV RX11 76 mX11_noPrice 10 := ⟨TX11, 8, rfl, wd_209, wd_211, wd_1⟩
theorem wd_213 : (Cond.methodLink "LiarsAnswers" (79 : Nat) ({ cls := "LiarsAnswers$Game", name := "start", desc := "(IIIII)V" } : MethodName)) ∈ gt := gt_of (List.mem_of_getElem? (i := 213) (by decide +kernel)) (by decide +kernel)
theorem wd_215 : (Cond.selects "LiarsAnswers$Game" ({ cls := "LiarsAnswers$Game", name := "start", desc := "(IIIII)V" } : MethodName) ({ cls := "LiarsAnswers$Game", name := "start", desc := "(IIIII)V" } : MethodName)) ∈ gt := gt_of (List.mem_of_getElem? (i := 215) (by decide +kernel)) (by decide +kernel)
theorem wd_214 : (Cond.instanceMethod ({ cls := "LiarsAnswers$Game", name := "start", desc := "(IIIII)V" } : MethodName)) ∈ gt := gt_of (List.mem_of_getElem? (i := 214) (by decide +kernel)) (by decide +kernel)
theorem c_RX11_79_3 : KV RX11 79 mX3_start 3 := ⟨TX3, 9, rfl, wd_213, wd_214, wd_215⟩
theorem wd_217 : (Cond.methodLink "LiarsAnswers$Game" (41 : Nat) ({ cls := "java/lang/Math", name := "min", desc := "(II)I" } : MethodName)) ∈ gt := gt_of (List.mem_of_getElem? (i := 217) (by decide +kernel)) (by decide +kernel)
theorem wd_220 : (Cond.methodLink "LiarsAnswers$Game" (47 : Nat) ({ cls := "java/lang/Math", name := "max", desc := "(II)I" } : MethodName)) ∈ gt := gt_of (List.mem_of_getElem? (i := 220) (by decide +kernel)) (by decide +kernel)
theorem wd_223 : (Cond.methodLink "LiarsAnswers" (83 : Nat) ({ cls := "LiarsAnswers", name := "heapTable", desc := "(I)LLiarsAnswers$HeapTable;" } : MethodName)) ∈ gt := gt_of (List.mem_of_getElem? (i := 223) (by decide +kernel)) (by decide +kernel)
theorem wd_2 : (Cond.selects "LiarsAnswers" ({ cls := "LiarsAnswers", name := "heapTable", desc := "(I)LLiarsAnswers$HeapTable;" } : MethodName) ({ cls := "LiarsAnswers", name := "heapTable", desc := "(I)LLiarsAnswers$HeapTable;" } : MethodName)) ∈ gt := gt_of (List.mem_of_getElem? (i := 2) (by decide +kernel)) (by decide +kernel)
theorem wd_225 : (Cond.instanceMethod ({ cls := "LiarsAnswers", name := "heapTable", desc := "(I)LLiarsAnswers$HeapTable;" } : MethodName)) ∈ gt := gt_of (List.mem_of_getElem? (i := 225) (by decide +kernel)) (by decide +kernel)
theorem c_RX11_83_10 : KV RX11 83 mX11_heapTable 10 := ⟨TX11, 8, rfl, wd_223, wd_225, wd_2⟩
theorem wd_229 : (Cond.methodLink "LiarsAnswers" (220 : Nat) ({ cls := "LiarsAnswers$AnyHeap", name := "<init>", desc := "([III)V" } : MethodName)) ∈ gt := gt_of (List.mem_of_getElem? (i := 229) (by decide +kernel)) (by decide +kernel)
theorem wd_230 : (Cond.instanceMethod ({ cls := "LiarsAnswers$AnyHeap", name := "<init>", desc := "([III)V" } : MethodName)) ∈ gt := gt_of (List.mem_of_getElem? (i := 230) (by decide +kernel)) (by decide +kernel)
theorem c_RX11_220 : Cond.methodLink RX11 220 mX0_init.1 ∈ gt ∧ Cond.instanceMethod mX0_init.1 ∈ gt ∧ mX0_init.1.name = "<init>" ∧ mX0_init.2.2.2 = none := ⟨wd_229, wd_230, rfl, rfl⟩
theorem wd_232 : (Cond.methodLink "LiarsAnswers$AnyHeap" (1 : Nat) ({ cls := "LiarsAnswers$HeapWalk", name := "<init>", desc := "([III)V" } : MethodName)) ∈ gt := gt_of (List.mem_of_getElem? (i := 232) (by decide +kernel)) (by decide +kernel)
theorem wd_233 : (Cond.instanceMethod ({ cls := "LiarsAnswers$HeapWalk", name := "<init>", desc := "([III)V" } : MethodName)) ∈ gt := gt_of (List.mem_of_getElem? (i := 233) (by decide +kernel)) (by decide +kernel)
theorem c_RX0_1 : Cond.methodLink RX0 1 mX5_init.1 ∈ gt ∧ Cond.instanceMethod mX5_init.1 ∈ gt ∧ mX5_init.1.name = "<init>" ∧ mX5_init.2.2.2 = none := ⟨wd_232, wd_233, rfl, rfl⟩
theorem wd_235 : (Cond.methodLink "LiarsAnswers$HeapWalk" (3 : Nat) ({ cls := "java/lang/Object", name := "<init>", desc := "()V" } : MethodName)) ∈ gt := gt_of (List.mem_of_getElem? (i := 235) (by decide +kernel)) (by decide +kernel)
theorem wd_236 : (Cond.methodLink "LiarsAnswers$HeapWalk" (25 : Nat) ({ cls := "java/lang/Math", name := "min", desc := "(II)I" } : MethodName)) ∈ gt := gt_of (List.mem_of_getElem? (i := 236) (by decide +kernel)) (by decide +kernel)
theorem wd_237 : (Cond.methodLink "LiarsAnswers$HeapWalk" (31 : Nat) ({ cls := "java/lang/Math", name := "max", desc := "(II)I" } : MethodName)) ∈ gt := gt_of (List.mem_of_getElem? (i := 237) (by decide +kernel)) (by decide +kernel)
theorem wd_265 : (Cond.methodLink "LiarsAnswers" (225 : Nat) ({ cls := "LiarsAnswers$LeastHeap", name := "<init>", desc := "([III)V" } : MethodName)) ∈ gt := gt_of (List.mem_of_getElem? (i := 265) (by decide +kernel)) (by decide +kernel)
theorem wd_266 : (Cond.instanceMethod ({ cls := "LiarsAnswers$LeastHeap", name := "<init>", desc := "([III)V" } : MethodName)) ∈ gt := gt_of (List.mem_of_getElem? (i := 266) (by decide +kernel)) (by decide +kernel)
theorem c_RX11_225 : Cond.methodLink RX11 225 mX6_init.1 ∈ gt ∧ Cond.instanceMethod mX6_init.1 ∈ gt ∧ mX6_init.1.name = "<init>" ∧ mX6_init.2.2.2 = none := ⟨wd_265, wd_266, rfl, rfl⟩
theorem wd_268 : (Cond.methodLink "LiarsAnswers$LeastHeap" (3 : Nat) ({ cls := "LiarsAnswers$HeapWalk", name := "<init>", desc := "([III)V" } : MethodName)) ∈ gt := gt_of (List.mem_of_getElem? (i := 268) (by decide +kernel)) (by decide +kernel)
theorem c_RX6_3 : Cond.methodLink RX6 3 mX5_init.1 ∈ gt ∧ Cond.instanceMethod mX5_init.1 ∈ gt ∧ mX5_init.1.name = "<init>" ∧ mX5_init.2.2.2 = none := ⟨wd_268, wd_233, rfl, rfl⟩
theorem wd_283 : (Cond.methodLink "LiarsAnswers" (226 : Nat) ({ cls := "LiarsAnswers$HeapTable", name := "<init>", desc := "([ILLiarsAnswers$AnyHeap;LLiarsAnswers$LeastHeap;)V" } : MethodName)) ∈ gt := gt_of (List.mem_of_getElem? (i := 283) (by decide +kernel)) (by decide +kernel)
theorem wd_284 : (Cond.instanceMethod ({ cls := "LiarsAnswers$HeapTable", name := "<init>", desc := "([ILLiarsAnswers$AnyHeap;LLiarsAnswers$LeastHeap;)V" } : MethodName)) ∈ gt := gt_of (List.mem_of_getElem? (i := 284) (by decide +kernel)) (by decide +kernel)
theorem c_RX11_226 : Cond.methodLink RX11 226 mX4_init.1 ∈ gt ∧ Cond.instanceMethod mX4_init.1 ∈ gt ∧ mX4_init.1.name = "<init>" ∧ mX4_init.2.2.2 = none := ⟨wd_283, wd_284, rfl, rfl⟩
theorem wd_286 : (Cond.methodLink "LiarsAnswers$HeapTable" (3 : Nat) ({ cls := "java/lang/Object", name := "<init>", desc := "()V" } : MethodName)) ∈ gt := gt_of (List.mem_of_getElem? (i := 286) (by decide +kernel)) (by decide +kernel)
theorem wd_300 : (Cond.methodLink "LiarsAnswers" (87 : Nat) ({ cls := "LiarsAnswers$HeapTable", name := "learn", desc := "(II)V" } : MethodName)) ∈ gt := gt_of (List.mem_of_getElem? (i := 300) (by decide +kernel)) (by decide +kernel)
theorem wd_302 : (Cond.selects "LiarsAnswers$HeapTable" ({ cls := "LiarsAnswers$HeapTable", name := "learn", desc := "(II)V" } : MethodName) ({ cls := "LiarsAnswers$HeapTable", name := "learn", desc := "(II)V" } : MethodName)) ∈ gt := gt_of (List.mem_of_getElem? (i := 302) (by decide +kernel)) (by decide +kernel)
theorem wd_301 : (Cond.instanceMethod ({ cls := "LiarsAnswers$HeapTable", name := "learn", desc := "(II)V" } : MethodName)) ∈ gt := gt_of (List.mem_of_getElem? (i := 301) (by decide +kernel)) (by decide +kernel)
theorem c_RX11_87_4 : KV RX11 87 mX4_learn 4 := ⟨TX4, 4, rfl, wd_300, wd_301, wd_302⟩
theorem wd_304 : (Cond.methodLink "LiarsAnswers$HeapTable" (26 : Nat) ({ cls := "java/lang/Math", name := "max", desc := "(II)I" } : MethodName)) ∈ gt := gt_of (List.mem_of_getElem? (i := 304) (by decide +kernel)) (by decide +kernel)
theorem wd_305 : (Cond.methodLink "LiarsAnswers$HeapTable" (32 : Nat) ({ cls := "LiarsAnswers$HeapTable", name := "learnOne", desc := "(IIII)V" } : MethodName)) ∈ gt := gt_of (List.mem_of_getElem? (i := 305) (by decide +kernel)) (by decide +kernel)
theorem wd_3 : (Cond.selects "LiarsAnswers$HeapTable" ({ cls := "LiarsAnswers$HeapTable", name := "learnOne", desc := "(IIII)V" } : MethodName) ({ cls := "LiarsAnswers$HeapTable", name := "learnOne", desc := "(IIII)V" } : MethodName)) ∈ gt := gt_of (List.mem_of_getElem? (i := 3) (by decide +kernel)) (by decide +kernel)
theorem wd_307 : (Cond.instanceMethod ({ cls := "LiarsAnswers$HeapTable", name := "learnOne", desc := "(IIII)V" } : MethodName)) ∈ gt := gt_of (List.mem_of_getElem? (i := 307) (by decide +kernel)) (by decide +kernel)
theorem c_RX4_32_4 : KV RX4 32 mX4_learnOne 4 := ⟨TX4, 4, rfl, wd_305, wd_307, wd_3⟩
theorem wn_309 : (Cond.methodLinkNest "LiarsAnswers$HeapTable" (36 : Nat) ({ cls := "LiarsAnswers", name := "placeOf", desc := "(II)I" } : MethodName) "LiarsAnswers") ∈ lw_tbl := List.mem_of_getElem? (i := 309) (by decide +kernel)
theorem wd_310 : (Cond.static ({ cls := "LiarsAnswers", name := "placeOf", desc := "(II)I" } : MethodName)) ∈ gt := gt_of (List.mem_of_getElem? (i := 310) (by decide +kernel)) (by decide +kernel)
theorem c_RX4_36 : Cond.methodLinkNest RX4 36 mX11_placeOf.1 "LiarsAnswers" ∈ lw_tbl ∧ Cond.static mX11_placeOf.1 ∈ gt := ⟨wn_309, wd_310⟩
theorem wd_314 : (Cond.methodLink "LiarsAnswers$HeapTable" (39 : Nat) ({ cls := "LiarsAnswers$HeapTable", name := "fewAt", desc := "(I)I" } : MethodName)) ∈ gt := gt_of (List.mem_of_getElem? (i := 314) (by decide +kernel)) (by decide +kernel)
theorem wd_4 : (Cond.selects "LiarsAnswers$HeapTable" ({ cls := "LiarsAnswers$HeapTable", name := "fewAt", desc := "(I)I" } : MethodName) ({ cls := "LiarsAnswers$HeapTable", name := "fewAt", desc := "(I)I" } : MethodName)) ∈ gt := gt_of (List.mem_of_getElem? (i := 4) (by decide +kernel)) (by decide +kernel)
theorem wd_316 : (Cond.instanceMethod ({ cls := "LiarsAnswers$HeapTable", name := "fewAt", desc := "(I)I" } : MethodName)) ∈ gt := gt_of (List.mem_of_getElem? (i := 316) (by decide +kernel)) (by decide +kernel)
theorem c_RX4_39_4 : KV RX4 39 mX4_fewAt 4 := ⟨TX4, 4, rfl, wd_314, wd_316, wd_4⟩
theorem wd_318 : (Cond.methodLink "LiarsAnswers$HeapTable" (43 : Nat) ({ cls := "LiarsAnswers$HeapTable", name := "stepTo", desc := "(II)I" } : MethodName)) ∈ gt := gt_of (List.mem_of_getElem? (i := 318) (by decide +kernel)) (by decide +kernel)
theorem wd_319 : (Cond.static ({ cls := "LiarsAnswers$HeapTable", name := "stepTo", desc := "(II)I" } : MethodName)) ∈ gt := gt_of (List.mem_of_getElem? (i := 319) (by decide +kernel)) (by decide +kernel)
theorem c_RX4_43 : Cond.methodLink RX4 43 mX4_stepTo.1 ∈ gt ∧ Cond.static mX4_stepTo.1 ∈ gt := ⟨wd_318, wd_319⟩
theorem wd_321 : (Cond.methodLink "LiarsAnswers$HeapTable" (46 : Nat) ({ cls := "LiarsAnswers$AnyHeap", name := "hold", desc := "(IIII)V" } : MethodName)) ∈ gt := gt_of (List.mem_of_getElem? (i := 321) (by decide +kernel)) (by decide +kernel)
theorem wd_323 : (Cond.selects "LiarsAnswers$AnyHeap" ({ cls := "LiarsAnswers$AnyHeap", name := "hold", desc := "(IIII)V" } : MethodName) ({ cls := "LiarsAnswers$AnyHeap", name := "hold", desc := "(IIII)V" } : MethodName)) ∈ gt := gt_of (List.mem_of_getElem? (i := 323) (by decide +kernel)) (by decide +kernel)
theorem wd_322 : (Cond.instanceMethod ({ cls := "LiarsAnswers$AnyHeap", name := "hold", desc := "(IIII)V" } : MethodName)) ∈ gt := gt_of (List.mem_of_getElem? (i := 322) (by decide +kernel)) (by decide +kernel)
theorem c_RX4_46_0 : KV RX4 46 mX0_hold 0 := ⟨TX0, 6, rfl, wd_321, wd_322, wd_323⟩
theorem wd_325 : (Cond.methodLink "LiarsAnswers$HeapTable" (51 : Nat) ({ cls := "LiarsAnswers$AnyHeap", name := "walk", desc := "(I)Z" } : MethodName)) ∈ gt := gt_of (List.mem_of_getElem? (i := 325) (by decide +kernel)) (by decide +kernel)
theorem wd_328 : (Cond.selects "LiarsAnswers$AnyHeap" ({ cls := "LiarsAnswers$AnyHeap", name := "walk", desc := "(I)Z" } : MethodName) ({ cls := "LiarsAnswers$HeapWalk", name := "walk", desc := "(I)Z" } : MethodName)) ∈ gt := gt_of (List.mem_of_getElem? (i := 328) (by decide +kernel)) (by decide +kernel)
theorem wn_327 : (Cond.declares ({ cls := "LiarsAnswers$HeapWalk", name := "walk", desc := "(I)Z" } : MethodName)) ∈ lw_tbl := List.mem_of_getElem? (i := 327) (by decide +kernel)
theorem wd_326 : (Cond.sameMethod "LiarsAnswers$AnyHeap" "LiarsAnswers$HeapWalk" "walk" "(I)Z") ∈ gt := gt_of (List.mem_of_getElem? (i := 326) (by decide +kernel)) (by decide +kernel)
theorem wd_329 : (Cond.instanceMethod ({ cls := "LiarsAnswers$HeapWalk", name := "walk", desc := "(I)Z" } : MethodName)) ∈ gt := gt_of (List.mem_of_getElem? (i := 329) (by decide +kernel)) (by decide +kernel)
theorem c_RX4_51_0 : KU RX4 51 ⟨"LiarsAnswers$AnyHeap", "walk", "(I)Z"⟩ "LiarsAnswers$HeapWalk" mX5_walk 0 1 := ⟨RX0, TX0, 6, rfl, wd_325, wd_326, fun _ _ h => h _ wd_328, wd_329, by decide +kernel, by decide +kernel, Or.inl wn_327⟩
theorem wd_331 : (Cond.methodLink "LiarsAnswers$HeapWalk" (40 : Nat) ({ cls := "LiarsAnswers$HeapWalk", name := "down", desc := "(III)Z" } : MethodName)) ∈ gt := gt_of (List.mem_of_getElem? (i := 331) (by decide +kernel)) (by decide +kernel)
theorem wd_333 : (Cond.instanceMethod ({ cls := "LiarsAnswers$HeapWalk", name := "down", desc := "(III)Z" } : MethodName)) ∈ gt := gt_of (List.mem_of_getElem? (i := 333) (by decide +kernel)) (by decide +kernel)
theorem wd_885 : (Cond.sameMethod "LiarsAnswers$HeapWalk" "LiarsAnswers$HeapWalk" "down" "(III)Z") ∈ gt := gt_of (List.mem_of_getElem? (i := 885) (by decide +kernel)) (by decide +kernel)
theorem c_RX5_40_0 : KU RX5 40 ⟨"LiarsAnswers$HeapWalk", "down", "(III)Z"⟩ "LiarsAnswers$HeapWalk" mX5_down 0 3 := ⟨RX0, TX0, 6, rfl, wd_331, wd_885, fun _ _ h => h _ gtx_0, wd_333, by decide +kernel, by decide +kernel, Or.inr ⟨wd_333, _, _, _, wd_334⟩⟩
theorem c_RX5_40_5 : KU RX5 40 ⟨"LiarsAnswers$HeapWalk", "down", "(III)Z"⟩ "LiarsAnswers$HeapWalk" mX5_down 5 3 := ⟨RX6, TX6, 8, rfl, wd_331, wd_885, fun _ _ h => h _ gtx_5, wd_333, by decide +kernel, by decide +kernel, Or.inr ⟨wd_333, _, _, _, wd_334⟩⟩
theorem wd_335 : (Cond.methodLink "LiarsAnswers$HeapWalk" (44 : Nat) ({ cls := "LiarsAnswers$HeapWalk", name := "last", desc := "(III)Z" } : MethodName)) ∈ gt := gt_of (List.mem_of_getElem? (i := 335) (by decide +kernel)) (by decide +kernel)
theorem wd_338 : (Cond.selects "LiarsAnswers$AnyHeap" ({ cls := "LiarsAnswers$HeapWalk", name := "last", desc := "(III)Z" } : MethodName) ({ cls := "LiarsAnswers$AnyHeap", name := "last", desc := "(III)Z" } : MethodName)) ∈ gt := gt_of (List.mem_of_getElem? (i := 338) (by decide +kernel)) (by decide +kernel)
theorem wn_336 : (Cond.declares ({ cls := "LiarsAnswers$HeapWalk", name := "last", desc := "(III)Z" } : MethodName)) ∈ lw_tbl := List.mem_of_getElem? (i := 336) (by decide +kernel)
theorem wd_337 : (Cond.sameMethod "LiarsAnswers$HeapWalk" "LiarsAnswers$HeapWalk" "last" "(III)Z") ∈ gt := gt_of (List.mem_of_getElem? (i := 337) (by decide +kernel)) (by decide +kernel)
theorem wd_339 : (Cond.instanceMethod ({ cls := "LiarsAnswers$AnyHeap", name := "last", desc := "(III)Z" } : MethodName)) ∈ gt := gt_of (List.mem_of_getElem? (i := 339) (by decide +kernel)) (by decide +kernel)
theorem c_RX5_44_0 : KU RX5 44 ⟨"LiarsAnswers$HeapWalk", "last", "(III)Z"⟩ "LiarsAnswers$HeapWalk" mX0_last 0 3 := ⟨RX0, TX0, 6, rfl, wd_335, wd_337, fun _ _ h => h _ wd_338, wd_339, by decide +kernel, by decide +kernel, Or.inl wn_336⟩
theorem wd_347 : (Cond.selects "LiarsAnswers$LeastHeap" ({ cls := "LiarsAnswers$HeapWalk", name := "last", desc := "(III)Z" } : MethodName) ({ cls := "LiarsAnswers$LeastHeap", name := "last", desc := "(III)Z" } : MethodName)) ∈ gt := gt_of (List.mem_of_getElem? (i := 347) (by decide +kernel)) (by decide +kernel)
theorem wd_348 : (Cond.instanceMethod ({ cls := "LiarsAnswers$LeastHeap", name := "last", desc := "(III)Z" } : MethodName)) ∈ gt := gt_of (List.mem_of_getElem? (i := 348) (by decide +kernel)) (by decide +kernel)
theorem c_RX5_44_5 : KU RX5 44 ⟨"LiarsAnswers$HeapWalk", "last", "(III)Z"⟩ "LiarsAnswers$HeapWalk" mX6_last 5 3 := ⟨RX6, TX6, 8, rfl, wd_335, wd_337, fun _ _ h => h _ wd_347, wd_348, by decide +kernel, by decide +kernel, Or.inl wn_336⟩
theorem wd_341 : (Cond.methodLink "LiarsAnswers$AnyHeap" (13 : Nat) ({ cls := "LiarsAnswers$AnyHeap", name := "isBeyond", desc := "(I)Z" } : MethodName)) ∈ gt := gt_of (List.mem_of_getElem? (i := 341) (by decide +kernel)) (by decide +kernel)
theorem wd_344 : (Cond.selects "LiarsAnswers$AnyHeap" ({ cls := "LiarsAnswers$AnyHeap", name := "isBeyond", desc := "(I)Z" } : MethodName) ({ cls := "LiarsAnswers$HeapWalk", name := "isBeyond", desc := "(I)Z" } : MethodName)) ∈ gt := gt_of (List.mem_of_getElem? (i := 344) (by decide +kernel)) (by decide +kernel)
theorem wn_343 : (Cond.declares ({ cls := "LiarsAnswers$HeapWalk", name := "isBeyond", desc := "(I)Z" } : MethodName)) ∈ lw_tbl := List.mem_of_getElem? (i := 343) (by decide +kernel)
theorem wd_342 : (Cond.sameMethod "LiarsAnswers$AnyHeap" "LiarsAnswers$HeapWalk" "isBeyond" "(I)Z") ∈ gt := gt_of (List.mem_of_getElem? (i := 342) (by decide +kernel)) (by decide +kernel)
theorem wd_345 : (Cond.instanceMethod ({ cls := "LiarsAnswers$HeapWalk", name := "isBeyond", desc := "(I)Z" } : MethodName)) ∈ gt := gt_of (List.mem_of_getElem? (i := 345) (by decide +kernel)) (by decide +kernel)
theorem c_RX0_13_0 : KU RX0 13 ⟨"LiarsAnswers$AnyHeap", "isBeyond", "(I)Z"⟩ "LiarsAnswers$HeapWalk" mX5_isBeyond 0 1 := ⟨RX0, TX0, 6, rfl, wd_341, wd_342, fun _ _ h => h _ wd_344, wd_345, by decide +kernel, by decide +kernel, Or.inl wn_343⟩
theorem wd_350 : (Cond.methodLink "LiarsAnswers$LeastHeap" (35 : Nat) ({ cls := "LiarsAnswers$LeastHeap", name := "isBeyond", desc := "(I)Z" } : MethodName)) ∈ gt := gt_of (List.mem_of_getElem? (i := 350) (by decide +kernel)) (by decide +kernel)
theorem wd_352 : (Cond.selects "LiarsAnswers$LeastHeap" ({ cls := "LiarsAnswers$LeastHeap", name := "isBeyond", desc := "(I)Z" } : MethodName) ({ cls := "LiarsAnswers$HeapWalk", name := "isBeyond", desc := "(I)Z" } : MethodName)) ∈ gt := gt_of (List.mem_of_getElem? (i := 352) (by decide +kernel)) (by decide +kernel)
theorem wd_351 : (Cond.sameMethod "LiarsAnswers$LeastHeap" "LiarsAnswers$HeapWalk" "isBeyond" "(I)Z") ∈ gt := gt_of (List.mem_of_getElem? (i := 351) (by decide +kernel)) (by decide +kernel)
theorem c_RX6_35_5 : KU RX6 35 ⟨"LiarsAnswers$LeastHeap", "isBeyond", "(I)Z"⟩ "LiarsAnswers$HeapWalk" mX5_isBeyond 5 1 := ⟨RX6, TX6, 8, rfl, wd_350, wd_351, fun _ _ h => h _ wd_352, wd_345, by decide +kernel, by decide +kernel, Or.inl wn_343⟩
theorem wd_353 : (Cond.methodLink "LiarsAnswers$LeastHeap" (41 : Nat) ({ cls := "LiarsAnswers$LeastHeap", name := "lowestTaken", desc := "()I" } : MethodName)) ∈ gt := gt_of (List.mem_of_getElem? (i := 353) (by decide +kernel)) (by decide +kernel)
theorem wd_5 : (Cond.selects "LiarsAnswers$LeastHeap" ({ cls := "LiarsAnswers$LeastHeap", name := "lowestTaken", desc := "()I" } : MethodName) ({ cls := "LiarsAnswers$LeastHeap", name := "lowestTaken", desc := "()I" } : MethodName)) ∈ gt := gt_of (List.mem_of_getElem? (i := 5) (by decide +kernel)) (by decide +kernel)
theorem wd_355 : (Cond.instanceMethod ({ cls := "LiarsAnswers$LeastHeap", name := "lowestTaken", desc := "()I" } : MethodName)) ∈ gt := gt_of (List.mem_of_getElem? (i := 355) (by decide +kernel)) (by decide +kernel)
theorem c_RX6_41_5 : KV RX6 41 mX6_lowestTaken 5 := ⟨TX6, 8, rfl, wd_353, wd_355, wd_5⟩
theorem wd_357 : (Cond.methodLink "LiarsAnswers$LeastHeap" (45 : Nat) ({ cls := "java/lang/Math", name := "min", desc := "(II)I" } : MethodName)) ∈ gt := gt_of (List.mem_of_getElem? (i := 357) (by decide +kernel)) (by decide +kernel)
theorem wd_358 : (Cond.methodLink "LiarsAnswers$HeapWalk" (47 : Nat) ({ cls := "LiarsAnswers$HeapWalk", name := "outward", desc := "(II)I" } : MethodName)) ∈ gt := gt_of (List.mem_of_getElem? (i := 358) (by decide +kernel)) (by decide +kernel)
theorem wd_359 : (Cond.static ({ cls := "LiarsAnswers$HeapWalk", name := "outward", desc := "(II)I" } : MethodName)) ∈ gt := gt_of (List.mem_of_getElem? (i := 359) (by decide +kernel)) (by decide +kernel)
theorem c_RX5_47 : Cond.methodLink RX5 47 mX5_outward.1 ∈ gt ∧ Cond.static mX5_outward.1 ∈ gt := ⟨wd_358, wd_359⟩
theorem wn_361 : (Cond.methodLinkNest "LiarsAnswers$HeapWalk" (50 : Nat) ({ cls := "LiarsAnswers", name := "placeOf", desc := "(II)I" } : MethodName) "LiarsAnswers") ∈ lw_tbl := List.mem_of_getElem? (i := 361) (by decide +kernel)
theorem c_RX5_50 : Cond.methodLinkNest RX5 50 mX11_placeOf.1 "LiarsAnswers" ∈ lw_tbl ∧ Cond.static mX11_placeOf.1 ∈ gt := ⟨wn_361, wd_310⟩
theorem wd_362 : (Cond.methodLink "LiarsAnswers" (91 : Nat) ({ cls := "LiarsAnswers", name := "fewestNow", desc := "()I" } : MethodName)) ∈ gt := gt_of (List.mem_of_getElem? (i := 362) (by decide +kernel)) (by decide +kernel)
theorem wd_6 : (Cond.selects "LiarsAnswers" ({ cls := "LiarsAnswers", name := "fewestNow", desc := "()I" } : MethodName) ({ cls := "LiarsAnswers", name := "fewestNow", desc := "()I" } : MethodName)) ∈ gt := gt_of (List.mem_of_getElem? (i := 6) (by decide +kernel)) (by decide +kernel)
theorem wd_364 : (Cond.instanceMethod ({ cls := "LiarsAnswers", name := "fewestNow", desc := "()I" } : MethodName)) ∈ gt := gt_of (List.mem_of_getElem? (i := 364) (by decide +kernel)) (by decide +kernel)
theorem c_RX11_91_10 : KV RX11 91 mX11_fewestNow 10 := ⟨TX11, 8, rfl, wd_362, wd_364, wd_6⟩
theorem wd_366 : (Cond.methodLink "LiarsAnswers" (170 : Nat) ({ cls := "LiarsAnswers$Game", name := "row", desc := "()I" } : MethodName)) ∈ gt := gt_of (List.mem_of_getElem? (i := 366) (by decide +kernel)) (by decide +kernel)
theorem wd_368 : (Cond.selects "LiarsAnswers$Game" ({ cls := "LiarsAnswers$Game", name := "row", desc := "()I" } : MethodName) ({ cls := "LiarsAnswers$Game", name := "row", desc := "()I" } : MethodName)) ∈ gt := gt_of (List.mem_of_getElem? (i := 368) (by decide +kernel)) (by decide +kernel)
theorem wd_367 : (Cond.instanceMethod ({ cls := "LiarsAnswers$Game", name := "row", desc := "()I" } : MethodName)) ∈ gt := gt_of (List.mem_of_getElem? (i := 367) (by decide +kernel)) (by decide +kernel)
theorem c_RX11_170_3 : KV RX11 170 mX3_row 3 := ⟨TX3, 9, rfl, wd_366, wd_367, wd_368⟩
theorem wd_370 : (Cond.methodLink "LiarsAnswers" (231 : Nat) ({ cls := "LiarsAnswers$HeapTable", name := "fewestOf", desc := "([III)I" } : MethodName)) ∈ gt := gt_of (List.mem_of_getElem? (i := 370) (by decide +kernel)) (by decide +kernel)
theorem wd_372 : (Cond.selects "LiarsAnswers$HeapTable" ({ cls := "LiarsAnswers$HeapTable", name := "fewestOf", desc := "([III)I" } : MethodName) ({ cls := "LiarsAnswers$HeapTable", name := "fewestOf", desc := "([III)I" } : MethodName)) ∈ gt := gt_of (List.mem_of_getElem? (i := 372) (by decide +kernel)) (by decide +kernel)
theorem wd_371 : (Cond.instanceMethod ({ cls := "LiarsAnswers$HeapTable", name := "fewestOf", desc := "([III)I" } : MethodName)) ∈ gt := gt_of (List.mem_of_getElem? (i := 371) (by decide +kernel)) (by decide +kernel)
theorem c_RX11_231_4 : KV RX11 231 mX4_fewestOf 4 := ⟨TX4, 4, rfl, wd_370, wd_371, wd_372⟩
theorem wn_374 : (Cond.methodLinkNest "LiarsAnswers$HeapTable" (55 : Nat) ({ cls := "LiarsAnswers", name := "leftAt", desc := "([II)I" } : MethodName) "LiarsAnswers") ∈ lw_tbl := List.mem_of_getElem? (i := 374) (by decide +kernel)
theorem wd_375 : (Cond.static ({ cls := "LiarsAnswers", name := "leftAt", desc := "([II)I" } : MethodName)) ∈ gt := gt_of (List.mem_of_getElem? (i := 375) (by decide +kernel)) (by decide +kernel)
theorem c_RX4_55 : Cond.methodLinkNest RX4 55 mX11_leftAt.1 "LiarsAnswers" ∈ lw_tbl ∧ Cond.static mX11_leftAt.1 ∈ gt := ⟨wn_374, wd_375⟩
theorem wd_377 : (Cond.methodLink "LiarsAnswers" (95 : Nat) ({ cls := "LiarsAnswers", name := "toldOrNone", desc := "(I)I" } : MethodName)) ∈ gt := gt_of (List.mem_of_getElem? (i := 377) (by decide +kernel)) (by decide +kernel)
theorem wd_378 : (Cond.static ({ cls := "LiarsAnswers", name := "toldOrNone", desc := "(I)I" } : MethodName)) ∈ gt := gt_of (List.mem_of_getElem? (i := 378) (by decide +kernel)) (by decide +kernel)
theorem c_RX11_95 : Cond.methodLink RX11 95 mX11_toldOrNone.1 ∈ gt ∧ Cond.static mX11_toldOrNone.1 ∈ gt := ⟨wd_377, wd_378⟩
theorem wd_380 : (Cond.methodLink "LiarsAnswersLaw" (18 : Nat) ({ cls := "LiarsAnswers", name := "cost", desc := "(IZZ)I" } : MethodName)) ∈ gt := gt_of (List.mem_of_getElem? (i := 380) (by decide +kernel)) (by decide +kernel)
theorem wd_382 : (Cond.selects "LiarsAnswers" ({ cls := "LiarsAnswers", name := "cost", desc := "(IZZ)I" } : MethodName) ({ cls := "LiarsAnswers", name := "cost", desc := "(IZZ)I" } : MethodName)) ∈ gt := gt_of (List.mem_of_getElem? (i := 382) (by decide +kernel)) (by decide +kernel)
theorem wd_381 : (Cond.instanceMethod ({ cls := "LiarsAnswers", name := "cost", desc := "(IZZ)I" } : MethodName)) ∈ gt := gt_of (List.mem_of_getElem? (i := 381) (by decide +kernel)) (by decide +kernel)
theorem c_RL_18_10 : KV RL 18 mX11_cost 10 := ⟨TX11, 8, rfl, wd_380, wd_381, wd_382⟩
theorem wd_384 : (Cond.methodLink "LiarsAnswersLaw" (23 : Nat) ({ cls := "LiarsAnswers", name := "ask", desc := "(I)I" } : MethodName)) ∈ gt := gt_of (List.mem_of_getElem? (i := 384) (by decide +kernel)) (by decide +kernel)
theorem wd_386 : (Cond.selects "LiarsAnswers" ({ cls := "LiarsAnswers", name := "ask", desc := "(I)I" } : MethodName) ({ cls := "LiarsAnswers", name := "ask", desc := "(I)I" } : MethodName)) ∈ gt := gt_of (List.mem_of_getElem? (i := 386) (by decide +kernel)) (by decide +kernel)
theorem wd_385 : (Cond.instanceMethod ({ cls := "LiarsAnswers", name := "ask", desc := "(I)I" } : MethodName)) ∈ gt := gt_of (List.mem_of_getElem? (i := 385) (by decide +kernel)) (by decide +kernel)
theorem c_RL_23_10 : KV RL 23 mX11_ask 10 := ⟨TX11, 8, rfl, wd_384, wd_385, wd_386⟩
theorem wd_388 : (Cond.methodLink "LiarsAnswers" (102 : Nat) ({ cls := "LiarsAnswers", name := "isHeap", desc := "(I)Z" } : MethodName)) ∈ gt := gt_of (List.mem_of_getElem? (i := 388) (by decide +kernel)) (by decide +kernel)
theorem wd_389 : (Cond.static ({ cls := "LiarsAnswers", name := "isHeap", desc := "(I)Z" } : MethodName)) ∈ gt := gt_of (List.mem_of_getElem? (i := 389) (by decide +kernel)) (by decide +kernel)
theorem c_RX11_102 : Cond.methodLink RX11 102 mX11_isHeap.1 ∈ gt ∧ Cond.static mX11_isHeap.1 ∈ gt := ⟨wd_388, wd_389⟩
theorem wd_392 : (Cond.methodLink "LiarsAnswers" (109 : Nat) ({ cls := "LiarsAnswers$Game", name := "within", desc := "(I)I" } : MethodName)) ∈ gt := gt_of (List.mem_of_getElem? (i := 392) (by decide +kernel)) (by decide +kernel)
theorem wd_394 : (Cond.selects "LiarsAnswers$Game" ({ cls := "LiarsAnswers$Game", name := "within", desc := "(I)I" } : MethodName) ({ cls := "LiarsAnswers$Game", name := "within", desc := "(I)I" } : MethodName)) ∈ gt := gt_of (List.mem_of_getElem? (i := 394) (by decide +kernel)) (by decide +kernel)
theorem wd_393 : (Cond.instanceMethod ({ cls := "LiarsAnswers$Game", name := "within", desc := "(I)I" } : MethodName)) ∈ gt := gt_of (List.mem_of_getElem? (i := 393) (by decide +kernel)) (by decide +kernel)
theorem c_RX11_109_3 : KV RX11 109 mX3_within 3 := ⟨TX3, 9, rfl, wd_392, wd_393, wd_394⟩
theorem wd_396 : (Cond.methodLink "LiarsAnswers" (112 : Nat) ({ cls := "LiarsAnswers$Game", name := "waitFor", desc := "(I)V" } : MethodName)) ∈ gt := gt_of (List.mem_of_getElem? (i := 396) (by decide +kernel)) (by decide +kernel)
theorem wd_398 : (Cond.selects "LiarsAnswers$Game" ({ cls := "LiarsAnswers$Game", name := "waitFor", desc := "(I)V" } : MethodName) ({ cls := "LiarsAnswers$Game", name := "waitFor", desc := "(I)V" } : MethodName)) ∈ gt := gt_of (List.mem_of_getElem? (i := 398) (by decide +kernel)) (by decide +kernel)
theorem wd_397 : (Cond.instanceMethod ({ cls := "LiarsAnswers$Game", name := "waitFor", desc := "(I)V" } : MethodName)) ∈ gt := gt_of (List.mem_of_getElem? (i := 397) (by decide +kernel)) (by decide +kernel)
theorem c_RX11_112_3 : KV RX11 112 mX3_waitFor 3 := ⟨TX3, 9, rfl, wd_396, wd_397, wd_398⟩
theorem wd_400 : (Cond.methodLink "LiarsAnswers" (116 : Nat) ({ cls := "LiarsAnswers$Game", name := "standingIn", desc := "(I)I" } : MethodName)) ∈ gt := gt_of (List.mem_of_getElem? (i := 400) (by decide +kernel)) (by decide +kernel)
theorem wd_402 : (Cond.selects "LiarsAnswers$Game" ({ cls := "LiarsAnswers$Game", name := "standingIn", desc := "(I)I" } : MethodName) ({ cls := "LiarsAnswers$Game", name := "standingIn", desc := "(I)I" } : MethodName)) ∈ gt := gt_of (List.mem_of_getElem? (i := 402) (by decide +kernel)) (by decide +kernel)
theorem wd_401 : (Cond.instanceMethod ({ cls := "LiarsAnswers$Game", name := "standingIn", desc := "(I)I" } : MethodName)) ∈ gt := gt_of (List.mem_of_getElem? (i := 401) (by decide +kernel)) (by decide +kernel)
theorem c_RX11_116_3 : KV RX11 116 mX3_standingIn 3 := ⟨TX3, 9, rfl, wd_400, wd_401, wd_402⟩
theorem wd_404 : (Cond.methodLink "LiarsAnswers$Game" (54 : Nat) ({ cls := "LiarsAnswers$Game", name := "leftOf", desc := "(I)I" } : MethodName)) ∈ gt := gt_of (List.mem_of_getElem? (i := 404) (by decide +kernel)) (by decide +kernel)
theorem wd_406 : (Cond.selects "LiarsAnswers$Game" ({ cls := "LiarsAnswers$Game", name := "leftOf", desc := "(I)I" } : MethodName) ({ cls := "LiarsAnswers$Game", name := "leftOf", desc := "(I)I" } : MethodName)) ∈ gt := gt_of (List.mem_of_getElem? (i := 406) (by decide +kernel)) (by decide +kernel)
theorem wd_405 : (Cond.instanceMethod ({ cls := "LiarsAnswers$Game", name := "leftOf", desc := "(I)I" } : MethodName)) ∈ gt := gt_of (List.mem_of_getElem? (i := 405) (by decide +kernel)) (by decide +kernel)
theorem c_RX3_54_3 : KV RX3 54 mX3_leftOf 3 := ⟨TX3, 9, rfl, wd_404, wd_405, wd_406⟩
theorem wd_408 : (Cond.methodLink "LiarsAnswers$Game" (50 : Nat) ({ cls := "LiarsAnswers$Game", name := "row", desc := "()I" } : MethodName)) ∈ gt := gt_of (List.mem_of_getElem? (i := 408) (by decide +kernel)) (by decide +kernel)
theorem c_RX3_50_3 : KV RX3 50 mX3_row 3 := ⟨TX3, 9, rfl, wd_408, wd_367, wd_368⟩
theorem wd_409 : (Cond.methodLink "LiarsAnswersLaw" (28 : Nat) ({ cls := "LiarsAnswers", name := "answer", desc := "(Z)I" } : MethodName)) ∈ gt := gt_of (List.mem_of_getElem? (i := 409) (by decide +kernel)) (by decide +kernel)
theorem wd_411 : (Cond.selects "LiarsAnswers" ({ cls := "LiarsAnswers", name := "answer", desc := "(Z)I" } : MethodName) ({ cls := "LiarsAnswers", name := "answer", desc := "(Z)I" } : MethodName)) ∈ gt := gt_of (List.mem_of_getElem? (i := 411) (by decide +kernel)) (by decide +kernel)
theorem wd_410 : (Cond.instanceMethod ({ cls := "LiarsAnswers", name := "answer", desc := "(Z)I" } : MethodName)) ∈ gt := gt_of (List.mem_of_getElem? (i := 410) (by decide +kernel)) (by decide +kernel)
theorem c_RL_28_10 : KV RL 28 mX11_answer 10 := ⟨TX11, 8, rfl, wd_409, wd_410, wd_411⟩
theorem wd_413 : (Cond.methodLink "LiarsAnswers" (122 : Nat) ({ cls := "LiarsAnswers$Game", name := "reply", desc := "(IZ)I" } : MethodName)) ∈ gt := gt_of (List.mem_of_getElem? (i := 413) (by decide +kernel)) (by decide +kernel)
theorem wd_415 : (Cond.selects "LiarsAnswers$Game" ({ cls := "LiarsAnswers$Game", name := "reply", desc := "(IZ)I" } : MethodName) ({ cls := "LiarsAnswers$Game", name := "reply", desc := "(IZ)I" } : MethodName)) ∈ gt := gt_of (List.mem_of_getElem? (i := 415) (by decide +kernel)) (by decide +kernel)
theorem wd_414 : (Cond.instanceMethod ({ cls := "LiarsAnswers$Game", name := "reply", desc := "(IZ)I" } : MethodName)) ∈ gt := gt_of (List.mem_of_getElem? (i := 414) (by decide +kernel)) (by decide +kernel)
theorem c_RX11_122_3 : KV RX11 122 mX3_reply 3 := ⟨TX3, 9, rfl, wd_413, wd_414, wd_415⟩
theorem wd_417 : (Cond.methodLink "LiarsAnswers$Game" (58 : Nat) ({ cls := "LiarsAnswers$Game", name := "layBehind", desc := "(IZ)I" } : MethodName)) ∈ gt := gt_of (List.mem_of_getElem? (i := 417) (by decide +kernel)) (by decide +kernel)
theorem wd_419 : (Cond.selects "LiarsAnswers$Game" ({ cls := "LiarsAnswers$Game", name := "layBehind", desc := "(IZ)I" } : MethodName) ({ cls := "LiarsAnswers$Game", name := "layBehind", desc := "(IZ)I" } : MethodName)) ∈ gt := gt_of (List.mem_of_getElem? (i := 419) (by decide +kernel)) (by decide +kernel)
theorem wd_418 : (Cond.instanceMethod ({ cls := "LiarsAnswers$Game", name := "layBehind", desc := "(IZ)I" } : MethodName)) ∈ gt := gt_of (List.mem_of_getElem? (i := 418) (by decide +kernel)) (by decide +kernel)
theorem c_RX3_58_3 : KV RX3 58 mX3_layBehind 3 := ⟨TX3, 9, rfl, wd_417, wd_418, wd_419⟩
theorem wd_421 : (Cond.methodLink "LiarsAnswers$Game" (62 : Nat) ({ cls := "LiarsAnswers$Game", name := "rowBehind", desc := "()I" } : MethodName)) ∈ gt := gt_of (List.mem_of_getElem? (i := 421) (by decide +kernel)) (by decide +kernel)
theorem wd_423 : (Cond.selects "LiarsAnswers$Game" ({ cls := "LiarsAnswers$Game", name := "rowBehind", desc := "()I" } : MethodName) ({ cls := "LiarsAnswers$Game", name := "rowBehind", desc := "()I" } : MethodName)) ∈ gt := gt_of (List.mem_of_getElem? (i := 423) (by decide +kernel)) (by decide +kernel)
theorem wd_422 : (Cond.instanceMethod ({ cls := "LiarsAnswers$Game", name := "rowBehind", desc := "()I" } : MethodName)) ∈ gt := gt_of (List.mem_of_getElem? (i := 422) (by decide +kernel)) (by decide +kernel)
theorem c_RX3_62_3 : KV RX3 62 mX3_rowBehind 3 := ⟨TX3, 9, rfl, wd_421, wd_422, wd_423⟩
theorem wd_425 : (Cond.methodLink "LiarsAnswers$Game" (65 : Nat) ({ cls := "LiarsAnswers$Game", name := "priceFor", desc := "(ZZ)I" } : MethodName)) ∈ gt := gt_of (List.mem_of_getElem? (i := 425) (by decide +kernel)) (by decide +kernel)
theorem wd_7 : (Cond.selects "LiarsAnswers$Game" ({ cls := "LiarsAnswers$Game", name := "priceFor", desc := "(ZZ)I" } : MethodName) ({ cls := "LiarsAnswers$Game", name := "priceFor", desc := "(ZZ)I" } : MethodName)) ∈ gt := gt_of (List.mem_of_getElem? (i := 7) (by decide +kernel)) (by decide +kernel)
theorem wd_427 : (Cond.instanceMethod ({ cls := "LiarsAnswers$Game", name := "priceFor", desc := "(ZZ)I" } : MethodName)) ∈ gt := gt_of (List.mem_of_getElem? (i := 427) (by decide +kernel)) (by decide +kernel)
theorem c_RX3_65_3 : KV RX3 65 mX3_priceFor 3 := ⟨TX3, 9, rfl, wd_425, wd_427, wd_7⟩
theorem wd_429 : (Cond.methodLink "LiarsAnswersLaw" (33 : Nat) ({ cls := "LiarsAnswers", name := "back", desc := "()I" } : MethodName)) ∈ gt := gt_of (List.mem_of_getElem? (i := 429) (by decide +kernel)) (by decide +kernel)
theorem wd_431 : (Cond.selects "LiarsAnswers" ({ cls := "LiarsAnswers", name := "back", desc := "()I" } : MethodName) ({ cls := "LiarsAnswers", name := "back", desc := "()I" } : MethodName)) ∈ gt := gt_of (List.mem_of_getElem? (i := 431) (by decide +kernel)) (by decide +kernel)
theorem wd_430 : (Cond.instanceMethod ({ cls := "LiarsAnswers", name := "back", desc := "()I" } : MethodName)) ∈ gt := gt_of (List.mem_of_getElem? (i := 430) (by decide +kernel)) (by decide +kernel)
theorem c_RL_33_10 : KV RL 33 mX11_back 10 := ⟨TX11, 8, rfl, wd_429, wd_430, wd_431⟩
theorem wd_433 : (Cond.methodLink "LiarsAnswers" (129 : Nat) ({ cls := "LiarsAnswers$Game", name := "forgetLatest", desc := "()V" } : MethodName)) ∈ gt := gt_of (List.mem_of_getElem? (i := 433) (by decide +kernel)) (by decide +kernel)
theorem wd_435 : (Cond.selects "LiarsAnswers$Game" ({ cls := "LiarsAnswers$Game", name := "forgetLatest", desc := "()V" } : MethodName) ({ cls := "LiarsAnswers$Game", name := "forgetLatest", desc := "()V" } : MethodName)) ∈ gt := gt_of (List.mem_of_getElem? (i := 435) (by decide +kernel)) (by decide +kernel)
theorem wd_434 : (Cond.instanceMethod ({ cls := "LiarsAnswers$Game", name := "forgetLatest", desc := "()V" } : MethodName)) ∈ gt := gt_of (List.mem_of_getElem? (i := 434) (by decide +kernel)) (by decide +kernel)
theorem c_RX11_129_3 : KV RX11 129 mX3_forgetLatest 3 := ⟨TX3, 9, rfl, wd_433, wd_434, wd_435⟩
theorem wd_437 : (Cond.methodLink "LiarsAnswersLaw" (38 : Nat) ({ cls := "LiarsAnswers", name := "left", desc := "(I)I" } : MethodName)) ∈ gt := gt_of (List.mem_of_getElem? (i := 437) (by decide +kernel)) (by decide +kernel)
theorem wd_439 : (Cond.selects "LiarsAnswers" ({ cls := "LiarsAnswers", name := "left", desc := "(I)I" } : MethodName) ({ cls := "LiarsAnswers", name := "left", desc := "(I)I" } : MethodName)) ∈ gt := gt_of (List.mem_of_getElem? (i := 439) (by decide +kernel)) (by decide +kernel)
theorem wd_438 : (Cond.instanceMethod ({ cls := "LiarsAnswers", name := "left", desc := "(I)I" } : MethodName)) ∈ gt := gt_of (List.mem_of_getElem? (i := 438) (by decide +kernel)) (by decide +kernel)
theorem c_RL_38_10 : KV RL 38 mX11_left 10 := ⟨TX11, 8, rfl, wd_437, wd_438, wd_439⟩
theorem wd_441 : (Cond.methodLink "LiarsAnswers" (132 : Nat) ({ cls := "LiarsAnswers", name := "isNumber", desc := "(I)Z" } : MethodName)) ∈ gt := gt_of (List.mem_of_getElem? (i := 441) (by decide +kernel)) (by decide +kernel)
theorem wd_442 : (Cond.static ({ cls := "LiarsAnswers", name := "isNumber", desc := "(I)Z" } : MethodName)) ∈ gt := gt_of (List.mem_of_getElem? (i := 442) (by decide +kernel)) (by decide +kernel)
theorem c_RX11_132 : Cond.methodLink RX11 132 mX11_isNumber.1 ∈ gt ∧ Cond.static mX11_isNumber.1 ∈ gt := ⟨wd_441, wd_442⟩
theorem wd_444 : (Cond.methodLink "LiarsAnswers" (138 : Nat) ({ cls := "LiarsAnswers$Game", name := "leftOf", desc := "(I)I" } : MethodName)) ∈ gt := gt_of (List.mem_of_getElem? (i := 444) (by decide +kernel)) (by decide +kernel)
theorem c_RX11_138_3 : KV RX11 138 mX3_leftOf 3 := ⟨TX3, 9, rfl, wd_444, wd_405, wd_406⟩
theorem wd_445 : (Cond.methodLink "LiarsAnswersLaw" (42 : Nat) ({ cls := "LiarsAnswers", name := "state", desc := "(I)I" } : MethodName)) ∈ gt := gt_of (List.mem_of_getElem? (i := 445) (by decide +kernel)) (by decide +kernel)
theorem wd_447 : (Cond.selects "LiarsAnswers" ({ cls := "LiarsAnswers", name := "state", desc := "(I)I" } : MethodName) ({ cls := "LiarsAnswers", name := "state", desc := "(I)I" } : MethodName)) ∈ gt := gt_of (List.mem_of_getElem? (i := 447) (by decide +kernel)) (by decide +kernel)
theorem wd_446 : (Cond.instanceMethod ({ cls := "LiarsAnswers", name := "state", desc := "(I)I" } : MethodName)) ∈ gt := gt_of (List.mem_of_getElem? (i := 446) (by decide +kernel)) (by decide +kernel)
theorem c_RL_42_10 : KV RL 42 mX11_state 10 := ⟨TX11, 8, rfl, wd_445, wd_446, wd_447⟩
theorem wd_449 : (Cond.methodLink "LiarsAnswers" (141 : Nat) ({ cls := "LiarsAnswers$Game", name := "countOf", desc := "(I)I" } : MethodName)) ∈ gt := gt_of (List.mem_of_getElem? (i := 449) (by decide +kernel)) (by decide +kernel)
theorem wd_451 : (Cond.selects "LiarsAnswers$Game" ({ cls := "LiarsAnswers$Game", name := "countOf", desc := "(I)I" } : MethodName) ({ cls := "LiarsAnswers$Game", name := "countOf", desc := "(I)I" } : MethodName)) ∈ gt := gt_of (List.mem_of_getElem? (i := 451) (by decide +kernel)) (by decide +kernel)
theorem wd_450 : (Cond.instanceMethod ({ cls := "LiarsAnswers$Game", name := "countOf", desc := "(I)I" } : MethodName)) ∈ gt := gt_of (List.mem_of_getElem? (i := 450) (by decide +kernel)) (by decide +kernel)
theorem c_RX11_141_3 : KV RX11 141 mX3_countOf 3 := ⟨TX3, 9, rfl, wd_449, wd_450, wd_451⟩
theorem wd_453 : (Cond.methodLink "LiarsAnswersLaw" (46 : Nat) ({ cls := "LiarsAnswers", name := "found", desc := "()I" } : MethodName)) ∈ gt := gt_of (List.mem_of_getElem? (i := 453) (by decide +kernel)) (by decide +kernel)
theorem wd_455 : (Cond.selects "LiarsAnswers" ({ cls := "LiarsAnswers", name := "found", desc := "()I" } : MethodName) ({ cls := "LiarsAnswers", name := "found", desc := "()I" } : MethodName)) ∈ gt := gt_of (List.mem_of_getElem? (i := 455) (by decide +kernel)) (by decide +kernel)
theorem wd_454 : (Cond.instanceMethod ({ cls := "LiarsAnswers", name := "found", desc := "()I" } : MethodName)) ∈ gt := gt_of (List.mem_of_getElem? (i := 454) (by decide +kernel)) (by decide +kernel)
theorem c_RL_46_10 : KV RL 46 mX11_found 10 := ⟨TX11, 8, rfl, wd_453, wd_454, wd_455⟩
theorem wd_457 : (Cond.methodLink "LiarsAnswersLaw" (50 : Nat) ({ cls := "LiarsAnswers", name := "fewest", desc := "()I" } : MethodName)) ∈ gt := gt_of (List.mem_of_getElem? (i := 457) (by decide +kernel)) (by decide +kernel)
theorem wd_459 : (Cond.selects "LiarsAnswers" ({ cls := "LiarsAnswers", name := "fewest", desc := "()I" } : MethodName) ({ cls := "LiarsAnswers", name := "fewest", desc := "()I" } : MethodName)) ∈ gt := gt_of (List.mem_of_getElem? (i := 459) (by decide +kernel)) (by decide +kernel)
theorem wd_458 : (Cond.instanceMethod ({ cls := "LiarsAnswers", name := "fewest", desc := "()I" } : MethodName)) ∈ gt := gt_of (List.mem_of_getElem? (i := 458) (by decide +kernel)) (by decide +kernel)
theorem c_RL_50_10 : KV RL 50 mX11_fewest 10 := ⟨TX11, 8, rfl, wd_457, wd_458, wd_459⟩
theorem wd_461 : (Cond.methodLink "LiarsAnswersLaw" (54 : Nat) ({ cls := "LiarsAnswers", name := "spans", desc := "()I" } : MethodName)) ∈ gt := gt_of (List.mem_of_getElem? (i := 461) (by decide +kernel)) (by decide +kernel)
theorem wd_463 : (Cond.selects "LiarsAnswers" ({ cls := "LiarsAnswers", name := "spans", desc := "()I" } : MethodName) ({ cls := "LiarsAnswers", name := "spans", desc := "()I" } : MethodName)) ∈ gt := gt_of (List.mem_of_getElem? (i := 463) (by decide +kernel)) (by decide +kernel)
theorem wd_462 : (Cond.instanceMethod ({ cls := "LiarsAnswers", name := "spans", desc := "()I" } : MethodName)) ∈ gt := gt_of (List.mem_of_getElem? (i := 462) (by decide +kernel)) (by decide +kernel)
theorem c_RL_54_10 : KV RL 54 mX11_spans 10 := ⟨TX11, 8, rfl, wd_461, wd_462, wd_463⟩
theorem wd_465 : (Cond.methodLink "LiarsAnswers" (150 : Nat) ({ cls := "LiarsAnswers", name := "spanTable", desc := "(I)LLiarsAnswers$SpanTable;" } : MethodName)) ∈ gt := gt_of (List.mem_of_getElem? (i := 465) (by decide +kernel)) (by decide +kernel)
theorem wd_8 : (Cond.selects "LiarsAnswers" ({ cls := "LiarsAnswers", name := "spanTable", desc := "(I)LLiarsAnswers$SpanTable;" } : MethodName) ({ cls := "LiarsAnswers", name := "spanTable", desc := "(I)LLiarsAnswers$SpanTable;" } : MethodName)) ∈ gt := gt_of (List.mem_of_getElem? (i := 8) (by decide +kernel)) (by decide +kernel)
theorem wd_467 : (Cond.instanceMethod ({ cls := "LiarsAnswers", name := "spanTable", desc := "(I)LLiarsAnswers$SpanTable;" } : MethodName)) ∈ gt := gt_of (List.mem_of_getElem? (i := 467) (by decide +kernel)) (by decide +kernel)
theorem c_RX11_150_10 : KV RX11 150 mX11_spanTable 10 := ⟨TX11, 8, rfl, wd_465, wd_467, wd_8⟩
theorem wd_470 : (Cond.methodLink "LiarsAnswers" (229 : Nat) ({ cls := "LiarsAnswers$SpanTable", name := "<init>", desc := "(II)V" } : MethodName)) ∈ gt := gt_of (List.mem_of_getElem? (i := 470) (by decide +kernel)) (by decide +kernel)
theorem wd_471 : (Cond.instanceMethod ({ cls := "LiarsAnswers$SpanTable", name := "<init>", desc := "(II)V" } : MethodName)) ∈ gt := gt_of (List.mem_of_getElem? (i := 471) (by decide +kernel)) (by decide +kernel)
theorem c_RX11_229 : Cond.methodLink RX11 229 mX8_init.1 ∈ gt ∧ Cond.instanceMethod mX8_init.1 ∈ gt ∧ mX8_init.1.name = "<init>" ∧ mX8_init.2.2.2 = none := ⟨wd_470, wd_471, rfl, rfl⟩
theorem wd_473 : (Cond.methodLink "LiarsAnswers$SpanTable" (3 : Nat) ({ cls := "java/lang/Object", name := "<init>", desc := "()V" } : MethodName)) ∈ gt := gt_of (List.mem_of_getElem? (i := 473) (by decide +kernel)) (by decide +kernel)
theorem wd_474 : (Cond.methodLink "LiarsAnswers$SpanTable" (19 : Nat) ({ cls := "java/lang/Math", name := "min", desc := "(II)I" } : MethodName)) ∈ gt := gt_of (List.mem_of_getElem? (i := 474) (by decide +kernel)) (by decide +kernel)
theorem wd_488 : (Cond.methodLink "LiarsAnswers" (154 : Nat) ({ cls := "LiarsAnswers$Game", name := "asDigits", desc := "()I" } : MethodName)) ∈ gt := gt_of (List.mem_of_getElem? (i := 488) (by decide +kernel)) (by decide +kernel)
theorem wd_490 : (Cond.selects "LiarsAnswers$Game" ({ cls := "LiarsAnswers$Game", name := "asDigits", desc := "()I" } : MethodName) ({ cls := "LiarsAnswers$Game", name := "asDigits", desc := "()I" } : MethodName)) ∈ gt := gt_of (List.mem_of_getElem? (i := 490) (by decide +kernel)) (by decide +kernel)
theorem wd_489 : (Cond.instanceMethod ({ cls := "LiarsAnswers$Game", name := "asDigits", desc := "()I" } : MethodName)) ∈ gt := gt_of (List.mem_of_getElem? (i := 489) (by decide +kernel)) (by decide +kernel)
theorem c_RX11_154_3 : KV RX11 154 mX3_asDigits 3 := ⟨TX3, 9, rfl, wd_488, wd_489, wd_490⟩
theorem wd_492 : (Cond.methodLink "LiarsAnswers" (157 : Nat) ({ cls := "LiarsAnswers$SpanTable", name := "fewestOf", desc := "(I)I" } : MethodName)) ∈ gt := gt_of (List.mem_of_getElem? (i := 492) (by decide +kernel)) (by decide +kernel)
theorem wd_494 : (Cond.selects "LiarsAnswers$SpanTable" ({ cls := "LiarsAnswers$SpanTable", name := "fewestOf", desc := "(I)I" } : MethodName) ({ cls := "LiarsAnswers$SpanTable", name := "fewestOf", desc := "(I)I" } : MethodName)) ∈ gt := gt_of (List.mem_of_getElem? (i := 494) (by decide +kernel)) (by decide +kernel)
theorem wd_493 : (Cond.instanceMethod ({ cls := "LiarsAnswers$SpanTable", name := "fewestOf", desc := "(I)I" } : MethodName)) ∈ gt := gt_of (List.mem_of_getElem? (i := 493) (by decide +kernel)) (by decide +kernel)
theorem c_RX11_157_7 : KV RX11 157 mX8_fewestOf 7 := ⟨TX8, 4, rfl, wd_492, wd_493, wd_494⟩
theorem wd_496 : (Cond.methodLink "LiarsAnswers$SpanTable" (31 : Nat) ({ cls := "LiarsAnswers$SpanTable", name := "learned", desc := "(I)I" } : MethodName)) ∈ gt := gt_of (List.mem_of_getElem? (i := 496) (by decide +kernel)) (by decide +kernel)
theorem wd_9 : (Cond.selects "LiarsAnswers$SpanTable" ({ cls := "LiarsAnswers$SpanTable", name := "learned", desc := "(I)I" } : MethodName) ({ cls := "LiarsAnswers$SpanTable", name := "learned", desc := "(I)I" } : MethodName)) ∈ gt := gt_of (List.mem_of_getElem? (i := 9) (by decide +kernel)) (by decide +kernel)
theorem wd_498 : (Cond.instanceMethod ({ cls := "LiarsAnswers$SpanTable", name := "learned", desc := "(I)I" } : MethodName)) ∈ gt := gt_of (List.mem_of_getElem? (i := 498) (by decide +kernel)) (by decide +kernel)
theorem c_RX8_31_7 : KV RX8 31 mX8_learned 7 := ⟨TX8, 4, rfl, wd_496, wd_498, wd_9⟩
theorem wd_500 : (Cond.methodLink "LiarsAnswers$SpanTable" (35 : Nat) ({ cls := "LiarsAnswers$SpanTable", name := "lowestGap", desc := "(I)I" } : MethodName)) ∈ gt := gt_of (List.mem_of_getElem? (i := 500) (by decide +kernel)) (by decide +kernel)
theorem wd_501 : (Cond.static ({ cls := "LiarsAnswers$SpanTable", name := "lowestGap", desc := "(I)I" } : MethodName)) ∈ gt := gt_of (List.mem_of_getElem? (i := 501) (by decide +kernel)) (by decide +kernel)
theorem c_RX8_35 : Cond.methodLink RX8 35 mX8_lowestGap.1 ∈ gt ∧ Cond.static mX8_lowestGap.1 ∈ gt := ⟨wd_500, wd_501⟩
theorem wd_503 : (Cond.methodLink "LiarsAnswers$SpanTable" (62 : Nat) ({ cls := "LiarsAnswers$SpanTable", name := "standing", desc := "(I)I" } : MethodName)) ∈ gt := gt_of (List.mem_of_getElem? (i := 503) (by decide +kernel)) (by decide +kernel)
theorem wd_504 : (Cond.static ({ cls := "LiarsAnswers$SpanTable", name := "standing", desc := "(I)I" } : MethodName)) ∈ gt := gt_of (List.mem_of_getElem? (i := 504) (by decide +kernel)) (by decide +kernel)
theorem c_RX8_62 : Cond.methodLink RX8 62 mX8_standing.1 ∈ gt ∧ Cond.static mX8_standing.1 ∈ gt := ⟨wd_503, wd_504⟩
theorem wd_506 : (Cond.methodLink "LiarsAnswers$SpanTable" (38 : Nat) ({ cls := "LiarsAnswers$SpanTable", name := "fewAt", desc := "(I)I" } : MethodName)) ∈ gt := gt_of (List.mem_of_getElem? (i := 506) (by decide +kernel)) (by decide +kernel)
theorem wd_10 : (Cond.selects "LiarsAnswers$SpanTable" ({ cls := "LiarsAnswers$SpanTable", name := "fewAt", desc := "(I)I" } : MethodName) ({ cls := "LiarsAnswers$SpanTable", name := "fewAt", desc := "(I)I" } : MethodName)) ∈ gt := gt_of (List.mem_of_getElem? (i := 10) (by decide +kernel)) (by decide +kernel)
theorem wd_508 : (Cond.instanceMethod ({ cls := "LiarsAnswers$SpanTable", name := "fewAt", desc := "(I)I" } : MethodName)) ∈ gt := gt_of (List.mem_of_getElem? (i := 508) (by decide +kernel)) (by decide +kernel)
theorem c_RX8_38_7 : KV RX8 38 mX8_fewAt 7 := ⟨TX8, 4, rfl, wd_506, wd_508, wd_10⟩
theorem wd_510 : (Cond.methodLink "LiarsAnswers$SpanTable" (41 : Nat) ({ cls := "java/lang/Integer", name := "bitCount", desc := "(I)I" } : MethodName)) ∈ gt := gt_of (List.mem_of_getElem? (i := 510) (by decide +kernel)) (by decide +kernel)
theorem wd_516 : (Cond.methodLink "LiarsAnswers$SpanTable" (46 : Nat) ({ cls := "LiarsAnswers$SpanTable", name := "leastQuestions", desc := "(II)I" } : MethodName)) ∈ gt := gt_of (List.mem_of_getElem? (i := 516) (by decide +kernel)) (by decide +kernel)
theorem wd_11 : (Cond.selects "LiarsAnswers$SpanTable" ({ cls := "LiarsAnswers$SpanTable", name := "leastQuestions", desc := "(II)I" } : MethodName) ({ cls := "LiarsAnswers$SpanTable", name := "leastQuestions", desc := "(II)I" } : MethodName)) ∈ gt := gt_of (List.mem_of_getElem? (i := 11) (by decide +kernel)) (by decide +kernel)
theorem wd_518 : (Cond.instanceMethod ({ cls := "LiarsAnswers$SpanTable", name := "leastQuestions", desc := "(II)I" } : MethodName)) ∈ gt := gt_of (List.mem_of_getElem? (i := 518) (by decide +kernel)) (by decide +kernel)
theorem c_RX8_46_7 : KV RX8 46 mX8_leastQuestions 7 := ⟨TX8, 4, rfl, wd_516, wd_518, wd_11⟩
theorem wd_520 : (Cond.methodLink "LiarsAnswers$SpanTable" (49 : Nat) ({ cls := "LiarsAnswers$SpanTable", name := "digitOne", desc := "(I)I" } : MethodName)) ∈ gt := gt_of (List.mem_of_getElem? (i := 520) (by decide +kernel)) (by decide +kernel)
theorem wd_521 : (Cond.static ({ cls := "LiarsAnswers$SpanTable", name := "digitOne", desc := "(I)I" } : MethodName)) ∈ gt := gt_of (List.mem_of_getElem? (i := 521) (by decide +kernel)) (by decide +kernel)
theorem c_RX8_49 : Cond.methodLink RX8 49 mX8_digitOne.1 ∈ gt ∧ Cond.static mX8_digitOne.1 ∈ gt := ⟨wd_520, wd_521⟩
theorem wd_523 : (Cond.methodLink "LiarsAnswers$SpanTable" (52 : Nat) ({ cls := "java/lang/Math", name := "max", desc := "(II)I" } : MethodName)) ∈ gt := gt_of (List.mem_of_getElem? (i := 523) (by decide +kernel)) (by decide +kernel)
theorem wd_524 : (Cond.methodLink "LiarsAnswers$SpanTable" (55 : Nat) ({ cls := "LiarsAnswers$SpanTable", name := "greaterBehind", desc := "(II)I" } : MethodName)) ∈ gt := gt_of (List.mem_of_getElem? (i := 524) (by decide +kernel)) (by decide +kernel)
theorem wd_12 : (Cond.selects "LiarsAnswers$SpanTable" ({ cls := "LiarsAnswers$SpanTable", name := "greaterBehind", desc := "(II)I" } : MethodName) ({ cls := "LiarsAnswers$SpanTable", name := "greaterBehind", desc := "(II)I" } : MethodName)) ∈ gt := gt_of (List.mem_of_getElem? (i := 12) (by decide +kernel)) (by decide +kernel)
theorem wd_526 : (Cond.instanceMethod ({ cls := "LiarsAnswers$SpanTable", name := "greaterBehind", desc := "(II)I" } : MethodName)) ∈ gt := gt_of (List.mem_of_getElem? (i := 526) (by decide +kernel)) (by decide +kernel)
theorem c_RX8_55_7 : KV RX8 55 mX8_greaterBehind 7 := ⟨TX8, 4, rfl, wd_524, wd_526, wd_12⟩
theorem wd_528 : (Cond.methodLink "LiarsAnswers$SpanTable" (58 : Nat) ({ cls := "LiarsAnswers$SpanTable", name := "charged", desc := "(III)I" } : MethodName)) ∈ gt := gt_of (List.mem_of_getElem? (i := 528) (by decide +kernel)) (by decide +kernel)
theorem wd_529 : (Cond.static ({ cls := "LiarsAnswers$SpanTable", name := "charged", desc := "(III)I" } : MethodName)) ∈ gt := gt_of (List.mem_of_getElem? (i := 529) (by decide +kernel)) (by decide +kernel)
theorem c_RX8_58 : Cond.methodLink RX8 58 mX8_charged.1 ∈ gt ∧ Cond.static mX8_charged.1 ∈ gt := ⟨wd_528, wd_529⟩
theorem wd_531 : (Cond.methodLink "LiarsAnswersLaw" (58 : Nat) ({ cls := "LiarsAnswers", name := "weight", desc := "(I)J" } : MethodName)) ∈ gt := gt_of (List.mem_of_getElem? (i := 531) (by decide +kernel)) (by decide +kernel)
theorem wd_533 : (Cond.selects "LiarsAnswers" ({ cls := "LiarsAnswers", name := "weight", desc := "(I)J" } : MethodName) ({ cls := "LiarsAnswers", name := "weight", desc := "(I)J" } : MethodName)) ∈ gt := gt_of (List.mem_of_getElem? (i := 533) (by decide +kernel)) (by decide +kernel)
theorem wd_532 : (Cond.instanceMethod ({ cls := "LiarsAnswers", name := "weight", desc := "(I)J" } : MethodName)) ∈ gt := gt_of (List.mem_of_getElem? (i := 532) (by decide +kernel)) (by decide +kernel)
theorem c_RL_58_10 : KV RL 58 mX11_weight 10 := ⟨TX11, 8, rfl, wd_531, wd_532, wd_533⟩
theorem wd_536 : (Cond.methodLink "LiarsAnswers" (162 : Nat) ({ cls := "LiarsAnswers", name := "waysToLie", desc := "(II)J" } : MethodName)) ∈ gt := gt_of (List.mem_of_getElem? (i := 536) (by decide +kernel)) (by decide +kernel)
theorem wd_537 : (Cond.static ({ cls := "LiarsAnswers", name := "waysToLie", desc := "(II)J" } : MethodName)) ∈ gt := gt_of (List.mem_of_getElem? (i := 537) (by decide +kernel)) (by decide +kernel)
theorem c_RX11_162 : Cond.methodLink RX11 162 mX11_waysToLie.1 ∈ gt ∧ Cond.static mX11_waysToLie.1 ∈ gt := ⟨wd_536, wd_537⟩
theorem wd_539 : (Cond.methodLink "LiarsAnswersLaw" (63 : Nat) ({ cls := "LiarsAnswers", name := "best", desc := "()I" } : MethodName)) ∈ gt := gt_of (List.mem_of_getElem? (i := 539) (by decide +kernel)) (by decide +kernel)
theorem wd_541 : (Cond.selects "LiarsAnswers" ({ cls := "LiarsAnswers", name := "best", desc := "()I" } : MethodName) ({ cls := "LiarsAnswers", name := "best", desc := "()I" } : MethodName)) ∈ gt := gt_of (List.mem_of_getElem? (i := 541) (by decide +kernel)) (by decide +kernel)
theorem wd_540 : (Cond.instanceMethod ({ cls := "LiarsAnswers", name := "best", desc := "()I" } : MethodName)) ∈ gt := gt_of (List.mem_of_getElem? (i := 540) (by decide +kernel)) (by decide +kernel)
theorem c_RL_63_10 : KV RL 63 mX11_best 10 := ⟨TX11, 8, rfl, wd_539, wd_540, wd_541⟩
theorem wd_543 : (Cond.methodLink "LiarsAnswers" (173 : Nat) ({ cls := "LiarsAnswers$HeapTable", name := "bestHeap", desc := "([III)I" } : MethodName)) ∈ gt := gt_of (List.mem_of_getElem? (i := 543) (by decide +kernel)) (by decide +kernel)
theorem wd_545 : (Cond.selects "LiarsAnswers$HeapTable" ({ cls := "LiarsAnswers$HeapTable", name := "bestHeap", desc := "([III)I" } : MethodName) ({ cls := "LiarsAnswers$HeapTable", name := "bestHeap", desc := "([III)I" } : MethodName)) ∈ gt := gt_of (List.mem_of_getElem? (i := 545) (by decide +kernel)) (by decide +kernel)
theorem wd_544 : (Cond.instanceMethod ({ cls := "LiarsAnswers$HeapTable", name := "bestHeap", desc := "([III)I" } : MethodName)) ∈ gt := gt_of (List.mem_of_getElem? (i := 544) (by decide +kernel)) (by decide +kernel)
theorem c_RX11_173_4 : KV RX11 173 mX4_bestHeap 4 := ⟨TX4, 4, rfl, wd_543, wd_544, wd_545⟩
theorem wd_547 : (Cond.methodLink "LiarsAnswers$HeapTable" (59 : Nat) ({ cls := "LiarsAnswers$HeapTable", name := "fewestOf", desc := "([III)I" } : MethodName)) ∈ gt := gt_of (List.mem_of_getElem? (i := 547) (by decide +kernel)) (by decide +kernel)
theorem c_RX4_59_4 : KV RX4 59 mX4_fewestOf 4 := ⟨TX4, 4, rfl, wd_547, wd_371, wd_372⟩
theorem wd_548 : (Cond.methodLink "LiarsAnswers$HeapTable" (63 : Nat) ({ cls := "LiarsAnswers$LeastHeap", name := "find", desc := "([IIII)I" } : MethodName)) ∈ gt := gt_of (List.mem_of_getElem? (i := 548) (by decide +kernel)) (by decide +kernel)
theorem wd_550 : (Cond.selects "LiarsAnswers$LeastHeap" ({ cls := "LiarsAnswers$LeastHeap", name := "find", desc := "([IIII)I" } : MethodName) ({ cls := "LiarsAnswers$LeastHeap", name := "find", desc := "([IIII)I" } : MethodName)) ∈ gt := gt_of (List.mem_of_getElem? (i := 550) (by decide +kernel)) (by decide +kernel)
theorem wd_549 : (Cond.instanceMethod ({ cls := "LiarsAnswers$LeastHeap", name := "find", desc := "([IIII)I" } : MethodName)) ∈ gt := gt_of (List.mem_of_getElem? (i := 549) (by decide +kernel)) (by decide +kernel)
theorem c_RX4_63_5 : KV RX4 63 mX6_find 5 := ⟨TX6, 8, rfl, wd_548, wd_549, wd_550⟩
theorem wd_552 : (Cond.methodLink "LiarsAnswers$LeastHeap" (22 : Nat) ({ cls := "LiarsAnswers$LeastHeap", name := "layLowest", desc := "([IIII)I" } : MethodName)) ∈ gt := gt_of (List.mem_of_getElem? (i := 552) (by decide +kernel)) (by decide +kernel)
theorem wd_13 : (Cond.selects "LiarsAnswers$LeastHeap" ({ cls := "LiarsAnswers$LeastHeap", name := "layLowest", desc := "([IIII)I" } : MethodName) ({ cls := "LiarsAnswers$LeastHeap", name := "layLowest", desc := "([IIII)I" } : MethodName)) ∈ gt := gt_of (List.mem_of_getElem? (i := 13) (by decide +kernel)) (by decide +kernel)
theorem wd_554 : (Cond.instanceMethod ({ cls := "LiarsAnswers$LeastHeap", name := "layLowest", desc := "([IIII)I" } : MethodName)) ∈ gt := gt_of (List.mem_of_getElem? (i := 554) (by decide +kernel)) (by decide +kernel)
theorem c_RX6_22_5 : KV RX6 22 mX6_layLowest 5 := ⟨TX6, 8, rfl, wd_552, wd_554, wd_13⟩
theorem wn_556 : (Cond.methodLinkNest "LiarsAnswers$LeastHeap" (31 : Nat) ({ cls := "LiarsAnswers", name := "leftAt", desc := "([II)I" } : MethodName) "LiarsAnswers") ∈ lw_tbl := List.mem_of_getElem? (i := 556) (by decide +kernel)
theorem c_RX6_31 : Cond.methodLinkNest RX6 31 mX11_leftAt.1 "LiarsAnswers" ∈ lw_tbl ∧ Cond.static mX11_leftAt.1 ∈ gt := ⟨wn_556, wd_375⟩
theorem wd_558 : (Cond.methodLink "LiarsAnswers$LeastHeap" (27 : Nat) ({ cls := "LiarsAnswers$LeastHeap", name := "walk", desc := "(I)Z" } : MethodName)) ∈ gt := gt_of (List.mem_of_getElem? (i := 558) (by decide +kernel)) (by decide +kernel)
theorem wd_560 : (Cond.selects "LiarsAnswers$LeastHeap" ({ cls := "LiarsAnswers$LeastHeap", name := "walk", desc := "(I)Z" } : MethodName) ({ cls := "LiarsAnswers$HeapWalk", name := "walk", desc := "(I)Z" } : MethodName)) ∈ gt := gt_of (List.mem_of_getElem? (i := 560) (by decide +kernel)) (by decide +kernel)
theorem wd_559 : (Cond.sameMethod "LiarsAnswers$LeastHeap" "LiarsAnswers$HeapWalk" "walk" "(I)Z") ∈ gt := gt_of (List.mem_of_getElem? (i := 559) (by decide +kernel)) (by decide +kernel)
theorem c_RX6_27_5 : KU RX6 27 ⟨"LiarsAnswers$LeastHeap", "walk", "(I)Z"⟩ "LiarsAnswers$HeapWalk" mX5_walk 5 1 := ⟨RX6, TX6, 8, rfl, wd_558, wd_559, fun _ _ h => h _ wd_560, wd_329, by decide +kernel, by decide +kernel, Or.inl wn_327⟩
theorem wd_561 : (Cond.methodLink "LiarsAnswersLaw" (67 : Nat) ({ cls := "LiarsAnswers", name := "worse", desc := "()I" } : MethodName)) ∈ gt := gt_of (List.mem_of_getElem? (i := 561) (by decide +kernel)) (by decide +kernel)
theorem wd_563 : (Cond.selects "LiarsAnswers" ({ cls := "LiarsAnswers", name := "worse", desc := "()I" } : MethodName) ({ cls := "LiarsAnswers", name := "worse", desc := "()I" } : MethodName)) ∈ gt := gt_of (List.mem_of_getElem? (i := 563) (by decide +kernel)) (by decide +kernel)
theorem wd_562 : (Cond.instanceMethod ({ cls := "LiarsAnswers", name := "worse", desc := "()I" } : MethodName)) ∈ gt := gt_of (List.mem_of_getElem? (i := 562) (by decide +kernel)) (by decide +kernel)
theorem c_RL_67_10 : KV RL 67 mX11_worse 10 := ⟨TX11, 8, rfl, wd_561, wd_562, wd_563⟩
theorem wd_565 : (Cond.methodLink "LiarsAnswers" (177 : Nat) ({ cls := "LiarsAnswers", name := "fewestBehind", desc := "(Z)I" } : MethodName)) ∈ gt := gt_of (List.mem_of_getElem? (i := 565) (by decide +kernel)) (by decide +kernel)
theorem wd_14 : (Cond.selects "LiarsAnswers" ({ cls := "LiarsAnswers", name := "fewestBehind", desc := "(Z)I" } : MethodName) ({ cls := "LiarsAnswers", name := "fewestBehind", desc := "(Z)I" } : MethodName)) ∈ gt := gt_of (List.mem_of_getElem? (i := 14) (by decide +kernel)) (by decide +kernel)
theorem wd_567 : (Cond.instanceMethod ({ cls := "LiarsAnswers", name := "fewestBehind", desc := "(Z)I" } : MethodName)) ∈ gt := gt_of (List.mem_of_getElem? (i := 567) (by decide +kernel)) (by decide +kernel)
theorem c_RX11_177_10 : KV RX11 177 mX11_fewestBehind 10 := ⟨TX11, 8, rfl, wd_565, wd_567, wd_14⟩
theorem wd_569 : (Cond.methodLink "LiarsAnswers" (233 : Nat) ({ cls := "LiarsAnswers$Game", name := "layBehind", desc := "(IZ)I" } : MethodName)) ∈ gt := gt_of (List.mem_of_getElem? (i := 569) (by decide +kernel)) (by decide +kernel)
theorem c_RX11_233_3 : KV RX11 233 mX3_layBehind 3 := ⟨TX3, 9, rfl, wd_569, wd_418, wd_419⟩
theorem wd_570 : (Cond.methodLink "LiarsAnswers" (236 : Nat) ({ cls := "LiarsAnswers$Game", name := "rowBehind", desc := "()I" } : MethodName)) ∈ gt := gt_of (List.mem_of_getElem? (i := 570) (by decide +kernel)) (by decide +kernel)
theorem c_RX11_236_3 : KV RX11 236 mX3_rowBehind 3 := ⟨TX3, 9, rfl, wd_570, wd_422, wd_423⟩
theorem wd_571 : (Cond.methodLink "LiarsAnswersLaw" (71 : Nat) ({ cls := "LiarsAnswers", name := "set", desc := "(I)I" } : MethodName)) ∈ gt := gt_of (List.mem_of_getElem? (i := 571) (by decide +kernel)) (by decide +kernel)
theorem wd_573 : (Cond.selects "LiarsAnswers" ({ cls := "LiarsAnswers", name := "set", desc := "(I)I" } : MethodName) ({ cls := "LiarsAnswers", name := "set", desc := "(I)I" } : MethodName)) ∈ gt := gt_of (List.mem_of_getElem? (i := 573) (by decide +kernel)) (by decide +kernel)
theorem wd_572 : (Cond.instanceMethod ({ cls := "LiarsAnswers", name := "set", desc := "(I)I" } : MethodName)) ∈ gt := gt_of (List.mem_of_getElem? (i := 572) (by decide +kernel)) (by decide +kernel)
theorem c_RL_71_10 : KV RL 71 mX11_set 10 := ⟨TX11, 8, rfl, wd_571, wd_572, wd_573⟩
theorem wd_575 : (Cond.methodLink "LiarsAnswers" (181 : Nat) ({ cls := "LiarsAnswers$Code", name := "add", desc := "(I)Z" } : MethodName)) ∈ gt := gt_of (List.mem_of_getElem? (i := 575) (by decide +kernel)) (by decide +kernel)
theorem wd_577 : (Cond.selects "LiarsAnswers$Code" ({ cls := "LiarsAnswers$Code", name := "add", desc := "(I)Z" } : MethodName) ({ cls := "LiarsAnswers$Code", name := "add", desc := "(I)Z" } : MethodName)) ∈ gt := gt_of (List.mem_of_getElem? (i := 577) (by decide +kernel)) (by decide +kernel)
theorem wd_576 : (Cond.instanceMethod ({ cls := "LiarsAnswers$Code", name := "add", desc := "(I)Z" } : MethodName)) ∈ gt := gt_of (List.mem_of_getElem? (i := 576) (by decide +kernel)) (by decide +kernel)
theorem c_RX11_181_2 : KV RX11 181 mX2_add 2 := ⟨TX2, 3, rfl, wd_575, wd_576, wd_577⟩
theorem wd_579 : (Cond.methodLink "LiarsAnswersLaw" (75 : Nat) ({ cls := "LiarsAnswers", name := "drop", desc := "()I" } : MethodName)) ∈ gt := gt_of (List.mem_of_getElem? (i := 579) (by decide +kernel)) (by decide +kernel)
theorem wd_581 : (Cond.selects "LiarsAnswers" ({ cls := "LiarsAnswers", name := "drop", desc := "()I" } : MethodName) ({ cls := "LiarsAnswers", name := "drop", desc := "()I" } : MethodName)) ∈ gt := gt_of (List.mem_of_getElem? (i := 581) (by decide +kernel)) (by decide +kernel)
theorem wd_580 : (Cond.instanceMethod ({ cls := "LiarsAnswers", name := "drop", desc := "()I" } : MethodName)) ∈ gt := gt_of (List.mem_of_getElem? (i := 580) (by decide +kernel)) (by decide +kernel)
theorem c_RL_75_10 : KV RL 75 mX11_drop 10 := ⟨TX11, 8, rfl, wd_579, wd_580, wd_581⟩
theorem wd_583 : (Cond.methodLink "LiarsAnswers" (187 : Nat) ({ cls := "LiarsAnswers$Code", name := "removeLatest", desc := "()Z" } : MethodName)) ∈ gt := gt_of (List.mem_of_getElem? (i := 583) (by decide +kernel)) (by decide +kernel)
theorem wd_585 : (Cond.selects "LiarsAnswers$Code" ({ cls := "LiarsAnswers$Code", name := "removeLatest", desc := "()Z" } : MethodName) ({ cls := "LiarsAnswers$Code", name := "removeLatest", desc := "()Z" } : MethodName)) ∈ gt := gt_of (List.mem_of_getElem? (i := 585) (by decide +kernel)) (by decide +kernel)
theorem wd_584 : (Cond.instanceMethod ({ cls := "LiarsAnswers$Code", name := "removeLatest", desc := "()Z" } : MethodName)) ∈ gt := gt_of (List.mem_of_getElem? (i := 584) (by decide +kernel)) (by decide +kernel)
theorem c_RX11_187_2 : KV RX11 187 mX2_removeLatest 2 := ⟨TX2, 3, rfl, wd_583, wd_584, wd_585⟩
theorem wd_587 : (Cond.methodLink "LiarsAnswersLaw" (79 : Nat) ({ cls := "LiarsAnswers", name := "word", desc := "(I)I" } : MethodName)) ∈ gt := gt_of (List.mem_of_getElem? (i := 587) (by decide +kernel)) (by decide +kernel)
theorem wd_589 : (Cond.selects "LiarsAnswers" ({ cls := "LiarsAnswers", name := "word", desc := "(I)I" } : MethodName) ({ cls := "LiarsAnswers", name := "word", desc := "(I)I" } : MethodName)) ∈ gt := gt_of (List.mem_of_getElem? (i := 589) (by decide +kernel)) (by decide +kernel)
theorem wd_588 : (Cond.instanceMethod ({ cls := "LiarsAnswers", name := "word", desc := "(I)I" } : MethodName)) ∈ gt := gt_of (List.mem_of_getElem? (i := 588) (by decide +kernel)) (by decide +kernel)
theorem c_RL_79_10 : KV RL 79 mX11_word 10 := ⟨TX11, 8, rfl, wd_587, wd_588, wd_589⟩
theorem wd_591 : (Cond.methodLink "LiarsAnswers" (191 : Nat) ({ cls := "LiarsAnswers$Code", name := "wordOf", desc := "(I)I" } : MethodName)) ∈ gt := gt_of (List.mem_of_getElem? (i := 591) (by decide +kernel)) (by decide +kernel)
theorem wd_593 : (Cond.selects "LiarsAnswers$Code" ({ cls := "LiarsAnswers$Code", name := "wordOf", desc := "(I)I" } : MethodName) ({ cls := "LiarsAnswers$Code", name := "wordOf", desc := "(I)I" } : MethodName)) ∈ gt := gt_of (List.mem_of_getElem? (i := 593) (by decide +kernel)) (by decide +kernel)
theorem wd_592 : (Cond.instanceMethod ({ cls := "LiarsAnswers$Code", name := "wordOf", desc := "(I)I" } : MethodName)) ∈ gt := gt_of (List.mem_of_getElem? (i := 592) (by decide +kernel)) (by decide +kernel)
theorem c_RX11_191_2 : KV RX11 191 mX2_wordOf 2 := ⟨TX2, 3, rfl, wd_591, wd_592, wd_593⟩
theorem wd_595 : (Cond.methodLink "LiarsAnswersLaw" (83 : Nat) ({ cls := "LiarsAnswers", name := "apart", desc := "(II)I" } : MethodName)) ∈ gt := gt_of (List.mem_of_getElem? (i := 595) (by decide +kernel)) (by decide +kernel)
theorem wd_597 : (Cond.selects "LiarsAnswers" ({ cls := "LiarsAnswers", name := "apart", desc := "(II)I" } : MethodName) ({ cls := "LiarsAnswers", name := "apart", desc := "(II)I" } : MethodName)) ∈ gt := gt_of (List.mem_of_getElem? (i := 597) (by decide +kernel)) (by decide +kernel)
theorem wd_596 : (Cond.instanceMethod ({ cls := "LiarsAnswers", name := "apart", desc := "(II)I" } : MethodName)) ∈ gt := gt_of (List.mem_of_getElem? (i := 596) (by decide +kernel)) (by decide +kernel)
theorem c_RL_83_10 : KV RL 83 mX11_apart 10 := ⟨TX11, 8, rfl, wd_595, wd_596, wd_597⟩
theorem wd_599 : (Cond.methodLink "LiarsAnswers" (194 : Nat) ({ cls := "java/lang/Integer", name := "bitCount", desc := "(I)I" } : MethodName)) ∈ gt := gt_of (List.mem_of_getElem? (i := 599) (by decide +kernel)) (by decide +kernel)
theorem wd_600 : (Cond.methodLink "LiarsAnswersLaw" (88 : Nat) ({ cls := "LiarsAnswers", name := "serves", desc := "(II)I" } : MethodName)) ∈ gt := gt_of (List.mem_of_getElem? (i := 600) (by decide +kernel)) (by decide +kernel)
theorem wd_602 : (Cond.selects "LiarsAnswers" ({ cls := "LiarsAnswers", name := "serves", desc := "(II)I" } : MethodName) ({ cls := "LiarsAnswers", name := "serves", desc := "(II)I" } : MethodName)) ∈ gt := gt_of (List.mem_of_getElem? (i := 602) (by decide +kernel)) (by decide +kernel)
theorem wd_601 : (Cond.instanceMethod ({ cls := "LiarsAnswers", name := "serves", desc := "(II)I" } : MethodName)) ∈ gt := gt_of (List.mem_of_getElem? (i := 601) (by decide +kernel)) (by decide +kernel)
theorem c_RL_88_10 : KV RL 88 mX11_serves 10 := ⟨TX11, 8, rfl, wd_600, wd_601, wd_602⟩
theorem wd_604 : (Cond.methodLink "LiarsAnswers" (199 : Nat) ({ cls := "LiarsAnswers$Code", name := "allApart", desc := "(II)Z" } : MethodName)) ∈ gt := gt_of (List.mem_of_getElem? (i := 604) (by decide +kernel)) (by decide +kernel)
theorem wd_606 : (Cond.selects "LiarsAnswers$Code" ({ cls := "LiarsAnswers$Code", name := "allApart", desc := "(II)Z" } : MethodName) ({ cls := "LiarsAnswers$Code", name := "allApart", desc := "(II)Z" } : MethodName)) ∈ gt := gt_of (List.mem_of_getElem? (i := 606) (by decide +kernel)) (by decide +kernel)
theorem wd_605 : (Cond.instanceMethod ({ cls := "LiarsAnswers$Code", name := "allApart", desc := "(II)Z" } : MethodName)) ∈ gt := gt_of (List.mem_of_getElem? (i := 605) (by decide +kernel)) (by decide +kernel)
theorem c_RX11_199_2 : KV RX11 199 mX2_allApart 2 := ⟨TX2, 3, rfl, wd_604, wd_605, wd_606⟩
theorem wd_608 : (Cond.methodLink "LiarsAnswers$Code" (22 : Nat) ({ cls := "LiarsAnswers$Code", name := "wordOf", desc := "(I)I" } : MethodName)) ∈ gt := gt_of (List.mem_of_getElem? (i := 608) (by decide +kernel)) (by decide +kernel)
theorem c_RX2_22_2 : KV RX2 22 mX2_wordOf 2 := ⟨TX2, 3, rfl, wd_608, wd_592, wd_593⟩
theorem wd_609 : (Cond.methodLink "LiarsAnswers$Code" (26 : Nat) ({ cls := "java/lang/Integer", name := "bitCount", desc := "(I)I" } : MethodName)) ∈ gt := gt_of (List.mem_of_getElem? (i := 609) (by decide +kernel)) (by decide +kernel)
theorem wd_610 : (Cond.methodLink "LiarsAnswersLaw" (92 : Nat) ({ cls := "LiarsAnswers", name := "read", desc := "(III)I" } : MethodName)) ∈ gt := gt_of (List.mem_of_getElem? (i := 610) (by decide +kernel)) (by decide +kernel)
theorem wd_612 : (Cond.selects "LiarsAnswers" ({ cls := "LiarsAnswers", name := "read", desc := "(III)I" } : MethodName) ({ cls := "LiarsAnswers", name := "read", desc := "(III)I" } : MethodName)) ∈ gt := gt_of (List.mem_of_getElem? (i := 612) (by decide +kernel)) (by decide +kernel)
theorem wd_611 : (Cond.instanceMethod ({ cls := "LiarsAnswers", name := "read", desc := "(III)I" } : MethodName)) ∈ gt := gt_of (List.mem_of_getElem? (i := 611) (by decide +kernel)) (by decide +kernel)
theorem c_RL_92_10 : KV RL 92 mX11_read 10 := ⟨TX11, 8, rfl, wd_610, wd_611, wd_612⟩
theorem wd_614 : (Cond.methodLink "LiarsAnswers" (203 : Nat) ({ cls := "LiarsAnswers$Code", name := "isWord", desc := "(I)Z" } : MethodName)) ∈ gt := gt_of (List.mem_of_getElem? (i := 614) (by decide +kernel)) (by decide +kernel)
theorem wd_616 : (Cond.selects "LiarsAnswers$Code" ({ cls := "LiarsAnswers$Code", name := "isWord", desc := "(I)Z" } : MethodName) ({ cls := "LiarsAnswers$Code", name := "isWord", desc := "(I)Z" } : MethodName)) ∈ gt := gt_of (List.mem_of_getElem? (i := 616) (by decide +kernel)) (by decide +kernel)
theorem wd_615 : (Cond.instanceMethod ({ cls := "LiarsAnswers$Code", name := "isWord", desc := "(I)Z" } : MethodName)) ∈ gt := gt_of (List.mem_of_getElem? (i := 615) (by decide +kernel)) (by decide +kernel)
theorem c_RX11_203_2 : KV RX11 203 mX2_isWord 2 := ⟨TX2, 3, rfl, wd_614, wd_615, wd_616⟩
theorem wd_618 : (Cond.methodLink "LiarsAnswers" (206 : Nat) ({ cls := "LiarsAnswers$Code", name := "onlyNear", desc := "(III)I" } : MethodName)) ∈ gt := gt_of (List.mem_of_getElem? (i := 618) (by decide +kernel)) (by decide +kernel)
theorem wd_620 : (Cond.selects "LiarsAnswers$Code" ({ cls := "LiarsAnswers$Code", name := "onlyNear", desc := "(III)I" } : MethodName) ({ cls := "LiarsAnswers$Code", name := "onlyNear", desc := "(III)I" } : MethodName)) ∈ gt := gt_of (List.mem_of_getElem? (i := 620) (by decide +kernel)) (by decide +kernel)
theorem wd_619 : (Cond.instanceMethod ({ cls := "LiarsAnswers$Code", name := "onlyNear", desc := "(III)I" } : MethodName)) ∈ gt := gt_of (List.mem_of_getElem? (i := 619) (by decide +kernel)) (by decide +kernel)
theorem c_RX11_206_2 : KV RX11 206 mX2_onlyNear 2 := ⟨TX2, 3, rfl, wd_618, wd_619, wd_620⟩
theorem wd_622 : (Cond.methodLink "LiarsAnswersLaw" (96 : Nat) ({ cls := "LiarsAnswers", name := "play", desc := "(I)I" } : MethodName)) ∈ gt := gt_of (List.mem_of_getElem? (i := 622) (by decide +kernel)) (by decide +kernel)
theorem wd_624 : (Cond.selects "LiarsAnswers" ({ cls := "LiarsAnswers", name := "play", desc := "(I)I" } : MethodName) ({ cls := "LiarsAnswers", name := "play", desc := "(I)I" } : MethodName)) ∈ gt := gt_of (List.mem_of_getElem? (i := 624) (by decide +kernel)) (by decide +kernel)
theorem wd_623 : (Cond.instanceMethod ({ cls := "LiarsAnswers", name := "play", desc := "(I)I" } : MethodName)) ∈ gt := gt_of (List.mem_of_getElem? (i := 623) (by decide +kernel)) (by decide +kernel)
theorem c_RL_96_10 : KV RL 96 mX11_play 10 := ⟨TX11, 8, rfl, wd_622, wd_623, wd_624⟩
theorem wd_626 : (Cond.methodLink "LiarsAnswers" (210 : Nat) ({ cls := "LiarsAnswers", name := "playOne", desc := "(II)Z" } : MethodName)) ∈ gt := gt_of (List.mem_of_getElem? (i := 626) (by decide +kernel)) (by decide +kernel)
theorem wd_15 : (Cond.selects "LiarsAnswers" ({ cls := "LiarsAnswers", name := "playOne", desc := "(II)Z" } : MethodName) ({ cls := "LiarsAnswers", name := "playOne", desc := "(II)Z" } : MethodName)) ∈ gt := gt_of (List.mem_of_getElem? (i := 15) (by decide +kernel)) (by decide +kernel)
theorem wd_628 : (Cond.instanceMethod ({ cls := "LiarsAnswers", name := "playOne", desc := "(II)Z" } : MethodName)) ∈ gt := gt_of (List.mem_of_getElem? (i := 628) (by decide +kernel)) (by decide +kernel)
theorem c_RX11_210_10 : KV RX11 210 mX11_playOne 10 := ⟨TX11, 8, rfl, wd_626, wd_628, wd_15⟩
theorem wd_630 : (Cond.methodLink "LiarsAnswers" (239 : Nat) ({ cls := "LiarsAnswers$Code", name := "question", desc := "(I)I" } : MethodName)) ∈ gt := gt_of (List.mem_of_getElem? (i := 630) (by decide +kernel)) (by decide +kernel)
theorem wd_632 : (Cond.selects "LiarsAnswers$Code" ({ cls := "LiarsAnswers$Code", name := "question", desc := "(I)I" } : MethodName) ({ cls := "LiarsAnswers$Code", name := "question", desc := "(I)I" } : MethodName)) ∈ gt := gt_of (List.mem_of_getElem? (i := 632) (by decide +kernel)) (by decide +kernel)
theorem wd_631 : (Cond.instanceMethod ({ cls := "LiarsAnswers$Code", name := "question", desc := "(I)I" } : MethodName)) ∈ gt := gt_of (List.mem_of_getElem? (i := 631) (by decide +kernel)) (by decide +kernel)
theorem c_RX11_239_2 : KV RX11 239 mX2_question 2 := ⟨TX2, 3, rfl, wd_630, wd_631, wd_632⟩
theorem wd_634 : (Cond.methodLink "LiarsAnswersLaw" (100 : Nat) ({ cls := "LiarsAnswers", name := "told", desc := "(I)I" } : MethodName)) ∈ gt := gt_of (List.mem_of_getElem? (i := 634) (by decide +kernel)) (by decide +kernel)
theorem wd_636 : (Cond.selects "LiarsAnswers" ({ cls := "LiarsAnswers", name := "told", desc := "(I)I" } : MethodName) ({ cls := "LiarsAnswers", name := "told", desc := "(I)I" } : MethodName)) ∈ gt := gt_of (List.mem_of_getElem? (i := 636) (by decide +kernel)) (by decide +kernel)
theorem wd_635 : (Cond.instanceMethod ({ cls := "LiarsAnswers", name := "told", desc := "(I)I" } : MethodName)) ∈ gt := gt_of (List.mem_of_getElem? (i := 635) (by decide +kernel)) (by decide +kernel)
theorem c_RL_100_10 : KV RL 100 mX11_told 10 := ⟨TX11, 8, rfl, wd_634, wd_635, wd_636⟩
theorem wd_638 : (Cond.methodLink "LiarsAnswersLaw" (104 : Nat) ({ cls := "LiarsAnswers", name := "trace", desc := "()J" } : MethodName)) ∈ gt := gt_of (List.mem_of_getElem? (i := 638) (by decide +kernel)) (by decide +kernel)
theorem wd_640 : (Cond.selects "LiarsAnswers" ({ cls := "LiarsAnswers", name := "trace", desc := "()J" } : MethodName) ({ cls := "LiarsAnswers", name := "trace", desc := "()J" } : MethodName)) ∈ gt := gt_of (List.mem_of_getElem? (i := 640) (by decide +kernel)) (by decide +kernel)
theorem wd_639 : (Cond.instanceMethod ({ cls := "LiarsAnswers", name := "trace", desc := "()J" } : MethodName)) ∈ gt := gt_of (List.mem_of_getElem? (i := 639) (by decide +kernel)) (by decide +kernel)
theorem c_RL_104_10 : KV RL 104 mX11_trace 10 := ⟨TX11, 8, rfl, wd_638, wd_639, wd_640⟩
theorem wd_644 : (Cond.methodLink "LiarsAnswersLaw" (12 : Nat) ({ cls := "LiarsAnswersModel", name := "<init>", desc := "()V" } : MethodName)) ∈ gt := gt_of (List.mem_of_getElem? (i := 644) (by decide +kernel)) (by decide +kernel)
theorem wd_645 : (Cond.instanceMethod ({ cls := "LiarsAnswersModel", name := "<init>", desc := "()V" } : MethodName)) ∈ gt := gt_of (List.mem_of_getElem? (i := 645) (by decide +kernel)) (by decide +kernel)
theorem c_RL_12 : Cond.methodLink RL 12 mX12_init.1 ∈ gt ∧ Cond.instanceMethod mX12_init.1 ∈ gt ∧ mX12_init.1.name = "<init>" ∧ mX12_init.2.2.2 = none := ⟨wd_644, wd_645, rfl, rfl⟩
theorem wd_647 : (Cond.methodLink "LiarsAnswersModel" (1 : Nat) ({ cls := "java/lang/Object", name := "<init>", desc := "()V" } : MethodName)) ∈ gt := gt_of (List.mem_of_getElem? (i := 647) (by decide +kernel)) (by decide +kernel)
theorem wd_714 : (Cond.methodLink "LiarsAnswersLaw" (22 : Nat) ({ cls := "LiarsAnswersModel", name := "cost", desc := "(IZZ)I" } : MethodName)) ∈ gt := gt_of (List.mem_of_getElem? (i := 714) (by decide +kernel)) (by decide +kernel)
theorem wd_716 : (Cond.selects "LiarsAnswersModel" ({ cls := "LiarsAnswersModel", name := "cost", desc := "(IZZ)I" } : MethodName) ({ cls := "LiarsAnswersModel", name := "cost", desc := "(IZZ)I" } : MethodName)) ∈ gt := gt_of (List.mem_of_getElem? (i := 716) (by decide +kernel)) (by decide +kernel)
theorem wd_715 : (Cond.instanceMethod ({ cls := "LiarsAnswersModel", name := "cost", desc := "(IZZ)I" } : MethodName)) ∈ gt := gt_of (List.mem_of_getElem? (i := 715) (by decide +kernel)) (by decide +kernel)
theorem c_RL_22_11 : KV RL 22 mX12_cost 11 := ⟨TX12, 21, rfl, wd_714, wd_715, wd_716⟩
theorem wd_718 : (Cond.methodLink "LiarsAnswersModel" (53 : Nat) ({ cls := "LiarsAnswersModel", name := "in", desc := "(III)Z" } : MethodName)) ∈ gt := gt_of (List.mem_of_getElem? (i := 718) (by decide +kernel)) (by decide +kernel)
theorem wd_719 : (Cond.static ({ cls := "LiarsAnswersModel", name := "in", desc := "(III)Z" } : MethodName)) ∈ gt := gt_of (List.mem_of_getElem? (i := 719) (by decide +kernel)) (by decide +kernel)
theorem c_RX12_53 : Cond.methodLink RX12 53 mX12_in.1 ∈ gt ∧ Cond.static mX12_in.1 ∈ gt := ⟨wd_718, wd_719⟩
theorem wd_723 : (Cond.methodLink "LiarsAnswersModel" (65 : Nat) ({ cls := "LiarsAnswersModel", name := "costOf", desc := "(IZZ)I" } : MethodName)) ∈ gt := gt_of (List.mem_of_getElem? (i := 723) (by decide +kernel)) (by decide +kernel)
theorem wd_724 : (Cond.static ({ cls := "LiarsAnswersModel", name := "costOf", desc := "(IZZ)I" } : MethodName)) ∈ gt := gt_of (List.mem_of_getElem? (i := 724) (by decide +kernel)) (by decide +kernel)
theorem c_RX12_65 : Cond.methodLink RX12 65 mX12_costOf.1 ∈ gt ∧ Cond.static mX12_costOf.1 ∈ gt := ⟨wd_723, wd_724⟩
theorem wd_726 : (Cond.methodLink "LiarsAnswersLaw" (17 : Nat) ({ cls := "LiarsAnswersModel", name := "begin", desc := "(III)I" } : MethodName)) ∈ gt := gt_of (List.mem_of_getElem? (i := 726) (by decide +kernel)) (by decide +kernel)
theorem wd_728 : (Cond.selects "LiarsAnswersModel" ({ cls := "LiarsAnswersModel", name := "begin", desc := "(III)I" } : MethodName) ({ cls := "LiarsAnswersModel", name := "begin", desc := "(III)I" } : MethodName)) ∈ gt := gt_of (List.mem_of_getElem? (i := 728) (by decide +kernel)) (by decide +kernel)
theorem wd_727 : (Cond.instanceMethod ({ cls := "LiarsAnswersModel", name := "begin", desc := "(III)I" } : MethodName)) ∈ gt := gt_of (List.mem_of_getElem? (i := 727) (by decide +kernel)) (by decide +kernel)
theorem c_RL_17_11 : KV RL 17 mX12_begin 11 := ⟨TX12, 21, rfl, wd_726, wd_727, wd_728⟩
theorem wd_730 : (Cond.methodLink "LiarsAnswersModel" (104 : Nat) ({ cls := "LiarsAnswersModel", name := "worthOf", desc := "([I)I" } : MethodName)) ∈ gt := gt_of (List.mem_of_getElem? (i := 730) (by decide +kernel)) (by decide +kernel)
theorem wd_16 : (Cond.selects "LiarsAnswersModel" ({ cls := "LiarsAnswersModel", name := "worthOf", desc := "([I)I" } : MethodName) ({ cls := "LiarsAnswersModel", name := "worthOf", desc := "([I)I" } : MethodName)) ∈ gt := gt_of (List.mem_of_getElem? (i := 16) (by decide +kernel)) (by decide +kernel)
theorem wd_732 : (Cond.instanceMethod ({ cls := "LiarsAnswersModel", name := "worthOf", desc := "([I)I" } : MethodName)) ∈ gt := gt_of (List.mem_of_getElem? (i := 732) (by decide +kernel)) (by decide +kernel)
theorem c_RX12_104_11 : KV RX12 104 mX12_worthOf 11 := ⟨TX12, 21, rfl, wd_730, wd_732, wd_16⟩
theorem wd_735 : (Cond.methodLink "LiarsAnswersModel" (94 : Nat) ({ cls := "LiarsAnswersModel", name := "levels", desc := "(II)V" } : MethodName)) ∈ gt := gt_of (List.mem_of_getElem? (i := 735) (by decide +kernel)) (by decide +kernel)
theorem wd_17 : (Cond.selects "LiarsAnswersModel" ({ cls := "LiarsAnswersModel", name := "levels", desc := "(II)V" } : MethodName) ({ cls := "LiarsAnswersModel", name := "levels", desc := "(II)V" } : MethodName)) ∈ gt := gt_of (List.mem_of_getElem? (i := 17) (by decide +kernel)) (by decide +kernel)
theorem wd_737 : (Cond.instanceMethod ({ cls := "LiarsAnswersModel", name := "levels", desc := "(II)V" } : MethodName)) ∈ gt := gt_of (List.mem_of_getElem? (i := 737) (by decide +kernel)) (by decide +kernel)
theorem c_RX12_94_11 : KV RX12 94 mX12_levels 11 := ⟨TX12, 21, rfl, wd_735, wd_737, wd_17⟩
theorem wd_739 : (Cond.methodLink "LiarsAnswersModel" (77 : Nat) ({ cls := "LiarsAnswersModel", name := "place", desc := "(IIII)I" } : MethodName)) ∈ gt := gt_of (List.mem_of_getElem? (i := 739) (by decide +kernel)) (by decide +kernel)
theorem wd_740 : (Cond.static ({ cls := "LiarsAnswersModel", name := "place", desc := "(IIII)I" } : MethodName)) ∈ gt := gt_of (List.mem_of_getElem? (i := 740) (by decide +kernel)) (by decide +kernel)
theorem c_RX12_77 : Cond.methodLink RX12 77 mX12_place.1 ∈ gt ∧ Cond.static mX12_place.1 ∈ gt := ⟨wd_739, wd_740⟩
theorem wd_742 : (Cond.methodLink "LiarsAnswersModel" (81 : Nat) ({ cls := "LiarsAnswersModel", name := "mayDo", desc := "(II)Z" } : MethodName)) ∈ gt := gt_of (List.mem_of_getElem? (i := 742) (by decide +kernel)) (by decide +kernel)
theorem wd_18 : (Cond.selects "LiarsAnswersModel" ({ cls := "LiarsAnswersModel", name := "mayDo", desc := "(II)Z" } : MethodName) ({ cls := "LiarsAnswersModel", name := "mayDo", desc := "(II)Z" } : MethodName)) ∈ gt := gt_of (List.mem_of_getElem? (i := 18) (by decide +kernel)) (by decide +kernel)
theorem wd_744 : (Cond.instanceMethod ({ cls := "LiarsAnswersModel", name := "mayDo", desc := "(II)Z" } : MethodName)) ∈ gt := gt_of (List.mem_of_getElem? (i := 744) (by decide +kernel)) (by decide +kernel)
theorem c_RX12_81_11 : KV RX12 81 mX12_mayDo 11 := ⟨TX12, 21, rfl, wd_742, wd_744, wd_18⟩
theorem wd_746 : (Cond.methodLink "LiarsAnswersModel" (85 : Nat) ({ cls := "LiarsAnswersModel", name := "canDo", desc := "(II)Z" } : MethodName)) ∈ gt := gt_of (List.mem_of_getElem? (i := 746) (by decide +kernel)) (by decide +kernel)
theorem wd_19 : (Cond.selects "LiarsAnswersModel" ({ cls := "LiarsAnswersModel", name := "canDo", desc := "(II)Z" } : MethodName) ({ cls := "LiarsAnswersModel", name := "canDo", desc := "(II)Z" } : MethodName)) ∈ gt := gt_of (List.mem_of_getElem? (i := 19) (by decide +kernel)) (by decide +kernel)
theorem wd_748 : (Cond.instanceMethod ({ cls := "LiarsAnswersModel", name := "canDo", desc := "(II)Z" } : MethodName)) ∈ gt := gt_of (List.mem_of_getElem? (i := 748) (by decide +kernel)) (by decide +kernel)
theorem c_RX12_85_11 : KV RX12 85 mX12_canDo 11 := ⟨TX12, 21, rfl, wd_746, wd_748, wd_19⟩
theorem wd_750 : (Cond.methodLink "LiarsAnswersModel" (69 : Nat) ({ cls := "LiarsAnswersModel", name := "behind", desc := "(IZ[I[I)I" } : MethodName)) ∈ gt := gt_of (List.mem_of_getElem? (i := 750) (by decide +kernel)) (by decide +kernel)
theorem wd_751 : (Cond.static ({ cls := "LiarsAnswersModel", name := "behind", desc := "(IZ[I[I)I" } : MethodName)) ∈ gt := gt_of (List.mem_of_getElem? (i := 751) (by decide +kernel)) (by decide +kernel)
theorem c_RX12_69 : Cond.methodLink RX12 69 mX12_behind.1 ∈ gt ∧ Cond.static mX12_behind.1 ∈ gt := ⟨wd_750, wd_751⟩
theorem wd_753 : (Cond.methodLink "LiarsAnswersModel" (73 : Nat) ({ cls := "LiarsAnswersModel", name := "isWithin", desc := "(III)Z" } : MethodName)) ∈ gt := gt_of (List.mem_of_getElem? (i := 753) (by decide +kernel)) (by decide +kernel)
theorem wd_20 : (Cond.selects "LiarsAnswersModel" ({ cls := "LiarsAnswersModel", name := "isWithin", desc := "(III)Z" } : MethodName) ({ cls := "LiarsAnswersModel", name := "isWithin", desc := "(III)Z" } : MethodName)) ∈ gt := gt_of (List.mem_of_getElem? (i := 20) (by decide +kernel)) (by decide +kernel)
theorem wd_755 : (Cond.instanceMethod ({ cls := "LiarsAnswersModel", name := "isWithin", desc := "(III)Z" } : MethodName)) ∈ gt := gt_of (List.mem_of_getElem? (i := 755) (by decide +kernel)) (by decide +kernel)
theorem c_RX12_73_11 : KV RX12 73 mX12_isWithin 11 := ⟨TX12, 21, rfl, wd_753, wd_755, wd_20⟩
theorem wd_757 : (Cond.methodLink "LiarsAnswersModel" (108 : Nat) ({ cls := "LiarsAnswersModel", name := "shown", desc := "(I)I" } : MethodName)) ∈ gt := gt_of (List.mem_of_getElem? (i := 757) (by decide +kernel)) (by decide +kernel)
theorem wd_758 : (Cond.static ({ cls := "LiarsAnswersModel", name := "shown", desc := "(I)I" } : MethodName)) ∈ gt := gt_of (List.mem_of_getElem? (i := 758) (by decide +kernel)) (by decide +kernel)
theorem c_RX12_108 : Cond.methodLink RX12 108 mX12_shown.1 ∈ gt ∧ Cond.static mX12_shown.1 ∈ gt := ⟨wd_757, wd_758⟩
theorem wd_760 : (Cond.methodLink "LiarsAnswersLaw" (27 : Nat) ({ cls := "LiarsAnswersModel", name := "ask", desc := "(I)I" } : MethodName)) ∈ gt := gt_of (List.mem_of_getElem? (i := 760) (by decide +kernel)) (by decide +kernel)
theorem wd_762 : (Cond.selects "LiarsAnswersModel" ({ cls := "LiarsAnswersModel", name := "ask", desc := "(I)I" } : MethodName) ({ cls := "LiarsAnswersModel", name := "ask", desc := "(I)I" } : MethodName)) ∈ gt := gt_of (List.mem_of_getElem? (i := 762) (by decide +kernel)) (by decide +kernel)
theorem wd_761 : (Cond.instanceMethod ({ cls := "LiarsAnswersModel", name := "ask", desc := "(I)I" } : MethodName)) ∈ gt := gt_of (List.mem_of_getElem? (i := 761) (by decide +kernel)) (by decide +kernel)
theorem c_RL_27_11 : KV RL 27 mX12_ask 11 := ⟨TX12, 21, rfl, wd_760, wd_761, wd_762⟩
theorem wd_765 : (Cond.methodLink "LiarsAnswersLaw" (32 : Nat) ({ cls := "LiarsAnswersModel", name := "answer", desc := "(Z)I" } : MethodName)) ∈ gt := gt_of (List.mem_of_getElem? (i := 765) (by decide +kernel)) (by decide +kernel)
theorem wd_767 : (Cond.selects "LiarsAnswersModel" ({ cls := "LiarsAnswersModel", name := "answer", desc := "(Z)I" } : MethodName) ({ cls := "LiarsAnswersModel", name := "answer", desc := "(Z)I" } : MethodName)) ∈ gt := gt_of (List.mem_of_getElem? (i := 767) (by decide +kernel)) (by decide +kernel)
theorem wd_766 : (Cond.instanceMethod ({ cls := "LiarsAnswersModel", name := "answer", desc := "(Z)I" } : MethodName)) ∈ gt := gt_of (List.mem_of_getElem? (i := 766) (by decide +kernel)) (by decide +kernel)
theorem c_RL_32_11 : KV RL 32 mX12_answer 11 := ⟨TX12, 21, rfl, wd_765, wd_766, wd_767⟩
theorem wd_769 : (Cond.methodLink "LiarsAnswersModel" (113 : Nat) ({ cls := "LiarsAnswersModel", name := "tries", desc := "(IZ)I" } : MethodName)) ∈ gt := gt_of (List.mem_of_getElem? (i := 769) (by decide +kernel)) (by decide +kernel)
theorem wd_21 : (Cond.selects "LiarsAnswersModel" ({ cls := "LiarsAnswersModel", name := "tries", desc := "(IZ)I" } : MethodName) ({ cls := "LiarsAnswersModel", name := "tries", desc := "(IZ)I" } : MethodName)) ∈ gt := gt_of (List.mem_of_getElem? (i := 21) (by decide +kernel)) (by decide +kernel)
theorem wd_771 : (Cond.instanceMethod ({ cls := "LiarsAnswersModel", name := "tries", desc := "(IZ)I" } : MethodName)) ∈ gt := gt_of (List.mem_of_getElem? (i := 771) (by decide +kernel)) (by decide +kernel)
theorem c_RX12_113_11 : KV RX12 113 mX12_tries 11 := ⟨TX12, 21, rfl, wd_769, wd_771, wd_21⟩
theorem wd_773 : (Cond.methodLink "LiarsAnswersLaw" (37 : Nat) ({ cls := "LiarsAnswersModel", name := "back", desc := "()I" } : MethodName)) ∈ gt := gt_of (List.mem_of_getElem? (i := 773) (by decide +kernel)) (by decide +kernel)
theorem wd_775 : (Cond.selects "LiarsAnswersModel" ({ cls := "LiarsAnswersModel", name := "back", desc := "()I" } : MethodName) ({ cls := "LiarsAnswersModel", name := "back", desc := "()I" } : MethodName)) ∈ gt := gt_of (List.mem_of_getElem? (i := 775) (by decide +kernel)) (by decide +kernel)
theorem wd_774 : (Cond.instanceMethod ({ cls := "LiarsAnswersModel", name := "back", desc := "()I" } : MethodName)) ∈ gt := gt_of (List.mem_of_getElem? (i := 774) (by decide +kernel)) (by decide +kernel)
theorem c_RL_37_11 : KV RL 37 mX12_back 11 := ⟨TX12, 21, rfl, wd_773, wd_774, wd_775⟩
theorem wd_777 : (Cond.methodLink "LiarsAnswersLaw" (41 : Nat) ({ cls := "LiarsAnswersModel", name := "left", desc := "(I)I" } : MethodName)) ∈ gt := gt_of (List.mem_of_getElem? (i := 777) (by decide +kernel)) (by decide +kernel)
theorem wd_779 : (Cond.selects "LiarsAnswersModel" ({ cls := "LiarsAnswersModel", name := "left", desc := "(I)I" } : MethodName) ({ cls := "LiarsAnswersModel", name := "left", desc := "(I)I" } : MethodName)) ∈ gt := gt_of (List.mem_of_getElem? (i := 779) (by decide +kernel)) (by decide +kernel)
theorem wd_778 : (Cond.instanceMethod ({ cls := "LiarsAnswersModel", name := "left", desc := "(I)I" } : MethodName)) ∈ gt := gt_of (List.mem_of_getElem? (i := 778) (by decide +kernel)) (by decide +kernel)
theorem c_RL_41_11 : KV RL 41 mX12_left 11 := ⟨TX12, 21, rfl, wd_777, wd_778, wd_779⟩
theorem wd_781 : (Cond.methodLink "LiarsAnswersLaw" (45 : Nat) ({ cls := "LiarsAnswersModel", name := "state", desc := "(I)I" } : MethodName)) ∈ gt := gt_of (List.mem_of_getElem? (i := 781) (by decide +kernel)) (by decide +kernel)
theorem wd_783 : (Cond.selects "LiarsAnswersModel" ({ cls := "LiarsAnswersModel", name := "state", desc := "(I)I" } : MethodName) ({ cls := "LiarsAnswersModel", name := "state", desc := "(I)I" } : MethodName)) ∈ gt := gt_of (List.mem_of_getElem? (i := 783) (by decide +kernel)) (by decide +kernel)
theorem wd_782 : (Cond.instanceMethod ({ cls := "LiarsAnswersModel", name := "state", desc := "(I)I" } : MethodName)) ∈ gt := gt_of (List.mem_of_getElem? (i := 782) (by decide +kernel)) (by decide +kernel)
theorem c_RL_45_11 : KV RL 45 mX12_state 11 := ⟨TX12, 21, rfl, wd_781, wd_782, wd_783⟩
theorem wd_785 : (Cond.methodLink "LiarsAnswersLaw" (49 : Nat) ({ cls := "LiarsAnswersModel", name := "found", desc := "()I" } : MethodName)) ∈ gt := gt_of (List.mem_of_getElem? (i := 785) (by decide +kernel)) (by decide +kernel)
theorem wd_787 : (Cond.selects "LiarsAnswersModel" ({ cls := "LiarsAnswersModel", name := "found", desc := "()I" } : MethodName) ({ cls := "LiarsAnswersModel", name := "found", desc := "()I" } : MethodName)) ∈ gt := gt_of (List.mem_of_getElem? (i := 787) (by decide +kernel)) (by decide +kernel)
theorem wd_786 : (Cond.instanceMethod ({ cls := "LiarsAnswersModel", name := "found", desc := "()I" } : MethodName)) ∈ gt := gt_of (List.mem_of_getElem? (i := 786) (by decide +kernel)) (by decide +kernel)
theorem c_RL_49_11 : KV RL 49 mX12_found 11 := ⟨TX12, 21, rfl, wd_785, wd_786, wd_787⟩
theorem wd_789 : (Cond.methodLink "LiarsAnswersModel" (120 : Nat) ({ cls := "LiarsAnswersModel", name := "many", desc := "()I" } : MethodName)) ∈ gt := gt_of (List.mem_of_getElem? (i := 789) (by decide +kernel)) (by decide +kernel)
theorem wd_22 : (Cond.selects "LiarsAnswersModel" ({ cls := "LiarsAnswersModel", name := "many", desc := "()I" } : MethodName) ({ cls := "LiarsAnswersModel", name := "many", desc := "()I" } : MethodName)) ∈ gt := gt_of (List.mem_of_getElem? (i := 22) (by decide +kernel)) (by decide +kernel)
theorem wd_791 : (Cond.instanceMethod ({ cls := "LiarsAnswersModel", name := "many", desc := "()I" } : MethodName)) ∈ gt := gt_of (List.mem_of_getElem? (i := 791) (by decide +kernel)) (by decide +kernel)
theorem c_RX12_120_11 : KV RX12 120 mX12_many 11 := ⟨TX12, 21, rfl, wd_789, wd_791, wd_22⟩
theorem wd_793 : (Cond.methodLink "LiarsAnswersLaw" (53 : Nat) ({ cls := "LiarsAnswersModel", name := "fewest", desc := "()I" } : MethodName)) ∈ gt := gt_of (List.mem_of_getElem? (i := 793) (by decide +kernel)) (by decide +kernel)
theorem wd_795 : (Cond.selects "LiarsAnswersModel" ({ cls := "LiarsAnswersModel", name := "fewest", desc := "()I" } : MethodName) ({ cls := "LiarsAnswersModel", name := "fewest", desc := "()I" } : MethodName)) ∈ gt := gt_of (List.mem_of_getElem? (i := 795) (by decide +kernel)) (by decide +kernel)
theorem wd_794 : (Cond.instanceMethod ({ cls := "LiarsAnswersModel", name := "fewest", desc := "()I" } : MethodName)) ∈ gt := gt_of (List.mem_of_getElem? (i := 794) (by decide +kernel)) (by decide +kernel)
theorem c_RL_53_11 : KV RL 53 mX12_fewest 11 := ⟨TX12, 21, rfl, wd_793, wd_794, wd_795⟩
theorem wd_797 : (Cond.methodLink "LiarsAnswersLaw" (57 : Nat) ({ cls := "LiarsAnswersModel", name := "spans", desc := "()I" } : MethodName)) ∈ gt := gt_of (List.mem_of_getElem? (i := 797) (by decide +kernel)) (by decide +kernel)
theorem wd_799 : (Cond.selects "LiarsAnswersModel" ({ cls := "LiarsAnswersModel", name := "spans", desc := "()I" } : MethodName) ({ cls := "LiarsAnswersModel", name := "spans", desc := "()I" } : MethodName)) ∈ gt := gt_of (List.mem_of_getElem? (i := 799) (by decide +kernel)) (by decide +kernel)
theorem wd_798 : (Cond.instanceMethod ({ cls := "LiarsAnswersModel", name := "spans", desc := "()I" } : MethodName)) ∈ gt := gt_of (List.mem_of_getElem? (i := 798) (by decide +kernel)) (by decide +kernel)
theorem c_RL_57_11 : KV RL 57 mX12_spans 11 := ⟨TX12, 21, rfl, wd_797, wd_798, wd_799⟩
theorem wd_801 : (Cond.methodLink "LiarsAnswersModel" (134 : Nat) ({ cls := "LiarsAnswersModel", name := "knowSpans", desc := "()V" } : MethodName)) ∈ gt := gt_of (List.mem_of_getElem? (i := 801) (by decide +kernel)) (by decide +kernel)
theorem wd_23 : (Cond.selects "LiarsAnswersModel" ({ cls := "LiarsAnswersModel", name := "knowSpans", desc := "()V" } : MethodName) ({ cls := "LiarsAnswersModel", name := "knowSpans", desc := "()V" } : MethodName)) ∈ gt := gt_of (List.mem_of_getElem? (i := 23) (by decide +kernel)) (by decide +kernel)
theorem wd_803 : (Cond.instanceMethod ({ cls := "LiarsAnswersModel", name := "knowSpans", desc := "()V" } : MethodName)) ∈ gt := gt_of (List.mem_of_getElem? (i := 803) (by decide +kernel)) (by decide +kernel)
theorem c_RX12_134_11 : KV RX12 134 mX12_knowSpans 11 := ⟨TX12, 21, rfl, wd_801, wd_803, wd_23⟩
theorem wd_805 : (Cond.methodLink "LiarsAnswersModel" (131 : Nat) ({ cls := "LiarsAnswersModel", name := "canSpan", desc := "(II)Z" } : MethodName)) ∈ gt := gt_of (List.mem_of_getElem? (i := 805) (by decide +kernel)) (by decide +kernel)
theorem wd_24 : (Cond.selects "LiarsAnswersModel" ({ cls := "LiarsAnswersModel", name := "canSpan", desc := "(II)Z" } : MethodName) ({ cls := "LiarsAnswersModel", name := "canSpan", desc := "(II)Z" } : MethodName)) ∈ gt := gt_of (List.mem_of_getElem? (i := 24) (by decide +kernel)) (by decide +kernel)
theorem wd_807 : (Cond.instanceMethod ({ cls := "LiarsAnswersModel", name := "canSpan", desc := "(II)Z" } : MethodName)) ∈ gt := gt_of (List.mem_of_getElem? (i := 807) (by decide +kernel)) (by decide +kernel)
theorem c_RX12_131_11 : KV RX12 131 mX12_canSpan 11 := ⟨TX12, 21, rfl, wd_805, wd_807, wd_24⟩
theorem wd_809 : (Cond.methodLink "LiarsAnswersModel" (124 : Nat) ({ cls := "LiarsAnswersModel", name := "spanBehind", desc := "(IIIZ)I" } : MethodName)) ∈ gt := gt_of (List.mem_of_getElem? (i := 809) (by decide +kernel)) (by decide +kernel)
theorem wd_25 : (Cond.selects "LiarsAnswersModel" ({ cls := "LiarsAnswersModel", name := "spanBehind", desc := "(IIIZ)I" } : MethodName) ({ cls := "LiarsAnswersModel", name := "spanBehind", desc := "(IIIZ)I" } : MethodName)) ∈ gt := gt_of (List.mem_of_getElem? (i := 25) (by decide +kernel)) (by decide +kernel)
theorem wd_811 : (Cond.instanceMethod ({ cls := "LiarsAnswersModel", name := "spanBehind", desc := "(IIIZ)I" } : MethodName)) ∈ gt := gt_of (List.mem_of_getElem? (i := 811) (by decide +kernel)) (by decide +kernel)
theorem c_RX12_124_11 : KV RX12 124 mX12_spanBehind 11 := ⟨TX12, 21, rfl, wd_809, wd_811, wd_25⟩
theorem wd_813 : (Cond.methodLink "LiarsAnswersLaw" (62 : Nat) ({ cls := "LiarsAnswersModel", name := "weight", desc := "(I)J" } : MethodName)) ∈ gt := gt_of (List.mem_of_getElem? (i := 813) (by decide +kernel)) (by decide +kernel)
theorem wd_815 : (Cond.selects "LiarsAnswersModel" ({ cls := "LiarsAnswersModel", name := "weight", desc := "(I)J" } : MethodName) ({ cls := "LiarsAnswersModel", name := "weight", desc := "(I)J" } : MethodName)) ∈ gt := gt_of (List.mem_of_getElem? (i := 815) (by decide +kernel)) (by decide +kernel)
theorem wd_814 : (Cond.instanceMethod ({ cls := "LiarsAnswersModel", name := "weight", desc := "(I)J" } : MethodName)) ∈ gt := gt_of (List.mem_of_getElem? (i := 814) (by decide +kernel)) (by decide +kernel)
theorem c_RL_62_11 : KV RL 62 mX12_weight 11 := ⟨TX12, 21, rfl, wd_813, wd_814, wd_815⟩
theorem wd_818 : (Cond.methodLink "LiarsAnswersModel" (139 : Nat) ({ cls := "LiarsAnswersModel", name := "choose", desc := "(II)J" } : MethodName)) ∈ gt := gt_of (List.mem_of_getElem? (i := 818) (by decide +kernel)) (by decide +kernel)
theorem wd_819 : (Cond.static ({ cls := "LiarsAnswersModel", name := "choose", desc := "(II)J" } : MethodName)) ∈ gt := gt_of (List.mem_of_getElem? (i := 819) (by decide +kernel)) (by decide +kernel)
theorem c_RX12_139 : Cond.methodLink RX12 139 mX12_choose.1 ∈ gt ∧ Cond.static mX12_choose.1 ∈ gt := ⟨wd_818, wd_819⟩
theorem wd_821 : (Cond.methodLink "LiarsAnswersLaw" (66 : Nat) ({ cls := "LiarsAnswersModel", name := "best", desc := "()I" } : MethodName)) ∈ gt := gt_of (List.mem_of_getElem? (i := 821) (by decide +kernel)) (by decide +kernel)
theorem wd_823 : (Cond.selects "LiarsAnswersModel" ({ cls := "LiarsAnswersModel", name := "best", desc := "()I" } : MethodName) ({ cls := "LiarsAnswersModel", name := "best", desc := "()I" } : MethodName)) ∈ gt := gt_of (List.mem_of_getElem? (i := 823) (by decide +kernel)) (by decide +kernel)
theorem wd_822 : (Cond.instanceMethod ({ cls := "LiarsAnswersModel", name := "best", desc := "()I" } : MethodName)) ∈ gt := gt_of (List.mem_of_getElem? (i := 822) (by decide +kernel)) (by decide +kernel)
theorem c_RL_66_11 : KV RL 66 mX12_best 11 := ⟨TX12, 21, rfl, wd_821, wd_822, wd_823⟩
theorem wd_825 : (Cond.methodLink "LiarsAnswersModel" (143 : Nat) ({ cls := "LiarsAnswersModel", name := "greater", desc := "(I)I" } : MethodName)) ∈ gt := gt_of (List.mem_of_getElem? (i := 825) (by decide +kernel)) (by decide +kernel)
theorem wd_26 : (Cond.selects "LiarsAnswersModel" ({ cls := "LiarsAnswersModel", name := "greater", desc := "(I)I" } : MethodName) ({ cls := "LiarsAnswersModel", name := "greater", desc := "(I)I" } : MethodName)) ∈ gt := gt_of (List.mem_of_getElem? (i := 26) (by decide +kernel)) (by decide +kernel)
theorem wd_827 : (Cond.instanceMethod ({ cls := "LiarsAnswersModel", name := "greater", desc := "(I)I" } : MethodName)) ∈ gt := gt_of (List.mem_of_getElem? (i := 827) (by decide +kernel)) (by decide +kernel)
theorem c_RX12_143_11 : KV RX12 143 mX12_greater 11 := ⟨TX12, 21, rfl, wd_825, wd_827, wd_26⟩
theorem wd_829 : (Cond.methodLink "LiarsAnswersLaw" (70 : Nat) ({ cls := "LiarsAnswersModel", name := "worse", desc := "()I" } : MethodName)) ∈ gt := gt_of (List.mem_of_getElem? (i := 829) (by decide +kernel)) (by decide +kernel)
theorem wd_831 : (Cond.selects "LiarsAnswersModel" ({ cls := "LiarsAnswersModel", name := "worse", desc := "()I" } : MethodName) ({ cls := "LiarsAnswersModel", name := "worse", desc := "()I" } : MethodName)) ∈ gt := gt_of (List.mem_of_getElem? (i := 831) (by decide +kernel)) (by decide +kernel)
theorem wd_830 : (Cond.instanceMethod ({ cls := "LiarsAnswersModel", name := "worse", desc := "()I" } : MethodName)) ∈ gt := gt_of (List.mem_of_getElem? (i := 830) (by decide +kernel)) (by decide +kernel)
theorem c_RL_70_11 : KV RL 70 mX12_worse 11 := ⟨TX12, 21, rfl, wd_829, wd_830, wd_831⟩
theorem wd_833 : (Cond.methodLink "LiarsAnswersLaw" (74 : Nat) ({ cls := "LiarsAnswersModel", name := "set", desc := "(I)I" } : MethodName)) ∈ gt := gt_of (List.mem_of_getElem? (i := 833) (by decide +kernel)) (by decide +kernel)
theorem wd_835 : (Cond.selects "LiarsAnswersModel" ({ cls := "LiarsAnswersModel", name := "set", desc := "(I)I" } : MethodName) ({ cls := "LiarsAnswersModel", name := "set", desc := "(I)I" } : MethodName)) ∈ gt := gt_of (List.mem_of_getElem? (i := 835) (by decide +kernel)) (by decide +kernel)
theorem wd_834 : (Cond.instanceMethod ({ cls := "LiarsAnswersModel", name := "set", desc := "(I)I" } : MethodName)) ∈ gt := gt_of (List.mem_of_getElem? (i := 834) (by decide +kernel)) (by decide +kernel)
theorem c_RL_74_11 : KV RL 74 mX12_set 11 := ⟨TX12, 21, rfl, wd_833, wd_834, wd_835⟩
theorem wd_837 : (Cond.methodLink "LiarsAnswersLaw" (78 : Nat) ({ cls := "LiarsAnswersModel", name := "drop", desc := "()I" } : MethodName)) ∈ gt := gt_of (List.mem_of_getElem? (i := 837) (by decide +kernel)) (by decide +kernel)
theorem wd_839 : (Cond.selects "LiarsAnswersModel" ({ cls := "LiarsAnswersModel", name := "drop", desc := "()I" } : MethodName) ({ cls := "LiarsAnswersModel", name := "drop", desc := "()I" } : MethodName)) ∈ gt := gt_of (List.mem_of_getElem? (i := 839) (by decide +kernel)) (by decide +kernel)
theorem wd_838 : (Cond.instanceMethod ({ cls := "LiarsAnswersModel", name := "drop", desc := "()I" } : MethodName)) ∈ gt := gt_of (List.mem_of_getElem? (i := 838) (by decide +kernel)) (by decide +kernel)
theorem c_RL_78_11 : KV RL 78 mX12_drop 11 := ⟨TX12, 21, rfl, wd_837, wd_838, wd_839⟩
theorem wd_841 : (Cond.methodLink "LiarsAnswersLaw" (82 : Nat) ({ cls := "LiarsAnswersModel", name := "word", desc := "(I)I" } : MethodName)) ∈ gt := gt_of (List.mem_of_getElem? (i := 841) (by decide +kernel)) (by decide +kernel)
theorem wd_843 : (Cond.selects "LiarsAnswersModel" ({ cls := "LiarsAnswersModel", name := "word", desc := "(I)I" } : MethodName) ({ cls := "LiarsAnswersModel", name := "word", desc := "(I)I" } : MethodName)) ∈ gt := gt_of (List.mem_of_getElem? (i := 843) (by decide +kernel)) (by decide +kernel)
theorem wd_842 : (Cond.instanceMethod ({ cls := "LiarsAnswersModel", name := "word", desc := "(I)I" } : MethodName)) ∈ gt := gt_of (List.mem_of_getElem? (i := 842) (by decide +kernel)) (by decide +kernel)
theorem c_RL_82_11 : KV RL 82 mX12_word 11 := ⟨TX12, 21, rfl, wd_841, wd_842, wd_843⟩
theorem wd_845 : (Cond.methodLink "LiarsAnswersModel" (149 : Nat) ({ cls := "LiarsAnswersModel", name := "isNumber", desc := "(I)Z" } : MethodName)) ∈ gt := gt_of (List.mem_of_getElem? (i := 845) (by decide +kernel)) (by decide +kernel)
theorem wd_846 : (Cond.static ({ cls := "LiarsAnswersModel", name := "isNumber", desc := "(I)Z" } : MethodName)) ∈ gt := gt_of (List.mem_of_getElem? (i := 846) (by decide +kernel)) (by decide +kernel)
theorem c_RX12_149 : Cond.methodLink RX12 149 mX12_isNumber.1 ∈ gt ∧ Cond.static mX12_isNumber.1 ∈ gt := ⟨wd_845, wd_846⟩
theorem wd_848 : (Cond.methodLink "LiarsAnswersModel" (153 : Nat) ({ cls := "LiarsAnswersModel", name := "wordOf", desc := "(I)I" } : MethodName)) ∈ gt := gt_of (List.mem_of_getElem? (i := 848) (by decide +kernel)) (by decide +kernel)
theorem wd_27 : (Cond.selects "LiarsAnswersModel" ({ cls := "LiarsAnswersModel", name := "wordOf", desc := "(I)I" } : MethodName) ({ cls := "LiarsAnswersModel", name := "wordOf", desc := "(I)I" } : MethodName)) ∈ gt := gt_of (List.mem_of_getElem? (i := 27) (by decide +kernel)) (by decide +kernel)
theorem wd_850 : (Cond.instanceMethod ({ cls := "LiarsAnswersModel", name := "wordOf", desc := "(I)I" } : MethodName)) ∈ gt := gt_of (List.mem_of_getElem? (i := 850) (by decide +kernel)) (by decide +kernel)
theorem c_RX12_153_11 : KV RX12 153 mX12_wordOf 11 := ⟨TX12, 21, rfl, wd_848, wd_850, wd_27⟩
theorem wd_852 : (Cond.methodLink "LiarsAnswersLaw" (87 : Nat) ({ cls := "LiarsAnswersModel", name := "apart", desc := "(II)I" } : MethodName)) ∈ gt := gt_of (List.mem_of_getElem? (i := 852) (by decide +kernel)) (by decide +kernel)
theorem wd_854 : (Cond.selects "LiarsAnswersModel" ({ cls := "LiarsAnswersModel", name := "apart", desc := "(II)I" } : MethodName) ({ cls := "LiarsAnswersModel", name := "apart", desc := "(II)I" } : MethodName)) ∈ gt := gt_of (List.mem_of_getElem? (i := 854) (by decide +kernel)) (by decide +kernel)
theorem wd_853 : (Cond.instanceMethod ({ cls := "LiarsAnswersModel", name := "apart", desc := "(II)I" } : MethodName)) ∈ gt := gt_of (List.mem_of_getElem? (i := 853) (by decide +kernel)) (by decide +kernel)
theorem c_RL_87_11 : KV RL 87 mX12_apart 11 := ⟨TX12, 21, rfl, wd_852, wd_853, wd_854⟩
theorem wd_856 : (Cond.methodLink "LiarsAnswersModel" (156 : Nat) ({ cls := "LiarsAnswersModel", name := "ones", desc := "(I)I" } : MethodName)) ∈ gt := gt_of (List.mem_of_getElem? (i := 856) (by decide +kernel)) (by decide +kernel)
theorem wd_857 : (Cond.static ({ cls := "LiarsAnswersModel", name := "ones", desc := "(I)I" } : MethodName)) ∈ gt := gt_of (List.mem_of_getElem? (i := 857) (by decide +kernel)) (by decide +kernel)
theorem c_RX12_156 : Cond.methodLink RX12 156 mX12_ones.1 ∈ gt ∧ Cond.static mX12_ones.1 ∈ gt := ⟨wd_856, wd_857⟩
theorem wd_859 : (Cond.methodLink "LiarsAnswersLaw" (91 : Nat) ({ cls := "LiarsAnswersModel", name := "serves", desc := "(II)I" } : MethodName)) ∈ gt := gt_of (List.mem_of_getElem? (i := 859) (by decide +kernel)) (by decide +kernel)
theorem wd_861 : (Cond.selects "LiarsAnswersModel" ({ cls := "LiarsAnswersModel", name := "serves", desc := "(II)I" } : MethodName) ({ cls := "LiarsAnswersModel", name := "serves", desc := "(II)I" } : MethodName)) ∈ gt := gt_of (List.mem_of_getElem? (i := 861) (by decide +kernel)) (by decide +kernel)
theorem wd_860 : (Cond.instanceMethod ({ cls := "LiarsAnswersModel", name := "serves", desc := "(II)I" } : MethodName)) ∈ gt := gt_of (List.mem_of_getElem? (i := 860) (by decide +kernel)) (by decide +kernel)
theorem c_RL_91_11 : KV RL 91 mX12_serves 11 := ⟨TX12, 21, rfl, wd_859, wd_860, wd_861⟩
theorem wd_863 : (Cond.methodLink "LiarsAnswersLaw" (95 : Nat) ({ cls := "LiarsAnswersModel", name := "read", desc := "(III)I" } : MethodName)) ∈ gt := gt_of (List.mem_of_getElem? (i := 863) (by decide +kernel)) (by decide +kernel)
theorem wd_865 : (Cond.selects "LiarsAnswersModel" ({ cls := "LiarsAnswersModel", name := "read", desc := "(III)I" } : MethodName) ({ cls := "LiarsAnswersModel", name := "read", desc := "(III)I" } : MethodName)) ∈ gt := gt_of (List.mem_of_getElem? (i := 865) (by decide +kernel)) (by decide +kernel)
theorem wd_864 : (Cond.instanceMethod ({ cls := "LiarsAnswersModel", name := "read", desc := "(III)I" } : MethodName)) ∈ gt := gt_of (List.mem_of_getElem? (i := 864) (by decide +kernel)) (by decide +kernel)
theorem c_RL_95_11 : KV RL 95 mX12_read 11 := ⟨TX12, 21, rfl, wd_863, wd_864, wd_865⟩
theorem wd_867 : (Cond.methodLink "LiarsAnswersModel" (159 : Nat) ({ cls := "LiarsAnswersModel", name := "isWord", desc := "(I)Z" } : MethodName)) ∈ gt := gt_of (List.mem_of_getElem? (i := 867) (by decide +kernel)) (by decide +kernel)
theorem wd_28 : (Cond.selects "LiarsAnswersModel" ({ cls := "LiarsAnswersModel", name := "isWord", desc := "(I)Z" } : MethodName) ({ cls := "LiarsAnswersModel", name := "isWord", desc := "(I)Z" } : MethodName)) ∈ gt := gt_of (List.mem_of_getElem? (i := 28) (by decide +kernel)) (by decide +kernel)
theorem wd_869 : (Cond.instanceMethod ({ cls := "LiarsAnswersModel", name := "isWord", desc := "(I)Z" } : MethodName)) ∈ gt := gt_of (List.mem_of_getElem? (i := 869) (by decide +kernel)) (by decide +kernel)
theorem c_RX12_159_11 : KV RX12 159 mX12_isWord 11 := ⟨TX12, 21, rfl, wd_867, wd_869, wd_28⟩
theorem wd_871 : (Cond.methodLink "LiarsAnswersLaw" (99 : Nat) ({ cls := "LiarsAnswersModel", name := "play", desc := "(I)I" } : MethodName)) ∈ gt := gt_of (List.mem_of_getElem? (i := 871) (by decide +kernel)) (by decide +kernel)
theorem wd_873 : (Cond.selects "LiarsAnswersModel" ({ cls := "LiarsAnswersModel", name := "play", desc := "(I)I" } : MethodName) ({ cls := "LiarsAnswersModel", name := "play", desc := "(I)I" } : MethodName)) ∈ gt := gt_of (List.mem_of_getElem? (i := 873) (by decide +kernel)) (by decide +kernel)
theorem wd_872 : (Cond.instanceMethod ({ cls := "LiarsAnswersModel", name := "play", desc := "(I)I" } : MethodName)) ∈ gt := gt_of (List.mem_of_getElem? (i := 872) (by decide +kernel)) (by decide +kernel)
theorem c_RL_99_11 : KV RL 99 mX12_play 11 := ⟨TX12, 21, rfl, wd_871, wd_872, wd_873⟩
theorem wd_875 : (Cond.methodLink "LiarsAnswersModel" (162 : Nat) ({ cls := "LiarsAnswersModel", name := "answer", desc := "(Z)I" } : MethodName)) ∈ gt := gt_of (List.mem_of_getElem? (i := 875) (by decide +kernel)) (by decide +kernel)
theorem c_RX12_162_11 : KV RX12 162 mX12_answer 11 := ⟨TX12, 21, rfl, wd_875, wd_766, wd_767⟩
theorem wd_876 : (Cond.methodLink "LiarsAnswersLaw" (103 : Nat) ({ cls := "LiarsAnswersModel", name := "told", desc := "(I)I" } : MethodName)) ∈ gt := gt_of (List.mem_of_getElem? (i := 876) (by decide +kernel)) (by decide +kernel)
theorem wd_878 : (Cond.selects "LiarsAnswersModel" ({ cls := "LiarsAnswersModel", name := "told", desc := "(I)I" } : MethodName) ({ cls := "LiarsAnswersModel", name := "told", desc := "(I)I" } : MethodName)) ∈ gt := gt_of (List.mem_of_getElem? (i := 878) (by decide +kernel)) (by decide +kernel)
theorem wd_877 : (Cond.instanceMethod ({ cls := "LiarsAnswersModel", name := "told", desc := "(I)I" } : MethodName)) ∈ gt := gt_of (List.mem_of_getElem? (i := 877) (by decide +kernel)) (by decide +kernel)
theorem c_RL_103_11 : KV RL 103 mX12_told 11 := ⟨TX12, 21, rfl, wd_876, wd_877, wd_878⟩
theorem wd_880 : (Cond.methodLink "LiarsAnswersLaw" (108 : Nat) ({ cls := "LiarsAnswersModel", name := "trace", desc := "()J" } : MethodName)) ∈ gt := gt_of (List.mem_of_getElem? (i := 880) (by decide +kernel)) (by decide +kernel)
theorem wd_882 : (Cond.selects "LiarsAnswersModel" ({ cls := "LiarsAnswersModel", name := "trace", desc := "()J" } : MethodName) ({ cls := "LiarsAnswersModel", name := "trace", desc := "()J" } : MethodName)) ∈ gt := gt_of (List.mem_of_getElem? (i := 882) (by decide +kernel)) (by decide +kernel)
theorem wd_881 : (Cond.instanceMethod ({ cls := "LiarsAnswersModel", name := "trace", desc := "()J" } : MethodName)) ∈ gt := gt_of (List.mem_of_getElem? (i := 881) (by decide +kernel)) (by decide +kernel)
theorem c_RL_108_11 : KV RL 108 mX12_trace 11 := ⟨TX12, 21, rfl, wd_880, wd_881, wd_882⟩
theorem wn_54 : (Cond.arrayOver (FieldType.object "LiarsAnswers$Liar")) ∈ lw_tbl := List.mem_of_getElem? (i := 54) (by decide +kernel)
theorem wn_90 : (Cond.arrayOver (FieldType.object "LiarsAnswers$HeapTable")) ∈ lw_tbl := List.mem_of_getElem? (i := 90) (by decide +kernel)
theorem wn_92 : (Cond.arrayOver (FieldType.object "LiarsAnswers$SpanTable")) ∈ lw_tbl := List.mem_of_getElem? (i := 92) (by decide +kernel)
theorem wd_134 : (Cond.arrayClass FieldType.int) ∈ gt := gt_of (List.mem_of_getElem? (i := 134) (by decide +kernel)) (by decide +kernel)
theorem wd_201 : (Cond.constantLong "LiarsAnswers$BothLiar" (15 : Nat) (10 : Int64)) ∈ gt := gt_of (List.mem_of_getElem? (i := 201) (by decide +kernel)) (by decide +kernel)
theorem wd_206 : (Cond.constantLong "LiarsAnswers$YesLiar" (15 : Nat) (100 : Int64)) ∈ gt := gt_of (List.mem_of_getElem? (i := 206) (by decide +kernel)) (by decide +kernel)
theorem wd_391 : (Cond.constant "LiarsAnswers" (217 : Nat) (65535 : Int32)) ∈ gt := gt_of (List.mem_of_getElem? (i := 391) (by decide +kernel)) (by decide +kernel)
theorem wd_513 : (Cond.constant "java/lang/Integer" (265 : Nat) (1431655765 : Int32)) ∈ gt := gt_of (List.mem_of_getElem? (i := 513) (by decide +kernel)) (by decide +kernel)
theorem wd_514 : (Cond.constant "java/lang/Integer" (266 : Nat) (858993459 : Int32)) ∈ gt := gt_of (List.mem_of_getElem? (i := 514) (by decide +kernel)) (by decide +kernel)
theorem wd_515 : (Cond.constant "java/lang/Integer" (267 : Nat) (252645135 : Int32)) ∈ gt := gt_of (List.mem_of_getElem? (i := 515) (by decide +kernel)) (by decide +kernel)
theorem wd_535 : (Cond.constantLong "LiarsAnswers" (160 : Nat) (-1 : Int64)) ∈ gt := gt_of (List.mem_of_getElem? (i := 535) (by decide +kernel)) (by decide +kernel)
theorem wd_557 : (Cond.constant "LiarsAnswers$LeastHeap" (26 : Nat) (65535 : Int32)) ∈ gt := gt_of (List.mem_of_getElem? (i := 557) (by decide +kernel)) (by decide +kernel)
theorem wd_648 : (Cond.constant "LiarsAnswersModel" (23 : Nat) (250563 : Int32)) ∈ gt := gt_of (List.mem_of_getElem? (i := 648) (by decide +kernel)) (by decide +kernel)
theorem wd_713 : (Cond.arrayClass FieldType.byte) ∈ gt := gt_of (List.mem_of_getElem? (i := 713) (by decide +kernel)) (by decide +kernel)
theorem wd_721 : (Cond.constantLong "LiarsAnswersModel" (61 : Nat) (11 : Int64)) ∈ gt := gt_of (List.mem_of_getElem? (i := 721) (by decide +kernel)) (by decide +kernel)
theorem wd_722 : (Cond.constantLong "LiarsAnswersModel" (63 : Nat) (111 : Int64)) ∈ gt := gt_of (List.mem_of_getElem? (i := 722) (by decide +kernel)) (by decide +kernel)
theorem wd_734 : (Cond.constant "LiarsAnswersModel" (76 : Nat) (83521 : Int32)) ∈ gt := gt_of (List.mem_of_getElem? (i := 734) (by decide +kernel)) (by decide +kernel)
theorem wd_764 : (Cond.constant "LiarsAnswersModel" (112 : Nat) (65535 : Int32)) ∈ gt := gt_of (List.mem_of_getElem? (i := 764) (by decide +kernel)) (by decide +kernel)
theorem wd_817 : (Cond.constantLong "LiarsAnswersModel" (137 : Nat) (-1 : Int64)) ∈ gt := gt_of (List.mem_of_getElem? (i := 817) (by decide +kernel)) (by decide +kernel)
theorem wn_886 : (Cond.castable "LiarsAnswers$BothLiar" "LiarsAnswers$Liar") ∈ lw_tbl := List.mem_of_getElem? (i := 886) (by decide +kernel)
theorem wn_887 : (Cond.castable "LiarsAnswers$YesLiar" "LiarsAnswers$Liar") ∈ lw_tbl := List.mem_of_getElem? (i := 887) (by decide +kernel)
theorem wd_221 : (Cond.static ({ cls := "java/lang/Math", name := "max", desc := "(II)I" } : MethodName)) ∈ gt := gt_of (List.mem_of_getElem? (i := 221) (by decide +kernel)) (by decide +kernel)
theorem ks_max : Cond.static Lib.Math.max.name ∈ gt ∧ Cond.initialized "java/lang/Math" ∈ gt ∧ Cond.code Lib.Math.max.name Lib.Math.max.code 2 (some .int) ∈ gt := ⟨wd_221, wd_38, wd_222⟩
theorem wd_218 : (Cond.static ({ cls := "java/lang/Math", name := "min", desc := "(II)I" } : MethodName)) ∈ gt := gt_of (List.mem_of_getElem? (i := 218) (by decide +kernel)) (by decide +kernel)
theorem ks_min : Cond.static Lib.Math.min.name ∈ gt ∧ Cond.initialized "java/lang/Math" ∈ gt ∧ Cond.code Lib.Math.min.name Lib.Math.min.code 2 (some .int) ∈ gt := ⟨wd_218, wd_38, wd_219⟩
theorem wd_51 : (Cond.instanceMethod ({ cls := "java/lang/Object", name := "<init>", desc := "()V" } : MethodName)) ∈ gt := gt_of (List.mem_of_getElem? (i := 51) (by decide +kernel)) (by decide +kernel)
theorem wd_52 : (Cond.code ({ cls := "java/lang/Object", name := "<init>", desc := "()V" } : MethodName) object_method_1_code (1 : Nat) (Option.none : Option FieldType)) ∈ gt := gt_of (List.mem_of_getElem? (i := 52) (by decide +kernel)) (by decide +kernel)
theorem ks_obj : Cond.instanceMethod Lib.objectInit ∈ gt ∧ Cond.code Lib.objectInit ⟨#[0xb1]⟩ 1 none ∈ gt := ⟨wd_51, wd_52⟩
