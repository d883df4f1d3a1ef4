/-! methods: bytes, names, what the tables say -/
theorem wi_11 : Cond.initialized RX11 ∈ wT := (inT1 (List.mem_of_getElem? (i := 1) rfl) rfl)
theorem wi_0 : Cond.initialized RX0 ∈ wT := (inT1 (List.mem_of_getElem? (i := 8) rfl) rfl)
theorem wi_1 : Cond.initialized RX1 ∈ wT := (inT1 (List.mem_of_getElem? (i := 18) rfl) rfl)
theorem wi_2 : Cond.initialized RX2 ∈ wT := (inT1 (List.mem_of_getElem? (i := 11) rfl) rfl)
theorem wi_3 : Cond.initialized RX3 ∈ wT := (inT1 (List.mem_of_getElem? (i := 7) rfl) rfl)
theorem wi_4 : Cond.initialized RX4 ∈ wT := (inT1 (List.mem_of_getElem? (i := 10) rfl) rfl)
theorem wi_5 : Cond.initialized RX5 ∈ wT := (inT1 (List.mem_of_getElem? (i := 4) rfl) rfl)
theorem wi_6 : Cond.initialized RX6 ∈ wT := (inT1 (List.mem_of_getElem? (i := 5) rfl) rfl)
theorem wi_7 : Cond.initialized RX7 ∈ wT := (inT1 (List.mem_of_getElem? (i := 20) rfl) rfl)
theorem wi_8 : Cond.initialized RX8 ∈ wT := (inT1 (List.mem_of_getElem? (i := 2) rfl) rfl)
theorem wi_9 : Cond.initialized RX9 ∈ wT := (inT1 (List.mem_of_getElem? (i := 9) rfl) rfl)
theorem wi_10 : Cond.initialized RX10 ∈ wT := (inT1 (List.mem_of_getElem? (i := 6) rfl) rfl)
theorem wi_12 : Cond.initialized RX12 ∈ wT := (inT1 (List.mem_of_getElem? (i := 12) rfl) rfl)
theorem wi_Integer : Cond.initialized "java/lang/Integer" ∈ wT := (inT1 (List.mem_of_getElem? (i := 21) rfl) rfl)
theorem wi_Math : Cond.initialized "java/lang/Math" ∈ wT := (inT1 (List.mem_of_getElem? (i := 13) rfl) rfl)
theorem wi_Arrays : Cond.initialized "java/util/Arrays" ∈ wT := (inT1 (List.mem_of_getElem? (i := 3) rfl) rfl)
def yX0_init : MethodName := ⟨RX0, "<init>", "(LNamelessPost$State;LNamelessPost$Past;LNamelessPost$Ways;LNamelessPost$Fitter;)V"⟩
abbrev mX0_init : Md := (yX0_init, cX0_init, 5, none)
theorem mo_X0_init : MdOk mX0_init 4 := ⟨(inL1 (List.mem_of_getElem? (i := 224) rfl)), wi_0, by decide +kernel, ⟨by decide +kernel, by decide +kernel⟩, by decide +kernel, by decide⟩
def yX0_ask : MethodName := ⟨RX0, "ask", "(LNamelessPost$Cover;IIII)V"⟩
abbrev mX0_ask : Md := (yX0_ask, cX0_ask, 13, none)
theorem mo_X0_ask : MdOk mX0_ask 5 := ⟨(inL4 (List.mem_of_getElem? (i := 95) rfl)), wi_0, by decide +kernel, ⟨by decide +kernel, by decide +kernel⟩, by decide +kernel, by decide⟩
def yX0_choose : MethodName := ⟨RX0, "choose", "(LNamelessPost$Cover;IIII)V"⟩
abbrev mX0_choose : Md := (yX0_choose, cX0_choose, 12, none)
theorem mo_X0_choose : MdOk mX0_choose 5 := ⟨(inL4 (List.mem_of_getElem? (i := 163) rfl)), wi_0, by decide +kernel, ⟨by decide +kernel, by decide +kernel⟩, by decide +kernel, by decide⟩
def yX0_askOn : MethodName := ⟨RX0, "askOn", "(LNamelessPost$Letter;)I"⟩
abbrev mX0_askOn : Md := (yX0_askOn, cX0_askOn, 3, (some FieldType.int))
theorem mo_X0_askOn : MdOk mX0_askOn 1 := ⟨(inL4 (List.mem_of_getElem? (i := 127) rfl)), wi_0, by decide +kernel, ⟨by decide +kernel, by decide +kernel⟩, by decide +kernel, by decide⟩
def yX0_nearestNew : MethodName := ⟨RX0, "nearestNew", "(LNamelessPost$Letter;)I"⟩
abbrev mX0_nearestNew : Md := (yX0_nearestNew, cX0_nearestNew, 6, (some FieldType.int))
theorem mo_X0_nearestNew : MdOk mX0_nearestNew 1 := ⟨(inL4 (List.mem_of_getElem? (i := 132) rfl)), wi_0, by decide +kernel, ⟨by decide +kernel, by decide +kernel⟩, by decide +kernel, by decide⟩
def yX0_comesInTime : MethodName := ⟨RX0, "comesInTime", "(LNamelessPost$Letter;I)Z"⟩
abbrev mX0_comesInTime : Md := (yX0_comesInTime, cX0_comesInTime, 3, (some FieldType.boolean))
theorem mo_X0_comesInTime : MdOk mX0_comesInTime 2 := ⟨(inL4 (List.mem_of_getElem? (i := 204) rfl)), wi_0, by decide +kernel, ⟨by decide +kernel, by decide +kernel⟩, by decide +kernel, by decide⟩
def yX0_goTo : MethodName := ⟨RX0, "goTo", "(LNamelessPost$Letter;I)V"⟩
abbrev mX0_goTo : Md := (yX0_goTo, cX0_goTo, 3, none)
theorem mo_X0_goTo : MdOk mX0_goTo 2 := ⟨(inL4 (List.mem_of_getElem? (i := 136) rfl)), wi_0, by decide +kernel, ⟨by decide +kernel, by decide +kernel⟩, by decide +kernel, by decide⟩
def yX0_oneDay : MethodName := ⟨RX0, "oneDay", "()V"⟩
abbrev mX0_oneDay : Md := (yX0_oneDay, cX0_oneDay, 4, none)
theorem mo_X0_oneDay : MdOk mX0_oneDay 0 := ⟨(inL4 (List.mem_of_getElem? (i := 123) rfl)), wi_0, by decide +kernel, ⟨by decide +kernel, by decide +kernel⟩, by decide +kernel, by decide⟩
def yX0_goToEnd : MethodName := ⟨RX0, "goToEnd", "(LNamelessPost$Letter;)V"⟩
abbrev mX0_goToEnd : Md := (yX0_goToEnd, cX0_goToEnd, 4, none)
theorem mo_X0_goToEnd : MdOk mX0_goToEnd 1 := ⟨(inL4 (List.mem_of_getElem? (i := 213) rfl)), wi_0, by decide +kernel, ⟨by decide +kernel, by decide +kernel⟩, by decide +kernel, by decide⟩
def yX0_findNeeds : MethodName := ⟨RX0, "findNeeds", "(LNamelessPost$Letter;)I"⟩
abbrev mX0_findNeeds : Md := (yX0_findNeeds, cX0_findNeeds, 6, (some FieldType.int))
theorem mo_X0_findNeeds : MdOk mX0_findNeeds 1 := ⟨(inL4 (List.mem_of_getElem? (i := 222) rfl)), wi_0, by decide +kernel, ⟨by decide +kernel, by decide +kernel⟩, by decide +kernel, by decide⟩
def yX0_isNotKnown : MethodName := ⟨RX0, "isNotKnown", "(I)Z"⟩
abbrev mX0_isNotKnown : Md := (yX0_isNotKnown, cX0_isNotKnown, 5, (some FieldType.boolean))
theorem mo_X0_isNotKnown : MdOk mX0_isNotKnown 1 := ⟨(inL4 (List.mem_of_getElem? (i := 237) rfl)), wi_0, by decide +kernel, ⟨by decide +kernel, by decide +kernel⟩, by decide +kernel, by decide⟩
def yX0_endsRight : MethodName := ⟨RX0, "endsRight", "(LNamelessPost$Letter;II)Z"⟩
abbrev mX0_endsRight : Md := (yX0_endsRight, cX0_endsRight, 4, (some FieldType.boolean))
theorem mo_X0_endsRight : MdOk mX0_endsRight 3 := ⟨(inL4 (List.mem_of_getElem? (i := 226) rfl)), wi_0, by decide +kernel, ⟨by decide +kernel, by decide +kernel⟩, by decide +kernel, by decide⟩
def yX0_turnKnown : MethodName := ⟨RX0, "turnKnown", "(I)V"⟩
abbrev mX0_turnKnown : Md := (yX0_turnKnown, cX0_turnKnown, 2, none)
theorem mo_X0_turnKnown : MdOk mX0_turnKnown 1 := ⟨(inL4 (List.mem_of_getElem? (i := 230) rfl)), wi_0, by decide +kernel, ⟨by decide +kernel, by decide +kernel⟩, by decide +kernel, by decide⟩
def yX1_init : MethodName := ⟨RX1, "<init>", "(I[IZZ)V"⟩
abbrev mX1_init : Md := (yX1_init, cX1_init, 5, none)
theorem mo_X1_init : MdOk mX1_init 4 := ⟨(inL3 (List.mem_of_getElem? (i := 174) rfl)), wi_1, by decide +kernel, ⟨by decide +kernel, by decide +kernel⟩, by decide +kernel, by decide⟩
def yX2_init : MethodName := ⟨RX2, "<init>", "()V"⟩
abbrev mX2_init : Md := (yX2_init, cX2_init, 1, none)
theorem mo_X2_init : MdOk mX2_init 0 := ⟨(inL2 (List.mem_of_getElem? (i := 95) rfl)), wi_2, by decide +kernel, ⟨by decide +kernel, by decide +kernel⟩, by decide +kernel, by decide⟩
def yX2_read : MethodName := ⟨RX2, "read", "([II)I"⟩
abbrev mX2_read : Md := (yX2_read, cX2_read, 3, (some FieldType.int))
theorem mo_X2_read : MdOk mX2_read 2 := ⟨(inL3 (List.mem_of_getElem? (i := 30) rfl)), wi_2, by decide +kernel, ⟨by decide +kernel, by decide +kernel⟩, by decide +kernel, by decide⟩
def yX2_newCover : MethodName := ⟨RX2, "newCover", "(I)LNamelessPost$Cover;"⟩
abbrev mX2_newCover : Md := (yX2_newCover, cX2_newCover, 2, (some (FieldType.object "NamelessPost$Cover")))
theorem mo_X2_newCover : MdOk mX2_newCover 1 := ⟨(inL3 (List.mem_of_getElem? (i := 155) rfl)), wi_2, by decide +kernel, ⟨by decide +kernel, by decide +kernel⟩, by decide +kernel, by decide⟩
def yX2_readHead : MethodName := ⟨RX2, "readHead", "()V"⟩
abbrev mX2_readHead : Md := (yX2_readHead, cX2_readHead, 3, none)
theorem mo_X2_readHead : MdOk mX2_readHead 0 := ⟨(inL3 (List.mem_of_getElem? (i := 35) rfl)), wi_2, by decide +kernel, ⟨by decide +kernel, by decide +kernel⟩, by decide +kernel, by decide⟩
def yX2_readTest : MethodName := ⟨RX2, "readTest", "(II)V"⟩
abbrev mX2_readTest : Md := (yX2_readTest, cX2_readTest, 4, none)
theorem mo_X2_readTest : MdOk mX2_readTest 2 := ⟨(inL3 (List.mem_of_getElem? (i := 120) rfl)), wi_2, by decide +kernel, ⟨by decide +kernel, by decide +kernel⟩, by decide +kernel, by decide⟩
def yX2_readPart : MethodName := ⟨RX2, "readPart", "(II)V"⟩
abbrev mX2_readPart : Md := (yX2_readPart, cX2_readPart, 4, none)
theorem mo_X2_readPart : MdOk mX2_readPart 2 := ⟨(inL3 (List.mem_of_getElem? (i := 124) rfl)), wi_2, by decide +kernel, ⟨by decide +kernel, by decide +kernel⟩, by decide +kernel, by decide⟩
def yX2_readFact : MethodName := ⟨RX2, "readFact", "(II)V"⟩
abbrev mX2_readFact : Md := (yX2_readFact, cX2_readFact, 4, none)
theorem mo_X2_readFact : MdOk mX2_readFact 2 := ⟨(inL3 (List.mem_of_getElem? (i := 128) rfl)), wi_2, by decide +kernel, ⟨by decide +kernel, by decide +kernel⟩, by decide +kernel, by decide⟩
def yX2_readNested : MethodName := ⟨RX2, "readNested", "(III)V"⟩
abbrev mX2_readNested : Md := (yX2_readNested, cX2_readNested, 4, none)
theorem mo_X2_readNested : MdOk mX2_readNested 3 := ⟨(inL3 (List.mem_of_getElem? (i := 151) rfl)), wi_2, by decide +kernel, ⟨by decide +kernel, by decide +kernel⟩, by decide +kernel, by decide⟩
def yX2_readPlace : MethodName := ⟨RX2, "readPlace", "()V"⟩
abbrev mX2_readPlace : Md := (yX2_readPlace, cX2_readPlace, 1, none)
theorem mo_X2_readPlace : MdOk mX2_readPlace 0 := ⟨(inL3 (List.mem_of_getElem? (i := 144) rfl)), wi_2, by decide +kernel, ⟨by decide +kernel, by decide +kernel⟩, by decide +kernel, by decide⟩
def yX2_countFact : MethodName := ⟨RX2, "countFact", "()V"⟩
abbrev mX2_countFact : Md := (yX2_countFact, cX2_countFact, 1, none)
theorem mo_X2_countFact : MdOk mX2_countFact 0 := ⟨(inL3 (List.mem_of_getElem? (i := 132) rfl)), wi_2, by decide +kernel, ⟨by decide +kernel, by decide +kernel⟩, by decide +kernel, by decide⟩
def yX2_put : MethodName := ⟨RX2, "put", "(I)V"⟩
abbrev mX2_put : Md := (yX2_put, cX2_put, 2, none)
theorem mo_X2_put : MdOk mX2_put 1 := ⟨(inL3 (List.mem_of_getElem? (i := 140) rfl)), wi_2, by decide +kernel, ⟨by decide +kernel, by decide +kernel⟩, by decide +kernel, by decide⟩
def yX2_fail : MethodName := ⟨RX2, "fail", "(I)V"⟩
abbrev mX2_fail : Md := (yX2_fail, cX2_fail, 2, none)
theorem mo_X2_fail : MdOk mX2_fail 1 := ⟨(inL3 (List.mem_of_getElem? (i := 136) rfl)), wi_2, by decide +kernel, ⟨by decide +kernel, by decide +kernel⟩, by decide +kernel, by decide⟩
def yX2_look : MethodName := ⟨RX2, "look", "()I"⟩
abbrev mX2_look : Md := (yX2_look, cX2_look, 2, (some FieldType.int))
theorem mo_X2_look : MdOk mX2_look 0 := ⟨(inL3 (List.mem_of_getElem? (i := 39) rfl)), wi_2, by decide +kernel, ⟨by decide +kernel, by decide +kernel⟩, by decide +kernel, by decide⟩
def yX2_leave : MethodName := ⟨RX2, "leave", "()V"⟩
abbrev mX2_leave : Md := (yX2_leave, cX2_leave, 1, none)
theorem mo_X2_leave : MdOk mX2_leave 0 := ⟨(inL3 (List.mem_of_getElem? (i := 116) rfl)), wi_2, by decide +kernel, ⟨by decide +kernel, by decide +kernel⟩, by decide +kernel, by decide⟩
def yX2_skipBlanks : MethodName := ⟨RX2, "skipBlanks", "()V"⟩
abbrev mX2_skipBlanks : Md := (yX2_skipBlanks, cX2_skipBlanks, 1, none)
theorem mo_X2_skipBlanks : MdOk mX2_skipBlanks 0 := ⟨(inL3 (List.mem_of_getElem? (i := 43) rfl)), wi_2, by decide +kernel, ⟨by decide +kernel, by decide +kernel⟩, by decide +kernel, by decide⟩
def yX2_letterSign : MethodName := ⟨RX2, "letterSign", "(I)I"⟩
abbrev mX2_letterSign : Md := (yX2_letterSign, cX2_letterSign, 1, (some FieldType.int))
theorem mo_X2_letterSign : MdOk mX2_letterSign 1 := ⟨(inL3 (List.mem_of_getElem? (i := 49) rfl)), wi_2, by decide +kernel, ⟨by decide +kernel, by decide +kernel⟩, by decide +kernel, by decide⟩
def yX2_wordSign : MethodName := ⟨RX2, "wordSign", "()I"⟩
abbrev mX2_wordSign : Md := (yX2_wordSign, cX2_wordSign, 1, (some FieldType.int))
theorem mo_X2_wordSign : MdOk mX2_wordSign 0 := ⟨(inL3 (List.mem_of_getElem? (i := 53) rfl)), wi_2, by decide +kernel, ⟨by decide +kernel, by decide +kernel⟩, by decide +kernel, by decide⟩
def yX2_spells : MethodName := ⟨RX2, "spells", "(Ljava/lang/String;)Z"⟩
abbrev mX2_spells : Md := (yX2_spells, cX2_spells, 3, (some FieldType.boolean))
theorem mo_X2_spells : MdOk mX2_spells 1 := ⟨(inL3 (List.mem_of_getElem? (i := 58) rfl)), wi_2, by decide +kernel, ⟨by decide +kernel, by decide +kernel⟩, by decide +kernel, by decide⟩
def yX2_isSmall : MethodName := ⟨RX2, "isSmall", "(I)Z"⟩
abbrev mX2_isSmall : Md := (yX2_isSmall, cX2_isSmall, 1, (some FieldType.boolean))
theorem mo_X2_isSmall : MdOk mX2_isSmall 1 := ⟨(inL3 (List.mem_of_getElem? (i := 46) rfl)), wi_2, by decide +kernel, ⟨by decide +kernel, by decide +kernel⟩, by decide +kernel, by decide⟩
def yX2_isDigit : MethodName := ⟨RX2, "isDigit", "(I)Z"⟩
abbrev mX2_isDigit : Md := (yX2_isDigit, cX2_isDigit, 1, (some FieldType.boolean))
theorem mo_X2_isDigit : MdOk mX2_isDigit 1 := ⟨(inL3 (List.mem_of_getElem? (i := 147) rfl)), wi_2, by decide +kernel, ⟨by decide +kernel, by decide +kernel⟩, by decide +kernel, by decide⟩
def yX3_init : MethodName := ⟨RX3, "<init>", "()V"⟩
abbrev mX3_init : Md := (yX3_init, cX3_init, 1, none)
theorem mo_X3_init : MdOk mX3_init 0 := ⟨(inL1 (List.mem_of_getElem? (i := 205) rfl)), wi_3, by decide +kernel, ⟨by decide +kernel, by decide +kernel⟩, by decide +kernel, by decide⟩
def yX3_forget : MethodName := ⟨RX3, "forget", "()V"⟩
abbrev mX3_forget : Md := (yX3_forget, cX3_forget, 1, none)
theorem mo_X3_forget : MdOk mX3_forget 0 := ⟨(inL2 (List.mem_of_getElem? (i := 216) rfl)), wi_3, by decide +kernel, ⟨by decide +kernel, by decide +kernel⟩, by decide +kernel, by decide⟩
def yX3_fit : MethodName := ⟨RX3, "fit", "(LNamelessPost$Cover;ILNamelessPost$Snapshot;I)I"⟩
abbrev mX3_fit : Md := (yX3_fit, cX3_fit, 9, (some FieldType.int))
theorem mo_X3_fit : MdOk mX3_fit 4 := ⟨(inL4 (List.mem_of_getElem? (i := 50) rfl)), wi_3, by decide +kernel, ⟨by decide +kernel, by decide +kernel⟩, by decide +kernel, by decide⟩
def yX3_evaluate : MethodName := ⟨RX3, "evaluate", "(LNamelessPost$Cover;ILNamelessPost$Snapshot;I)I"⟩
abbrev mX3_evaluate : Md := (yX3_evaluate, cX3_evaluate, 11, (some FieldType.int))
theorem mo_X3_evaluate : MdOk mX3_evaluate 4 := ⟨(inL4 (List.mem_of_getElem? (i := 55) rfl)), wi_3, by decide +kernel, ⟨by decide +kernel, by decide +kernel⟩, by decide +kernel, by decide⟩
def yX4_init : MethodName := ⟨RX4, "<init>", "()V"⟩
abbrev mX4_init : Md := (yX4_init, cX4_init, 1, none)
theorem mo_X4_init : MdOk mX4_init 0 := ⟨(inL2 (List.mem_of_getElem? (i := 59) rfl)), wi_4, by decide +kernel, ⟨by decide +kernel, by decide +kernel⟩, by decide +kernel, by decide⟩
def yX4_clear : MethodName := ⟨RX4, "clear", "()V"⟩
abbrev mX4_clear : Md := (yX4_clear, cX4_clear, 1, none)
theorem mo_X4_clear : MdOk mX4_clear 0 := ⟨(inL5 (List.mem_of_getElem? (i := 27) rfl)), wi_4, by decide +kernel, ⟨by decide +kernel, by decide +kernel⟩, by decide +kernel, by decide⟩
def yX4_add : MethodName := ⟨RX4, "add", "(I)V"⟩
abbrev mX4_add : Md := (yX4_add, cX4_add, 4, none)
theorem mo_X4_add : MdOk mX4_add 1 := ⟨(inL5 (List.mem_of_getElem? (i := 35) rfl)), wi_4, by decide +kernel, ⟨by decide +kernel, by decide +kernel⟩, by decide +kernel, by decide⟩
def yX4_solve : MethodName := ⟨RX4, "solve", "()V"⟩
abbrev mX4_solve : Md := (yX4_solve, cX4_solve, 1, none)
theorem mo_X4_solve : MdOk mX4_solve 0 := ⟨(inL5 (List.mem_of_getElem? (i := 40) rfl)), wi_4, by decide +kernel, ⟨by decide +kernel, by decide +kernel⟩, by decide +kernel, by decide⟩
def yX4_search : MethodName := ⟨RX4, "search", "(IIII)V"⟩
abbrev mX4_search : Md := (yX4_search, cX4_search, 9, none)
theorem mo_X4_search : MdOk mX4_search 4 := ⟨(inL5 (List.mem_of_getElem? (i := 44) rfl)), wi_4, by decide +kernel, ⟨by decide +kernel, by decide +kernel⟩, by decide +kernel, by decide⟩
def yX4_hardest : MethodName := ⟨RX4, "hardest", "(II)I"⟩
abbrev mX4_hardest : Md := (yX4_hardest, cX4_hardest, 7, (some FieldType.int))
theorem mo_X4_hardest : MdOk mX4_hardest 2 := ⟨(inL5 (List.mem_of_getElem? (i := 48) rfl)), wi_4, by decide +kernel, ⟨by decide +kernel, by decide +kernel⟩, by decide +kernel, by decide⟩
def yX4_keepIfBetter : MethodName := ⟨RX4, "keepIfBetter", "(III)V"⟩
abbrev mX4_keepIfBetter : Md := (yX4_keepIfBetter, cX4_keepIfBetter, 5, none)
theorem mo_X4_keepIfBetter : MdOk mX4_keepIfBetter 3 := ⟨(inL5 (List.mem_of_getElem? (i := 52) rfl)), wi_4, by decide +kernel, ⟨by decide +kernel, by decide +kernel⟩, by decide +kernel, by decide⟩
def yX5_init : MethodName := ⟨RX5, "<init>", "()V"⟩
abbrev mX5_init : Md := (yX5_init, cX5_init, 1, none)
theorem mo_X5_init : MdOk mX5_init 0 := ⟨(inL1 (List.mem_of_getElem? (i := 44) rfl)), wi_5, by decide +kernel, ⟨by decide +kernel, by decide +kernel⟩, by decide +kernel, by decide⟩
def yX5_begin : MethodName := ⟨RX5, "begin", "(LNamelessPost$Cover;IIII)V"⟩
abbrev mX5_begin : Md := (yX5_begin, cX5_begin, 6, none)
theorem mo_X5_begin : MdOk mX5_begin 5 := ⟨(inL4 (List.mem_of_getElem? (i := 111) rfl)), wi_5, by decide +kernel, ⟨by decide +kernel, by decide +kernel⟩, by decide +kernel, by decide⟩
def yX5_beginAgain : MethodName := ⟨RX5, "beginAgain", "()V"⟩
abbrev mX5_beginAgain : Md := (yX5_beginAgain, cX5_beginAgain, 1, none)
theorem mo_X5_beginAgain : MdOk mX5_beginAgain 0 := ⟨(inL4 (List.mem_of_getElem? (i := 115) rfl)), wi_5, by decide +kernel, ⟨by decide +kernel, by decide +kernel⟩, by decide +kernel, by decide⟩
def yX5_isRight : MethodName := ⟨RX5, "isRight", "()Z"⟩
abbrev mX5_isRight : Md := (yX5_isRight, cX5_isRight, 1, (some FieldType.boolean))
theorem mo_X5_isRight : MdOk mX5_isRight 0 := ⟨(inL4 (List.mem_of_getElem? (i := 148) rfl)), wi_5, by decide +kernel, ⟨by decide +kernel, by decide +kernel⟩, by decide +kernel, by decide⟩
def yX5_copyFrom : MethodName := ⟨RX5, "copyFrom", "(LNamelessPost$Letter;)V"⟩
abbrev mX5_copyFrom : Md := (yX5_copyFrom, cX5_copyFrom, 2, none)
theorem mo_X5_copyFrom : MdOk mX5_copyFrom 1 := ⟨(inL5 (List.mem_of_getElem? (i := 99) rfl)), wi_5, by decide +kernel, ⟨by decide +kernel, by decide +kernel⟩, by decide +kernel, by decide⟩
def yX6_init : MethodName := ⟨RX6, "<init>", "(LNamelessPost$State;)V"⟩
abbrev mX6_init : Md := (yX6_init, cX6_init, 2, none)
theorem mo_X6_init : MdOk mX6_init 1 := ⟨(inL1 (List.mem_of_getElem? (i := 171) rfl)), wi_6, by decide +kernel, ⟨by decide +kernel, by decide +kernel⟩, by decide +kernel, by decide⟩
def yX6_keepUpTo : MethodName := ⟨RX6, "keepUpTo", "(I)V"⟩
abbrev mX6_keepUpTo : Md := (yX6_keepUpTo, cX6_keepUpTo, 2, none)
theorem mo_X6_keepUpTo : MdOk mX6_keepUpTo 1 := ⟨(inL2 (List.mem_of_getElem? (i := 211) rfl)), wi_6, by decide +kernel, ⟨by decide +kernel, by decide +kernel⟩, by decide +kernel, by decide⟩
def yX6_on : MethodName := ⟨RX6, "on", "(I)LNamelessPost$Snapshot;"⟩
abbrev mX6_on : Md := (yX6_on, cX6_on, 5, (some (FieldType.object "NamelessPost$Snapshot")))
theorem mo_X6_on : MdOk mX6_on 1 := ⟨(inL3 (List.mem_of_getElem? (i := 202) rfl)), wi_6, by decide +kernel, ⟨by decide +kernel, by decide +kernel⟩, by decide +kernel, by decide⟩
def yX7_init : MethodName := ⟨RX7, "<init>", "(I)V"⟩
abbrev mX7_init : Md := (yX7_init, cX7_init, 2, none)
theorem mo_X7_init : MdOk mX7_init 1 := ⟨(inL3 (List.mem_of_getElem? (i := 207) rfl)), wi_7, by decide +kernel, ⟨by decide +kernel, by decide +kernel⟩, by decide +kernel, by decide⟩
def yX7_beginWith : MethodName := ⟨RX7, "beginWith", "(LNamelessPost$State;)V"⟩
abbrev mX7_beginWith : Md := (yX7_beginWith, cX7_beginWith, 3, none)
theorem mo_X7_beginWith : MdOk mX7_beginWith 1 := ⟨(inL3 (List.mem_of_getElem? (i := 236) rfl)), wi_7, by decide +kernel, ⟨by decide +kernel, by decide +kernel⟩, by decide +kernel, by decide⟩
def yX7_follow : MethodName := ⟨RX7, "follow", "(LNamelessPost$Snapshot;I)V"⟩
abbrev mX7_follow : Md := (yX7_follow, cX7_follow, 9, none)
theorem mo_X7_follow : MdOk mX7_follow 2 := ⟨(inL4 (List.mem_of_getElem? (i := 1) rfl)), wi_7, by decide +kernel, ⟨by decide +kernel, by decide +kernel⟩, by decide +kernel, by decide⟩
def yX7_marksOf : MethodName := ⟨RX7, "marksOf", "(I)I"⟩
abbrev mX7_marksOf : Md := (yX7_marksOf, cX7_marksOf, 4, (some FieldType.int))
theorem mo_X7_marksOf : MdOk mX7_marksOf 1 := ⟨(inL4 (List.mem_of_getElem? (i := 6) rfl)), wi_7, by decide +kernel, ⟨by decide +kernel, by decide +kernel⟩, by decide +kernel, by decide⟩
def yX7_wordsOf : MethodName := ⟨RX7, "wordsOf", "(II)I"⟩
abbrev mX7_wordsOf : Md := (yX7_wordsOf, cX7_wordsOf, 5, (some FieldType.int))
theorem mo_X7_wordsOf : MdOk mX7_wordsOf 2 := ⟨(inL5 (List.mem_of_getElem? (i := 21) rfl)), wi_7, by decide +kernel, ⟨by decide +kernel, by decide +kernel⟩, by decide +kernel, by decide⟩
def yX7_wordHolders : MethodName := ⟨RX7, "wordHolders", "(II)I"⟩
abbrev mX7_wordHolders : Md := (yX7_wordHolders, cX7_wordHolders, 5, (some FieldType.int))
theorem mo_X7_wordHolders : MdOk mX7_wordHolders 2 := ⟨(inL4 (List.mem_of_getElem? (i := 87) rfl)), wi_7, by decide +kernel, ⟨by decide +kernel, by decide +kernel⟩, by decide +kernel, by decide⟩
def yX7_seenFrom : MethodName := ⟨RX7, "seenFrom", "(II)I"⟩
abbrev mX7_seenFrom : Md := (yX7_seenFrom, cX7_seenFrom, 3, (some FieldType.int))
theorem mo_X7_seenFrom : MdOk mX7_seenFrom 2 := ⟨(inL4 (List.mem_of_getElem? (i := 26) rfl)), wi_7, by decide +kernel, ⟨by decide +kernel, by decide +kernel⟩, by decide +kernel, by decide⟩
def yX8_init : MethodName := ⟨RX8, "<init>", "()V"⟩
abbrev mX8_init : Md := (yX8_init, cX8_init, 2, none)
theorem mo_X8_init : MdOk mX8_init 0 := ⟨(inL1 (List.mem_of_getElem? (i := 34) rfl)), wi_8, by decide +kernel, ⟨by decide +kernel, by decide +kernel⟩, by decide +kernel, by decide⟩
def yX8_copyFrom : MethodName := ⟨RX8, "copyFrom", "(LNamelessPost$State;)V"⟩
abbrev mX8_copyFrom : Md := (yX8_copyFrom, cX8_copyFrom, 3, none)
theorem mo_X8_copyFrom : MdOk mX8_copyFrom 1 := ⟨(inL5 (List.mem_of_getElem? (i := 94) rfl)), wi_8, by decide +kernel, ⟨by decide +kernel, by decide +kernel⟩, by decide +kernel, by decide⟩
def yX8_addChange : MethodName := ⟨RX8, "addChange", "(IIIIIZ)I"⟩
abbrev mX8_addChange : Md := (yX8_addChange, cX8_addChange, 8, (some FieldType.int))
theorem mo_X8_addChange : MdOk mX8_addChange 6 := ⟨(inL2 (List.mem_of_getElem? (i := 236) rfl)), wi_8, by decide +kernel, ⟨by decide +kernel, by decide +kernel⟩, by decide +kernel, by decide⟩
def yX8_dayOfChange : MethodName := ⟨RX8, "dayOfChange", "(I)I"⟩
abbrev mX8_dayOfChange : Md := (yX8_dayOfChange, cX8_dayOfChange, 1, (some FieldType.int))
theorem mo_X8_dayOfChange : MdOk mX8_dayOfChange 1 := ⟨(inL2 (List.mem_of_getElem? (i := 239) rfl)), wi_8, by decide +kernel, ⟨by decide +kernel, by decide +kernel⟩, by decide +kernel, by decide⟩
def yX8_howManyAre : MethodName := ⟨RX8, "howManyAre", "(I)I"⟩
abbrev mX8_howManyAre : Md := (yX8_howManyAre, cX8_howManyAre, 4, (some FieldType.int))
theorem mo_X8_howManyAre : MdOk mX8_howManyAre 1 := ⟨(inL4 (List.mem_of_getElem? (i := 140) rfl)), wi_8, by decide +kernel, ⟨by decide +kernel, by decide +kernel⟩, by decide +kernel, by decide⟩
def yX8_howManyAreRight : MethodName := ⟨RX8, "howManyAreRight", "()I"⟩
abbrev mX8_howManyAreRight : Md := (yX8_howManyAreRight, cX8_howManyAreRight, 3, (some FieldType.int))
theorem mo_X8_howManyAreRight : MdOk mX8_howManyAreRight 0 := ⟨(inL5 (List.mem_of_getElem? (i := 85) rfl)), wi_8, by decide +kernel, ⟨by decide +kernel, by decide +kernel⟩, by decide +kernel, by decide⟩
def yX9_init : MethodName := ⟨RX9, "<init>", "()V"⟩
abbrev mX9_init : Md := (yX9_init, cX9_init, 1, none)
theorem mo_X9_init : MdOk mX9_init 0 := ⟨(inL2 (List.mem_of_getElem? (i := 37) rfl)), wi_9, by decide +kernel, ⟨by decide +kernel, by decide +kernel⟩, by decide +kernel, by decide⟩
def yX9_spread : MethodName := ⟨RX9, "spread", "(LNamelessPost$Letter;LNamelessPost$Carrier;[I)V"⟩
abbrev mX9_spread : Md := (yX9_spread, cX9_spread, 7, none)
theorem mo_X9_spread : MdOk mX9_spread 3 := ⟨(inL4 (List.mem_of_getElem? (i := 156) rfl)), wi_9, by decide +kernel, ⟨by decide +kernel, by decide +kernel⟩, by decide +kernel, by decide⟩
def yX9_reach : MethodName := ⟨RX9, "reach", "(II[I)V"⟩
abbrev mX9_reach : Md := (yX9_reach, cX9_reach, 6, none)
theorem mo_X9_reach : MdOk mX9_reach 3 := ⟨(inL4 (List.mem_of_getElem? (i := 167) rfl)), wi_9, by decide +kernel, ⟨by decide +kernel, by decide +kernel⟩, by decide +kernel, by decide⟩
def yX9_judge : MethodName := ⟨RX9, "judge", "(I[I)V"⟩
abbrev mX9_judge : Md := (yX9_judge, cX9_judge, 5, none)
theorem mo_X9_judge : MdOk mX9_judge 2 := ⟨(inL4 (List.mem_of_getElem? (i := 171) rfl)), wi_9, by decide +kernel, ⟨by decide +kernel, by decide +kernel⟩, by decide +kernel, by decide⟩
def yX9_judgeAt : MethodName := ⟨RX9, "judgeAt", "(III[I)V"⟩
abbrev mX9_judgeAt : Md := (yX9_judgeAt, cX9_judgeAt, 10, none)
theorem mo_X9_judgeAt : MdOk mX9_judgeAt 4 := ⟨(inL4 (List.mem_of_getElem? (i := 175) rfl)), wi_9, by decide +kernel, ⟨by decide +kernel, by decide +kernel⟩, by decide +kernel, by decide⟩
def yX9_sureFrom : MethodName := ⟨RX9, "sureFrom", "(I)I"⟩
abbrev mX9_sureFrom : Md := (yX9_sureFrom, cX9_sureFrom, 2, (some FieldType.int))
theorem mo_X9_sureFrom : MdOk mX9_sureFrom 1 := ⟨(inL4 (List.mem_of_getElem? (i := 179) rfl)), wi_9, by decide +kernel, ⟨by decide +kernel, by decide +kernel⟩, by decide +kernel, by decide⟩
def yX9_soonFrom : MethodName := ⟨RX9, "soonFrom", "(I)I"⟩
abbrev mX9_soonFrom : Md := (yX9_soonFrom, cX9_soonFrom, 2, (some FieldType.int))
theorem mo_X9_soonFrom : MdOk mX9_soonFrom 1 := ⟨(inL4 (List.mem_of_getElem? (i := 183) rfl)), wi_9, by decide +kernel, ⟨by decide +kernel, by decide +kernel⟩, by decide +kernel, by decide⟩
def yX10_init : MethodName := ⟨RX10, "<init>", "()V"⟩
abbrev mX10_init : Md := (yX10_init, cX10_init, 2, none)
theorem mo_X10_init : MdOk mX10_init 0 := ⟨(inL1 (List.mem_of_getElem? (i := 189) rfl)), wi_10, by decide +kernel, ⟨by decide +kernel, by decide +kernel⟩, by decide +kernel, by decide⟩
def yX10_measure : MethodName := ⟨RX10, "measure", "([I)V"⟩
abbrev mX10_measure : Md := (yX10_measure, cX10_measure, 7, none)
theorem mo_X10_measure : MdOk mX10_measure 1 := ⟨(inL2 (List.mem_of_getElem? (i := 192) rfl)), wi_10, by decide +kernel, ⟨by decide +kernel, by decide +kernel⟩, by decide +kernel, by decide⟩
def yX10_nextOf : MethodName := ⟨RX10, "nextOf", "(II[I)I"⟩
abbrev mX10_nextOf : Md := (yX10_nextOf, cX10_nextOf, 7, (some FieldType.int))
theorem mo_X10_nextOf : MdOk mX10_nextOf 3 := ⟨(inL2 (List.mem_of_getElem? (i := 199) rfl)), wi_10, by decide +kernel, ⟨by decide +kernel, by decide +kernel⟩, by decide +kernel, by decide⟩
def yX11_init : MethodName := ⟨RX11, "<init>", "()V"⟩
abbrev mX11_init : Md := (yX11_init, cX11_init, 1, none)
theorem mo_X11_init : MdOk mX11_init 0 := ⟨(inL1 (List.mem_of_getElem? (i := 26) rfl)), wi_11, by decide +kernel, ⟨by decide +kernel, by decide +kernel⟩, by decide +kernel, by decide⟩
def yX11_road : MethodName := ⟨RX11, "road", "(III)I"⟩
abbrev mX11_road : Md := (yX11_road, cX11_road, 4, (some FieldType.int))
theorem mo_X11_road : MdOk mX11_road 3 := ⟨(inL2 (List.mem_of_getElem? (i := 185) rfl)), wi_11, by decide +kernel, ⟨by decide +kernel, by decide +kernel⟩, by decide +kernel, by decide⟩
def yX11_person : MethodName := ⟨RX11, "person", "(I)I"⟩
abbrev mX11_person : Md := (yX11_person, cX11_person, 2, (some FieldType.int))
theorem mo_X11_person : MdOk mX11_person 1 := ⟨(inL2 (List.mem_of_getElem? (i := 203) rfl)), wi_11, by decide +kernel, ⟨by decide +kernel, by decide +kernel⟩, by decide +kernel, by decide⟩
def yX11_change : MethodName := ⟨RX11, "change", "(IIIIIZ)I"⟩
abbrev mX11_change : Md := (yX11_change, cX11_change, 8, (some FieldType.int))
theorem mo_X11_change : MdOk mX11_change 6 := ⟨(inL2 (List.mem_of_getElem? (i := 221) rfl)), wi_11, by decide +kernel, ⟨by decide +kernel, by decide +kernel⟩, by decide +kernel, by decide⟩
def yX11_knows : MethodName := ⟨RX11, "knows", "(IIZ)Z"⟩
abbrev mX11_knows : Md := (yX11_knows, cX11_knows, 4, (some FieldType.boolean))
theorem mo_X11_knows : MdOk mX11_knows 3 := ⟨(inL3 (List.mem_of_getElem? (i := 3) rfl)), wi_11, by decide +kernel, ⟨by decide +kernel, by decide +kernel⟩, by decide +kernel, by decide⟩
def yX11_worth : MethodName := ⟨RX11, "worth", "(II)I"⟩
abbrev mX11_worth : Md := (yX11_worth, cX11_worth, 4, (some FieldType.int))
theorem mo_X11_worth : MdOk mX11_worth 2 := ⟨(inL3 (List.mem_of_getElem? (i := 10) rfl)), wi_11, by decide +kernel, ⟨by decide +kernel, by decide +kernel⟩, by decide +kernel, by decide⟩
def yX11_feed : MethodName := ⟨RX11, "feed", "(IIIII)I"⟩
abbrev mX11_feed : Md := (yX11_feed, cX11_feed, 6, (some FieldType.int))
theorem mo_X11_feed : MdOk mX11_feed 5 := ⟨(inL3 (List.mem_of_getElem? (i := 14) rfl)), wi_11, by decide +kernel, ⟨by decide +kernel, by decide +kernel⟩, by decide +kernel, by decide⟩
def yX11_end : MethodName := ⟨RX11, "end", "(I)I"⟩
abbrev mX11_end : Md := (yX11_end, cX11_end, 2, (some FieldType.int))
theorem mo_X11_end : MdOk mX11_end 1 := ⟨(inL3 (List.mem_of_getElem? (i := 22) rfl)), wi_11, by decide +kernel, ⟨by decide +kernel, by decide +kernel⟩, by decide +kernel, by decide⟩
def yX11_cover : MethodName := ⟨RX11, "cover", "()I"⟩
abbrev mX11_cover : Md := (yX11_cover, cX11_cover, 2, (some FieldType.int))
theorem mo_X11_cover : MdOk mX11_cover 0 := ⟨(inL3 (List.mem_of_getElem? (i := 26) rfl)), wi_11, by decide +kernel, ⟨by decide +kernel, by decide +kernel⟩, by decide +kernel, by decide⟩
def yX11_marks : MethodName := ⟨RX11, "marks", "(II)I"⟩
abbrev mX11_marks : Md := (yX11_marks, cX11_marks, 3, (some FieldType.int))
theorem mo_X11_marks : MdOk mX11_marks 2 := ⟨(inL3 (List.mem_of_getElem? (i := 198) rfl)), wi_11, by decide +kernel, ⟨by decide +kernel, by decide +kernel⟩, by decide +kernel, by decide⟩
def yX11_ties : MethodName := ⟨RX11, "ties", "(III)I"⟩
abbrev mX11_ties : Md := (yX11_ties, cX11_ties, 4, (some FieldType.int))
theorem mo_X11_ties : MdOk mX11_ties 3 := ⟨(inL4 (List.mem_of_getElem? (i := 10) rfl)), wi_11, by decide +kernel, ⟨by decide +kernel, by decide +kernel⟩, by decide +kernel, by decide⟩
def yX11_lives : MethodName := ⟨RX11, "lives", "(II)I"⟩
abbrev mX11_lives : Md := (yX11_lives, cX11_lives, 3, (some FieldType.int))
theorem mo_X11_lives : MdOk mX11_lives 2 := ⟨(inL4 (List.mem_of_getElem? (i := 14) rfl)), wi_11, by decide +kernel, ⟨by decide +kernel, by decide +kernel⟩, by decide +kernel, by decide⟩
def yX11_sees : MethodName := ⟨RX11, "sees", "(II)I"⟩
abbrev mX11_sees : Md := (yX11_sees, cX11_sees, 3, (some FieldType.int))
theorem mo_X11_sees : MdOk mX11_sees 2 := ⟨(inL4 (List.mem_of_getElem? (i := 18) rfl)), wi_11, by decide +kernel, ⟨by decide +kernel, by decide +kernel⟩, by decide +kernel, by decide⟩
def yX11_far : MethodName := ⟨RX11, "far", "(II)I"⟩
abbrev mX11_far : Md := (yX11_far, cX11_far, 4, (some FieldType.int))
theorem mo_X11_far : MdOk mX11_far 2 := ⟨(inL4 (List.mem_of_getElem? (i := 30) rfl)), wi_11, by decide +kernel, ⟨by decide +kernel, by decide +kernel⟩, by decide +kernel, by decide⟩
def yX11_fits : MethodName := ⟨RX11, "fits", "(IIIII)I"⟩
abbrev mX11_fits : Md := (yX11_fits, cX11_fits, 7, (some FieldType.int))
theorem mo_X11_fits : MdOk mX11_fits 5 := ⟨(inL4 (List.mem_of_getElem? (i := 34) rfl)), wi_11, by decide +kernel, ⟨by decide +kernel, by decide +kernel⟩, by decide +kernel, by decide⟩
def yX11_stale : MethodName := ⟨RX11, "stale", "(IIII)I"⟩
abbrev mX11_stale : Md := (yX11_stale, cX11_stale, 8, (some FieldType.int))
theorem mo_X11_stale : MdOk mX11_stale 4 := ⟨(inL4 (List.mem_of_getElem? (i := 65) rfl)), wi_11, by decide +kernel, ⟨by decide +kernel, by decide +kernel⟩, by decide +kernel, by decide⟩
def yX11_alone : MethodName := ⟨RX11, "alone", "(IIII)I"⟩
abbrev mX11_alone : Md := (yX11_alone, cX11_alone, 9, (some FieldType.int))
theorem mo_X11_alone : MdOk mX11_alone 4 := ⟨(inL4 (List.mem_of_getElem? (i := 70) rfl)), wi_11, by decide +kernel, ⟨by decide +kernel, by decide +kernel⟩, by decide +kernel, by decide⟩
def yX11_tellers : MethodName := ⟨RX11, "tellers", "(III)I"⟩
abbrev mX11_tellers : Md := (yX11_tellers, cX11_tellers, 7, (some FieldType.int))
theorem mo_X11_tellers : MdOk mX11_tellers 3 := ⟨(inL4 (List.mem_of_getElem? (i := 74) rfl)), wi_11, by decide +kernel, ⟨by decide +kernel, by decide +kernel⟩, by decide +kernel, by decide⟩
def yX11_lied : MethodName := ⟨RX11, "lied", "(III)I"⟩
abbrev mX11_lied : Md := (yX11_lied, cX11_lied, 8, (some FieldType.int))
theorem mo_X11_lied : MdOk mX11_lied 3 := ⟨(inL4 (List.mem_of_getElem? (i := 78) rfl)), wi_11, by decide +kernel, ⟨by decide +kernel, by decide +kernel⟩, by decide +kernel, by decide⟩
def yX11_mends : MethodName := ⟨RX11, "mends", "(IIII)I"⟩
abbrev mX11_mends : Md := (yX11_mends, cX11_mends, 15, (some FieldType.int))
theorem mo_X11_mends : MdOk mX11_mends 4 := ⟨(inL4 (List.mem_of_getElem? (i := 82) rfl)), wi_11, by decide +kernel, ⟨by decide +kernel, by decide +kernel⟩, by decide +kernel, by decide⟩
def yX11_asked : MethodName := ⟨RX11, "asked", "(IIIIII)I"⟩
abbrev mX11_asked : Md := (yX11_asked, cX11_asked, 8, (some FieldType.int))
theorem mo_X11_asked : MdOk mX11_asked 6 := ⟨(inL4 (List.mem_of_getElem? (i := 91) rfl)), wi_11, by decide +kernel, ⟨by decide +kernel, by decide +kernel⟩, by decide +kernel, by decide⟩
def yX11_letter : MethodName := ⟨RX11, "letter", "(IIII)I"⟩
abbrev mX11_letter : Md := (yX11_letter, cX11_letter, 6, (some FieldType.int))
theorem mo_X11_letter : MdOk mX11_letter 4 := ⟨(inL4 (List.mem_of_getElem? (i := 107) rfl)), wi_11, by decide +kernel, ⟨by decide +kernel, by decide +kernel⟩, by decide +kernel, by decide⟩
def yX11_days : MethodName := ⟨RX11, "days", "(I)I"⟩
abbrev mX11_days : Md := (yX11_days, cX11_days, 3, (some FieldType.int))
theorem mo_X11_days : MdOk mX11_days 1 := ⟨(inL4 (List.mem_of_getElem? (i := 119) rfl)), wi_11, by decide +kernel, ⟨by decide +kernel, by decide +kernel⟩, by decide +kernel, by decide⟩
def yX11_letters : MethodName := ⟨RX11, "letters", "(II)I"⟩
abbrev mX11_letters : Md := (yX11_letters, cX11_letters, 4, (some FieldType.int))
theorem mo_X11_letters : MdOk mX11_letters 2 := ⟨(inL4 (List.mem_of_getElem? (i := 144) rfl)), wi_11, by decide +kernel, ⟨by decide +kernel, by decide +kernel⟩, by decide +kernel, by decide⟩
def yX11_sure : MethodName := ⟨RX11, "sure", "(IIIIII)I"⟩
abbrev mX11_sure : Md := (yX11_sure, cX11_sure, 8, (some FieldType.int))
theorem mo_X11_sure : MdOk mX11_sure 6 := ⟨(inL4 (List.mem_of_getElem? (i := 152) rfl)), wi_11, by decide +kernel, ⟨by decide +kernel, by decide +kernel⟩, by decide +kernel, by decide⟩
def yX11_rings : MethodName := ⟨RX11, "rings", "(IIII)I"⟩
abbrev mX11_rings : Md := (yX11_rings, cX11_rings, 10, (some FieldType.int))
theorem mo_X11_rings : MdOk mX11_rings 4 := ⟨(inL4 (List.mem_of_getElem? (i := 187) rfl)), wi_11, by decide +kernel, ⟨by decide +kernel, by decide +kernel⟩, by decide +kernel, by decide⟩
def yX11_told : MethodName := ⟨RX11, "told", "(I)I"⟩
abbrev mX11_told : Md := (yX11_told, cX11_told, 2, (some FieldType.int))
theorem mo_X11_told : MdOk mX11_told 1 := ⟨(inL4 (List.mem_of_getElem? (i := 195) rfl)), wi_11, by decide +kernel, ⟨by decide +kernel, by decide +kernel⟩, by decide +kernel, by decide⟩
def yX11_judged : MethodName := ⟨RX11, "judged", "(IIII)I"⟩
abbrev mX11_judged : Md := (yX11_judged, cX11_judged, 8, (some FieldType.int))
theorem mo_X11_judged : MdOk mX11_judged 4 := ⟨(inL4 (List.mem_of_getElem? (i := 199) rfl)), wi_11, by decide +kernel, ⟨by decide +kernel, by decide +kernel⟩, by decide +kernel, by decide⟩
def yX11_ends : MethodName := ⟨RX11, "ends", "(IIIII)I"⟩
abbrev mX11_ends : Md := (yX11_ends, cX11_ends, 7, (some FieldType.int))
theorem mo_X11_ends : MdOk mX11_ends 5 := ⟨(inL4 (List.mem_of_getElem? (i := 209) rfl)), wi_11, by decide +kernel, ⟨by decide +kernel, by decide +kernel⟩, by decide +kernel, by decide⟩
def yX11_needs : MethodName := ⟨RX11, "needs", "(IIIIII)I"⟩
abbrev mX11_needs : Md := (yX11_needs, cX11_needs, 9, (some FieldType.int))
theorem mo_X11_needs : MdOk mX11_needs 6 := ⟨(inL4 (List.mem_of_getElem? (i := 218) rfl)), wi_11, by decide +kernel, ⟨by decide +kernel, by decide +kernel⟩, by decide +kernel, by decide⟩
def yX11_copies : MethodName := ⟨RX11, "copies", "(IIIIIII)I"⟩
abbrev mX11_copies : Md := (yX11_copies, cX11_copies, 12, (some FieldType.int))
theorem mo_X11_copies : MdOk mX11_copies 7 := ⟨(inL5 (List.mem_of_getElem? (i := 1) rfl)), wi_11, by decide +kernel, ⟨by decide +kernel, by decide +kernel⟩, by decide +kernel, by decide⟩
def yX11_often : MethodName := ⟨RX11, "often", "()I"⟩
abbrev mX11_often : Md := (yX11_often, cX11_often, 3, (some FieldType.int))
theorem mo_X11_often : MdOk mX11_often 0 := ⟨(inL5 (List.mem_of_getElem? (i := 9) rfl)), wi_11, by decide +kernel, ⟨by decide +kernel, by decide +kernel⟩, by decide +kernel, by decide⟩
def yX11_cheapest : MethodName := ⟨RX11, "cheapest", "(IIIII)I"⟩
abbrev mX11_cheapest : Md := (yX11_cheapest, cX11_cheapest, 13, (some FieldType.int))
theorem mo_X11_cheapest : MdOk mX11_cheapest 5 := ⟨(inL5 (List.mem_of_getElem? (i := 14) rfl)), wi_11, by decide +kernel, ⟨by decide +kernel, by decide +kernel⟩, by decide +kernel, by decide⟩
def yX11_apart : MethodName := ⟨RX11, "apart", "(III)I"⟩
abbrev mX11_apart : Md := (yX11_apart, cX11_apart, 7, (some FieldType.int))
theorem mo_X11_apart : MdOk mX11_apart 3 := ⟨(inL5 (List.mem_of_getElem? (i := 57) rfl)), wi_11, by decide +kernel, ⟨by decide +kernel, by decide +kernel⟩, by decide +kernel, by decide⟩
def yX11_chain : MethodName := ⟨RX11, "chain", "(II)I"⟩
abbrev mX11_chain : Md := (yX11_chain, cX11_chain, 5, (some FieldType.int))
theorem mo_X11_chain : MdOk mX11_chain 2 := ⟨(inL5 (List.mem_of_getElem? (i := 65) rfl)), wi_11, by decide +kernel, ⟨by decide +kernel, by decide +kernel⟩, by decide +kernel, by decide⟩
def yX11_circle : MethodName := ⟨RX11, "circle", "(I)I"⟩
abbrev mX11_circle : Md := (yX11_circle, cX11_circle, 4, (some FieldType.int))
theorem mo_X11_circle : MdOk mX11_circle 1 := ⟨(inL5 (List.mem_of_getElem? (i := 73) rfl)), wi_11, by decide +kernel, ⟨by decide +kernel, by decide +kernel⟩, by decide +kernel, by decide⟩
def yX11_strangers : MethodName := ⟨RX11, "strangers", "(I)I"⟩
abbrev mX11_strangers : Md := (yX11_strangers, cX11_strangers, 7, (some FieldType.int))
theorem mo_X11_strangers : MdOk mX11_strangers 1 := ⟨(inL5 (List.mem_of_getElem? (i := 77) rfl)), wi_11, by decide +kernel, ⟨by decide +kernel, by decide +kernel⟩, by decide +kernel, by decide⟩
def yX11_count : MethodName := ⟨RX11, "count", "(I)I"⟩
abbrev mX11_count : Md := (yX11_count, cX11_count, 2, (some FieldType.int))
theorem mo_X11_count : MdOk mX11_count 1 := ⟨(inL5 (List.mem_of_getElem? (i := 81) rfl)), wi_11, by decide +kernel, ⟨by decide +kernel, by decide +kernel⟩, by decide +kernel, by decide⟩
def yX11_image : MethodName := ⟨RX11, "image", "(I)I"⟩
abbrev mX11_image : Md := (yX11_image, cX11_image, 3, (some FieldType.int))
theorem mo_X11_image : MdOk mX11_image 1 := ⟨(inL5 (List.mem_of_getElem? (i := 90) rfl)), wi_11, by decide +kernel, ⟨by decide +kernel, by decide +kernel⟩, by decide +kernel, by decide⟩
def yX11_back : MethodName := ⟨RX11, "back", "(I)I"⟩
abbrev mX11_back : Md := (yX11_back, cX11_back, 3, (some FieldType.int))
theorem mo_X11_back : MdOk mX11_back 1 := ⟨(inL5 (List.mem_of_getElem? (i := 103) rfl)), wi_11, by decide +kernel, ⟨by decide +kernel, by decide +kernel⟩, by decide +kernel, by decide⟩
def yX11_isPerson : MethodName := ⟨RX11, "isPerson", "(I)Z"⟩
abbrev mX11_isPerson : Md := (yX11_isPerson, cX11_isPerson, 2, (some FieldType.boolean))
theorem mo_X11_isPerson : MdOk mX11_isPerson 1 := ⟨(inL2 (List.mem_of_getElem? (i := 228) rfl)), wi_11, by decide +kernel, ⟨by decide +kernel, by decide +kernel⟩, by decide +kernel, by decide⟩
def yX11_areTwo : MethodName := ⟨RX11, "areTwo", "(II)Z"⟩
abbrev mX11_areTwo : Md := (yX11_areTwo, cX11_areTwo, 3, (some FieldType.boolean))
theorem mo_X11_areTwo : MdOk mX11_areTwo 2 := ⟨(inL2 (List.mem_of_getElem? (i := 232) rfl)), wi_11, by decide +kernel, ⟨by decide +kernel, by decide +kernel⟩, by decide +kernel, by decide⟩
def yX11_isPlace : MethodName := ⟨RX11, "isPlace", "(I)Z"⟩
abbrev mX11_isPlace : Md := (yX11_isPlace, cX11_isPlace, 1, (some FieldType.boolean))
theorem mo_X11_isPlace : MdOk mX11_isPlace 1 := ⟨(inL2 (List.mem_of_getElem? (i := 188) rfl)), wi_11, by decide +kernel, ⟨by decide +kernel, by decide +kernel⟩, by decide +kernel, by decide⟩
def yX11_isDay : MethodName := ⟨RX11, "isDay", "(I)Z"⟩
abbrev mX11_isDay : Md := (yX11_isDay, cX11_isDay, 1, (some FieldType.boolean))
theorem mo_X11_isDay : MdOk mX11_isDay 1 := ⟨(inL2 (List.mem_of_getElem? (i := 224) rfl)), wi_11, by decide +kernel, ⟨by decide +kernel, by decide +kernel⟩, by decide +kernel, by decide⟩
def yX11_isSpan : MethodName := ⟨RX11, "isSpan", "(II)Z"⟩
abbrev mX11_isSpan : Md := (yX11_isSpan, cX11_isSpan, 2, (some FieldType.boolean))
theorem mo_X11_isSpan : MdOk mX11_isSpan 2 := ⟨(inL5 (List.mem_of_getElem? (i := 17) rfl)), wi_11, by decide +kernel, ⟨by decide +kernel, by decide +kernel⟩, by decide +kernel, by decide⟩
def yX11_hasBit : MethodName := ⟨RX11, "hasBit", "(II)Z"⟩
abbrev mX11_hasBit : Md := (yX11_hasBit, cX11_hasBit, 2, (some FieldType.boolean))
theorem mo_X11_hasBit : MdOk mX11_hasBit 2 := ⟨(inL3 (List.mem_of_getElem? (i := 6) rfl)), wi_11, by decide +kernel, ⟨by decide +kernel, by decide +kernel⟩, by decide +kernel, by decide⟩
def yX11_leastOf : MethodName := ⟨RX11, "leastOf", "(I)I"⟩
abbrev mX11_leastOf : Md := (yX11_leastOf, cX11_leastOf, 1, (some FieldType.int))
theorem mo_X11_leastOf : MdOk mX11_leastOf 1 := ⟨(inL4 (List.mem_of_getElem? (i := 102) rfl)), wi_11, by decide +kernel, ⟨by decide +kernel, by decide +kernel⟩, by decide +kernel, by decide⟩
def yX11_coverOf : MethodName := ⟨RX11, "coverOf", "(I)LNamelessPost$Cover;"⟩
abbrev mX11_coverOf : Md := (yX11_coverOf, cX11_coverOf, 2, (some (FieldType.object "NamelessPost$Cover")))
theorem mo_X11_coverOf : MdOk mX11_coverOf 1 := ⟨(inL4 (List.mem_of_getElem? (i := 38) rfl)), wi_11, by decide +kernel, ⟨by decide +kernel, by decide +kernel⟩, by decide +kernel, by decide⟩
def yX11_everybody : MethodName := ⟨RX11, "everybody", "()I"⟩
abbrev mX11_everybody : Md := (yX11_everybody, cX11_everybody, 1, (some FieldType.int))
theorem mo_X11_everybody : MdOk mX11_everybody 0 := ⟨(inL4 (List.mem_of_getElem? (i := 46) rfl)), wi_11, by decide +kernel, ⟨by decide +kernel, by decide +kernel⟩, by decide +kernel, by decide⟩
def yX11_seenBy : MethodName := ⟨RX11, "seenBy", "(ILNamelessPost$Snapshot;)I"⟩
abbrev mX11_seenBy : Md := (yX11_seenBy, cX11_seenBy, 3, (some FieldType.int))
theorem mo_X11_seenBy : MdOk mX11_seenBy 2 := ⟨(inL4 (List.mem_of_getElem? (i := 22) rfl)), wi_11, by decide +kernel, ⟨by decide +kernel, by decide +kernel⟩, by decide +kernel, by decide⟩
def yX11_forgetFacts : MethodName := ⟨RX11, "forgetFacts", "(I)V"⟩
abbrev mX11_forgetFacts : Md := (yX11_forgetFacts, cX11_forgetFacts, 2, none)
theorem mo_X11_forgetFacts : MdOk mX11_forgetFacts 1 := ⟨(inL2 (List.mem_of_getElem? (i := 207) rfl)), wi_11, by decide +kernel, ⟨by decide +kernel, by decide +kernel⟩, by decide +kernel, by decide⟩
def yX11_putBytes : MethodName := ⟨RX11, "putBytes", "(I)V"⟩
abbrev mX11_putBytes : Md := (yX11_putBytes, cX11_putBytes, 3, none)
theorem mo_X11_putBytes : MdOk mX11_putBytes 1 := ⟨(inL3 (List.mem_of_getElem? (i := 18) rfl)), wi_11, by decide +kernel, ⟨by decide +kernel, by decide +kernel⟩, by decide +kernel, by decide⟩
def yX11_fitFor : MethodName := ⟨RX11, "fitFor", "(LNamelessPost$Cover;IIII)I"⟩
abbrev mX11_fitFor : Md := (yX11_fitFor, cX11_fitFor, 9, (some FieldType.int))
theorem mo_X11_fitFor : MdOk mX11_fitFor 5 := ⟨(inL4 (List.mem_of_getElem? (i := 42) rfl)), wi_11, by decide +kernel, ⟨by decide +kernel, by decide +kernel⟩, by decide +kernel, by decide⟩
def yX11_daysOfRound : MethodName := ⟨RX11, "daysOfRound", "(I)I"⟩
abbrev mX11_daysOfRound : Md := (yX11_daysOfRound, cX11_daysOfRound, 6, (some FieldType.int))
theorem mo_X11_daysOfRound : MdOk mX11_daysOfRound 1 := ⟨(inL4 (List.mem_of_getElem? (i := 191) rfl)), wi_11, by decide +kernel, ⟨by decide +kernel, by decide +kernel⟩, by decide +kernel, by decide⟩
def yX11_dayRight : MethodName := ⟨RX11, "dayRight", "(LNamelessPost$Cover;IIII)I"⟩
abbrev mX11_dayRight : Md := (yX11_dayRight, cX11_dayRight, 6, (some FieldType.int))
theorem mo_X11_dayRight : MdOk mX11_dayRight 5 := ⟨(inL5 (List.mem_of_getElem? (i := 5) rfl)), wi_11, by decide +kernel, ⟨by decide +kernel, by decide +kernel⟩, by decide +kernel, by decide⟩
def yX11_addUnlikeWords : MethodName := ⟨RX11, "addUnlikeWords", "(LNamelessPost$Snapshot;III)I"⟩
abbrev mX11_addUnlikeWords : Md := (yX11_addUnlikeWords, cX11_addUnlikeWords, 8, (some FieldType.int))
theorem mo_X11_addUnlikeWords : MdOk mX11_addUnlikeWords 4 := ⟨(inL5 (List.mem_of_getElem? (i := 31) rfl)), wi_11, by decide +kernel, ⟨by decide +kernel, by decide +kernel⟩, by decide +kernel, by decide⟩
def yX11_addUnlikeMarks : MethodName := ⟨RX11, "addUnlikeMarks", "(LNamelessPost$Snapshot;)V"⟩
abbrev mX11_addUnlikeMarks : Md := (yX11_addUnlikeMarks, cX11_addUnlikeMarks, 5, none)
theorem mo_X11_addUnlikeMarks : MdOk mX11_addUnlikeMarks 1 := ⟨(inL5 (List.mem_of_getElem? (i := 61) rfl)), wi_11, by decide +kernel, ⟨by decide +kernel, by decide +kernel⟩, by decide +kernel, by decide⟩
def yX11_withKnown : MethodName := ⟨RX11, "withKnown", "(I)I"⟩
abbrev mX11_withKnown : Md := (yX11_withKnown, cX11_withKnown, 4, (some FieldType.int))
theorem mo_X11_withKnown : MdOk mX11_withKnown 1 := ⟨(inL5 (List.mem_of_getElem? (i := 69) rfl)), wi_11, by decide +kernel, ⟨by decide +kernel, by decide +kernel⟩, by decide +kernel, by decide⟩
def yX12_init : MethodName := ⟨RX12, "<init>", "()V"⟩
abbrev mX12_init : Md := (yX12_init, cX12_init, 2, none)
theorem mo_X12_init : MdOk mX12_init 0 := ⟨(inL5 (List.mem_of_getElem? (i := 108) rfl)), wi_12, by decide +kernel, ⟨by decide +kernel, by decide +kernel⟩, by decide +kernel, by decide⟩
def yX12_in : MethodName := ⟨RX12, "in", "(JJJ)Z"⟩
abbrev mX12_in : Md := (yX12_in, cX12_in, 6, (some FieldType.boolean))
theorem mo_X12_in : MdOk mX12_in 3 := ⟨(inL6 (List.mem_of_getElem? (i := 85) rfl)), wi_12, by decide +kernel, ⟨by decide +kernel, by decide +kernel⟩, by decide +kernel, by decide⟩
def yX12_has : MethodName := ⟨RX12, "has", "(II)Z"⟩
abbrev mX12_has : Md := (yX12_has, cX12_has, 2, (some FieldType.boolean))
theorem mo_X12_has : MdOk mX12_has 2 := ⟨(inL6 (List.mem_of_getElem? (i := 119) rfl)), wi_12, by decide +kernel, ⟨by decide +kernel, by decide +kernel⟩, by decide +kernel, by decide⟩
def yX12_bits : MethodName := ⟨RX12, "bits", "(I)I"⟩
abbrev mX12_bits : Md := (yX12_bits, cX12_bits, 3, (some FieldType.int))
theorem mo_X12_bits : MdOk mX12_bits 1 := ⟨(inL7 (List.mem_of_getElem? (i := 37) rfl)), wi_12, by decide +kernel, ⟨by decide +kernel, by decide +kernel⟩, by decide +kernel, by decide⟩
def yX12_lowest : MethodName := ⟨RX12, "lowest", "(I)I"⟩
abbrev mX12_lowest : Md := (yX12_lowest, cX12_lowest, 2, (some FieldType.int))
theorem mo_X12_lowest : MdOk mX12_lowest 1 := ⟨(inL7 (List.mem_of_getElem? (i := 48) rfl)), wi_12, by decide +kernel, ⟨by decide +kernel, by decide +kernel⟩, by decide +kernel, by decide⟩
def yX12_isPlace : MethodName := ⟨RX12, "isPlace", "(I)Z"⟩
abbrev mX12_isPlace : Md := (yX12_isPlace, cX12_isPlace, 1, (some FieldType.boolean))
theorem mo_X12_isPlace : MdOk mX12_isPlace 1 := ⟨(inL6 (List.mem_of_getElem? (i := 81) rfl)), wi_12, by decide +kernel, ⟨by decide +kernel, by decide +kernel⟩, by decide +kernel, by decide⟩
def yX12_isPerson : MethodName := ⟨RX12, "isPerson", "(I)Z"⟩
abbrev mX12_isPerson : Md := (yX12_isPerson, cX12_isPerson, 2, (some FieldType.boolean))
theorem mo_X12_isPerson : MdOk mX12_isPerson 1 := ⟨(inL6 (List.mem_of_getElem? (i := 107) rfl)), wi_12, by decide +kernel, ⟨by decide +kernel, by decide +kernel⟩, by decide +kernel, by decide⟩
def yX12_isDay : MethodName := ⟨RX12, "isDay", "(I)Z"⟩
abbrev mX12_isDay : Md := (yX12_isDay, cX12_isDay, 1, (some FieldType.boolean))
theorem mo_X12_isDay : MdOk mX12_isDay 1 := ⟨(inL6 (List.mem_of_getElem? (i := 101) rfl)), wi_12, by decide +kernel, ⟨by decide +kernel, by decide +kernel⟩, by decide +kernel, by decide⟩
def yX12_roadOf : MethodName := ⟨RX12, "roadOf", "(II)I"⟩
abbrev mX12_roadOf : Md := (yX12_roadOf, cX12_roadOf, 4, (some FieldType.int))
theorem mo_X12_roadOf : MdOk mX12_roadOf 2 := ⟨(inL6 (List.mem_of_getElem? (i := 90) rfl)), wi_12, by decide +kernel, ⟨by decide +kernel, by decide +kernel⟩, by decide +kernel, by decide⟩
def yX12_road : MethodName := ⟨RX12, "road", "(III)I"⟩
abbrev mX12_road : Md := (yX12_road, cX12_road, 5, (some FieldType.int))
theorem mo_X12_road : MdOk mX12_road 3 := ⟨(inL6 (List.mem_of_getElem? (i := 78) rfl)), wi_12, by decide +kernel, ⟨by decide +kernel, by decide +kernel⟩, by decide +kernel, by decide⟩
def yX12_person : MethodName := ⟨RX12, "person", "(I)I"⟩
abbrev mX12_person : Md := (yX12_person, cX12_person, 3, (some FieldType.int))
theorem mo_X12_person : MdOk mX12_person 1 := ⟨(inL6 (List.mem_of_getElem? (i := 94) rfl)), wi_12, by decide +kernel, ⟨by decide +kernel, by decide +kernel⟩, by decide +kernel, by decide⟩
def yX12_change : MethodName := ⟨RX12, "change", "(IIIIIZ)I"⟩
abbrev mX12_change : Md := (yX12_change, cX12_change, 8, (some FieldType.int))
theorem mo_X12_change : MdOk mX12_change 6 := ⟨(inL6 (List.mem_of_getElem? (i := 98) rfl)), wi_12, by decide +kernel, ⟨by decide +kernel, by decide +kernel⟩, by decide +kernel, by decide⟩
def yX12_knows : MethodName := ⟨RX12, "knows", "(IIZ)Z"⟩
abbrev mX12_knows : Md := (yX12_knows, cX12_knows, 4, (some FieldType.boolean))
theorem mo_X12_knows : MdOk mX12_knows 3 := ⟨(inL6 (List.mem_of_getElem? (i := 116) rfl)), wi_12, by decide +kernel, ⟨by decide +kernel, by decide +kernel⟩, by decide +kernel, by decide⟩
def yX12_worth : MethodName := ⟨RX12, "worth", "(II)I"⟩
abbrev mX12_worth : Md := (yX12_worth, cX12_worth, 4, (some FieldType.int))
theorem mo_X12_worth : MdOk mX12_worth 2 := ⟨(inL6 (List.mem_of_getElem? (i := 123) rfl)), wi_12, by decide +kernel, ⟨by decide +kernel, by decide +kernel⟩, by decide +kernel, by decide⟩
def yX12_with : MethodName := ⟨RX12, "with", "(III)I"⟩
abbrev mX12_with : Md := (yX12_with, cX12_with, 3, (some FieldType.int))
theorem mo_X12_with : MdOk mX12_with 3 := ⟨(inL6 (List.mem_of_getElem? (i := 140) rfl)), wi_12, by decide +kernel, ⟨by decide +kernel, by decide +kernel⟩, by decide +kernel, by decide⟩
def yX12_makes : MethodName := ⟨RX12, "makes", "(II)V"⟩
abbrev mX12_makes : Md := (yX12_makes, cX12_makes, 4, none)
theorem mo_X12_makes : MdOk mX12_makes 2 := ⟨(inL6 (List.mem_of_getElem? (i := 137) rfl)), wi_12, by decide +kernel, ⟨by decide +kernel, by decide +kernel⟩, by decide +kernel, by decide⟩
def yX12_sorts : MethodName := ⟨RX12, "sorts", "()V"⟩
abbrev mX12_sorts : Md := (yX12_sorts, cX12_sorts, 3, none)
theorem mo_X12_sorts : MdOk mX12_sorts 0 := ⟨(inL6 (List.mem_of_getElem? (i := 112) rfl)), wi_12, by decide +kernel, ⟨by decide +kernel, by decide +kernel⟩, by decide +kernel, by decide⟩
def yX12_lays : MethodName := ⟨RX12, "lays", "(II)V"⟩
abbrev mX12_lays : Md := (yX12_lays, cX12_lays, 5, none)
theorem mo_X12_lays : MdOk mX12_lays 2 := ⟨(inL6 (List.mem_of_getElem? (i := 133) rfl)), wi_12, by decide +kernel, ⟨by decide +kernel, by decide +kernel⟩, by decide +kernel, by decide⟩
def yX12_standing : MethodName := ⟨RX12, "standing", "(II)I"⟩
abbrev mX12_standing : Md := (yX12_standing, cX12_standing, 5, (some FieldType.int))
theorem mo_X12_standing : MdOk mX12_standing 2 := ⟨(inL6 (List.mem_of_getElem? (i := 160) rfl)), wi_12, by decide +kernel, ⟨by decide +kernel, by decide +kernel⟩, by decide +kernel, by decide⟩
def yX12_seenBy : MethodName := ⟨RX12, "seenBy", "(I)I"⟩
abbrev mX12_seenBy : Md := (yX12_seenBy, cX12_seenBy, 2, (some FieldType.int))
theorem mo_X12_seenBy : MdOk mX12_seenBy 1 := ⟨(inL6 (List.mem_of_getElem? (i := 156) rfl)), wi_12, by decide +kernel, ⟨by decide +kernel, by decide +kernel⟩, by decide +kernel, by decide⟩
def yX12_marks : MethodName := ⟨RX12, "marks", "(II)I"⟩
abbrev mX12_marks : Md := (yX12_marks, cX12_marks, 3, (some FieldType.int))
theorem mo_X12_marks : MdOk mX12_marks 2 := ⟨(inL6 (List.mem_of_getElem? (i := 129) rfl)), wi_12, by decide +kernel, ⟨by decide +kernel, by decide +kernel⟩, by decide +kernel, by decide⟩
def yX12_ties : MethodName := ⟨RX12, "ties", "(III)I"⟩
abbrev mX12_ties : Md := (yX12_ties, cX12_ties, 4, (some FieldType.int))
theorem mo_X12_ties : MdOk mX12_ties 3 := ⟨(inL6 (List.mem_of_getElem? (i := 144) rfl)), wi_12, by decide +kernel, ⟨by decide +kernel, by decide +kernel⟩, by decide +kernel, by decide⟩
def yX12_lives : MethodName := ⟨RX12, "lives", "(II)I"⟩
abbrev mX12_lives : Md := (yX12_lives, cX12_lives, 3, (some FieldType.int))
theorem mo_X12_lives : MdOk mX12_lives 2 := ⟨(inL6 (List.mem_of_getElem? (i := 148) rfl)), wi_12, by decide +kernel, ⟨by decide +kernel, by decide +kernel⟩, by decide +kernel, by decide⟩
def yX12_sees : MethodName := ⟨RX12, "sees", "(II)I"⟩
abbrev mX12_sees : Md := (yX12_sees, cX12_sees, 3, (some FieldType.int))
theorem mo_X12_sees : MdOk mX12_sees 2 := ⟨(inL6 (List.mem_of_getElem? (i := 152) rfl)), wi_12, by decide +kernel, ⟨by decide +kernel, by decide +kernel⟩, by decide +kernel, by decide⟩
def yX12_spreads : MethodName := ⟨RX12, "spreads", "(I)V"⟩
abbrev mX12_spreads : Md := (yX12_spreads, cX12_spreads, 6, none)
theorem mo_X12_spreads : MdOk mX12_spreads 1 := ⟨(inL6 (List.mem_of_getElem? (i := 168) rfl)), wi_12, by decide +kernel, ⟨by decide +kernel, by decide +kernel⟩, by decide +kernel, by decide⟩
def yX12_far : MethodName := ⟨RX12, "far", "(II)I"⟩
abbrev mX12_far : Md := (yX12_far, cX12_far, 3, (some FieldType.int))
theorem mo_X12_far : MdOk mX12_far 2 := ⟨(inL6 (List.mem_of_getElem? (i := 164) rfl)), wi_12, by decide +kernel, ⟨by decide +kernel, by decide +kernel⟩, by decide +kernel, by decide⟩
def yX12_nextTo : MethodName := ⟨RX12, "nextTo", "(II)I"⟩
abbrev mX12_nextTo : Md := (yX12_nextTo, cX12_nextTo, 5, (some FieldType.int))
theorem mo_X12_nextTo : MdOk mX12_nextTo 2 := ⟨(inL7 (List.mem_of_getElem? (i := 52) rfl)), wi_12, by decide +kernel, ⟨by decide +kernel, by decide +kernel⟩, by decide +kernel, by decide⟩
def yX12_feed : MethodName := ⟨RX12, "feed", "(IIIII)I"⟩
abbrev mX12_feed : Md := (yX12_feed, cX12_feed, 6, (some FieldType.int))
theorem mo_X12_feed : MdOk mX12_feed 5 := ⟨(inL6 (List.mem_of_getElem? (i := 172) rfl)), wi_12, by decide +kernel, ⟨by decide +kernel, by decide +kernel⟩, by decide +kernel, by decide⟩
def yX12_put : MethodName := ⟨RX12, "put", "(I)V"⟩
abbrev mX12_put : Md := (yX12_put, cX12_put, 3, none)
theorem mo_X12_put : MdOk mX12_put 1 := ⟨(inL6 (List.mem_of_getElem? (i := 176) rfl)), wi_12, by decide +kernel, ⟨by decide +kernel, by decide +kernel⟩, by decide +kernel, by decide⟩
def yX12_end : MethodName := ⟨RX12, "end", "(I)I"⟩
abbrev mX12_end : Md := (yX12_end, cX12_end, 2, (some FieldType.int))
theorem mo_X12_end : MdOk mX12_end 1 := ⟨(inL6 (List.mem_of_getElem? (i := 180) rfl)), wi_12, by decide +kernel, ⟨by decide +kernel, by decide +kernel⟩, by decide +kernel, by decide⟩
def yX12_fails : MethodName := ⟨RX12, "fails", "(II)V"⟩
abbrev mX12_fails : Md := (yX12_fails, cX12_fails, 3, none)
theorem mo_X12_fails : MdOk mX12_fails 2 := ⟨(inL6 (List.mem_of_getElem? (i := 218) rfl)), wi_12, by decide +kernel, ⟨by decide +kernel, by decide +kernel⟩, by decide +kernel, by decide⟩
def yX12_blanks : MethodName := ⟨RX12, "blanks", "()V"⟩
abbrev mX12_blanks : Md := (yX12_blanks, cX12_blanks, 1, none)
theorem mo_X12_blanks : MdOk mX12_blanks 0 := ⟨(inL6 (List.mem_of_getElem? (i := 192) rfl)), wi_12, by decide +kernel, ⟨by decide +kernel, by decide +kernel⟩, by decide +kernel, by decide⟩
def yX12_isSmall : MethodName := ⟨RX12, "isSmall", "(I)Z"⟩
abbrev mX12_isSmall : Md := (yX12_isSmall, cX12_isSmall, 1, (some FieldType.boolean))
theorem mo_X12_isSmall : MdOk mX12_isSmall 1 := ⟨(inL6 (List.mem_of_getElem? (i := 204) rfl)), wi_12, by decide +kernel, ⟨by decide +kernel, by decide +kernel⟩, by decide +kernel, by decide⟩
def yX12_wordLong : MethodName := ⟨RX12, "wordLong", "()I"⟩
abbrev mX12_wordLong : Md := (yX12_wordLong, cX12_wordLong, 2, (some FieldType.int))
theorem mo_X12_wordLong : MdOk mX12_wordLong 0 := ⟨(inL6 (List.mem_of_getElem? (i := 201) rfl)), wi_12, by decide +kernel, ⟨by decide +kernel, by decide +kernel⟩, by decide +kernel, by decide⟩
def yX12_isWord : MethodName := ⟨RX12, "isWord", "(Ljava/lang/String;)Z"⟩
abbrev mX12_isWord : Md := (yX12_isWord, cX12_isWord, 4, (some FieldType.boolean))
theorem mo_X12_isWord : MdOk mX12_isWord 1 := ⟨(inL6 (List.mem_of_getElem? (i := 197) rfl)), wi_12, by decide +kernel, ⟨by decide +kernel, by decide +kernel⟩, by decide +kernel, by decide⟩
def yX12_emits : MethodName := ⟨RX12, "emits", "(II)V"⟩
abbrev mX12_emits : Md := (yX12_emits, cX12_emits, 3, none)
theorem mo_X12_emits : MdOk mX12_emits 2 := ⟨(inL6 (List.mem_of_getElem? (i := 232) rfl)), wi_12, by decide +kernel, ⟨by decide +kernel, by decide +kernel⟩, by decide +kernel, by decide⟩
def yX12_opens : MethodName := ⟨RX12, "opens", "(II)V"⟩
abbrev mX12_opens : Md := (yX12_opens, cX12_opens, 3, none)
theorem mo_X12_opens : MdOk mX12_opens 2 := ⟨(inL6 (List.mem_of_getElem? (i := 222) rfl)), wi_12, by decide +kernel, ⟨by decide +kernel, by decide +kernel⟩, by decide +kernel, by decide⟩
def yX12_counts : MethodName := ⟨RX12, "counts", "()V"⟩
abbrev mX12_counts : Md := (yX12_counts, cX12_counts, 1, none)
theorem mo_X12_counts : MdOk mX12_counts 0 := ⟨(inL6 (List.mem_of_getElem? (i := 228) rfl)), wi_12, by decide +kernel, ⟨by decide +kernel, by decide +kernel⟩, by decide +kernel, by decide⟩
def yX12_atPlace : MethodName := ⟨RX12, "atPlace", "()V"⟩
abbrev mX12_atPlace : Md := (yX12_atPlace, cX12_atPlace, 4, none)
theorem mo_X12_atPlace : MdOk mX12_atPlace 0 := ⟨(inL6 (List.mem_of_getElem? (i := 238) rfl)), wi_12, by decide +kernel, ⟨by decide +kernel, by decide +kernel⟩, by decide +kernel, by decide⟩
def yX12_fact : MethodName := ⟨RX12, "fact", "()Z"⟩
abbrev mX12_fact : Md := (yX12_fact, cX12_fact, 3, (some FieldType.boolean))
theorem mo_X12_fact : MdOk mX12_fact 0 := ⟨(inL6 (List.mem_of_getElem? (i := 213) rfl)), wi_12, by decide +kernel, ⟨by decide +kernel, by decide +kernel⟩, by decide +kernel, by decide⟩
def yX12_closes : MethodName := ⟨RX12, "closes", "()V"⟩
abbrev mX12_closes : Md := (yX12_closes, cX12_closes, 1, none)
theorem mo_X12_closes : MdOk mX12_closes 0 := ⟨(inL7 (List.mem_of_getElem? (i := 4) rfl)), wi_12, by decide +kernel, ⟨by decide +kernel, by decide +kernel⟩, by decide +kernel, by decide⟩
def yX12_gives : MethodName := ⟨RX12, "gives", "(I)V"⟩
abbrev mX12_gives : Md := (yX12_gives, cX12_gives, 2, none)
theorem mo_X12_gives : MdOk mX12_gives 1 := ⟨(inL7 (List.mem_of_getElem? (i := 12) rfl)), wi_12, by decide +kernel, ⟨by decide +kernel, by decide +kernel⟩, by decide +kernel, by decide⟩
def yX12_follows : MethodName := ⟨RX12, "follows", "()Z"⟩
abbrev mX12_follows : Md := (yX12_follows, cX12_follows, 2, (some FieldType.boolean))
theorem mo_X12_follows : MdOk mX12_follows 0 := ⟨(inL7 (List.mem_of_getElem? (i := 8) rfl)), wi_12, by decide +kernel, ⟨by decide +kernel, by decide +kernel⟩, by decide +kernel, by decide⟩
def yX12_heads : MethodName := ⟨RX12, "heads", "()V"⟩
abbrev mX12_heads : Md := (yX12_heads, cX12_heads, 4, none)
theorem mo_X12_heads : MdOk mX12_heads 0 := ⟨(inL6 (List.mem_of_getElem? (i := 188) rfl)), wi_12, by decide +kernel, ⟨by decide +kernel, by decide +kernel⟩, by decide +kernel, by decide⟩
def yX12_cover : MethodName := ⟨RX12, "cover", "()I"⟩
abbrev mX12_cover : Md := (yX12_cover, cX12_cover, 2, (some FieldType.int))
theorem mo_X12_cover : MdOk mX12_cover 0 := ⟨(inL6 (List.mem_of_getElem? (i := 184) rfl)), wi_12, by decide +kernel, ⟨by decide +kernel, by decide +kernel⟩, by decide +kernel, by decide⟩
def yX12_isCover : MethodName := ⟨RX12, "isCover", "(I)Z"⟩
abbrev mX12_isCover : Md := (yX12_isCover, cX12_isCover, 2, (some FieldType.boolean))
theorem mo_X12_isCover : MdOk mX12_isCover 1 := ⟨(inL7 (List.mem_of_getElem? (i := 22) rfl)), wi_12, by decide +kernel, ⟨by decide +kernel, by decide +kernel⟩, by decide +kernel, by decide⟩
def yX12_markedSet : MethodName := ⟨RX12, "markedSet", "(II)I"⟩
abbrev mX12_markedSet : Md := (yX12_markedSet, cX12_markedSet, 5, (some FieldType.int))
theorem mo_X12_markedSet : MdOk mX12_markedSet 2 := ⟨(inL7 (List.mem_of_getElem? (i := 30) rfl)), wi_12, by decide +kernel, ⟨by decide +kernel, by decide +kernel⟩, by decide +kernel, by decide⟩
def yX12_tiedSet : MethodName := ⟨RX12, "tiedSet", "(III)I"⟩
abbrev mX12_tiedSet : Md := (yX12_tiedSet, cX12_tiedSet, 6, (some FieldType.int))
theorem mo_X12_tiedSet : MdOk mX12_tiedSet 3 := ⟨(inL7 (List.mem_of_getElem? (i := 34) rfl)), wi_12, by decide +kernel, ⟨by decide +kernel, by decide +kernel⟩, by decide +kernel, by decide⟩
def yX12_fitting : MethodName := ⟨RX12, "fitting", "(III)I"⟩
abbrev mX12_fitting : Md := (yX12_fitting, cX12_fitting, 9, (some FieldType.int))
theorem mo_X12_fitting : MdOk mX12_fitting 3 := ⟨(inL7 (List.mem_of_getElem? (i := 26) rfl)), wi_12, by decide +kernel, ⟨by decide +kernel, by decide +kernel⟩, by decide +kernel, by decide⟩
def yX12_fits : MethodName := ⟨RX12, "fits", "(IIIII)I"⟩
abbrev mX12_fits : Md := (yX12_fits, cX12_fits, 6, (some FieldType.int))
theorem mo_X12_fits : MdOk mX12_fits 5 := ⟨(inL7 (List.mem_of_getElem? (i := 18) rfl)), wi_12, by decide +kernel, ⟨by decide +kernel, by decide +kernel⟩, by decide +kernel, by decide⟩
def yX12_asks : MethodName := ⟨RX12, "asks", "(III)I"⟩
abbrev mX12_asks : Md := (yX12_asks, cX12_asks, 8, (some FieldType.int))
theorem mo_X12_asks : MdOk mX12_asks 3 := ⟨(inL7 (List.mem_of_getElem? (i := 45) rfl)), wi_12, by decide +kernel, ⟨by decide +kernel, by decide +kernel⟩, by decide +kernel, by decide⟩
def yX12_asked : MethodName := ⟨RX12, "asked", "(IIIIII)I"⟩
abbrev mX12_asked : Md := (yX12_asked, cX12_asked, 8, (some FieldType.int))
theorem mo_X12_asked : MdOk mX12_asked 6 := ⟨(inL7 (List.mem_of_getElem? (i := 41) rfl)), wi_12, by decide +kernel, ⟨by decide +kernel, by decide +kernel⟩, by decide +kernel, by decide⟩
def yX12_stale : MethodName := ⟨RX12, "stale", "(IIII)I"⟩
abbrev mX12_stale : Md := (yX12_stale, cX12_stale, 6, (some FieldType.int))
theorem mo_X12_stale : MdOk mX12_stale 4 := ⟨(inL7 (List.mem_of_getElem? (i := 56) rfl)), wi_12, by decide +kernel, ⟨by decide +kernel, by decide +kernel⟩, by decide +kernel, by decide⟩
def yX12_letter : MethodName := ⟨RX12, "letter", "(IIII)I"⟩
abbrev mX12_letter : Md := (yX12_letter, cX12_letter, 6, (some FieldType.int))
theorem mo_X12_letter : MdOk mX12_letter 4 := ⟨(inL7 (List.mem_of_getElem? (i := 60) rfl)), wi_12, by decide +kernel, ⟨by decide +kernel, by decide +kernel⟩, by decide +kernel, by decide⟩
def yX12_unseen : MethodName := ⟨RX12, "unseen", "(II)I"⟩
abbrev mX12_unseen : Md := (yX12_unseen, cX12_unseen, 6, (some FieldType.int))
theorem mo_X12_unseen : MdOk mX12_unseen 2 := ⟨(inL7 (List.mem_of_getElem? (i := 73) rfl)), wi_12, by decide +kernel, ⟨by decide +kernel, by decide +kernel⟩, by decide +kernel, by decide⟩
def yX12_goesOn : MethodName := ⟨RX12, "goesOn", "(I)V"⟩
abbrev mX12_goesOn : Md := (yX12_goesOn, cX12_goesOn, 4, none)
theorem mo_X12_goesOn : MdOk mX12_goesOn 1 := ⟨(inL7 (List.mem_of_getElem? (i := 69) rfl)), wi_12, by decide +kernel, ⟨by decide +kernel, by decide +kernel⟩, by decide +kernel, by decide⟩
def yX12_underWay : MethodName := ⟨RX12, "underWay", "()I"⟩
abbrev mX12_underWay : Md := (yX12_underWay, cX12_underWay, 3, (some FieldType.int))
theorem mo_X12_underWay : MdOk mX12_underWay 0 := ⟨(inL7 (List.mem_of_getElem? (i := 77) rfl)), wi_12, by decide +kernel, ⟨by decide +kernel, by decide +kernel⟩, by decide +kernel, by decide⟩
def yX12_days : MethodName := ⟨RX12, "days", "(I)I"⟩
abbrev mX12_days : Md := (yX12_days, cX12_days, 4, (some FieldType.int))
theorem mo_X12_days : MdOk mX12_days 1 := ⟨(inL7 (List.mem_of_getElem? (i := 64) rfl)), wi_12, by decide +kernel, ⟨by decide +kernel, by decide +kernel⟩, by decide +kernel, by decide⟩
def yX12_isRight : MethodName := ⟨RX12, "isRight", "(I)Z"⟩
abbrev mX12_isRight : Md := (yX12_isRight, cX12_isRight, 2, (some FieldType.boolean))
theorem mo_X12_isRight : MdOk mX12_isRight 1 := ⟨(inL7 (List.mem_of_getElem? (i := 85) rfl)), wi_12, by decide +kernel, ⟨by decide +kernel, by decide +kernel⟩, by decide +kernel, by decide⟩
def yX12_letters : MethodName := ⟨RX12, "letters", "(II)I"⟩
abbrev mX12_letters : Md := (yX12_letters, cX12_letters, 3, (some FieldType.int))
theorem mo_X12_letters : MdOk mX12_letters 2 := ⟨(inL7 (List.mem_of_getElem? (i := 81) rfl)), wi_12, by decide +kernel, ⟨by decide +kernel, by decide +kernel⟩, by decide +kernel, by decide⟩
def yX12_at : MethodName := ⟨RX12, "at", "(II)I"⟩
abbrev mX12_at : Md := (yX12_at, cX12_at, 3, (some FieldType.int))
theorem mo_X12_at : MdOk mX12_at 2 := ⟨(inL7 (List.mem_of_getElem? (i := 97) rfl)), wi_12, by decide +kernel, ⟨by decide +kernel, by decide +kernel⟩, by decide +kernel, by decide⟩
def yX12_chooses : MethodName := ⟨RX12, "chooses", "(IZI)V"⟩
abbrev mX12_chooses : Md := (yX12_chooses, cX12_chooses, 4, none)
theorem mo_X12_chooses : MdOk mX12_chooses 3 := ⟨(inL7 (List.mem_of_getElem? (i := 101) rfl)), wi_12, by decide +kernel, ⟨by decide +kernel, by decide +kernel⟩, by decide +kernel, by decide⟩
def yX12_looks : MethodName := ⟨RX12, "looks", "(IIIII)V"⟩
abbrev mX12_looks : Md := (yX12_looks, cX12_looks, 16, none)
theorem mo_X12_looks : MdOk mX12_looks 5 := ⟨(inL7 (List.mem_of_getElem? (i := 93) rfl)), wi_12, by decide +kernel, ⟨by decide +kernel, by decide +kernel⟩, by decide +kernel, by decide⟩
def yX12_sure : MethodName := ⟨RX12, "sure", "(IIIIII)I"⟩
abbrev mX12_sure : Md := (yX12_sure, cX12_sure, 9, (some FieldType.int))
theorem mo_X12_sure : MdOk mX12_sure 6 := ⟨(inL7 (List.mem_of_getElem? (i := 89) rfl)), wi_12, by decide +kernel, ⟨by decide +kernel, by decide +kernel⟩, by decide +kernel, by decide⟩
def yX12_rings : MethodName := ⟨RX12, "rings", "(IIII)I"⟩
abbrev mX12_rings : Md := (yX12_rings, cX12_rings, 12, (some FieldType.int))
theorem mo_X12_rings : MdOk mX12_rings 4 := ⟨(inL7 (List.mem_of_getElem? (i := 105) rfl)), wi_12, by decide +kernel, ⟨by decide +kernel, by decide +kernel⟩, by decide +kernel, by decide⟩
def yX12_told : MethodName := ⟨RX12, "told", "(I)I"⟩
abbrev mX12_told : Md := (yX12_told, cX12_told, 2, (some FieldType.int))
theorem mo_X12_told : MdOk mX12_told 1 := ⟨(inL7 (List.mem_of_getElem? (i := 109) rfl)), wi_12, by decide +kernel, ⟨by decide +kernel, by decide +kernel⟩, by decide +kernel, by decide⟩
def yX12_judged : MethodName := ⟨RX12, "judged", "(IIII)I"⟩
abbrev mX12_judged : Md := (yX12_judged, cX12_judged, 11, (some FieldType.int))
theorem mo_X12_judged : MdOk mX12_judged 4 := ⟨(inL7 (List.mem_of_getElem? (i := 113) rfl)), wi_12, by decide +kernel, ⟨by decide +kernel, by decide +kernel⟩, by decide +kernel, by decide⟩
def yX12_wordsOf : MethodName := ⟨RX12, "wordsOf", "(II)I"⟩
abbrev mX12_wordsOf : Md := (yX12_wordsOf, cX12_wordsOf, 5, (some FieldType.int))
theorem mo_X12_wordsOf : MdOk mX12_wordsOf 2 := ⟨(inL7 (List.mem_of_getElem? (i := 124) rfl)), wi_12, by decide +kernel, ⟨by decide +kernel, by decide +kernel⟩, by decide +kernel, by decide⟩
def yX12_price : MethodName := ⟨RX12, "price", "(II)I"⟩
abbrev mX12_price : Md := (yX12_price, cX12_price, 5, (some FieldType.int))
theorem mo_X12_price : MdOk mX12_price 2 := ⟨(inL7 (List.mem_of_getElem? (i := 137) rfl)), wi_12, by decide +kernel, ⟨by decide +kernel, by decide +kernel⟩, by decide +kernel, by decide⟩
def yX12_isClear : MethodName := ⟨RX12, "isClear", "(II)Z"⟩
abbrev mX12_isClear : Md := (yX12_isClear, cX12_isClear, 5, (some FieldType.boolean))
theorem mo_X12_isClear : MdOk mX12_isClear 2 := ⟨(inL7 (List.mem_of_getElem? (i := 129) rfl)), wi_12, by decide +kernel, ⟨by decide +kernel, by decide +kernel⟩, by decide +kernel, by decide⟩
def yX12_cheapest : MethodName := ⟨RX12, "cheapest", "(IIIII)I"⟩
abbrev mX12_cheapest : Md := (yX12_cheapest, cX12_cheapest, 14, (some FieldType.int))
theorem mo_X12_cheapest : MdOk mX12_cheapest 5 := ⟨(inL7 (List.mem_of_getElem? (i := 117) rfl)), wi_12, by decide +kernel, ⟨by decide +kernel, by decide +kernel⟩, by decide +kernel, by decide⟩
def yX12_isLess : MethodName := ⟨RX12, "isLess", "(III)Z"⟩
abbrev mX12_isLess : Md := (yX12_isLess, cX12_isLess, 5, (some FieldType.boolean))
theorem mo_X12_isLess : MdOk mX12_isLess 3 := ⟨(inL7 (List.mem_of_getElem? (i := 133) rfl)), wi_12, by decide +kernel, ⟨by decide +kernel, by decide +kernel⟩, by decide +kernel, by decide⟩
def yX12_apart : MethodName := ⟨RX12, "apart", "(III)I"⟩
abbrev mX12_apart : Md := (yX12_apart, cX12_apart, 9, (some FieldType.int))
theorem mo_X12_apart : MdOk mX12_apart 3 := ⟨(inL7 (List.mem_of_getElem? (i := 141) rfl)), wi_12, by decide +kernel, ⟨by decide +kernel, by decide +kernel⟩, by decide +kernel, by decide⟩
def yX12_parts : MethodName := ⟨RX12, "parts", "(I)V"⟩
abbrev mX12_parts : Md := (yX12_parts, cX12_parts, 3, none)
theorem mo_X12_parts : MdOk mX12_parts 1 := ⟨(inL7 (List.mem_of_getElem? (i := 145) rfl)), wi_12, by decide +kernel, ⟨by decide +kernel, by decide +kernel⟩, by decide +kernel, by decide⟩
def yX12_endsFrom : MethodName := ⟨RX12, "endsFrom", "(IIII)V"⟩
abbrev mX12_endsFrom : Md := (yX12_endsFrom, cX12_endsFrom, 9, none)
theorem mo_X12_endsFrom : MdOk mX12_endsFrom 4 := ⟨(inL7 (List.mem_of_getElem? (i := 157) rfl)), wi_12, by decide +kernel, ⟨by decide +kernel, by decide +kernel⟩, by decide +kernel, by decide⟩
def yX12_isLetter : MethodName := ⟨RX12, "isLetter", "(IIII)Z"⟩
abbrev mX12_isLetter : Md := (yX12_isLetter, cX12_isLetter, 5, (some FieldType.boolean))
theorem mo_X12_isLetter : MdOk mX12_isLetter 4 := ⟨(inL7 (List.mem_of_getElem? (i := 153) rfl)), wi_12, by decide +kernel, ⟨by decide +kernel, by decide +kernel⟩, by decide +kernel, by decide⟩
def yX12_ends : MethodName := ⟨RX12, "ends", "(IIIII)I"⟩
abbrev mX12_ends : Md := (yX12_ends, cX12_ends, 6, (some FieldType.int))
theorem mo_X12_ends : MdOk mX12_ends 5 := ⟨(inL7 (List.mem_of_getElem? (i := 149) rfl)), wi_12, by decide +kernel, ⟨by decide +kernel, by decide +kernel⟩, by decide +kernel, by decide⟩
def yX12_endsRight : MethodName := ⟨RX12, "endsRight", "(IIIII)Z"⟩
abbrev mX12_endsRight : Md := (yX12_endsRight, cX12_endsRight, 6, (some FieldType.boolean))
theorem mo_X12_endsRight : MdOk mX12_endsRight 5 := ⟨(inL7 (List.mem_of_getElem? (i := 169) rfl)), wi_12, by decide +kernel, ⟨by decide +kernel, by decide +kernel⟩, by decide +kernel, by decide⟩
def yX12_isStrange : MethodName := ⟨RX12, "isStrange", "(I)Z"⟩
abbrev mX12_isStrange : Md := (yX12_isStrange, cX12_isStrange, 4, (some FieldType.boolean))
theorem mo_X12_isStrange : MdOk mX12_isStrange 1 := ⟨(inL7 (List.mem_of_getElem? (i := 173) rfl)), wi_12, by decide +kernel, ⟨by decide +kernel, by decide +kernel⟩, by decide +kernel, by decide⟩
def yX12_turns : MethodName := ⟨RX12, "turns", "(I)V"⟩
abbrev mX12_turns : Md := (yX12_turns, cX12_turns, 2, none)
theorem mo_X12_turns : MdOk mX12_turns 1 := ⟨(inL7 (List.mem_of_getElem? (i := 177) rfl)), wi_12, by decide +kernel, ⟨by decide +kernel, by decide +kernel⟩, by decide +kernel, by decide⟩
def yX12_finds : MethodName := ⟨RX12, "finds", "(IIIII)V"⟩
abbrev mX12_finds : Md := (yX12_finds, cX12_finds, 9, none)
theorem mo_X12_finds : MdOk mX12_finds 5 := ⟨(inL7 (List.mem_of_getElem? (i := 165) rfl)), wi_12, by decide +kernel, ⟨by decide +kernel, by decide +kernel⟩, by decide +kernel, by decide⟩
def yX12_needs : MethodName := ⟨RX12, "needs", "(IIIIII)I"⟩
abbrev mX12_needs : Md := (yX12_needs, cX12_needs, 7, (some FieldType.int))
theorem mo_X12_needs : MdOk mX12_needs 6 := ⟨(inL7 (List.mem_of_getElem? (i := 161) rfl)), wi_12, by decide +kernel, ⟨by decide +kernel, by decide +kernel⟩, by decide +kernel, by decide⟩
def yX12_fittingAll : MethodName := ⟨RX12, "fittingAll", "(II)I"⟩
abbrev mX12_fittingAll : Md := (yX12_fittingAll, cX12_fittingAll, 5, (some FieldType.int))
theorem mo_X12_fittingAll : MdOk mX12_fittingAll 2 := ⟨(inL7 (List.mem_of_getElem? (i := 185) rfl)), wi_12, by decide +kernel, ⟨by decide +kernel, by decide +kernel⟩, by decide +kernel, by decide⟩
def yX12_mends : MethodName := ⟨RX12, "mends", "(IIII)I"⟩
abbrev mX12_mends : Md := (yX12_mends, cX12_mends, 13, (some FieldType.int))
theorem mo_X12_mends : MdOk mX12_mends 4 := ⟨(inL7 (List.mem_of_getElem? (i := 181) rfl)), wi_12, by decide +kernel, ⟨by decide +kernel, by decide +kernel⟩, by decide +kernel, by decide⟩
def yX12_isRead : MethodName := ⟨RX12, "isRead", "(III)Z"⟩
abbrev mX12_isRead : Md := (yX12_isRead, cX12_isRead, 4, (some FieldType.boolean))
theorem mo_X12_isRead : MdOk mX12_isRead 3 := ⟨(inL7 (List.mem_of_getElem? (i := 193) rfl)), wi_12, by decide +kernel, ⟨by decide +kernel, by decide +kernel⟩, by decide +kernel, by decide⟩
def yX12_tellers : MethodName := ⟨RX12, "tellers", "(III)I"⟩
abbrev mX12_tellers : Md := (yX12_tellers, cX12_tellers, 6, (some FieldType.int))
theorem mo_X12_tellers : MdOk mX12_tellers 3 := ⟨(inL7 (List.mem_of_getElem? (i := 189) rfl)), wi_12, by decide +kernel, ⟨by decide +kernel, by decide +kernel⟩, by decide +kernel, by decide⟩
def yX12_lied : MethodName := ⟨RX12, "lied", "(III)I"⟩
abbrev mX12_lied : Md := (yX12_lied, cX12_lied, 7, (some FieldType.int))
theorem mo_X12_lied : MdOk mX12_lied 3 := ⟨(inL7 (List.mem_of_getElem? (i := 197) rfl)), wi_12, by decide +kernel, ⟨by decide +kernel, by decide +kernel⟩, by decide +kernel, by decide⟩
def yX12_alone : MethodName := ⟨RX12, "alone", "(IIII)I"⟩
abbrev mX12_alone : Md := (yX12_alone, cX12_alone, 7, (some FieldType.int))
theorem mo_X12_alone : MdOk mX12_alone 4 := ⟨(inL7 (List.mem_of_getElem? (i := 201) rfl)), wi_12, by decide +kernel, ⟨by decide +kernel, by decide +kernel⟩, by decide +kernel, by decide⟩
def yX12_knownBy : MethodName := ⟨RX12, "knownBy", "(I)I"⟩
abbrev mX12_knownBy : Md := (yX12_knownBy, cX12_knownBy, 4, (some FieldType.int))
theorem mo_X12_knownBy : MdOk mX12_knownBy 1 := ⟨(inL7 (List.mem_of_getElem? (i := 209) rfl)), wi_12, by decide +kernel, ⟨by decide +kernel, by decide +kernel⟩, by decide +kernel, by decide⟩
def yX12_chain : MethodName := ⟨RX12, "chain", "(II)I"⟩
abbrev mX12_chain : Md := (yX12_chain, cX12_chain, 5, (some FieldType.int))
theorem mo_X12_chain : MdOk mX12_chain 2 := ⟨(inL7 (List.mem_of_getElem? (i := 205) rfl)), wi_12, by decide +kernel, ⟨by decide +kernel, by decide +kernel⟩, by decide +kernel, by decide⟩
def yX12_circle : MethodName := ⟨RX12, "circle", "(I)I"⟩
abbrev mX12_circle : Md := (yX12_circle, cX12_circle, 4, (some FieldType.int))
theorem mo_X12_circle : MdOk mX12_circle 1 := ⟨(inL7 (List.mem_of_getElem? (i := 213) rfl)), wi_12, by decide +kernel, ⟨by decide +kernel, by decide +kernel⟩, by decide +kernel, by decide⟩
def yX12_strangers : MethodName := ⟨RX12, "strangers", "(I)I"⟩
abbrev mX12_strangers : Md := (yX12_strangers, cX12_strangers, 5, (some FieldType.int))
theorem mo_X12_strangers : MdOk mX12_strangers 1 := ⟨(inL7 (List.mem_of_getElem? (i := 217) rfl)), wi_12, by decide +kernel, ⟨by decide +kernel, by decide +kernel⟩, by decide +kernel, by decide⟩
def yX12_copies : MethodName := ⟨RX12, "copies", "(IIIIIII)I"⟩
abbrev mX12_copies : Md := (yX12_copies, cX12_copies, 11, (some FieldType.int))
theorem mo_X12_copies : MdOk mX12_copies 7 := ⟨(inL7 (List.mem_of_getElem? (i := 221) rfl)), wi_12, by decide +kernel, ⟨by decide +kernel, by decide +kernel⟩, by decide +kernel, by decide⟩
def yX12_often : MethodName := ⟨RX12, "often", "()I"⟩
abbrev mX12_often : Md := (yX12_often, cX12_often, 6, (some FieldType.int))
theorem mo_X12_often : MdOk mX12_often 0 := ⟨(inL7 (List.mem_of_getElem? (i := 225) rfl)), wi_12, by decide +kernel, ⟨by decide +kernel, by decide +kernel⟩, by decide +kernel, by decide⟩
def yX12_count : MethodName := ⟨RX12, "count", "(I)I"⟩
abbrev mX12_count : Md := (yX12_count, cX12_count, 4, (some FieldType.int))
theorem mo_X12_count : MdOk mX12_count 1 := ⟨(inL7 (List.mem_of_getElem? (i := 229) rfl)), wi_12, by decide +kernel, ⟨by decide +kernel, by decide +kernel⟩, by decide +kernel, by decide⟩
def yX12_carry : MethodName := ⟨RX12, "carry", "([I)V"⟩
abbrev mX12_carry : Md := (yX12_carry, cX12_carry, 3, none)
theorem mo_X12_carry : MdOk mX12_carry 1 := ⟨(inL8 (List.mem_of_getElem? (i := 2) rfl)), wi_12, by decide +kernel, ⟨by decide +kernel, by decide +kernel⟩, by decide +kernel, by decide⟩
def yX12_carriesAll : MethodName := ⟨RX12, "carriesAll", "(IZ)V"⟩
abbrev mX12_carriesAll : Md := (yX12_carriesAll, cX12_carriesAll, 3, none)
theorem mo_X12_carriesAll : MdOk mX12_carriesAll 2 := ⟨(inL7 (List.mem_of_getElem? (i := 238) rfl)), wi_12, by decide +kernel, ⟨by decide +kernel, by decide +kernel⟩, by decide +kernel, by decide⟩
def yX12_image : MethodName := ⟨RX12, "image", "(I)I"⟩
abbrev mX12_image : Md := (yX12_image, cX12_image, 2, (some FieldType.int))
theorem mo_X12_image : MdOk mX12_image 1 := ⟨(inL7 (List.mem_of_getElem? (i := 233) rfl)), wi_12, by decide +kernel, ⟨by decide +kernel, by decide +kernel⟩, by decide +kernel, by decide⟩
def yX12_back : MethodName := ⟨RX12, "back", "(I)I"⟩
abbrev mX12_back : Md := (yX12_back, cX12_back, 2, (some FieldType.int))
theorem mo_X12_back : MdOk mX12_back 1 := ⟨(inL8 (List.mem_of_getElem? (i := 6) rfl)), wi_12, by decide +kernel, ⟨by decide +kernel, by decide +kernel⟩, by decide +kernel, by decide⟩
def yJ6_bitCount_0f7a4 : MethodName := ⟨"java/lang/Integer", "bitCount", "(I)I"⟩
abbrev mJ6_bitCount_0f7a4 : Md := (yJ6_bitCount_0f7a4, cJ6_bitCount_0f7a4, 1, (some FieldType.int))
theorem mo_J6_bitCount_0f7a4 : MdOk mJ6_bitCount_0f7a4 1 := ⟨(inL4 (List.mem_of_getElem? (i := 58) rfl)), wi_Integer, by decide +kernel, ⟨by decide +kernel, by decide +kernel⟩, by decide +kernel, by decide⟩
def yJ9_min_7cf53 : MethodName := ⟨"java/lang/Math", "min", "(II)I"⟩
abbrev mJ9_min_7cf53 : Md := (yJ9_min_7cf53, cJ9_min_7cf53, 2, (some FieldType.int))
def yJ7_fill_53178 : MethodName := ⟨"java/util/Arrays", "fill", "([II)V"⟩
abbrev mJ7_fill_53178 : Md := (yJ7_fill_53178, cJ7_fill_53178, 4, none)
theorem mo_J7_fill_53178 : MdOk mJ7_fill_53178 2 := ⟨(inL1 (List.mem_of_getElem? (i := 40) rfl)), wi_Arrays, by decide +kernel, ⟨by decide +kernel, by decide +kernel⟩, by decide +kernel, by decide⟩
def yJ7_copyOf_59c91 : MethodName := ⟨"java/util/Arrays", "copyOf", "([II)[I"⟩
abbrev mJ7_copyOf_59c91 : Md := (yJ7_copyOf_59c91, cJ7_copyOf_59c91, 3, (some (FieldType.array FieldType.int)))
theorem mo_J7_copyOf_59c91 : MdOk mJ7_copyOf_59c91 2 := ⟨(inL3 (List.mem_of_getElem? (i := 160) rfl)), wi_Arrays, by decide +kernel, ⟨by decide +kernel, by decide +kernel⟩, by decide +kernel, by decide⟩
