-- ===== PART A: goes FIRST, ahead of the names: the tables' words, and 'selects' of the private methods out of them =====
/-- a private method of a class that the tables say can be made, by its rows of tables_1 -/
def lw_okq (q : MethodName × Nat) : Prop := (q.1.cls ≠ "java/lang/invoke/MethodHandle" ∧ q.1.cls ≠ "java/lang/invoke/VarHandle") ∧ Cond.instantiable q.1.cls q.2 ∈ tables_1 ∧ Cond.privateMethod q.1 ∈ tables_1 ∧ Cond.instanceMethod q.1 ∈ tables_1
theorem lw_p0 : lw_okq (⟨"DiscCutter", "isTray", "(I)Z"⟩, 18) := ⟨⟨by decide +kernel, by decide +kernel⟩, List.mem_of_getElem? (i := 23) (by decide +kernel), List.mem_of_getElem? (i := 510) (by decide +kernel), List.mem_of_getElem? (i := 511) (by decide +kernel)⟩
theorem lw_p1 : lw_okq (⟨"DiscCutter", "refuse", "(I)Z"⟩, 18) := ⟨⟨by decide +kernel, by decide +kernel⟩, List.mem_of_getElem? (i := 23) (by decide +kernel), List.mem_of_getElem? (i := 517) (by decide +kernel), List.mem_of_getElem? (i := 518) (by decide +kernel)⟩
theorem lw_p2 : lw_okq (⟨"DiscCutter", "accept", "()Z"⟩, 18) := ⟨⟨by decide +kernel, by decide +kernel⟩, List.mem_of_getElem? (i := 23) (by decide +kernel), List.mem_of_getElem? (i := 528) (by decide +kernel), List.mem_of_getElem? (i := 529) (by decide +kernel)⟩
theorem lw_p3 : lw_okq (⟨"DiscCutter", "whyNoNumber", "(II)I"⟩, 18) := ⟨⟨by decide +kernel, by decide +kernel⟩, List.mem_of_getElem? (i := 23) (by decide +kernel), List.mem_of_getElem? (i := 536) (by decide +kernel), List.mem_of_getElem? (i := 537) (by decide +kernel)⟩
theorem lw_p4 : lw_okq (⟨"DiscCutter", "giveNone", "(I)I"⟩, 18) := ⟨⟨by decide +kernel, by decide +kernel⟩, List.mem_of_getElem? (i := 23) (by decide +kernel), List.mem_of_getElem? (i := 557) (by decide +kernel), List.mem_of_getElem? (i := 558) (by decide +kernel)⟩
theorem lw_p5 : lw_okq (⟨"DiscCutter", "give", "(I)I"⟩, 18) := ⟨⟨by decide +kernel, by decide +kernel⟩, List.mem_of_getElem? (i := 23) (by decide +kernel), List.mem_of_getElem? (i := 585) (by decide +kernel), List.mem_of_getElem? (i := 586) (by decide +kernel)⟩
theorem lw_p6 : lw_okq (⟨"DiscCutter", "isSide", "(I)Z"⟩, 18) := ⟨⟨by decide +kernel, by decide +kernel⟩, List.mem_of_getElem? (i := 23) (by decide +kernel), List.mem_of_getElem? (i := 621) (by decide +kernel), List.mem_of_getElem? (i := 622) (by decide +kernel)⟩
theorem lw_p7 : lw_okq (⟨"DiscCutter", "whyNotLaid", "(LDiscCutter$Side;I)I"⟩, 18) := ⟨⟨by decide +kernel, by decide +kernel⟩, List.mem_of_getElem? (i := 23) (by decide +kernel), List.mem_of_getElem? (i := 633) (by decide +kernel), List.mem_of_getElem? (i := 634) (by decide +kernel)⟩
theorem lw_p8 : lw_okq (⟨"DiscCutter", "isPart", "(II)Z"⟩, 18) := ⟨⟨by decide +kernel, by decide +kernel⟩, List.mem_of_getElem? (i := 23) (by decide +kernel), List.mem_of_getElem? (i := 670) (by decide +kernel), List.mem_of_getElem? (i := 671) (by decide +kernel)⟩
theorem lw_p9 : lw_okq (⟨"DiscCutter$Side", "layOut", "()V"⟩, 9) := ⟨⟨by decide +kernel, by decide +kernel⟩, List.mem_of_getElem? (i := 104) (by decide +kernel), List.mem_of_getElem? (i := 689) (by decide +kernel), List.mem_of_getElem? (i := 690) (by decide +kernel)⟩
theorem lw_p10 : lw_okq (⟨"DiscCutter$Side", "placeBehind", "(I)I"⟩, 9) := ⟨⟨by decide +kernel, by decide +kernel⟩, List.mem_of_getElem? (i := 104) (by decide +kernel), List.mem_of_getElem? (i := 693) (by decide +kernel), List.mem_of_getElem? (i := 694) (by decide +kernel)⟩
theorem lw_p11 : lw_okq (⟨"DiscCutter", "giveIfAny", "(I)I"⟩, 18) := ⟨⟨by decide +kernel, by decide +kernel⟩, List.mem_of_getElem? (i := 23) (by decide +kernel), List.mem_of_getElem? (i := 714) (by decide +kernel), List.mem_of_getElem? (i := 715) (by decide +kernel)⟩
theorem lw_p12 : lw_okq (⟨"DiscCutter$Order", "putInSequence", "(LDiscCutter$Songs;)V"⟩, 5) := ⟨⟨by decide +kernel, by decide +kernel⟩, List.mem_of_getElem? (i := 192) (by decide +kernel), List.mem_of_getElem? (i := 751) (by decide +kernel), List.mem_of_getElem? (i := 752) (by decide +kernel)⟩
theorem lw_p13 : lw_okq (⟨"DiscCutter$Order", "chooseSides", "(LDiscCutter$Songs;)V"⟩, 5) := ⟨⟨by decide +kernel, by decide +kernel⟩, List.mem_of_getElem? (i := 192) (by decide +kernel), List.mem_of_getElem? (i := 758) (by decide +kernel), List.mem_of_getElem? (i := 759) (by decide +kernel)⟩
theorem lw_p14 : lw_okq (⟨"DiscCutter$Order", "lossOf", "(LDiscCutter$Songs;I)I"⟩, 5) := ⟨⟨by decide +kernel, by decide +kernel⟩, List.mem_of_getElem? (i := 192) (by decide +kernel), List.mem_of_getElem? (i := 762) (by decide +kernel), List.mem_of_getElem? (i := 763) (by decide +kernel)⟩
theorem lw_p15 : lw_okq (⟨"DiscCutter$Clicks", "walk", "(III)I"⟩, 8) := ⟨⟨by decide +kernel, by decide +kernel⟩, List.mem_of_getElem? (i := 217) (by decide +kernel), List.mem_of_getElem? (i := 829) (by decide +kernel), List.mem_of_getElem? (i := 830) (by decide +kernel)⟩
def lw_privs_1 : List (MethodName × Nat) := [(⟨"DiscCutter", "isTray", "(I)Z"⟩, 18), (⟨"DiscCutter", "refuse", "(I)Z"⟩, 18), (⟨"DiscCutter", "accept", "()Z"⟩, 18), (⟨"DiscCutter", "whyNoNumber", "(II)I"⟩, 18), (⟨"DiscCutter", "giveNone", "(I)I"⟩, 18), (⟨"DiscCutter", "give", "(I)I"⟩, 18), (⟨"DiscCutter", "isSide", "(I)Z"⟩, 18), (⟨"DiscCutter", "whyNotLaid", "(LDiscCutter$Side;I)I"⟩, 18), (⟨"DiscCutter", "isPart", "(II)Z"⟩, 18), (⟨"DiscCutter$Side", "layOut", "()V"⟩, 9), (⟨"DiscCutter$Side", "placeBehind", "(I)I"⟩, 9), (⟨"DiscCutter", "giveIfAny", "(I)I"⟩, 18), (⟨"DiscCutter$Order", "putInSequence", "(LDiscCutter$Songs;)V"⟩, 5), (⟨"DiscCutter$Order", "chooseSides", "(LDiscCutter$Songs;)V"⟩, 5), (⟨"DiscCutter$Order", "lossOf", "(LDiscCutter$Songs;I)I"⟩, 5), (⟨"DiscCutter$Clicks", "walk", "(III)I"⟩, 8)]
theorem lw_r1 : ∀ q ∈ lw_privs_1, lw_okq q := List.forall_mem_cons.mpr ⟨lw_p0, List.forall_mem_cons.mpr ⟨lw_p1, List.forall_mem_cons.mpr ⟨lw_p2, List.forall_mem_cons.mpr ⟨lw_p3, List.forall_mem_cons.mpr ⟨lw_p4, List.forall_mem_cons.mpr ⟨lw_p5, List.forall_mem_cons.mpr ⟨lw_p6, List.forall_mem_cons.mpr ⟨lw_p7, List.forall_mem_cons.mpr ⟨lw_p8, List.forall_mem_cons.mpr ⟨lw_p9, List.forall_mem_cons.mpr ⟨lw_p10, List.forall_mem_cons.mpr ⟨lw_p11, List.forall_mem_cons.mpr ⟨lw_p12, List.forall_mem_cons.mpr ⟨lw_p13, List.forall_mem_cons.mpr ⟨lw_p14, List.forall_mem_cons.mpr ⟨lw_p15, fun _ h => absurd h List.not_mem_nil⟩⟩⟩⟩⟩⟩⟩⟩⟩⟩⟩⟩⟩⟩⟩⟩
theorem lw_p16 : lw_okq (⟨"DiscCutter$Clicks", "isFirst", "(II)Z"⟩, 8) := ⟨⟨by decide +kernel, by decide +kernel⟩, List.mem_of_getElem? (i := 217) (by decide +kernel), List.mem_of_getElem? (i := 840) (by decide +kernel), List.mem_of_getElem? (i := 841) (by decide +kernel)⟩
theorem lw_p17 : lw_okq (⟨"DiscCutter$Needle", "playOn", "(LDiscCutter$Side;II)I"⟩, 4) := ⟨⟨by decide +kernel, by decide +kernel⟩, List.mem_of_getElem? (i := 253) (by decide +kernel), List.mem_of_getElem? (i := 903) (by decide +kernel), List.mem_of_getElem? (i := 904) (by decide +kernel)⟩
theorem lw_p18 : lw_okq (⟨"DiscCutter$Needle", "partAhead", "(LDiscCutter$Side;II)I"⟩, 4) := ⟨⟨by decide +kernel, by decide +kernel⟩, List.mem_of_getElem? (i := 253) (by decide +kernel), List.mem_of_getElem? (i := 907) (by decide +kernel), List.mem_of_getElem? (i := 908) (by decide +kernel)⟩
theorem lw_p19 : lw_okq (⟨"DiscCutter$Needle", "fallen", "(LDiscCutter$Side;III)I"⟩, 4) := ⟨⟨by decide +kernel, by decide +kernel⟩, List.mem_of_getElem? (i := 253) (by decide +kernel), List.mem_of_getElem? (i := 912) (by decide +kernel), List.mem_of_getElem? (i := 913) (by decide +kernel)⟩
theorem lw_p20 : lw_okq (⟨"DiscCutter$Needle", "placeOf", "(LDiscCutter$Side;II)I"⟩, 4) := ⟨⟨by decide +kernel, by decide +kernel⟩, List.mem_of_getElem? (i := 253) (by decide +kernel), List.mem_of_getElem? (i := 916) (by decide +kernel), List.mem_of_getElem? (i := 917) (by decide +kernel)⟩
theorem lw_p21 : lw_okq (⟨"DiscCutter$Beside", "layOut", "()Z"⟩, 11) := ⟨⟨by decide +kernel, by decide +kernel⟩, List.mem_of_getElem? (i := 150) (by decide +kernel), List.mem_of_getElem? (i := 950) (by decide +kernel), List.mem_of_getElem? (i := 951) (by decide +kernel)⟩
theorem lw_p22 : lw_okq (⟨"DiscCutter$Beside", "addNewest", "(II)Z"⟩, 11) := ⟨⟨by decide +kernel, by decide +kernel⟩, List.mem_of_getElem? (i := 150) (by decide +kernel), List.mem_of_getElem? (i := 956) (by decide +kernel), List.mem_of_getElem? (i := 957) (by decide +kernel)⟩
theorem lw_p23 : lw_okq (⟨"DiscCutter$Beside", "askedFor", "(II)I"⟩, 11) := ⟨⟨by decide +kernel, by decide +kernel⟩, List.mem_of_getElem? (i := 150) (by decide +kernel), List.mem_of_getElem? (i := 960) (by decide +kernel), List.mem_of_getElem? (i := 961) (by decide +kernel)⟩
theorem lw_p24 : lw_okq (⟨"DiscCutter$Beside", "edgeOf", "(II)I"⟩, 11) := ⟨⟨by decide +kernel, by decide +kernel⟩, List.mem_of_getElem? (i := 150) (by decide +kernel), List.mem_of_getElem? (i := 968) (by decide +kernel), List.mem_of_getElem? (i := 969) (by decide +kernel)⟩
theorem lw_p25 : lw_okq (⟨"DiscCutter$Beside", "enqueue", "(I)V"⟩, 11) := ⟨⟨by decide +kernel, by decide +kernel⟩, List.mem_of_getElem? (i := 150) (by decide +kernel), List.mem_of_getElem? (i := 973) (by decide +kernel), List.mem_of_getElem? (i := 974) (by decide +kernel)⟩
theorem lw_p26 : lw_okq (⟨"DiscCutter$Beside", "dequeue", "()I"⟩, 11) := ⟨⟨by decide +kernel, by decide +kernel⟩, List.mem_of_getElem? (i := 150) (by decide +kernel), List.mem_of_getElem? (i := 978) (by decide +kernel), List.mem_of_getElem? (i := 979) (by decide +kernel)⟩
theorem lw_p27 : lw_okq (⟨"DiscCutter$Beside", "passOn", "(II)Z"⟩, 11) := ⟨⟨by decide +kernel, by decide +kernel⟩, List.mem_of_getElem? (i := 150) (by decide +kernel), List.mem_of_getElem? (i := 982) (by decide +kernel), List.mem_of_getElem? (i := 983) (by decide +kernel)⟩
theorem lw_p28 : lw_okq (⟨"DiscCutter$Beside", "lift", "(III)Z"⟩, 11) := ⟨⟨by decide +kernel, by decide +kernel⟩, List.mem_of_getElem? (i := 150) (by decide +kernel), List.mem_of_getElem? (i := 986) (by decide +kernel), List.mem_of_getElem? (i := 987) (by decide +kernel)⟩
theorem lw_p29 : lw_okq (⟨"DiscCutter$Beside", "isKnown", "(II)Z"⟩, 11) := ⟨⟨by decide +kernel, by decide +kernel⟩, List.mem_of_getElem? (i := 150) (by decide +kernel), List.mem_of_getElem? (i := 990) (by decide +kernel), List.mem_of_getElem? (i := 991) (by decide +kernel)⟩
theorem lw_p30 : lw_okq (⟨"DiscCutter$Beside", "liftBehind", "(III)Z"⟩, 11) := ⟨⟨by decide +kernel, by decide +kernel⟩, List.mem_of_getElem? (i := 150) (by decide +kernel), List.mem_of_getElem? (i := 994) (by decide +kernel), List.mem_of_getElem? (i := 995) (by decide +kernel)⟩
theorem lw_p31 : lw_okq (⟨"DiscCutter", "putOnTape", "(I)V"⟩, 18) := ⟨⟨by decide +kernel, by decide +kernel⟩, List.mem_of_getElem? (i := 23) (by decide +kernel), List.mem_of_getElem? (i := 1012) (by decide +kernel), List.mem_of_getElem? (i := 1013) (by decide +kernel)⟩
def lw_privs_2 : List (MethodName × Nat) := [(⟨"DiscCutter$Clicks", "isFirst", "(II)Z"⟩, 8), (⟨"DiscCutter$Needle", "playOn", "(LDiscCutter$Side;II)I"⟩, 4), (⟨"DiscCutter$Needle", "partAhead", "(LDiscCutter$Side;II)I"⟩, 4), (⟨"DiscCutter$Needle", "fallen", "(LDiscCutter$Side;III)I"⟩, 4), (⟨"DiscCutter$Needle", "placeOf", "(LDiscCutter$Side;II)I"⟩, 4), (⟨"DiscCutter$Beside", "layOut", "()Z"⟩, 11), (⟨"DiscCutter$Beside", "addNewest", "(II)Z"⟩, 11), (⟨"DiscCutter$Beside", "askedFor", "(II)I"⟩, 11), (⟨"DiscCutter$Beside", "edgeOf", "(II)I"⟩, 11), (⟨"DiscCutter$Beside", "enqueue", "(I)V"⟩, 11), (⟨"DiscCutter$Beside", "dequeue", "()I"⟩, 11), (⟨"DiscCutter$Beside", "passOn", "(II)Z"⟩, 11), (⟨"DiscCutter$Beside", "lift", "(III)Z"⟩, 11), (⟨"DiscCutter$Beside", "isKnown", "(II)Z"⟩, 11), (⟨"DiscCutter$Beside", "liftBehind", "(III)Z"⟩, 11), (⟨"DiscCutter", "putOnTape", "(I)V"⟩, 18)]
theorem lw_r2 : ∀ q ∈ lw_privs_2, lw_okq q := List.forall_mem_cons.mpr ⟨lw_p16, List.forall_mem_cons.mpr ⟨lw_p17, List.forall_mem_cons.mpr ⟨lw_p18, List.forall_mem_cons.mpr ⟨lw_p19, List.forall_mem_cons.mpr ⟨lw_p20, List.forall_mem_cons.mpr ⟨lw_p21, List.forall_mem_cons.mpr ⟨lw_p22, List.forall_mem_cons.mpr ⟨lw_p23, List.forall_mem_cons.mpr ⟨lw_p24, List.forall_mem_cons.mpr ⟨lw_p25, List.forall_mem_cons.mpr ⟨lw_p26, List.forall_mem_cons.mpr ⟨lw_p27, List.forall_mem_cons.mpr ⟨lw_p28, List.forall_mem_cons.mpr ⟨lw_p29, List.forall_mem_cons.mpr ⟨lw_p30, List.forall_mem_cons.mpr ⟨lw_p31, fun _ h => absurd h List.not_mem_nil⟩⟩⟩⟩⟩⟩⟩⟩⟩⟩⟩⟩⟩⟩⟩⟩
theorem lw_p32 : lw_okq (⟨"DiscCutter$Sheet", "advance", "()V"⟩, 14) := ⟨⟨by decide +kernel, by decide +kernel⟩, List.mem_of_getElem? (i := 322) (by decide +kernel), List.mem_of_getElem? (i := 1025) (by decide +kernel), List.mem_of_getElem? (i := 1026) (by decide +kernel)⟩
theorem lw_p33 : lw_okq (⟨"DiscCutter$Sheet", "readSteps", "(I)LDiscCutter$Step;"⟩, 14) := ⟨⟨by decide +kernel, by decide +kernel⟩, List.mem_of_getElem? (i := 322) (by decide +kernel), List.mem_of_getElem? (i := 1029) (by decide +kernel), List.mem_of_getElem? (i := 1030) (by decide +kernel)⟩
theorem lw_p34 : lw_okq (⟨"DiscCutter$Sheet", "readStep", "(I)LDiscCutter$Step;"⟩, 14) := ⟨⟨by decide +kernel, by decide +kernel⟩, List.mem_of_getElem? (i := 322) (by decide +kernel), List.mem_of_getElem? (i := 1033) (by decide +kernel), List.mem_of_getElem? (i := 1034) (by decide +kernel)⟩
theorem lw_p35 : lw_okq (⟨"DiscCutter$Sheet", "stepKind", "()I"⟩, 14) := ⟨⟨by decide +kernel, by decide +kernel⟩, List.mem_of_getElem? (i := 322) (by decide +kernel), List.mem_of_getElem? (i := 1037) (by decide +kernel), List.mem_of_getElem? (i := 1038) (by decide +kernel)⟩
theorem lw_p36 : lw_okq (⟨"DiscCutter$Sheet", "isWord", "(Ljava/lang/String;)Z"⟩, 14) := ⟨⟨by decide +kernel, by decide +kernel⟩, List.mem_of_getElem? (i := 322) (by decide +kernel), List.mem_of_getElem? (i := 1042) (by decide +kernel), List.mem_of_getElem? (i := 1043) (by decide +kernel)⟩
theorem lw_p37 : lw_okq (⟨"DiscCutter$Sheet", "misplaced", "()V"⟩, 14) := ⟨⟨by decide +kernel, by decide +kernel⟩, List.mem_of_getElem? (i := 322) (by decide +kernel), List.mem_of_getElem? (i := 1100) (by decide +kernel), List.mem_of_getElem? (i := 1101) (by decide +kernel)⟩
theorem lw_p38 : lw_okq (⟨"DiscCutter$Sheet", "blame", "(I)V"⟩, 14) := ⟨⟨by decide +kernel, by decide +kernel⟩, List.mem_of_getElem? (i := 322) (by decide +kernel), List.mem_of_getElem? (i := 1104) (by decide +kernel), List.mem_of_getElem? (i := 1105) (by decide +kernel)⟩
theorem lw_p39 : lw_okq (⟨"DiscCutter$Sheet", "readNumber", "(II)I"⟩, 14) := ⟨⟨by decide +kernel, by decide +kernel⟩, List.mem_of_getElem? (i := 322) (by decide +kernel), List.mem_of_getElem? (i := 1112) (by decide +kernel), List.mem_of_getElem? (i := 1113) (by decide +kernel)⟩
theorem lw_p40 : lw_okq (⟨"DiscCutter$Sheet", "readBraces", "(I)LDiscCutter$Step;"⟩, 14) := ⟨⟨by decide +kernel, by decide +kernel⟩, List.mem_of_getElem? (i := 322) (by decide +kernel), List.mem_of_getElem? (i := 1117) (by decide +kernel), List.mem_of_getElem? (i := 1118) (by decide +kernel)⟩
theorem lw_p41 : lw_okq (⟨"DiscCutter$Sheet", "expect", "(C)V"⟩, 14) := ⟨⟨by decide +kernel, by decide +kernel⟩, List.mem_of_getElem? (i := 322) (by decide +kernel), List.mem_of_getElem? (i := 1121) (by decide +kernel), List.mem_of_getElem? (i := 1122) (by decide +kernel)⟩
theorem lw_p42 : lw_okq (⟨"DiscCutter$Sheet", "readTest", "(LDiscCutter$Step;)V"⟩, 14) := ⟨⟨by decide +kernel, by decide +kernel⟩, List.mem_of_getElem? (i := 322) (by decide +kernel), List.mem_of_getElem? (i := 1125) (by decide +kernel), List.mem_of_getElem? (i := 1126) (by decide +kernel)⟩
theorem lw_p43 : lw_okq (⟨"DiscCutter$Sheet", "readName", "()I"⟩, 14) := ⟨⟨by decide +kernel, by decide +kernel⟩, List.mem_of_getElem? (i := 322) (by decide +kernel), List.mem_of_getElem? (i := 1130) (by decide +kernel), List.mem_of_getElem? (i := 1131) (by decide +kernel)⟩
theorem lw_p44 : lw_okq (⟨"DiscCutter$Sheet", "isName", "(I)Z"⟩, 14) := ⟨⟨by decide +kernel, by decide +kernel⟩, List.mem_of_getElem? (i := 322) (by decide +kernel), List.mem_of_getElem? (i := 1134) (by decide +kernel), List.mem_of_getElem? (i := 1135) (by decide +kernel)⟩
theorem lw_p45 : lw_okq (⟨"DiscCutter$Sheet", "readOptions", "(LDiscCutter$Step;)V"⟩, 14) := ⟨⟨by decide +kernel, by decide +kernel⟩, List.mem_of_getElem? (i := 322) (by decide +kernel), List.mem_of_getElem? (i := 1144) (by decide +kernel), List.mem_of_getElem? (i := 1145) (by decide +kernel)⟩
theorem lw_p46 : lw_okq (⟨"DiscCutter$Sheet", "readOption", "(III)I"⟩, 14) := ⟨⟨by decide +kernel, by decide +kernel⟩, List.mem_of_getElem? (i := 322) (by decide +kernel), List.mem_of_getElem? (i := 1149) (by decide +kernel), List.mem_of_getElem? (i := 1150) (by decide +kernel)⟩
theorem lw_p47 : lw_okq (⟨"DiscCutter$Runner", "swapMarks", "()V"⟩, 11) := ⟨⟨by decide +kernel, by decide +kernel⟩, List.mem_of_getElem? (i := 273) (by decide +kernel), List.mem_of_getElem? (i := 1178) (by decide +kernel), List.mem_of_getElem? (i := 1179) (by decide +kernel)⟩
def lw_privs_3 : List (MethodName × Nat) := [(⟨"DiscCutter$Sheet", "advance", "()V"⟩, 14), (⟨"DiscCutter$Sheet", "readSteps", "(I)LDiscCutter$Step;"⟩, 14), (⟨"DiscCutter$Sheet", "readStep", "(I)LDiscCutter$Step;"⟩, 14), (⟨"DiscCutter$Sheet", "stepKind", "()I"⟩, 14), (⟨"DiscCutter$Sheet", "isWord", "(Ljava/lang/String;)Z"⟩, 14), (⟨"DiscCutter$Sheet", "misplaced", "()V"⟩, 14), (⟨"DiscCutter$Sheet", "blame", "(I)V"⟩, 14), (⟨"DiscCutter$Sheet", "readNumber", "(II)I"⟩, 14), (⟨"DiscCutter$Sheet", "readBraces", "(I)LDiscCutter$Step;"⟩, 14), (⟨"DiscCutter$Sheet", "expect", "(C)V"⟩, 14), (⟨"DiscCutter$Sheet", "readTest", "(LDiscCutter$Step;)V"⟩, 14), (⟨"DiscCutter$Sheet", "readName", "()I"⟩, 14), (⟨"DiscCutter$Sheet", "isName", "(I)Z"⟩, 14), (⟨"DiscCutter$Sheet", "readOptions", "(LDiscCutter$Step;)V"⟩, 14), (⟨"DiscCutter$Sheet", "readOption", "(III)I"⟩, 14), (⟨"DiscCutter$Runner", "swapMarks", "()V"⟩, 11)]
theorem lw_r3 : ∀ q ∈ lw_privs_3, lw_okq q := List.forall_mem_cons.mpr ⟨lw_p32, List.forall_mem_cons.mpr ⟨lw_p33, List.forall_mem_cons.mpr ⟨lw_p34, List.forall_mem_cons.mpr ⟨lw_p35, List.forall_mem_cons.mpr ⟨lw_p36, List.forall_mem_cons.mpr ⟨lw_p37, List.forall_mem_cons.mpr ⟨lw_p38, List.forall_mem_cons.mpr ⟨lw_p39, List.forall_mem_cons.mpr ⟨lw_p40, List.forall_mem_cons.mpr ⟨lw_p41, List.forall_mem_cons.mpr ⟨lw_p42, List.forall_mem_cons.mpr ⟨lw_p43, List.forall_mem_cons.mpr ⟨lw_p44, List.forall_mem_cons.mpr ⟨lw_p45, List.forall_mem_cons.mpr ⟨lw_p46, List.forall_mem_cons.mpr ⟨lw_p47, fun _ h => absurd h List.not_mem_nil⟩⟩⟩⟩⟩⟩⟩⟩⟩⟩⟩⟩⟩⟩⟩⟩
theorem lw_p48 : lw_okq (⟨"DiscCutter$Runner", "doSteps", "(LDiscCutter$Step;I)V"⟩, 11) := ⟨⟨by decide +kernel, by decide +kernel⟩, List.mem_of_getElem? (i := 273) (by decide +kernel), List.mem_of_getElem? (i := 1183) (by decide +kernel), List.mem_of_getElem? (i := 1184) (by decide +kernel)⟩
theorem lw_p49 : lw_okq (⟨"DiscCutter$Runner", "doStep", "(LDiscCutter$Step;I)V"⟩, 11) := ⟨⟨by decide +kernel, by decide +kernel⟩, List.mem_of_getElem? (i := 273) (by decide +kernel), List.mem_of_getElem? (i := 1187) (by decide +kernel), List.mem_of_getElem? (i := 1188) (by decide +kernel)⟩
theorem lw_p50 : lw_okq (⟨"DiscCutter$Runner", "wrongWith", "(LDiscCutter$Step;)I"⟩, 11) := ⟨⟨by decide +kernel, by decide +kernel⟩, List.mem_of_getElem? (i := 273) (by decide +kernel), List.mem_of_getElem? (i := 1191) (by decide +kernel), List.mem_of_getElem? (i := 1192) (by decide +kernel)⟩
theorem lw_p51 : lw_okq (⟨"DiscCutter$Runner", "wrongWithLaying", "(LDiscCutter$Side;I)I"⟩, 11) := ⟨⟨by decide +kernel, by decide +kernel⟩, List.mem_of_getElem? (i := 273) (by decide +kernel), List.mem_of_getElem? (i := 1195) (by decide +kernel), List.mem_of_getElem? (i := 1196) (by decide +kernel)⟩
theorem lw_p52 : lw_okq (⟨"DiscCutter$Runner", "hasStretch", "(LDiscCutter$Step;)Z"⟩, 11) := ⟨⟨by decide +kernel, by decide +kernel⟩, List.mem_of_getElem? (i := 273) (by decide +kernel), List.mem_of_getElem? (i := 1202) (by decide +kernel), List.mem_of_getElem? (i := 1203) (by decide +kernel)⟩
theorem lw_p53 : lw_okq (⟨"DiscCutter$Runner", "startOf", "(LDiscCutter$Step;)I"⟩, 11) := ⟨⟨by decide +kernel, by decide +kernel⟩, List.mem_of_getElem? (i := 273) (by decide +kernel), List.mem_of_getElem? (i := 1206) (by decide +kernel), List.mem_of_getElem? (i := 1207) (by decide +kernel)⟩
theorem lw_p54 : lw_okq (⟨"DiscCutter$Runner", "endOf", "(LDiscCutter$Step;)I"⟩, 11) := ⟨⟨by decide +kernel, by decide +kernel⟩, List.mem_of_getElem? (i := 273) (by decide +kernel), List.mem_of_getElem? (i := 1210) (by decide +kernel), List.mem_of_getElem? (i := 1211) (by decide +kernel)⟩
theorem lw_p55 : lw_okq (⟨"DiscCutter$Runner", "holds", "(LDiscCutter$Step;)Z"⟩, 11) := ⟨⟨by decide +kernel, by decide +kernel⟩, List.mem_of_getElem? (i := 273) (by decide +kernel), List.mem_of_getElem? (i := 1216) (by decide +kernel), List.mem_of_getElem? (i := 1217) (by decide +kernel)⟩
theorem lw_p56 : lw_okq (⟨"DiscCutter$Runner", "doPlain", "(LDiscCutter$Step;)V"⟩, 11) := ⟨⟨by decide +kernel, by decide +kernel⟩, List.mem_of_getElem? (i := 273) (by decide +kernel), List.mem_of_getElem? (i := 1222) (by decide +kernel), List.mem_of_getElem? (i := 1223) (by decide +kernel)⟩
theorem lw_p57 : lw_okq (⟨"DiscCutter$Runner", "layStretch", "(LDiscCutter$Step;)V"⟩, 11) := ⟨⟨by decide +kernel, by decide +kernel⟩, List.mem_of_getElem? (i := 273) (by decide +kernel), List.mem_of_getElem? (i := 1227) (by decide +kernel), List.mem_of_getElem? (i := 1228) (by decide +kernel)⟩
theorem lw_p58 : lw_okq (⟨"DiscCutter$Runner", "setMark", "(I)V"⟩, 11) := ⟨⟨by decide +kernel, by decide +kernel⟩, List.mem_of_getElem? (i := 273) (by decide +kernel), List.mem_of_getElem? (i := 1234) (by decide +kernel), List.mem_of_getElem? (i := 1235) (by decide +kernel)⟩
theorem lw_p59 : lw_okq (⟨"DiscCutterModel", "is", "(I)Z"⟩, 86) := ⟨⟨by decide +kernel, by decide +kernel⟩, List.mem_of_getElem? (i := 1250) (by decide +kernel), List.mem_of_getElem? (i := 1527) (by decide +kernel), List.mem_of_getElem? (i := 1528) (by decide +kernel)⟩
theorem lw_p60 : lw_okq (⟨"DiscCutterModel", "wrongPlace", "(II)I"⟩, 86) := ⟨⟨by decide +kernel, by decide +kernel⟩, List.mem_of_getElem? (i := 1250) (by decide +kernel), List.mem_of_getElem? (i := 1535) (by decide +kernel), List.mem_of_getElem? (i := 1536) (by decide +kernel)⟩
theorem lw_p61 : lw_okq (⟨"DiscCutterModel", "refuse", "(I)I"⟩, 86) := ⟨⟨by decide +kernel, by decide +kernel⟩, List.mem_of_getElem? (i := 1250) (by decide +kernel), List.mem_of_getElem? (i := 1555) (by decide +kernel), List.mem_of_getElem? (i := 1556) (by decide +kernel)⟩
theorem lw_p62 : lw_okq (⟨"DiscCutterModel", "gives", "(I)I"⟩, 86) := ⟨⟨by decide +kernel, by decide +kernel⟩, List.mem_of_getElem? (i := 1250) (by decide +kernel), List.mem_of_getElem? (i := 1560) (by decide +kernel), List.mem_of_getElem? (i := 1561) (by decide +kernel)⟩
theorem lw_p63 : lw_okq (⟨"DiscCutterModel", "isSong", "(I)Z"⟩, 86) := ⟨⟨by decide +kernel, by decide +kernel⟩, List.mem_of_getElem? (i := 1250) (by decide +kernel), List.mem_of_getElem? (i := 1568) (by decide +kernel), List.mem_of_getElem? (i := 1569) (by decide +kernel)⟩
def lw_privs_4 : List (MethodName × Nat) := [(⟨"DiscCutter$Runner", "doSteps", "(LDiscCutter$Step;I)V"⟩, 11), (⟨"DiscCutter$Runner", "doStep", "(LDiscCutter$Step;I)V"⟩, 11), (⟨"DiscCutter$Runner", "wrongWith", "(LDiscCutter$Step;)I"⟩, 11), (⟨"DiscCutter$Runner", "wrongWithLaying", "(LDiscCutter$Side;I)I"⟩, 11), (⟨"DiscCutter$Runner", "hasStretch", "(LDiscCutter$Step;)Z"⟩, 11), (⟨"DiscCutter$Runner", "startOf", "(LDiscCutter$Step;)I"⟩, 11), (⟨"DiscCutter$Runner", "endOf", "(LDiscCutter$Step;)I"⟩, 11), (⟨"DiscCutter$Runner", "holds", "(LDiscCutter$Step;)Z"⟩, 11), (⟨"DiscCutter$Runner", "doPlain", "(LDiscCutter$Step;)V"⟩, 11), (⟨"DiscCutter$Runner", "layStretch", "(LDiscCutter$Step;)V"⟩, 11), (⟨"DiscCutter$Runner", "setMark", "(I)V"⟩, 11), (⟨"DiscCutterModel", "is", "(I)Z"⟩, 86), (⟨"DiscCutterModel", "wrongPlace", "(II)I"⟩, 86), (⟨"DiscCutterModel", "refuse", "(I)I"⟩, 86), (⟨"DiscCutterModel", "gives", "(I)I"⟩, 86), (⟨"DiscCutterModel", "isSong", "(I)Z"⟩, 86)]
theorem lw_r4 : ∀ q ∈ lw_privs_4, lw_okq q := List.forall_mem_cons.mpr ⟨lw_p48, List.forall_mem_cons.mpr ⟨lw_p49, List.forall_mem_cons.mpr ⟨lw_p50, List.forall_mem_cons.mpr ⟨lw_p51, List.forall_mem_cons.mpr ⟨lw_p52, List.forall_mem_cons.mpr ⟨lw_p53, List.forall_mem_cons.mpr ⟨lw_p54, List.forall_mem_cons.mpr ⟨lw_p55, List.forall_mem_cons.mpr ⟨lw_p56, List.forall_mem_cons.mpr ⟨lw_p57, List.forall_mem_cons.mpr ⟨lw_p58, List.forall_mem_cons.mpr ⟨lw_p59, List.forall_mem_cons.mpr ⟨lw_p60, List.forall_mem_cons.mpr ⟨lw_p61, List.forall_mem_cons.mpr ⟨lw_p62, List.forall_mem_cons.mpr ⟨lw_p63, fun _ h => absurd h List.not_mem_nil⟩⟩⟩⟩⟩⟩⟩⟩⟩⟩⟩⟩⟩⟩⟩⟩
theorem lw_p64 : lw_okq (⟨"DiscCutterModel", "empty", "(I)V"⟩, 86) := ⟨⟨by decide +kernel, by decide +kernel⟩, List.mem_of_getElem? (i := 1250) (by decide +kernel), List.mem_of_getElem? (i := 1584) (by decide +kernel), List.mem_of_getElem? (i := 1585) (by decide +kernel)⟩
theorem lw_p65 : lw_okq (⟨"DiscCutterModel", "puts", "(III)V"⟩, 86) := ⟨⟨by decide +kernel, by decide +kernel⟩, List.mem_of_getElem? (i := 1250) (by decide +kernel), List.mem_of_getElem? (i := 1592) (by decide +kernel), List.mem_of_getElem? (i := 1593) (by decide +kernel)⟩
theorem lw_p66 : lw_okq (⟨"DiscCutterModel", "isPart", "(II)Z"⟩, 86) := ⟨⟨by decide +kernel, by decide +kernel⟩, List.mem_of_getElem? (i := 1250) (by decide +kernel), List.mem_of_getElem? (i := 1611) (by decide +kernel), List.mem_of_getElem? (i := 1612) (by decide +kernel)⟩
theorem lw_p67 : lw_okq (⟨"DiscCutterModel", "stuck", "(I)I"⟩, 86) := ⟨⟨by decide +kernel, by decide +kernel⟩, List.mem_of_getElem? (i := 1250) (by decide +kernel), List.mem_of_getElem? (i := 1619) (by decide +kernel), List.mem_of_getElem? (i := 1620) (by decide +kernel)⟩
theorem lw_p68 : lw_okq (⟨"DiscCutterModel", "spread", "(I)V"⟩, 86) := ⟨⟨by decide +kernel, by decide +kernel⟩, List.mem_of_getElem? (i := 1250) (by decide +kernel), List.mem_of_getElem? (i := 1623) (by decide +kernel), List.mem_of_getElem? (i := 1624) (by decide +kernel)⟩
theorem lw_p69 : lw_okq (⟨"DiscCutterModel", "push", "(I)V"⟩, 86) := ⟨⟨by decide +kernel, by decide +kernel⟩, List.mem_of_getElem? (i := 1250) (by decide +kernel), List.mem_of_getElem? (i := 1627) (by decide +kernel), List.mem_of_getElem? (i := 1628) (by decide +kernel)⟩
theorem lw_p70 : lw_okq (⟨"DiscCutterModel", "raise", "(II)V"⟩, 86) := ⟨⟨by decide +kernel, by decide +kernel⟩, List.mem_of_getElem? (i := 1250) (by decide +kernel), List.mem_of_getElem? (i := 1631) (by decide +kernel), List.mem_of_getElem? (i := 1632) (by decide +kernel)⟩
theorem lw_p71 : lw_okq (⟨"DiscCutterModel", "roomOf", "(I)I"⟩, 86) := ⟨⟨by decide +kernel, by decide +kernel⟩, List.mem_of_getElem? (i := 1250) (by decide +kernel), List.mem_of_getElem? (i := 1639) (by decide +kernel), List.mem_of_getElem? (i := 1640) (by decide +kernel)⟩
theorem lw_p72 : lw_okq (⟨"DiscCutterModel", "orders", "()Z"⟩, 86) := ⟨⟨by decide +kernel, by decide +kernel⟩, List.mem_of_getElem? (i := 1250) (by decide +kernel), List.mem_of_getElem? (i := 1668) (by decide +kernel), List.mem_of_getElem? (i := 1669) (by decide +kernel)⟩
theorem lw_p73 : lw_okq (⟨"DiscCutterModel", "choose", "(I)I"⟩, 86) := ⟨⟨by decide +kernel, by decide +kernel⟩, List.mem_of_getElem? (i := 1250) (by decide +kernel), List.mem_of_getElem? (i := 1672) (by decide +kernel), List.mem_of_getElem? (i := 1673) (by decide +kernel)⟩
theorem lw_p74 : lw_okq (⟨"DiscCutterModel", "isAhead", "(II)Z"⟩, 86) := ⟨⟨by decide +kernel, by decide +kernel⟩, List.mem_of_getElem? (i := 1250) (by decide +kernel), List.mem_of_getElem? (i := 1676) (by decide +kernel), List.mem_of_getElem? (i := 1677) (by decide +kernel)⟩
theorem lw_p75 : lw_okq (⟨"DiscCutterModel", "ringOf", "(II)I"⟩, 86) := ⟨⟨by decide +kernel, by decide +kernel⟩, List.mem_of_getElem? (i := 1250) (by decide +kernel), List.mem_of_getElem? (i := 1696) (by decide +kernel), List.mem_of_getElem? (i := 1697) (by decide +kernel)⟩
theorem lw_p76 : lw_okq (⟨"DiscCutterModel", "findLine", "()I"⟩, 86) := ⟨⟨by decide +kernel, by decide +kernel⟩, List.mem_of_getElem? (i := 1250) (by decide +kernel), List.mem_of_getElem? (i := 1716) (by decide +kernel), List.mem_of_getElem? (i := 1717) (by decide +kernel)⟩
theorem lw_p77 : lw_okq (⟨"DiscCutterModel", "lineFrom", "(III)I"⟩, 86) := ⟨⟨by decide +kernel, by decide +kernel⟩, List.mem_of_getElem? (i := 1250) (by decide +kernel), List.mem_of_getElem? (i := 1720) (by decide +kernel), List.mem_of_getElem? (i := 1721) (by decide +kernel)⟩
theorem lw_p78 : lw_okq (⟨"DiscCutterModel", "hasClick", "(II)Z"⟩, 86) := ⟨⟨by decide +kernel, by decide +kernel⟩, List.mem_of_getElem? (i := 1250) (by decide +kernel), List.mem_of_getElem? (i := 1724) (by decide +kernel), List.mem_of_getElem? (i := 1725) (by decide +kernel)⟩
theorem lw_p79 : lw_okq (⟨"DiscCutterModel", "through", "(II)I"⟩, 86) := ⟨⟨by decide +kernel, by decide +kernel⟩, List.mem_of_getElem? (i := 1250) (by decide +kernel), List.mem_of_getElem? (i := 1736) (by decide +kernel), List.mem_of_getElem? (i := 1737) (by decide +kernel)⟩
def lw_privs_5 : List (MethodName × Nat) := [(⟨"DiscCutterModel", "empty", "(I)V"⟩, 86), (⟨"DiscCutterModel", "puts", "(III)V"⟩, 86), (⟨"DiscCutterModel", "isPart", "(II)Z"⟩, 86), (⟨"DiscCutterModel", "stuck", "(I)I"⟩, 86), (⟨"DiscCutterModel", "spread", "(I)V"⟩, 86), (⟨"DiscCutterModel", "push", "(I)V"⟩, 86), (⟨"DiscCutterModel", "raise", "(II)V"⟩, 86), (⟨"DiscCutterModel", "roomOf", "(I)I"⟩, 86), (⟨"DiscCutterModel", "orders", "()Z"⟩, 86), (⟨"DiscCutterModel", "choose", "(I)I"⟩, 86), (⟨"DiscCutterModel", "isAhead", "(II)Z"⟩, 86), (⟨"DiscCutterModel", "ringOf", "(II)I"⟩, 86), (⟨"DiscCutterModel", "findLine", "()I"⟩, 86), (⟨"DiscCutterModel", "lineFrom", "(III)I"⟩, 86), (⟨"DiscCutterModel", "hasClick", "(II)Z"⟩, 86), (⟨"DiscCutterModel", "through", "(II)I"⟩, 86)]
theorem lw_r5 : ∀ q ∈ lw_privs_5, lw_okq q := List.forall_mem_cons.mpr ⟨lw_p64, List.forall_mem_cons.mpr ⟨lw_p65, List.forall_mem_cons.mpr ⟨lw_p66, List.forall_mem_cons.mpr ⟨lw_p67, List.forall_mem_cons.mpr ⟨lw_p68, List.forall_mem_cons.mpr ⟨lw_p69, List.forall_mem_cons.mpr ⟨lw_p70, List.forall_mem_cons.mpr ⟨lw_p71, List.forall_mem_cons.mpr ⟨lw_p72, List.forall_mem_cons.mpr ⟨lw_p73, List.forall_mem_cons.mpr ⟨lw_p74, List.forall_mem_cons.mpr ⟨lw_p75, List.forall_mem_cons.mpr ⟨lw_p76, List.forall_mem_cons.mpr ⟨lw_p77, List.forall_mem_cons.mpr ⟨lw_p78, List.forall_mem_cons.mpr ⟨lw_p79, fun _ h => absurd h List.not_mem_nil⟩⟩⟩⟩⟩⟩⟩⟩⟩⟩⟩⟩⟩⟩⟩⟩
theorem lw_p80 : lw_okq (⟨"DiscCutterModel", "find", "(I)I"⟩, 86) := ⟨⟨by decide +kernel, by decide +kernel⟩, List.mem_of_getElem? (i := 1250) (by decide +kernel), List.mem_of_getElem? (i := 1753) (by decide +kernel), List.mem_of_getElem? (i := 1754) (by decide +kernel)⟩
theorem lw_p81 : lw_okq (⟨"DiscCutterModel", "listen", "(II)I"⟩, 86) := ⟨⟨by decide +kernel, by decide +kernel⟩, List.mem_of_getElem? (i := 1250) (by decide +kernel), List.mem_of_getElem? (i := 1765) (by decide +kernel), List.mem_of_getElem? (i := 1766) (by decide +kernel)⟩
theorem lw_p82 : lw_okq (⟨"DiscCutterModel", "play", "(II)I"⟩, 86) := ⟨⟨by decide +kernel, by decide +kernel⟩, List.mem_of_getElem? (i := 1250) (by decide +kernel), List.mem_of_getElem? (i := 1769) (by decide +kernel), List.mem_of_getElem? (i := 1770) (by decide +kernel)⟩
theorem lw_p83 : lw_okq (⟨"DiscCutterModel", "fall", "(III)I"⟩, 86) := ⟨⟨by decide +kernel, by decide +kernel⟩, List.mem_of_getElem? (i := 1250) (by decide +kernel), List.mem_of_getElem? (i := 1773) (by decide +kernel), List.mem_of_getElem? (i := 1774) (by decide +kernel)⟩
theorem lw_p84 : lw_okq (⟨"DiscCutterModel", "placeOf", "(II)I"⟩, 86) := ⟨⟨by decide +kernel, by decide +kernel⟩, List.mem_of_getElem? (i := 1250) (by decide +kernel), List.mem_of_getElem? (i := 1777) (by decide +kernel), List.mem_of_getElem? (i := 1778) (by decide +kernel)⟩
theorem lw_p85 : lw_okq (⟨"DiscCutterModel", "behind", "(II)I"⟩, 86) := ⟨⟨by decide +kernel, by decide +kernel⟩, List.mem_of_getElem? (i := 1250) (by decide +kernel), List.mem_of_getElem? (i := 1782) (by decide +kernel), List.mem_of_getElem? (i := 1783) (by decide +kernel)⟩
theorem lw_p86 : lw_okq (⟨"DiscCutterModel", "besides", "()Z"⟩, 86) := ⟨⟨by decide +kernel, by decide +kernel⟩, List.mem_of_getElem? (i := 1250) (by decide +kernel), List.mem_of_getElem? (i := 1798) (by decide +kernel), List.mem_of_getElem? (i := 1799) (by decide +kernel)⟩
theorem lw_p87 : lw_okq (⟨"DiscCutterModel", "four", "(I)V"⟩, 86) := ⟨⟨by decide +kernel, by decide +kernel⟩, List.mem_of_getElem? (i := 1250) (by decide +kernel), List.mem_of_getElem? (i := 1810) (by decide +kernel), List.mem_of_getElem? (i := 1811) (by decide +kernel)⟩
theorem lw_p88 : lw_okq (⟨"DiscCutterModel", "next", "()V"⟩, 86) := ⟨⟨by decide +kernel, by decide +kernel⟩, List.mem_of_getElem? (i := 1250) (by decide +kernel), List.mem_of_getElem? (i := 1818) (by decide +kernel), List.mem_of_getElem? (i := 1819) (by decide +kernel)⟩
theorem lw_p89 : lw_okq (⟨"DiscCutterModel", "sign", "(I)I"⟩, 86) := ⟨⟨by decide +kernel, by decide +kernel⟩, List.mem_of_getElem? (i := 1250) (by decide +kernel), List.mem_of_getElem? (i := 1822) (by decide +kernel), List.mem_of_getElem? (i := 1823) (by decide +kernel)⟩
theorem lw_p90 : lw_okq (⟨"DiscCutterModel", "isSign", "(I)Z"⟩, 86) := ⟨⟨by decide +kernel, by decide +kernel⟩, List.mem_of_getElem? (i := 1250) (by decide +kernel), List.mem_of_getElem? (i := 1833) (by decide +kernel), List.mem_of_getElem? (i := 1834) (by decide +kernel)⟩
theorem lw_p91 : lw_okq (⟨"DiscCutterModel", "closes", "()Z"⟩, 86) := ⟨⟨by decide +kernel, by decide +kernel⟩, List.mem_of_getElem? (i := 1250) (by decide +kernel), List.mem_of_getElem? (i := 1837) (by decide +kernel), List.mem_of_getElem? (i := 1838) (by decide +kernel)⟩
theorem lw_p92 : lw_okq (⟨"DiscCutterModel", "set", "(III)V"⟩, 86) := ⟨⟨by decide +kernel, by decide +kernel⟩, List.mem_of_getElem? (i := 1250) (by decide +kernel), List.mem_of_getElem? (i := 1841) (by decide +kernel), List.mem_of_getElem? (i := 1842) (by decide +kernel)⟩
theorem lw_p93 : lw_okq (⟨"DiscCutterModel", "isWord", "(Ljava/lang/String;)Z"⟩, 86) := ⟨⟨by decide +kernel, by decide +kernel⟩, List.mem_of_getElem? (i := 1250) (by decide +kernel), List.mem_of_getElem? (i := 1846) (by decide +kernel), List.mem_of_getElem? (i := 1847) (by decide +kernel)⟩
theorem lw_p94 : lw_okq (⟨"DiscCutterModel", "want", "(I)Z"⟩, 86) := ⟨⟨by decide +kernel, by decide +kernel⟩, List.mem_of_getElem? (i := 1250) (by decide +kernel), List.mem_of_getElem? (i := 1852) (by decide +kernel), List.mem_of_getElem? (i := 1853) (by decide +kernel)⟩
theorem lw_p95 : lw_okq (⟨"DiscCutterModel", "fail", "(I)Z"⟩, 86) := ⟨⟨by decide +kernel, by decide +kernel⟩, List.mem_of_getElem? (i := 1250) (by decide +kernel), List.mem_of_getElem? (i := 1856) (by decide +kernel), List.mem_of_getElem? (i := 1857) (by decide +kernel)⟩
def lw_privs_6 : List (MethodName × Nat) := [(⟨"DiscCutterModel", "find", "(I)I"⟩, 86), (⟨"DiscCutterModel", "listen", "(II)I"⟩, 86), (⟨"DiscCutterModel", "play", "(II)I"⟩, 86), (⟨"DiscCutterModel", "fall", "(III)I"⟩, 86), (⟨"DiscCutterModel", "placeOf", "(II)I"⟩, 86), (⟨"DiscCutterModel", "behind", "(II)I"⟩, 86), (⟨"DiscCutterModel", "besides", "()Z"⟩, 86), (⟨"DiscCutterModel", "four", "(I)V"⟩, 86), (⟨"DiscCutterModel", "next", "()V"⟩, 86), (⟨"DiscCutterModel", "sign", "(I)I"⟩, 86), (⟨"DiscCutterModel", "isSign", "(I)Z"⟩, 86), (⟨"DiscCutterModel", "closes", "()Z"⟩, 86), (⟨"DiscCutterModel", "set", "(III)V"⟩, 86), (⟨"DiscCutterModel", "isWord", "(Ljava/lang/String;)Z"⟩, 86), (⟨"DiscCutterModel", "want", "(I)Z"⟩, 86), (⟨"DiscCutterModel", "fail", "(I)Z"⟩, 86)]
theorem lw_r6 : ∀ q ∈ lw_privs_6, lw_okq q := List.forall_mem_cons.mpr ⟨lw_p80, List.forall_mem_cons.mpr ⟨lw_p81, List.forall_mem_cons.mpr ⟨lw_p82, List.forall_mem_cons.mpr ⟨lw_p83, List.forall_mem_cons.mpr ⟨lw_p84, List.forall_mem_cons.mpr ⟨lw_p85, List.forall_mem_cons.mpr ⟨lw_p86, List.forall_mem_cons.mpr ⟨lw_p87, List.forall_mem_cons.mpr ⟨lw_p88, List.forall_mem_cons.mpr ⟨lw_p89, List.forall_mem_cons.mpr ⟨lw_p90, List.forall_mem_cons.mpr ⟨lw_p91, List.forall_mem_cons.mpr ⟨lw_p92, List.forall_mem_cons.mpr ⟨lw_p93, List.forall_mem_cons.mpr ⟨lw_p94, List.forall_mem_cons.mpr ⟨lw_p95, fun _ h => absurd h List.not_mem_nil⟩⟩⟩⟩⟩⟩⟩⟩⟩⟩⟩⟩⟩⟩⟩⟩
theorem lw_p96 : lw_okq (⟨"DiscCutterModel", "step", "()Z"⟩, 86) := ⟨⟨by decide +kernel, by decide +kernel⟩, List.mem_of_getElem? (i := 1250) (by decide +kernel), List.mem_of_getElem? (i := 1860) (by decide +kernel), List.mem_of_getElem? (i := 1861) (by decide +kernel)⟩
theorem lw_p97 : lw_okq (⟨"DiscCutterModel", "kindHere", "()I"⟩, 86) := ⟨⟨by decide +kernel, by decide +kernel⟩, List.mem_of_getElem? (i := 1250) (by decide +kernel), List.mem_of_getElem? (i := 1864) (by decide +kernel), List.mem_of_getElem? (i := 1865) (by decide +kernel)⟩
theorem lw_p98 : lw_okq (⟨"DiscCutterModel", "wantName", "()I"⟩, 86) := ⟨⟨by decide +kernel, by decide +kernel⟩, List.mem_of_getElem? (i := 1250) (by decide +kernel), List.mem_of_getElem? (i := 1875) (by decide +kernel), List.mem_of_getElem? (i := 1876) (by decide +kernel)⟩
theorem lw_p99 : lw_okq (⟨"DiscCutterModel", "tests", "(I)V"⟩, 86) := ⟨⟨by decide +kernel, by decide +kernel⟩, List.mem_of_getElem? (i := 1250) (by decide +kernel), List.mem_of_getElem? (i := 1879) (by decide +kernel), List.mem_of_getElem? (i := 1880) (by decide +kernel)⟩
theorem lw_p100 : lw_okq (⟨"DiscCutterModel", "wantNumber", "(II)I"⟩, 86) := ⟨⟨by decide +kernel, by decide +kernel⟩, List.mem_of_getElem? (i := 1250) (by decide +kernel), List.mem_of_getElem? (i := 1886) (by decide +kernel), List.mem_of_getElem? (i := 1887) (by decide +kernel)⟩
theorem lw_p101 : lw_okq (⟨"DiscCutterModel", "options", "(I)V"⟩, 86) := ⟨⟨by decide +kernel, by decide +kernel⟩, List.mem_of_getElem? (i := 1250) (by decide +kernel), List.mem_of_getElem? (i := 1890) (by decide +kernel), List.mem_of_getElem? (i := 1891) (by decide +kernel)⟩
theorem lw_p102 : lw_okq (⟨"DiscCutterModel", "keep", "(Z)V"⟩, 86) := ⟨⟨by decide +kernel, by decide +kernel⟩, List.mem_of_getElem? (i := 1250) (by decide +kernel), List.mem_of_getElem? (i := 1906) (by decide +kernel), List.mem_of_getElem? (i := 1907) (by decide +kernel)⟩
theorem lw_p103 : lw_okq (⟨"DiscCutterModel", "wrongStep", "(I)I"⟩, 86) := ⟨⟨by decide +kernel, by decide +kernel⟩, List.mem_of_getElem? (i := 1250) (by decide +kernel), List.mem_of_getElem? (i := 1910) (by decide +kernel), List.mem_of_getElem? (i := 1911) (by decide +kernel)⟩
theorem lw_p104 : lw_okq (⟨"DiscCutterModel", "endOf", "(I)I"⟩, 86) := ⟨⟨by decide +kernel, by decide +kernel⟩, List.mem_of_getElem? (i := 1250) (by decide +kernel), List.mem_of_getElem? (i := 1914) (by decide +kernel), List.mem_of_getElem? (i := 1915) (by decide +kernel)⟩
theorem lw_p105 : lw_okq (⟨"DiscCutterModel", "beginOf", "(I)I"⟩, 86) := ⟨⟨by decide +kernel, by decide +kernel⟩, List.mem_of_getElem? (i := 1250) (by decide +kernel), List.mem_of_getElem? (i := 1918) (by decide +kernel), List.mem_of_getElem? (i := 1919) (by decide +kernel)⟩
theorem lw_p106 : lw_okq (⟨"DiscCutterModel", "holds", "(I)Z"⟩, 86) := ⟨⟨by decide +kernel, by decide +kernel⟩, List.mem_of_getElem? (i := 1250) (by decide +kernel), List.mem_of_getElem? (i := 1922) (by decide +kernel), List.mem_of_getElem? (i := 1923) (by decide +kernel)⟩
theorem lw_p107 : lw_okq (⟨"DiscCutterModel", "does", "(I)V"⟩, 86) := ⟨⟨by decide +kernel, by decide +kernel⟩, List.mem_of_getElem? (i := 1250) (by decide +kernel), List.mem_of_getElem? (i := 1926) (by decide +kernel), List.mem_of_getElem? (i := 1927) (by decide +kernel)⟩
theorem lw_p108 : lw_okq (⟨"DiscCutterModel", "laysSong", "(I)V"⟩, 86) := ⟨⟨by decide +kernel, by decide +kernel⟩, List.mem_of_getElem? (i := 1250) (by decide +kernel), List.mem_of_getElem? (i := 1930) (by decide +kernel), List.mem_of_getElem? (i := 1931) (by decide +kernel)⟩
def lw_privs_7 : List (MethodName × Nat) := [(⟨"DiscCutterModel", "step", "()Z"⟩, 86), (⟨"DiscCutterModel", "kindHere", "()I"⟩, 86), (⟨"DiscCutterModel", "wantName", "()I"⟩, 86), (⟨"DiscCutterModel", "tests", "(I)V"⟩, 86), (⟨"DiscCutterModel", "wantNumber", "(II)I"⟩, 86), (⟨"DiscCutterModel", "options", "(I)V"⟩, 86), (⟨"DiscCutterModel", "keep", "(Z)V"⟩, 86), (⟨"DiscCutterModel", "wrongStep", "(I)I"⟩, 86), (⟨"DiscCutterModel", "endOf", "(I)I"⟩, 86), (⟨"DiscCutterModel", "beginOf", "(I)I"⟩, 86), (⟨"DiscCutterModel", "holds", "(I)Z"⟩, 86), (⟨"DiscCutterModel", "does", "(I)V"⟩, 86), (⟨"DiscCutterModel", "laysSong", "(I)V"⟩, 86)]
theorem lw_r7 : ∀ q ∈ lw_privs_7, lw_okq q := List.forall_mem_cons.mpr ⟨lw_p96, List.forall_mem_cons.mpr ⟨lw_p97, List.forall_mem_cons.mpr ⟨lw_p98, List.forall_mem_cons.mpr ⟨lw_p99, List.forall_mem_cons.mpr ⟨lw_p100, List.forall_mem_cons.mpr ⟨lw_p101, List.forall_mem_cons.mpr ⟨lw_p102, List.forall_mem_cons.mpr ⟨lw_p103, List.forall_mem_cons.mpr ⟨lw_p104, List.forall_mem_cons.mpr ⟨lw_p105, List.forall_mem_cons.mpr ⟨lw_p106, List.forall_mem_cons.mpr ⟨lw_p107, List.forall_mem_cons.mpr ⟨lw_p108, fun _ h => absurd h List.not_mem_nil⟩⟩⟩⟩⟩⟩⟩⟩⟩⟩⟩⟩⟩
def lw_privs : List (MethodName × Nat) := lw_privs_1 ++ (lw_privs_2 ++ (lw_privs_3 ++ (lw_privs_4 ++ (lw_privs_5 ++ (lw_privs_6 ++ (lw_privs_7))))))
def lw_tbl : List Cond := k2_sels lw_privs ++ tables_1
theorem lw_privs_ok : ∀ q ∈ lw_privs, lw_okq q := by
  show ∀ q ∈ lw_privs_1 ++ (lw_privs_2 ++ (lw_privs_3 ++ (lw_privs_4 ++ (lw_privs_5 ++ (lw_privs_6 ++ (lw_privs_7)))))), lw_okq q
  exact List.forall_mem_append.mpr ⟨lw_r1, List.forall_mem_append.mpr ⟨lw_r2, List.forall_mem_append.mpr ⟨lw_r3, List.forall_mem_append.mpr ⟨lw_r4, List.forall_mem_append.mpr ⟨lw_r5, List.forall_mem_append.mpr ⟨lw_r6, lw_r7⟩⟩⟩⟩⟩⟩

def RX0 : String := "DiscCutter$Beside"
def TX0 : u_T := fun k => match k with
  | 0 => ("DiscCutter$Beside", "rows", "[LDiscCutter$Side;", true)
  | 1 => ("DiscCutter$Beside", "rules", "LDiscCutter$Rules;", true)
  | 2 => ("DiscCutter$Beside", "places", "[I", true)
  | 3 => ("DiscCutter$Beside", "queue", "[I", true)
  | 4 => ("DiscCutter$Beside", "waits", "[Z", true)
  | 5 => ("DiscCutter$Beside", "known", "[I", true)
  | 6 => ("DiscCutter$Beside", "head", "I", false)
  | 7 => ("DiscCutter$Beside", "waiting", "I", false)
  | 8 => ("DiscCutter$Beside", "newest", "I", false)
  | 9 => ("DiscCutter$Beside", "settledChanges", "I", false)
  | _ => ("DiscCutter$Beside", "canBe", "Z", false)
def tyX0 : Nat → FieldType := fun k => match k with
  | 0 => .array (.object "DiscCutter$Side")
  | 1 => .object "DiscCutter$Rules"
  | 2 => .array .int
  | 3 => .array .int
  | 4 => .array .boolean
  | 5 => .array .int
  | 6 => .int
  | 7 => .int
  | 8 => .int
  | 9 => .int
  | _ => .boolean
theorem nmX0 : ∀ a, a < 11 → ∀ b, b < 11 → a ≠ b → (TX0 a).2.1 ≠ (TX0 b).2.1 := by decide +kernel
theorem tyX0_ok : ∀ k, k < 11 → parseFieldDescriptor (TX0 k).2.2.1 = some (tyX0 k) := by decide +kernel
abbrev cX0_init : ByteArray := prog_2_method_1_code
def yX0_init : MethodName := ⟨RX0, "<init>", "(LDiscCutter$Side;LDiscCutter$Side;LDiscCutter$Rules;)V"⟩
abbrev cX0_placeOf : ByteArray := prog_2_method_2_code
def yX0_placeOf : MethodName := ⟨RX0, "placeOf", "(II)I"⟩
abbrev cX0_extentOf : ByteArray := prog_2_method_3_code
def yX0_extentOf : MethodName := ⟨RX0, "extentOf", "(I)I"⟩
abbrev cX0_settle : ByteArray := prog_2_method_4_code
def yX0_settle : MethodName := ⟨RX0, "settle", "()Z"⟩
abbrev cX0_layOut : ByteArray := prog_2_method_5_code
def yX0_layOut : MethodName := ⟨RX0, "layOut", "()Z"⟩
abbrev cX0_addNewest : ByteArray := prog_2_method_6_code
def yX0_addNewest : MethodName := ⟨RX0, "addNewest", "(II)Z"⟩
abbrev cX0_askedFor : ByteArray := prog_2_method_7_code
def yX0_askedFor : MethodName := ⟨RX0, "askedFor", "(II)I"⟩
abbrev cX0_edgeOf : ByteArray := prog_2_method_8_code
def yX0_edgeOf : MethodName := ⟨RX0, "edgeOf", "(II)I"⟩
abbrev cX0_passOn : ByteArray := prog_2_method_9_code
def yX0_passOn : MethodName := ⟨RX0, "passOn", "(II)Z"⟩
abbrev cX0_liftBehind : ByteArray := prog_2_method_10_code
def yX0_liftBehind : MethodName := ⟨RX0, "liftBehind", "(III)Z"⟩
abbrev cX0_lift : ByteArray := prog_2_method_11_code
def yX0_lift : MethodName := ⟨RX0, "lift", "(III)Z"⟩
abbrev cX0_isKnown : ByteArray := prog_2_method_12_code
def yX0_isKnown : MethodName := ⟨RX0, "isKnown", "(II)Z"⟩
abbrev cX0_enqueue : ByteArray := prog_2_method_13_code
def yX0_enqueue : MethodName := ⟨RX0, "enqueue", "(I)V"⟩
abbrev cX0_dequeue : ByteArray := prog_2_method_14_code
def yX0_dequeue : MethodName := ⟨RX0, "dequeue", "()I"⟩
def RX1 : String := "DiscCutter$Clicks"
def TX1 : u_T := fun k => match k with
  | 0 => ("DiscCutter$Clicks", "turns", "[I", true)
  | 1 => ("DiscCutter$Clicks", "parts", "[I", true)
  | 2 => ("DiscCutter$Clicks", "lines", "[I", true)
  | 3 => ("DiscCutter$Clicks", "count", "I", false)
  | 4 => ("DiscCutter$Clicks", "bestLength", "I", false)
  | 5 => ("DiscCutter$Clicks", "bestTurn", "I", false)
  | 6 => ("DiscCutter$Clicks", "bestPart", "I", false)
  | _ => ("DiscCutter$Clicks", "bestSlant", "I", false)
def tyX1 : Nat → FieldType := fun k => match k with
  | 0 => .array .int
  | 1 => .array .int
  | 2 => .array .int
  | 3 => .int
  | 4 => .int
  | 5 => .int
  | 6 => .int
  | _ => .int
theorem nmX1 : ∀ a, a < 8 → ∀ b, b < 8 → a ≠ b → (TX1 a).2.1 ≠ (TX1 b).2.1 := by decide +kernel
theorem tyX1_ok : ∀ k, k < 8 → parseFieldDescriptor (TX1 k).2.2.1 = some (tyX1 k) := by decide +kernel
abbrev cX1_init : ByteArray := prog_3_method_1_code
def yX1_init : MethodName := ⟨RX1, "<init>", "()V"⟩
abbrev cX1_find : ByteArray := prog_3_method_2_code
def yX1_find : MethodName := ⟨RX1, "find", "(II)I"⟩
abbrev cX1_add : ByteArray := prog_3_method_3_code
def yX1_add : MethodName := ⟨RX1, "add", "(II)V"⟩
abbrev cX1_findLongest : ByteArray := prog_3_method_4_code
def yX1_findLongest : MethodName := ⟨RX1, "findLongest", "()V"⟩
abbrev cX1_isFirst : ByteArray := prog_3_method_5_code
def yX1_isFirst : MethodName := ⟨RX1, "isFirst", "(II)Z"⟩
abbrev cX1_walk : ByteArray := prog_3_method_6_code
def yX1_walk : MethodName := ⟨RX1, "walk", "(III)I"⟩
abbrev cX1_fewestLines : ByteArray := prog_3_method_7_code
def yX1_fewestLines : MethodName := ⟨RX1, "fewestLines", "()I"⟩
abbrev cX1_fewest : ByteArray := prog_3_method_8_code
def yX1_fewest : MethodName := ⟨RX1, "fewest", "([IIII)I"⟩
abbrev cX1_isVain : ByteArray := prog_3_method_9_code
def yX1_isVain : MethodName := ⟨RX1, "isVain", "([IIII)Z"⟩
def RX2 : String := "DiscCutter$Needle"
def TX2 : u_T := fun k => match k with
  | 0 => ("DiscCutter$Needle", "ticks", "[I", true)
  | 1 => ("DiscCutter$Needle", "pushes", "[I", true)
  | 2 => ("DiscCutter$Needle", "seen", "[Z", true)
  | _ => ("DiscCutter$Needle", "count", "I", false)
def tyX2 : Nat → FieldType := fun k => match k with
  | 0 => .array .int
  | 1 => .array .int
  | 2 => .array .boolean
  | _ => .int
theorem nmX2 : ∀ a, a < 4 → ∀ b, b < 4 → a ≠ b → (TX2 a).2.1 ≠ (TX2 b).2.1 := by decide +kernel
theorem tyX2_ok : ∀ k, k < 4 → parseFieldDescriptor (TX2 k).2.2.1 = some (tyX2 k) := by decide +kernel
abbrev cX2_init : ByteArray := prog_4_method_1_code
def yX2_init : MethodName := ⟨RX2, "<init>", "()V"⟩
abbrev cX2_isKnockedAt : ByteArray := prog_4_method_2_code
def yX2_isKnockedAt : MethodName := ⟨RX2, "isKnockedAt", "(I)Z"⟩
abbrev cX2_add : ByteArray := prog_4_method_3_code
def yX2_add : MethodName := ⟨RX2, "add", "(II)V"⟩
abbrev cX2_countUnseen : ByteArray := prog_4_method_4_code
def yX2_countUnseen : MethodName := ⟨RX2, "countUnseen", "(LDiscCutter$Side;LDiscCutter$Songs;)I"⟩
abbrev cX2_follow : ByteArray := prog_4_method_5_code
def yX2_follow : MethodName := ⟨RX2, "follow", "(LDiscCutter$Side;LDiscCutter$Songs;I)I"⟩
abbrev cX2_playOn : ByteArray := prog_4_method_6_code
def yX2_playOn : MethodName := ⟨RX2, "playOn", "(LDiscCutter$Side;II)I"⟩
abbrev cX2_partAhead : ByteArray := prog_4_method_7_code
def yX2_partAhead : MethodName := ⟨RX2, "partAhead", "(LDiscCutter$Side;II)I"⟩
abbrev cX2_fallen : ByteArray := prog_4_method_8_code
def yX2_fallen : MethodName := ⟨RX2, "fallen", "(LDiscCutter$Side;III)I"⟩
abbrev cX2_placeOf : ByteArray := prog_4_method_9_code
def yX2_placeOf : MethodName := ⟨RX2, "placeOf", "(LDiscCutter$Side;II)I"⟩
def RX3 : String := "DiscCutter$Order"
def TX3 : u_T := fun k => match k with
  | 0 => ("DiscCutter$Order", "sequence", "[I", true)
  | 1 => ("DiscCutter$Order", "bestCode", "I", false)
  | 2 => ("DiscCutter$Order", "bestLoss", "I", false)
  | 3 => ("DiscCutter$Order", "songCount", "I", false)
  | _ => ("DiscCutter$Order", "mostParts", "I", false)
def tyX3 : Nat → FieldType := fun k => match k with
  | 0 => .array .int
  | 1 => .int
  | 2 => .int
  | 3 => .int
  | _ => .int
theorem nmX3 : ∀ a, a < 5 → ∀ b, b < 5 → a ≠ b → (TX3 a).2.1 ≠ (TX3 b).2.1 := by decide +kernel
theorem tyX3_ok : ∀ k, k < 5 → parseFieldDescriptor (TX3 k).2.2.1 = some (tyX3 k) := by decide +kernel
abbrev cX3_init : ByteArray := prog_5_method_1_code
def yX3_init : MethodName := ⟨RX3, "<init>", "()V"⟩
abbrev cX3_sideIn : ByteArray := prog_5_method_2_code
def yX3_sideIn : MethodName := ⟨RX3, "sideIn", "(II)I"⟩
abbrev cX3_songOn : ByteArray := prog_5_method_3_code
def yX3_songOn : MethodName := ⟨RX3, "songOn", "(II)I"⟩
abbrev cX3_find : ByteArray := prog_5_method_4_code
def yX3_find : MethodName := ⟨RX3, "find", "(LDiscCutter$Songs;I)Z"⟩
abbrev cX3_putInSequence : ByteArray := prog_5_method_5_code
def yX3_putInSequence : MethodName := ⟨RX3, "putInSequence", "(LDiscCutter$Songs;)V"⟩
abbrev cX3_comesAhead : ByteArray := prog_5_method_6_code
def yX3_comesAhead : MethodName := ⟨RX3, "comesAhead", "(LDiscCutter$Songs;II)Z"⟩
abbrev cX3_chooseSides : ByteArray := prog_5_method_7_code
def yX3_chooseSides : MethodName := ⟨RX3, "chooseSides", "(LDiscCutter$Songs;)V"⟩
abbrev cX3_lossOf : ByteArray := prog_5_method_8_code
def yX3_lossOf : MethodName := ⟨RX3, "lossOf", "(LDiscCutter$Songs;I)I"⟩
def RX4 : String := "DiscCutter$Rules"
def TX4 : u_T := fun k => match k with
  | 0 => ("DiscCutter$Rules", "land", "I", false)
  | 1 => ("DiscCutter$Rules", "feed", "I", false)
  | _ => ("DiscCutter$Rules", "changes", "I", false)
def tyX4 : Nat → FieldType := fun k => match k with
  | 0 => .int
  | 1 => .int
  | _ => .int
theorem nmX4 : ∀ a, a < 3 → ∀ b, b < 3 → a ≠ b → (TX4 a).2.1 ≠ (TX4 b).2.1 := by decide +kernel
theorem tyX4_ok : ∀ k, k < 3 → parseFieldDescriptor (TX4 k).2.2.1 = some (tyX4 k) := by decide +kernel
abbrev cX4_init : ByteArray := prog_6_method_1_code
def yX4_init : MethodName := ⟨RX4, "<init>", "()V"⟩
abbrev cX4_change : ByteArray := prog_6_method_2_code
def yX4_change : MethodName := ⟨RX4, "change", "(II)V"⟩
def RX5 : String := "DiscCutter$Runner"
def TX5 : u_T := fun k => match k with
  | 0 => ("DiscCutter$Runner", "songs", "LDiscCutter$Songs;", true)
  | 1 => ("DiscCutter$Runner", "sides", "[LDiscCutter$Side;", true)
  | 2 => ("DiscCutter$Runner", "keptSides", "[LDiscCutter$Side;", true)
  | 3 => ("DiscCutter$Runner", "markSides", "[I", false)
  | 4 => ("DiscCutter$Runner", "markParts", "[I", false)
  | 5 => ("DiscCutter$Runner", "keptMarkSides", "[I", false)
  | 6 => ("DiscCutter$Runner", "keptMarkParts", "[I", false)
  | 7 => ("DiscCutter$Runner", "current", "I", false)
  | 8 => ("DiscCutter$Runner", "done", "I", false)
  | 9 => ("DiscCutter$Runner", "errorKind", "I", false)
  | _ => ("DiscCutter$Runner", "errorAt", "I", false)
def tyX5 : Nat → FieldType := fun k => match k with
  | 0 => .object "DiscCutter$Songs"
  | 1 => .array (.object "DiscCutter$Side")
  | 2 => .array (.object "DiscCutter$Side")
  | 3 => .array .int
  | 4 => .array .int
  | 5 => .array .int
  | 6 => .array .int
  | 7 => .int
  | 8 => .int
  | 9 => .int
  | _ => .int
theorem nmX5 : ∀ a, a < 11 → ∀ b, b < 11 → a ≠ b → (TX5 a).2.1 ≠ (TX5 b).2.1 := by decide +kernel
theorem tyX5_ok : ∀ k, k < 11 → parseFieldDescriptor (TX5 k).2.2.1 = some (tyX5 k) := by decide +kernel
abbrev cX5_init : ByteArray := prog_7_method_1_code
def yX5_init : MethodName := ⟨RX5, "<init>", "(LDiscCutter$Songs;[LDiscCutter$Side;LDiscCutter$Rules;)V"⟩
abbrev cX5_forgetMarks : ByteArray := prog_7_method_2_code
def yX5_forgetMarks : MethodName := ⟨RX5, "forgetMarks", "()V"⟩
abbrev cX5_nameOfMark : ByteArray := prog_7_method_3_code
def yX5_nameOfMark : MethodName := ⟨RX5, "nameOfMark", "(I)I"⟩
abbrev cX5_perform : ByteArray := prog_7_method_4_code
def yX5_perform : MethodName := ⟨RX5, "perform", "(LDiscCutter$Sheet;)Z"⟩
abbrev cX5_swapMarks : ByteArray := prog_7_method_5_code
def yX5_swapMarks : MethodName := ⟨RX5, "swapMarks", "()V"⟩
abbrev cX5_doSteps : ByteArray := prog_7_method_6_code
def yX5_doSteps : MethodName := ⟨RX5, "doSteps", "(LDiscCutter$Step;I)V"⟩
abbrev cX5_doStep : ByteArray := prog_7_method_7_code
def yX5_doStep : MethodName := ⟨RX5, "doStep", "(LDiscCutter$Step;I)V"⟩
abbrev cX5_wrongWith : ByteArray := prog_7_method_8_code
def yX5_wrongWith : MethodName := ⟨RX5, "wrongWith", "(LDiscCutter$Step;)I"⟩
abbrev cX5_wrongWithLaying : ByteArray := prog_7_method_9_code
def yX5_wrongWithLaying : MethodName := ⟨RX5, "wrongWithLaying", "(LDiscCutter$Side;I)I"⟩
abbrev cX5_hasStretch : ByteArray := prog_7_method_10_code
def yX5_hasStretch : MethodName := ⟨RX5, "hasStretch", "(LDiscCutter$Step;)Z"⟩
abbrev cX5_startOf : ByteArray := prog_7_method_11_code
def yX5_startOf : MethodName := ⟨RX5, "startOf", "(LDiscCutter$Step;)I"⟩
abbrev cX5_endOf : ByteArray := prog_7_method_12_code
def yX5_endOf : MethodName := ⟨RX5, "endOf", "(LDiscCutter$Step;)I"⟩
abbrev cX5_holds : ByteArray := prog_7_method_13_code
def yX5_holds : MethodName := ⟨RX5, "holds", "(LDiscCutter$Step;)Z"⟩
abbrev cX5_doPlain : ByteArray := prog_7_method_14_code
def yX5_doPlain : MethodName := ⟨RX5, "doPlain", "(LDiscCutter$Step;)V"⟩
abbrev cX5_setMark : ByteArray := prog_7_method_15_code
def yX5_setMark : MethodName := ⟨RX5, "setMark", "(I)V"⟩
abbrev cX5_layStretch : ByteArray := prog_7_method_16_code
def yX5_layStretch : MethodName := ⟨RX5, "layStretch", "(LDiscCutter$Step;)V"⟩
def RX6 : String := "DiscCutter$Sheet"
def TX6 : u_T := fun k => match k with
  | 0 => ("DiscCutter$Sheet", "steps", "[LDiscCutter$Step;", true)
  | 1 => ("DiscCutter$Sheet", "nameStarts", "[I", true)
  | 2 => ("DiscCutter$Sheet", "nameLengths", "[I", true)
  | 3 => ("DiscCutter$Sheet", "nameCount", "I", false)
  | 4 => ("DiscCutter$Sheet", "text", "[B", false)
  | 5 => ("DiscCutter$Sheet", "length", "I", false)
  | 6 => ("DiscCutter$Sheet", "position", "I", false)
  | 7 => ("DiscCutter$Sheet", "token", "I", false)
  | 8 => ("DiscCutter$Sheet", "tokenAt", "I", false)
  | 9 => ("DiscCutter$Sheet", "value", "I", false)
  | 10 => ("DiscCutter$Sheet", "first", "LDiscCutter$Step;", false)
  | 11 => ("DiscCutter$Sheet", "stepCount", "I", false)
  | 12 => ("DiscCutter$Sheet", "faultKind", "I", false)
  | _ => ("DiscCutter$Sheet", "faultAt", "I", false)
def tyX6 : Nat → FieldType := fun k => match k with
  | 0 => .array (.object "DiscCutter$Step")
  | 1 => .array .int
  | 2 => .array .int
  | 3 => .int
  | 4 => .array .byte
  | 5 => .int
  | 6 => .int
  | 7 => .int
  | 8 => .int
  | 9 => .int
  | 10 => .object "DiscCutter$Step"
  | 11 => .int
  | 12 => .int
  | _ => .int
theorem nmX6 : ∀ a, a < 14 → ∀ b, b < 14 → a ≠ b → (TX6 a).2.1 ≠ (TX6 b).2.1 := by decide +kernel
theorem tyX6_ok : ∀ k, k < 14 → parseFieldDescriptor (TX6 k).2.2.1 = some (tyX6 k) := by decide +kernel
abbrev cX6_init : ByteArray := prog_8_method_1_code
def yX6_init : MethodName := ⟨RX6, "<init>", "()V"⟩
abbrev cX6_parse : ByteArray := prog_8_method_2_code
def yX6_parse : MethodName := ⟨RX6, "parse", "([BI)V"⟩
abbrev cX6_advance : ByteArray := prog_8_method_3_code
def yX6_advance : MethodName := ⟨RX6, "advance", "()V"⟩
abbrev cX6_isWord : ByteArray := prog_8_method_4_code
def yX6_isWord : MethodName := ⟨RX6, "isWord", "(Ljava/lang/String;)Z"⟩
abbrev cX6_blame : ByteArray := prog_8_method_5_code
def yX6_blame : MethodName := ⟨RX6, "blame", "(I)V"⟩
abbrev cX6_misplaced : ByteArray := prog_8_method_6_code
def yX6_misplaced : MethodName := ⟨RX6, "misplaced", "()V"⟩
abbrev cX6_readSteps : ByteArray := prog_8_method_7_code
def yX6_readSteps : MethodName := ⟨RX6, "readSteps", "(I)LDiscCutter$Step;"⟩
abbrev cX6_readBraces : ByteArray := prog_8_method_8_code
def yX6_readBraces : MethodName := ⟨RX6, "readBraces", "(I)LDiscCutter$Step;"⟩
abbrev cX6_readStep : ByteArray := prog_8_method_9_code
def yX6_readStep : MethodName := ⟨RX6, "readStep", "(I)LDiscCutter$Step;"⟩
abbrev cX6_stepKind : ByteArray := prog_8_method_10_code
def yX6_stepKind : MethodName := ⟨RX6, "stepKind", "()I"⟩
abbrev cX6_greatestFor : ByteArray := prog_8_method_11_code
def yX6_greatestFor : MethodName := ⟨RX6, "greatestFor", "(I)I"⟩
abbrev cX6_readOptions : ByteArray := prog_8_method_12_code
def yX6_readOptions : MethodName := ⟨RX6, "readOptions", "(LDiscCutter$Step;)V"⟩
abbrev cX6_readOption : ByteArray := prog_8_method_13_code
def yX6_readOption : MethodName := ⟨RX6, "readOption", "(III)I"⟩
abbrev cX6_readTest : ByteArray := prog_8_method_14_code
def yX6_readTest : MethodName := ⟨RX6, "readTest", "(LDiscCutter$Step;)V"⟩
abbrev cX6_expect : ByteArray := prog_8_method_15_code
def yX6_expect : MethodName := ⟨RX6, "expect", "(C)V"⟩
abbrev cX6_readNumber : ByteArray := prog_8_method_16_code
def yX6_readNumber : MethodName := ⟨RX6, "readNumber", "(II)I"⟩
abbrev cX6_readName : ByteArray := prog_8_method_17_code
def yX6_readName : MethodName := ⟨RX6, "readName", "()I"⟩
abbrev cX6_isName : ByteArray := prog_8_method_18_code
def yX6_isName : MethodName := ⟨RX6, "isName", "(I)Z"⟩
def RX7 : String := "DiscCutter$Side"
def TX7 : u_T := fun k => match k with
  | 0 => ("DiscCutter$Side", "rules", "LDiscCutter$Rules;", true)
  | 1 => ("DiscCutter$Side", "levels", "[I", true)
  | 2 => ("DiscCutter$Side", "songs", "[I", true)
  | 3 => ("DiscCutter$Side", "places", "[I", true)
  | 4 => ("DiscCutter$Side", "count", "I", false)
  | 5 => ("DiscCutter$Side", "lockedBy", "I", false)
  | 6 => ("DiscCutter$Side", "changes", "I", false)
  | 7 => ("DiscCutter$Side", "settledChanges", "I", false)
  | _ => ("DiscCutter$Side", "canBeCut", "Z", false)
def tyX7 : Nat → FieldType := fun k => match k with
  | 0 => .object "DiscCutter$Rules"
  | 1 => .array .int
  | 2 => .array .int
  | 3 => .array .int
  | 4 => .int
  | 5 => .int
  | 6 => .int
  | 7 => .int
  | _ => .boolean
theorem nmX7 : ∀ a, a < 9 → ∀ b, b < 9 → a ≠ b → (TX7 a).2.1 ≠ (TX7 b).2.1 := by decide +kernel
theorem tyX7_ok : ∀ k, k < 9 → parseFieldDescriptor (TX7 k).2.2.1 = some (tyX7 k) := by decide +kernel
abbrev cX7_init : ByteArray := prog_9_method_1_code
def yX7_init : MethodName := ⟨RX7, "<init>", "(LDiscCutter$Rules;)V"⟩
abbrev cX7_empty : ByteArray := prog_9_method_2_code
def yX7_empty : MethodName := ⟨RX7, "empty", "()V"⟩
abbrev cX7_isLocked : ByteArray := prog_9_method_3_code
def yX7_isLocked : MethodName := ⟨RX7, "isLocked", "()Z"⟩
abbrev cX7_hasRoomFor : ByteArray := prog_9_method_4_code
def yX7_hasRoomFor : MethodName := ⟨RX7, "hasRoomFor", "(I)Z"⟩
abbrev cX7_append : ByteArray := prog_9_method_5_code
def yX7_append : MethodName := ⟨RX7, "append", "(II)V"⟩
abbrev cX7_appendLead : ByteArray := prog_9_method_6_code
def yX7_appendLead : MethodName := ⟨RX7, "appendLead", "(I)V"⟩
abbrev cX7_appendSong : ByteArray := prog_9_method_7_code
def yX7_appendSong : MethodName := ⟨RX7, "appendSong", "(LDiscCutter$Songs;I)V"⟩
abbrev cX7_copyFrom : ByteArray := prog_9_method_8_code
def yX7_copyFrom : MethodName := ⟨RX7, "copyFrom", "(LDiscCutter$Side;)V"⟩
abbrev cX7_cap : ByteArray := prog_9_method_9_code
def yX7_cap : MethodName := ⟨RX7, "cap", "(I)I"⟩
abbrev cX7_firstTooNear : ByteArray := prog_9_method_10_code
def yX7_firstTooNear : MethodName := ⟨RX7, "firstTooNear", "(I)I"⟩
abbrev cX7_leastSoftening : ByteArray := prog_9_method_11_code
def yX7_leastSoftening : MethodName := ⟨RX7, "leastSoftening", "()I"⟩
abbrev cX7_settle : ByteArray := prog_9_method_12_code
def yX7_settle : MethodName := ⟨RX7, "settle", "()Z"⟩
abbrev cX7_layOut : ByteArray := prog_9_method_13_code
def yX7_layOut : MethodName := ⟨RX7, "layOut", "()V"⟩
abbrev cX7_placeBehind : ByteArray := prog_9_method_14_code
def yX7_placeBehind : MethodName := ⟨RX7, "placeBehind", "(I)I"⟩
abbrev cX7_extent : ByteArray := prog_9_method_15_code
def yX7_extent : MethodName := ⟨RX7, "extent", "()I"⟩
abbrev cX7_tightPart : ByteArray := prog_9_method_16_code
def yX7_tightPart : MethodName := ⟨RX7, "tightPart", "(I)I"⟩
abbrev cX7_ringPlace : ByteArray := prog_9_method_17_code
def yX7_ringPlace : MethodName := ⟨RX7, "ringPlace", "(LDiscCutter$Songs;I)I"⟩
abbrev cX7_songOf : ByteArray := prog_9_method_18_code
def yX7_songOf : MethodName := ⟨RX7, "songOf", "(I)I"⟩
def RX8 : String := "DiscCutter$Songs"
def TX8 : u_T := fun k => match k with
  | 0 => ("DiscCutter$Songs", "levels", "[I", true)
  | 1 => ("DiscCutter$Songs", "lengths", "[I", true)
  | 2 => ("DiscCutter$Songs", "highs", "[I", true)
  | _ => ("DiscCutter$Songs", "count", "I", false)
def tyX8 : Nat → FieldType := fun k => match k with
  | 0 => .array .int
  | 1 => .array .int
  | 2 => .array .int
  | _ => .int
theorem nmX8 : ∀ a, a < 4 → ∀ b, b < 4 → a ≠ b → (TX8 a).2.1 ≠ (TX8 b).2.1 := by decide +kernel
theorem tyX8_ok : ∀ k, k < 4 → parseFieldDescriptor (TX8 k).2.2.1 = some (tyX8 k) := by decide +kernel
abbrev cX8_init : ByteArray := prog_10_method_1_code
def yX8_init : MethodName := ⟨RX8, "<init>", "()V"⟩
abbrev cX8_has : ByteArray := prog_10_method_2_code
def yX8_has : MethodName := ⟨RX8, "has", "(I)Z"⟩
abbrev cX8_canRing : ByteArray := prog_10_method_3_code
def yX8_canRing : MethodName := ⟨RX8, "canRing", "(I)Z"⟩
abbrev cX8_add : ByteArray := prog_10_method_4_code
def yX8_add : MethodName := ⟨RX8, "add", "(LDiscCutter$Tray;II)I"⟩
abbrev cX8_levelOf : ByteArray := prog_10_method_5_code
def yX8_levelOf : MethodName := ⟨RX8, "levelOf", "(II)I"⟩
abbrev cX8_loudest : ByteArray := prog_10_method_6_code
def yX8_loudest : MethodName := ⟨RX8, "loudest", "(I)I"⟩
def RX9 : String := "DiscCutter$Step"
def TX9 : u_T := fun k => match k with
  | 0 => ("DiscCutter$Step", "kind", "I", false)
  | 1 => ("DiscCutter$Step", "at", "I", false)
  | 2 => ("DiscCutter$Step", "number", "I", false)
  | 3 => ("DiscCutter$Step", "from", "I", false)
  | 4 => ("DiscCutter$Step", "to", "I", false)
  | 5 => ("DiscCutter$Step", "soft", "I", false)
  | 6 => ("DiscCutter$Step", "fade", "I", false)
  | 7 => ("DiscCutter$Step", "test", "I", false)
  | 8 => ("DiscCutter$Step", "name", "I", false)
  | 9 => ("DiscCutter$Step", "above", "Z", false)
  | 10 => ("DiscCutter$Step", "inside", "LDiscCutter$Step;", false)
  | 11 => ("DiscCutter$Step", "otherwise", "LDiscCutter$Step;", false)
  | _ => ("DiscCutter$Step", "next", "LDiscCutter$Step;", false)
def tyX9 : Nat → FieldType := fun k => match k with
  | 0 => .int
  | 1 => .int
  | 2 => .int
  | 3 => .int
  | 4 => .int
  | 5 => .int
  | 6 => .int
  | 7 => .int
  | 8 => .int
  | 9 => .boolean
  | 10 => .object "DiscCutter$Step"
  | 11 => .object "DiscCutter$Step"
  | _ => .object "DiscCutter$Step"
theorem nmX9 : ∀ a, a < 13 → ∀ b, b < 13 → a ≠ b → (TX9 a).2.1 ≠ (TX9 b).2.1 := by decide +kernel
theorem tyX9_ok : ∀ k, k < 13 → parseFieldDescriptor (TX9 k).2.2.1 = some (tyX9 k) := by decide +kernel
abbrev cX9_init : ByteArray := prog_11_method_1_code
def yX9_init : MethodName := ⟨RX9, "<init>", "()V"⟩
abbrev cX9_become : ByteArray := prog_11_method_2_code
def yX9_become : MethodName := ⟨RX9, "become", "(II)V"⟩
def RX10 : String := "DiscCutter$Tray"
def TX10 : u_T := fun k => match k with
  | 0 => ("DiscCutter$Tray", "numbers", "[J", true)
  | 1 => ("DiscCutter$Tray", "sort", "I", false)
  | _ => ("DiscCutter$Tray", "count", "I", false)
def tyX10 : Nat → FieldType := fun k => match k with
  | 0 => .array .long
  | 1 => .int
  | _ => .int
theorem nmX10 : ∀ a, a < 3 → ∀ b, b < 3 → a ≠ b → (TX10 a).2.1 ≠ (TX10 b).2.1 := by decide +kernel
theorem tyX10_ok : ∀ k, k < 3 → parseFieldDescriptor (TX10 k).2.2.1 = some (tyX10 k) := by decide +kernel
abbrev cX10_init : ByteArray := prog_12_method_1_code
def yX10_init : MethodName := ⟨RX10, "<init>", "()V"⟩
abbrev cX10_isMissing : ByteArray := prog_12_method_2_code
def yX10_isMissing : MethodName := ⟨RX10, "isMissing", "()Z"⟩
abbrev cX10_become : ByteArray := prog_12_method_3_code
def yX10_become : MethodName := ⟨RX10, "become", "(II)V"⟩
abbrev cX10_put : ByteArray := prog_12_method_4_code
def yX10_put : MethodName := ⟨RX10, "put", "(IJ)V"⟩
abbrev cX10_cut : ByteArray := prog_12_method_5_code
def yX10_cut : MethodName := ⟨RX10, "cut", "(J)J"⟩
abbrev cX10_hasRow : ByteArray := prog_12_method_6_code
def yX10_hasRow : MethodName := ⟨RX10, "hasRow", "(II)Z"⟩
abbrev cX10_holdsLevels : ByteArray := prog_12_method_7_code
def yX10_holdsLevels : MethodName := ⟨RX10, "holdsLevels", "(I)Z"⟩
def RX11 : String := "DiscCutter"
def TX11 : u_T := fun k => match k with
  | 0 => ("DiscCutter", "trays", "[LDiscCutter$Tray;", true)
  | 1 => ("DiscCutter", "songs", "LDiscCutter$Songs;", true)
  | 2 => ("DiscCutter", "rules", "LDiscCutter$Rules;", true)
  | 3 => ("DiscCutter", "sides", "[LDiscCutter$Side;", true)
  | 4 => ("DiscCutter", "beside", "LDiscCutter$Beside;", true)
  | 5 => ("DiscCutter", "order", "LDiscCutter$Order;", true)
  | 6 => ("DiscCutter", "clicks", "LDiscCutter$Clicks;", true)
  | 7 => ("DiscCutter", "needle", "LDiscCutter$Needle;", true)
  | 8 => ("DiscCutter", "runner", "LDiscCutter$Runner;", true)
  | 9 => ("DiscCutter", "tape", "[B", true)
  | 10 => ("DiscCutter", "tapeCount", "I", false)
  | 11 => ("DiscCutter", "sheet", "LDiscCutter$Sheet;", false)
  | 12 => ("DiscCutter", "spareSheet", "LDiscCutter$Sheet;", false)
  | 13 => ("DiscCutter", "hasSheet", "Z", false)
  | 14 => ("DiscCutter", "faultKind", "I", false)
  | 15 => ("DiscCutter", "faultAt", "I", false)
  | 16 => ("DiscCutter", "mostParts", "I", false)
  | _ => ("DiscCutter", "status", "I", false)
def tyX11 : Nat → FieldType := fun k => match k with
  | 0 => .array (.object "DiscCutter$Tray")
  | 1 => .object "DiscCutter$Songs"
  | 2 => .object "DiscCutter$Rules"
  | 3 => .array (.object "DiscCutter$Side")
  | 4 => .object "DiscCutter$Beside"
  | 5 => .object "DiscCutter$Order"
  | 6 => .object "DiscCutter$Clicks"
  | 7 => .object "DiscCutter$Needle"
  | 8 => .object "DiscCutter$Runner"
  | 9 => .array .byte
  | 10 => .int
  | 11 => .object "DiscCutter$Sheet"
  | 12 => .object "DiscCutter$Sheet"
  | 13 => .boolean
  | 14 => .int
  | 15 => .int
  | 16 => .int
  | _ => .int
theorem nmX11 : ∀ a, a < 18 → ∀ b, b < 18 → a ≠ b → (TX11 a).2.1 ≠ (TX11 b).2.1 := by decide +kernel
theorem tyX11_ok : ∀ k, k < 18 → parseFieldDescriptor (TX11 k).2.2.1 = some (tyX11 k) := by decide +kernel
abbrev cX11_init : ByteArray := prog_1_method_1_code
def yX11_init : MethodName := ⟨RX11, "<init>", "()V"⟩
abbrev cX11_status : ByteArray := prog_1_method_2_code
def yX11_status : MethodName := ⟨RX11, "status", "()I"⟩
abbrev cX11_tray : ByteArray := prog_1_method_3_code
def yX11_tray : MethodName := ⟨RX11, "tray", "(III)Z"⟩
abbrev cX11_write : ByteArray := prog_1_method_4_code
def yX11_write : MethodName := ⟨RX11, "write", "(IIJ)Z"⟩
abbrev cX11_read : ByteArray := prog_1_method_5_code
def yX11_read : MethodName := ⟨RX11, "read", "(II)J"⟩
abbrev cX11_pour : ByteArray := prog_1_method_6_code
def yX11_pour : MethodName := ⟨RX11, "pour", "(IIIII)Z"⟩
abbrev cX11_song : ByteArray := prog_1_method_7_code
def yX11_song : MethodName := ⟨RX11, "song", "(III)I"⟩
abbrev cX11_told : ByteArray := prog_1_method_8_code
def yX11_told : MethodName := ⟨RX11, "told", "(II)I"⟩
abbrev cX11_rules : ByteArray := prog_1_method_9_code
def yX11_rules : MethodName := ⟨RX11, "rules", "(II)Z"⟩
abbrev cX11_anew : ByteArray := prog_1_method_10_code
def yX11_anew : MethodName := ⟨RX11, "anew", "(I)Z"⟩
abbrev cX11_lead : ByteArray := prog_1_method_11_code
def yX11_lead : MethodName := ⟨RX11, "lead", "(II)Z"⟩
abbrev cX11_lay : ByteArray := prog_1_method_12_code
def yX11_lay : MethodName := ⟨RX11, "lay", "(II)Z"⟩
abbrev cX11_parts : ByteArray := prog_1_method_13_code
def yX11_parts : MethodName := ⟨RX11, "parts", "(I)I"⟩
abbrev cX11_level : ByteArray := prog_1_method_14_code
def yX11_level : MethodName := ⟨RX11, "level", "(II)I"⟩
abbrev cX11_place : ByteArray := prog_1_method_15_code
def yX11_place : MethodName := ⟨RX11, "place", "(II)I"⟩
abbrev cX11_room : ByteArray := prog_1_method_16_code
def yX11_room : MethodName := ⟨RX11, "room", "(I)I"⟩
abbrev cX11_tight : ByteArray := prog_1_method_17_code
def yX11_tight : MethodName := ⟨RX11, "tight", "(II)I"⟩
abbrev cX11_cannot : ByteArray := prog_1_method_18_code
def yX11_cannot : MethodName := ⟨RX11, "cannot", "(I)I"⟩
abbrev cX11_softer : ByteArray := prog_1_method_19_code
def yX11_softer : MethodName := ⟨RX11, "softer", "(I)I"⟩
abbrev cX11_soften : ByteArray := prog_1_method_20_code
def yX11_soften : MethodName := ⟨RX11, "soften", "(II)I"⟩
abbrev cX11_most : ByteArray := prog_1_method_21_code
def yX11_most : MethodName := ⟨RX11, "most", "(I)Z"⟩
abbrev cX11_order : ByteArray := prog_1_method_22_code
def yX11_order : MethodName := ⟨RX11, "order", "()I"⟩
abbrev cX11_sideOf : ByteArray := prog_1_method_23_code
def yX11_sideOf : MethodName := ⟨RX11, "sideOf", "(I)I"⟩
abbrev cX11_songAt : ByteArray := prog_1_method_24_code
def yX11_songAt : MethodName := ⟨RX11, "songAt", "(II)I"⟩
abbrev cX11_press : ByteArray := prog_1_method_25_code
def yX11_press : MethodName := ⟨RX11, "press", "()Z"⟩
abbrev cX11_ring : ByteArray := prog_1_method_26_code
def yX11_ring : MethodName := ⟨RX11, "ring", "(II)I"⟩
abbrev cX11_inTime : ByteArray := prog_1_method_27_code
def yX11_inTime : MethodName := ⟨RX11, "inTime", "(I)I"⟩
abbrev cX11_click : ByteArray := prog_1_method_28_code
def yX11_click : MethodName := ⟨RX11, "click", "(II)Z"⟩
abbrev cX11_clean : ByteArray := prog_1_method_29_code
def yX11_clean : MethodName := ⟨RX11, "clean", "()Z"⟩
abbrev cX11_longest : ByteArray := prog_1_method_30_code
def yX11_longest : MethodName := ⟨RX11, "longest", "()I"⟩
abbrev cX11_line : ByteArray := prog_1_method_31_code
def yX11_line : MethodName := ⟨RX11, "line", "(I)I"⟩
abbrev cX11_cover : ByteArray := prog_1_method_32_code
def yX11_cover : MethodName := ⟨RX11, "cover", "()I"⟩
abbrev cX11_lock : ByteArray := prog_1_method_33_code
def yX11_lock : MethodName := ⟨RX11, "lock", "(II)Z"⟩
abbrev cX11_locked : ByteArray := prog_1_method_34_code
def yX11_locked : MethodName := ⟨RX11, "locked", "(I)I"⟩
abbrev cX11_knock : ByteArray := prog_1_method_35_code
def yX11_knock : MethodName := ⟨RX11, "knock", "(II)Z"⟩
abbrev cX11_still : ByteArray := prog_1_method_36_code
def yX11_still : MethodName := ⟨RX11, "still", "()Z"⟩
abbrev cX11_heard : ByteArray := prog_1_method_37_code
def yX11_heard : MethodName := ⟨RX11, "heard", "(II)I"⟩
abbrev cX11_songHeard : ByteArray := prog_1_method_38_code
def yX11_songHeard : MethodName := ⟨RX11, "songHeard", "(II)I"⟩
abbrev cX11_missed : ByteArray := prog_1_method_39_code
def yX11_missed : MethodName := ⟨RX11, "missed", "(I)I"⟩
abbrev cX11_placeBeside : ByteArray := prog_1_method_40_code
def yX11_placeBeside : MethodName := ⟨RX11, "placeBeside", "(II)I"⟩
abbrev cX11_roomBeside : ByteArray := prog_1_method_41_code
def yX11_roomBeside : MethodName := ⟨RX11, "roomBeside", "()I"⟩
abbrev cX11_feed : ByteArray := prog_1_method_42_code
def yX11_feed : MethodName := ⟨RX11, "feed", "(IIIII)I"⟩
abbrev cX11_sheet : ByteArray := prog_1_method_43_code
def yX11_sheet : MethodName := ⟨RX11, "sheet", "(I)I"⟩
abbrev cX11_fault : ByteArray := prog_1_method_44_code
def yX11_fault : MethodName := ⟨RX11, "fault", "(I)I"⟩
abbrev cX11_run : ByteArray := prog_1_method_45_code
def yX11_run : MethodName := ⟨RX11, "run", "()I"⟩
abbrev cX11_error : ByteArray := prog_1_method_46_code
def yX11_error : MethodName := ⟨RX11, "error", "(I)I"⟩
abbrev cX11_mark : ByteArray := prog_1_method_47_code
def yX11_mark : MethodName := ⟨RX11, "mark", "(II)I"⟩
abbrev cX11_accept : ByteArray := prog_1_method_48_code
def yX11_accept : MethodName := ⟨RX11, "accept", "()Z"⟩
abbrev cX11_refuse : ByteArray := prog_1_method_49_code
def yX11_refuse : MethodName := ⟨RX11, "refuse", "(I)Z"⟩
abbrev cX11_give : ByteArray := prog_1_method_50_code
def yX11_give : MethodName := ⟨RX11, "give", "(I)I"⟩
abbrev cX11_giveNone : ByteArray := prog_1_method_51_code
def yX11_giveNone : MethodName := ⟨RX11, "giveNone", "(I)I"⟩
abbrev cX11_giveIfAny : ByteArray := prog_1_method_52_code
def yX11_giveIfAny : MethodName := ⟨RX11, "giveIfAny", "(I)I"⟩
abbrev cX11_within : ByteArray := prog_1_method_53_code
def yX11_within : MethodName := ⟨RX11, "within", "(III)Z"⟩
abbrev cX11_clear : ByteArray := prog_1_method_54_code
def yX11_clear : MethodName := ⟨RX11, "clear", "([Z)V"⟩
abbrev cX11_isTray : ByteArray := prog_1_method_55_code
def yX11_isTray : MethodName := ⟨RX11, "isTray", "(I)Z"⟩
abbrev cX11_isSide : ByteArray := prog_1_method_56_code
def yX11_isSide : MethodName := ⟨RX11, "isSide", "(I)Z"⟩
abbrev cX11_isPart : ByteArray := prog_1_method_57_code
def yX11_isPart : MethodName := ⟨RX11, "isPart", "(II)Z"⟩
abbrev cX11_whyNoNumber : ByteArray := prog_1_method_58_code
def yX11_whyNoNumber : MethodName := ⟨RX11, "whyNoNumber", "(II)I"⟩
abbrev cX11_whyNotLaid : ByteArray := prog_1_method_59_code
def yX11_whyNotLaid : MethodName := ⟨RX11, "whyNotLaid", "(LDiscCutter$Side;I)I"⟩
abbrev cX11_putOnTape : ByteArray := prog_1_method_60_code
def yX11_putOnTape : MethodName := ⟨RX11, "putOnTape", "(I)V"⟩
def RX12 : String := "DiscCutterModel"
def TX12 : u_T := fun k => match k with
  | 0 => ("DiscCutterModel", "status", "I", false)
  | 1 => ("DiscCutterModel", "sort", "[I", true)
  | 2 => ("DiscCutterModel", "many", "[I", true)
  | 3 => ("DiscCutterModel", "trays", "[J", true)
  | 4 => ("DiscCutterModel", "songs", "I", false)
  | 5 => ("DiscCutterModel", "land", "I", false)
  | 6 => ("DiscCutterModel", "feed", "I", false)
  | 7 => ("DiscCutterModel", "most", "I", false)
  | 8 => ("DiscCutterModel", "lengths", "[I", true)
  | 9 => ("DiscCutterModel", "high", "[I", true)
  | 10 => ("DiscCutterModel", "levels", "[I", true)
  | 11 => ("DiscCutterModel", "parts", "[I", true)
  | 12 => ("DiscCutterModel", "cutAt", "[I", true)
  | 13 => ("DiscCutterModel", "owner", "[I", true)
  | 14 => ("DiscCutterModel", "lockedBy", "[I", true)
  | 15 => ("DiscCutterModel", "oldParts", "[I", true)
  | 16 => ("DiscCutterModel", "oldCut", "[I", true)
  | 17 => ("DiscCutterModel", "oldOwner", "[I", true)
  | 18 => ("DiscCutterModel", "oldLocked", "[I", true)
  | 19 => ("DiscCutterModel", "place", "[I", true)
  | 20 => ("DiscCutterModel", "moved", "Z", false)
  | 21 => ("DiscCutterModel", "row", "[I", true)
  | 22 => ("DiscCutterModel", "rowMany", "[I", true)
  | 23 => ("DiscCutterModel", "bestRow", "[I", true)
  | 24 => ("DiscCutterModel", "bestMany", "[I", true)
  | 25 => ("DiscCutterModel", "bestLoss", "I", false)
  | 26 => ("DiscCutterModel", "isClick", "[Z", true)
  | 27 => ("DiscCutterModel", "clickTurn", "[I", true)
  | 28 => ("DiscCutterModel", "clickPart", "[I", true)
  | 29 => ("DiscCutterModel", "covers", "[I", true)
  | 30 => ("DiscCutterModel", "clicks", "I", false)
  | 31 => ("DiscCutterModel", "lineTurn", "I", false)
  | 32 => ("DiscCutterModel", "linePart", "I", false)
  | 33 => ("DiscCutterModel", "lineSlant", "I", false)
  | 34 => ("DiscCutterModel", "lineSets", "[I", true)
  | 35 => ("DiscCutterModel", "knockTick", "[I", true)
  | 36 => ("DiscCutterModel", "knockPush", "[I", true)
  | 37 => ("DiscCutterModel", "knocks", "I", false)
  | 38 => ("DiscCutterModel", "ringPlace", "I", false)
  | 39 => ("DiscCutterModel", "isPlayed", "[Z", true)
  | 40 => ("DiscCutterModel", "heardPart", "I", false)
  | 41 => ("DiscCutterModel", "tape", "[B", true)
  | 42 => ("DiscCutterModel", "text", "[B", true)
  | 43 => ("DiscCutterModel", "taped", "I", false)
  | 44 => ("DiscCutterModel", "size", "I", false)
  | 45 => ("DiscCutterModel", "token", "I", false)
  | 46 => ("DiscCutterModel", "from", "I", false)
  | 47 => ("DiscCutterModel", "end", "I", false)
  | 48 => ("DiscCutterModel", "value", "I", false)
  | 49 => ("DiscCutterModel", "faultKind", "I", false)
  | 50 => ("DiscCutterModel", "faultPlace", "I", false)
  | 51 => ("DiscCutterModel", "faults", "I", false)
  | 52 => ("DiscCutterModel", "isSheet", "Z", false)
  | 53 => ("DiscCutterModel", "kind", "[I", true)
  | 54 => ("DiscCutterModel", "number", "[I", true)
  | 55 => ("DiscCutterModel", "begin", "[I", true)
  | 56 => ("DiscCutterModel", "stop", "[I", true)
  | 57 => ("DiscCutterModel", "soft", "[I", true)
  | 58 => ("DiscCutterModel", "fade", "[I", true)
  | 59 => ("DiscCutterModel", "stepPlace", "[I", true)
  | 60 => ("DiscCutterModel", "bodyEnd", "[I", true)
  | 61 => ("DiscCutterModel", "elseEnd", "[I", true)
  | 62 => ("DiscCutterModel", "test", "[I", true)
  | 63 => ("DiscCutterModel", "compares", "[I", true)
  | 64 => ("DiscCutterModel", "nameOf", "[I", true)
  | 65 => ("DiscCutterModel", "newSteps", "[I", true)
  | 66 => ("DiscCutterModel", "names", "[J", true)
  | 67 => ("DiscCutterModel", "newNames", "[J", true)
  | 68 => ("DiscCutterModel", "steps", "I", false)
  | 69 => ("DiscCutterModel", "nameMany", "I", false)
  | 70 => ("DiscCutterModel", "newMany", "I", false)
  | 71 => ("DiscCutterModel", "newNameMany", "I", false)
  | 72 => ("DiscCutterModel", "open", "[I", true)
  | 73 => ("DiscCutterModel", "isElse", "[Z", true)
  | 74 => ("DiscCutterModel", "opened", "I", false)
  | 75 => ("DiscCutterModel", "markSide", "[I", true)
  | 76 => ("DiscCutterModel", "markParts", "[I", true)
  | 77 => ("DiscCutterModel", "oldMarkSide", "[I", true)
  | 78 => ("DiscCutterModel", "oldMarkParts", "[I", true)
  | 79 => ("DiscCutterModel", "errorKind", "I", false)
  | 80 => ("DiscCutterModel", "errorPlace", "I", false)
  | 81 => ("DiscCutterModel", "here", "I", false)
  | 82 => ("DiscCutterModel", "first", "[I", true)
  | 83 => ("DiscCutterModel", "last", "[I", true)
  | 84 => ("DiscCutterModel", "times", "[I", true)
  | _ => ("DiscCutterModel", "goesOn", "[I", true)
def tyX12 : Nat → FieldType := fun k => match k with
  | 0 => .int
  | 1 => .array .int
  | 2 => .array .int
  | 3 => .array .long
  | 4 => .int
  | 5 => .int
  | 6 => .int
  | 7 => .int
  | 8 => .array .int
  | 9 => .array .int
  | 10 => .array .int
  | 11 => .array .int
  | 12 => .array .int
  | 13 => .array .int
  | 14 => .array .int
  | 15 => .array .int
  | 16 => .array .int
  | 17 => .array .int
  | 18 => .array .int
  | 19 => .array .int
  | 20 => .boolean
  | 21 => .array .int
  | 22 => .array .int
  | 23 => .array .int
  | 24 => .array .int
  | 25 => .int
  | 26 => .array .boolean
  | 27 => .array .int
  | 28 => .array .int
  | 29 => .array .int
  | 30 => .int
  | 31 => .int
  | 32 => .int
  | 33 => .int
  | 34 => .array .int
  | 35 => .array .int
  | 36 => .array .int
  | 37 => .int
  | 38 => .int
  | 39 => .array .boolean
  | 40 => .int
  | 41 => .array .byte
  | 42 => .array .byte
  | 43 => .int
  | 44 => .int
  | 45 => .int
  | 46 => .int
  | 47 => .int
  | 48 => .int
  | 49 => .int
  | 50 => .int
  | 51 => .int
  | 52 => .boolean
  | 53 => .array .int
  | 54 => .array .int
  | 55 => .array .int
  | 56 => .array .int
  | 57 => .array .int
  | 58 => .array .int
  | 59 => .array .int
  | 60 => .array .int
  | 61 => .array .int
  | 62 => .array .int
  | 63 => .array .int
  | 64 => .array .int
  | 65 => .array .int
  | 66 => .array .long
  | 67 => .array .long
  | 68 => .int
  | 69 => .int
  | 70 => .int
  | 71 => .int
  | 72 => .array .int
  | 73 => .array .boolean
  | 74 => .int
  | 75 => .array .int
  | 76 => .array .int
  | 77 => .array .int
  | 78 => .array .int
  | 79 => .int
  | 80 => .int
  | 81 => .int
  | 82 => .array .int
  | 83 => .array .int
  | 84 => .array .int
  | _ => .array .int
theorem nmX12 : ∀ a, a < 86 → ∀ b, b < 86 → a ≠ b → (TX12 a).2.1 ≠ (TX12 b).2.1 := by decide +kernel
theorem tyX12_ok : ∀ k, k < 86 → parseFieldDescriptor (TX12 k).2.2.1 = some (tyX12 k) := by decide +kernel
abbrev cX12_init : ByteArray := prog_14_method_1_code
def yX12_init : MethodName := ⟨RX12, "<init>", "()V"⟩
abbrev cX12_status : ByteArray := prog_14_method_2_code
def yX12_status : MethodName := ⟨RX12, "status", "()I"⟩
abbrev cX12_is : ByteArray := prog_14_method_3_code
def yX12_is : MethodName := ⟨RX12, "is", "(I)Z"⟩
abbrev cX12_refuse : ByteArray := prog_14_method_4_code
def yX12_refuse : MethodName := ⟨RX12, "refuse", "(I)I"⟩
abbrev cX12_gives : ByteArray := prog_14_method_5_code
def yX12_gives : MethodName := ⟨RX12, "gives", "(I)I"⟩
abbrev cX12_isTray : ByteArray := prog_14_method_6_code
def yX12_isTray : MethodName := ⟨RX12, "isTray", "(I)Z"⟩
abbrev cX12_cut : ByteArray := prog_14_method_7_code
def yX12_cut : MethodName := ⟨RX12, "cut", "(JI)J"⟩
abbrev cX12_tray : ByteArray := prog_14_method_8_code
def yX12_tray : MethodName := ⟨RX12, "tray", "(III)Z"⟩
abbrev cX12_wrongPlace : ByteArray := prog_14_method_9_code
def yX12_wrongPlace : MethodName := ⟨RX12, "wrongPlace", "(II)I"⟩
abbrev cX12_write : ByteArray := prog_14_method_10_code
def yX12_write : MethodName := ⟨RX12, "write", "(IIJ)Z"⟩
abbrev cX12_read : ByteArray := prog_14_method_11_code
def yX12_read : MethodName := ⟨RX12, "read", "(II)J"⟩
abbrev cX12_pour : ByteArray := prog_14_method_12_code
def yX12_pour : MethodName := ⟨RX12, "pour", "(IIIII)Z"⟩
abbrev cX12_isSong : ByteArray := prog_14_method_13_code
def yX12_isSong : MethodName := ⟨RX12, "isSong", "(I)Z"⟩
abbrev cX12_song : ByteArray := prog_14_method_14_code
def yX12_song : MethodName := ⟨RX12, "song", "(III)I"⟩
abbrev cX12_told : ByteArray := prog_14_method_15_code
def yX12_told : MethodName := ⟨RX12, "told", "(II)I"⟩
abbrev cX12_rules : ByteArray := prog_14_method_16_code
def yX12_rules : MethodName := ⟨RX12, "rules", "(II)Z"⟩
abbrev cX12_isSide : ByteArray := prog_14_method_17_code
def yX12_isSide : MethodName := ⟨RX12, "isSide", "(I)Z"⟩
abbrev cX12_at : ByteArray := prog_14_method_18_code
def yX12_at : MethodName := ⟨RX12, "at", "(II)I"⟩
abbrev cX12_empty : ByteArray := prog_14_method_19_code
def yX12_empty : MethodName := ⟨RX12, "empty", "(I)V"⟩
abbrev cX12_anew : ByteArray := prog_14_method_20_code
def yX12_anew : MethodName := ⟨RX12, "anew", "(I)Z"⟩
abbrev cX12_puts : ByteArray := prog_14_method_21_code
def yX12_puts : MethodName := ⟨RX12, "puts", "(III)V"⟩
abbrev cX12_lead : ByteArray := prog_14_method_22_code
def yX12_lead : MethodName := ⟨RX12, "lead", "(II)Z"⟩
abbrev cX12_lay : ByteArray := prog_14_method_23_code
def yX12_lay : MethodName := ⟨RX12, "lay", "(II)Z"⟩
abbrev cX12_parts : ByteArray := prog_14_method_24_code
def yX12_parts : MethodName := ⟨RX12, "parts", "(I)I"⟩
abbrev cX12_isPart : ByteArray := prog_14_method_25_code
def yX12_isPart : MethodName := ⟨RX12, "isPart", "(II)Z"⟩
abbrev cX12_level : ByteArray := prog_14_method_26_code
def yX12_level : MethodName := ⟨RX12, "level", "(II)I"⟩
abbrev cX12_stuck : ByteArray := prog_14_method_27_code
def yX12_stuck : MethodName := ⟨RX12, "stuck", "(I)I"⟩
abbrev cX12_raise : ByteArray := prog_14_method_28_code
def yX12_raise : MethodName := ⟨RX12, "raise", "(II)V"⟩
abbrev cX12_push : ByteArray := prog_14_method_29_code
def yX12_push : MethodName := ⟨RX12, "push", "(I)V"⟩
abbrev cX12_spread : ByteArray := prog_14_method_30_code
def yX12_spread : MethodName := ⟨RX12, "spread", "(I)V"⟩
abbrev cX12_place : ByteArray := prog_14_method_31_code
def yX12_place : MethodName := ⟨RX12, "place", "(II)I"⟩
abbrev cX12_roomOf : ByteArray := prog_14_method_32_code
def yX12_roomOf : MethodName := ⟨RX12, "roomOf", "(I)I"⟩
abbrev cX12_room : ByteArray := prog_14_method_33_code
def yX12_room : MethodName := ⟨RX12, "room", "(I)I"⟩
abbrev cX12_tight : ByteArray := prog_14_method_34_code
def yX12_tight : MethodName := ⟨RX12, "tight", "(II)I"⟩
abbrev cX12_cannot : ByteArray := prog_14_method_35_code
def yX12_cannot : MethodName := ⟨RX12, "cannot", "(I)I"⟩
abbrev cX12_softer : ByteArray := prog_14_method_36_code
def yX12_softer : MethodName := ⟨RX12, "softer", "(I)I"⟩
abbrev cX12_soften : ByteArray := prog_14_method_37_code
def yX12_soften : MethodName := ⟨RX12, "soften", "(II)I"⟩
abbrev cX12_most : ByteArray := prog_14_method_38_code
def yX12_most : MethodName := ⟨RX12, "most", "(I)Z"⟩
abbrev cX12_isAhead : ByteArray := prog_14_method_39_code
def yX12_isAhead : MethodName := ⟨RX12, "isAhead", "(II)Z"⟩
abbrev cX12_choose : ByteArray := prog_14_method_40_code
def yX12_choose : MethodName := ⟨RX12, "choose", "(I)I"⟩
abbrev cX12_orders : ByteArray := prog_14_method_41_code
def yX12_orders : MethodName := ⟨RX12, "orders", "()Z"⟩
abbrev cX12_order : ByteArray := prog_14_method_42_code
def yX12_order : MethodName := ⟨RX12, "order", "()I"⟩
abbrev cX12_sideOf : ByteArray := prog_14_method_43_code
def yX12_sideOf : MethodName := ⟨RX12, "sideOf", "(I)I"⟩
abbrev cX12_songAt : ByteArray := prog_14_method_44_code
def yX12_songAt : MethodName := ⟨RX12, "songAt", "(II)I"⟩
abbrev cX12_press : ByteArray := prog_14_method_45_code
def yX12_press : MethodName := ⟨RX12, "press", "()Z"⟩
abbrev cX12_ringOf : ByteArray := prog_14_method_46_code
def yX12_ringOf : MethodName := ⟨RX12, "ringOf", "(II)I"⟩
abbrev cX12_ring : ByteArray := prog_14_method_47_code
def yX12_ring : MethodName := ⟨RX12, "ring", "(II)I"⟩
abbrev cX12_inTime : ByteArray := prog_14_method_48_code
def yX12_inTime : MethodName := ⟨RX12, "inTime", "(I)I"⟩
abbrev cX12_click : ByteArray := prog_14_method_49_code
def yX12_click : MethodName := ⟨RX12, "click", "(II)Z"⟩
abbrev cX12_clean : ByteArray := prog_14_method_50_code
def yX12_clean : MethodName := ⟨RX12, "clean", "()Z"⟩
abbrev cX12_hasClick : ByteArray := prog_14_method_51_code
def yX12_hasClick : MethodName := ⟨RX12, "hasClick", "(II)Z"⟩
abbrev cX12_lineFrom : ByteArray := prog_14_method_52_code
def yX12_lineFrom : MethodName := ⟨RX12, "lineFrom", "(III)I"⟩
abbrev cX12_findLine : ByteArray := prog_14_method_53_code
def yX12_findLine : MethodName := ⟨RX12, "findLine", "()I"⟩
abbrev cX12_longest : ByteArray := prog_14_method_54_code
def yX12_longest : MethodName := ⟨RX12, "longest", "()I"⟩
abbrev cX12_line : ByteArray := prog_14_method_55_code
def yX12_line : MethodName := ⟨RX12, "line", "(I)I"⟩
abbrev cX12_through : ByteArray := prog_14_method_56_code
def yX12_through : MethodName := ⟨RX12, "through", "(II)I"⟩
abbrev cX12_cover : ByteArray := prog_14_method_57_code
def yX12_cover : MethodName := ⟨RX12, "cover", "()I"⟩
abbrev cX12_lock : ByteArray := prog_14_method_58_code
def yX12_lock : MethodName := ⟨RX12, "lock", "(II)Z"⟩
abbrev cX12_locked : ByteArray := prog_14_method_59_code
def yX12_locked : MethodName := ⟨RX12, "locked", "(I)I"⟩
abbrev cX12_knock : ByteArray := prog_14_method_60_code
def yX12_knock : MethodName := ⟨RX12, "knock", "(II)Z"⟩
abbrev cX12_still : ByteArray := prog_14_method_61_code
def yX12_still : MethodName := ⟨RX12, "still", "()Z"⟩
abbrev cX12_find : ByteArray := prog_14_method_62_code
def yX12_find : MethodName := ⟨RX12, "find", "(I)I"⟩
abbrev cX12_placeOf : ByteArray := prog_14_method_63_code
def yX12_placeOf : MethodName := ⟨RX12, "placeOf", "(II)I"⟩
abbrev cX12_fall : ByteArray := prog_14_method_64_code
def yX12_fall : MethodName := ⟨RX12, "fall", "(III)I"⟩
abbrev cX12_behind : ByteArray := prog_14_method_65_code
def yX12_behind : MethodName := ⟨RX12, "behind", "(II)I"⟩
abbrev cX12_play : ByteArray := prog_14_method_66_code
def yX12_play : MethodName := ⟨RX12, "play", "(II)I"⟩
abbrev cX12_listen : ByteArray := prog_14_method_67_code
def yX12_listen : MethodName := ⟨RX12, "listen", "(II)I"⟩
abbrev cX12_heard : ByteArray := prog_14_method_68_code
def yX12_heard : MethodName := ⟨RX12, "heard", "(II)I"⟩
abbrev cX12_songHeard : ByteArray := prog_14_method_69_code
def yX12_songHeard : MethodName := ⟨RX12, "songHeard", "(II)I"⟩
abbrev cX12_missed : ByteArray := prog_14_method_70_code
def yX12_missed : MethodName := ⟨RX12, "missed", "(I)I"⟩
abbrev cX12_besides : ByteArray := prog_14_method_71_code
def yX12_besides : MethodName := ⟨RX12, "besides", "()Z"⟩
abbrev cX12_placeBeside : ByteArray := prog_14_method_72_code
def yX12_placeBeside : MethodName := ⟨RX12, "placeBeside", "(II)I"⟩
abbrev cX12_roomBeside : ByteArray := prog_14_method_73_code
def yX12_roomBeside : MethodName := ⟨RX12, "roomBeside", "()I"⟩
abbrev cX12_feed : ByteArray := prog_14_method_74_code
def yX12_feed : MethodName := ⟨RX12, "feed", "(IIIII)I"⟩
abbrev cX12_four : ByteArray := prog_14_method_75_code
def yX12_four : MethodName := ⟨RX12, "four", "(I)V"⟩
abbrev cX12_sign : ByteArray := prog_14_method_76_code
def yX12_sign : MethodName := ⟨RX12, "sign", "(I)I"⟩
abbrev cX12_isSmall : ByteArray := prog_14_method_77_code
def yX12_isSmall : MethodName := ⟨RX12, "isSmall", "(I)Z"⟩
abbrev cX12_isDigit : ByteArray := prog_14_method_78_code
def yX12_isDigit : MethodName := ⟨RX12, "isDigit", "(I)Z"⟩
abbrev cX12_next : ByteArray := prog_14_method_79_code
def yX12_next : MethodName := ⟨RX12, "next", "()V"⟩
abbrev cX12_isWord : ByteArray := prog_14_method_80_code
def yX12_isWord : MethodName := ⟨RX12, "isWord", "(Ljava/lang/String;)Z"⟩
abbrev cX12_isSign : ByteArray := prog_14_method_81_code
def yX12_isSign : MethodName := ⟨RX12, "isSign", "(I)Z"⟩
abbrev cX12_fail : ByteArray := prog_14_method_82_code
def yX12_fail : MethodName := ⟨RX12, "fail", "(I)Z"⟩
abbrev cX12_want : ByteArray := prog_14_method_83_code
def yX12_want : MethodName := ⟨RX12, "want", "(I)Z"⟩
abbrev cX12_wantNumber : ByteArray := prog_14_method_84_code
def yX12_wantNumber : MethodName := ⟨RX12, "wantNumber", "(II)I"⟩
abbrev cX12_wantName : ByteArray := prog_14_method_85_code
def yX12_wantName : MethodName := ⟨RX12, "wantName", "()I"⟩
abbrev cX12_set : ByteArray := prog_14_method_86_code
def yX12_set : MethodName := ⟨RX12, "set", "(III)V"⟩
abbrev cX12_kindHere : ByteArray := prog_14_method_87_code
def yX12_kindHere : MethodName := ⟨RX12, "kindHere", "()I"⟩
abbrev cX12_step : ByteArray := prog_14_method_88_code
def yX12_step : MethodName := ⟨RX12, "step", "()Z"⟩
abbrev cX12_tests : ByteArray := prog_14_method_89_code
def yX12_tests : MethodName := ⟨RX12, "tests", "(I)V"⟩
abbrev cX12_options : ByteArray := prog_14_method_90_code
def yX12_options : MethodName := ⟨RX12, "options", "(I)V"⟩
abbrev cX12_closes : ByteArray := prog_14_method_91_code
def yX12_closes : MethodName := ⟨RX12, "closes", "()Z"⟩
abbrev cX12_sheet : ByteArray := prog_14_method_92_code
def yX12_sheet : MethodName := ⟨RX12, "sheet", "(I)I"⟩
abbrev cX12_fault : ByteArray := prog_14_method_93_code
def yX12_fault : MethodName := ⟨RX12, "fault", "(I)I"⟩
abbrev cX12_keep : ByteArray := prog_14_method_94_code
def yX12_keep : MethodName := ⟨RX12, "keep", "(Z)V"⟩
abbrev cX12_wrongStep : ByteArray := prog_14_method_95_code
def yX12_wrongStep : MethodName := ⟨RX12, "wrongStep", "(I)I"⟩
abbrev cX12_beginOf : ByteArray := prog_14_method_96_code
def yX12_beginOf : MethodName := ⟨RX12, "beginOf", "(I)I"⟩
abbrev cX12_endOf : ByteArray := prog_14_method_97_code
def yX12_endOf : MethodName := ⟨RX12, "endOf", "(I)I"⟩
abbrev cX12_laysSong : ByteArray := prog_14_method_98_code
def yX12_laysSong : MethodName := ⟨RX12, "laysSong", "(I)V"⟩
abbrev cX12_holds : ByteArray := prog_14_method_99_code
def yX12_holds : MethodName := ⟨RX12, "holds", "(I)Z"⟩
abbrev cX12_run : ByteArray := prog_14_method_100_code
def yX12_run : MethodName := ⟨RX12, "run", "()I"⟩
abbrev cX12_does : ByteArray := prog_14_method_101_code
def yX12_does : MethodName := ⟨RX12, "does", "(I)V"⟩
abbrev cX12_error : ByteArray := prog_14_method_102_code
def yX12_error : MethodName := ⟨RX12, "error", "(I)I"⟩
abbrev cX12_mark : ByteArray := prog_14_method_103_code
def yX12_mark : MethodName := ⟨RX12, "mark", "(II)I"⟩
def RJ6 : String := "java/lang/Integer"
def TJ6 : u_T := fun k => match k with
  | _ => ("", "", "", false)
def tyJ6 : Nat → FieldType := fun k => match k with
  | _ => .int
theorem nmJ6 : ∀ a, a < 0 → ∀ b, b < 0 → a ≠ b → (TJ6 a).2.1 ≠ (TJ6 b).2.1 := by decide +kernel
theorem tyJ6_ok : ∀ k, k < 0 → parseFieldDescriptor (TJ6 k).2.2.1 = some (tyJ6 k) := by decide +kernel
abbrev cJ6_numberOfTrailingZeros_0f7a4 : ByteArray := prog_15_method_48_code
def yJ6_numberOfTrailingZeros_0f7a4 : MethodName := ⟨RJ6, "numberOfTrailingZeros", "(I)I"⟩
abbrev cJ6_bitCount_0f7a4 : ByteArray := prog_15_method_49_code
def yJ6_bitCount_0f7a4 : MethodName := ⟨RJ6, "bitCount", "(I)I"⟩
def RJ9 : String := "java/lang/Math"
def TJ9 : u_T := fun k => match k with
  | _ => ("", "", "", false)
def tyJ9 : Nat → FieldType := fun k => match k with
  | _ => .int
theorem nmJ9 : ∀ a, a < 0 → ∀ b, b < 0 → a ≠ b → (TJ9 a).2.1 ≠ (TJ9 b).2.1 := by decide +kernel
theorem tyJ9_ok : ∀ k, k < 0 → parseFieldDescriptor (TJ9 k).2.2.1 = some (tyJ9 k) := by decide +kernel
abbrev cJ9_abs_0f7a4 : ByteArray := prog_16_method_59_code
def yJ9_abs_0f7a4 : MethodName := ⟨RJ9, "abs", "(I)I"⟩
abbrev cJ9_max_7cf53 : ByteArray := prog_16_method_65_code
def yJ9_max_7cf53 : MethodName := ⟨RJ9, "max", "(II)I"⟩
abbrev cJ9_min_7cf53 : ByteArray := prog_16_method_69_code
def yJ9_min_7cf53 : MethodName := ⟨RJ9, "min", "(II)I"⟩
def RJ0 : String := "java/lang/String"
def TJ0 : u_T := fun k => match k with
  | _ => ("", "", "", false)
def tyJ0 : Nat → FieldType := fun k => match k with
  | _ => .int
theorem nmJ0 : ∀ a, a < 0 → ∀ b, b < 0 → a ≠ b → (TJ0 a).2.1 ≠ (TJ0 b).2.1 := by decide +kernel
theorem tyJ0_ok : ∀ k, k < 0 → parseFieldDescriptor (TJ0 k).2.2.1 = some (tyJ0 k) := by decide +kernel
abbrev cJ0_length_8abf5 : ByteArray := prog_17_method_54_code
def yJ0_length_8abf5 : MethodName := ⟨RJ0, "length", "()I"⟩
abbrev cJ0_charAt_5068e : ByteArray := prog_17_method_56_code
def yJ0_charAt_5068e : MethodName := ⟨RJ0, "charAt", "(I)C"⟩
abbrev cJ0_coder_7d493 : ByteArray := prog_17_method_152_code
def yJ0_coder_7d493 : MethodName := ⟨RJ0, "coder", "()B"⟩
abbrev cJ0_isLatin1_aae02 : ByteArray := prog_17_method_154_code
def yJ0_isLatin1_aae02 : MethodName := ⟨RJ0, "isLatin1", "()Z"⟩
abbrev cJ0_checkIndex_df160 : ByteArray := prog_17_method_155_code
def yJ0_checkIndex_df160 : MethodName := ⟨RJ0, "checkIndex", "(II)V"⟩
def RJ1 : String := "java/lang/StringLatin1"
def TJ1 : u_T := fun k => match k with
  | _ => ("", "", "", false)
def tyJ1 : Nat → FieldType := fun k => match k with
  | _ => .int
theorem nmJ1 : ∀ a, a < 0 → ∀ b, b < 0 → a ≠ b → (TJ1 a).2.1 ≠ (TJ1 b).2.1 := by decide +kernel
theorem tyJ1_ok : ∀ k, k < 0 → parseFieldDescriptor (TJ1 k).2.2.1 = some (tyJ1 k) := by decide +kernel
abbrev cJ1_charAt_3b067 : ByteArray := prog_18_method_2_code
def yJ1_charAt_3b067 : MethodName := ⟨RJ1, "charAt", "([BI)C"⟩
def RJ2 : String := "java/lang/StringUTF16"
def TJ2 : u_T := fun k => match k with
  | _ => ("", "", "", false)
def tyJ2 : Nat → FieldType := fun k => match k with
  | _ => .int
theorem nmJ2 : ∀ a, a < 0 → ∀ b, b < 0 → a ≠ b → (TJ2 a).2.1 ≠ (TJ2 b).2.1 := by decide +kernel
theorem tyJ2_ok : ∀ k, k < 0 → parseFieldDescriptor (TJ2 k).2.2.1 = some (tyJ2 k) := by decide +kernel
abbrev cJ2_getChar_3b067 : ByteArray := prog_19_method_5_code
def yJ2_getChar_3b067 : MethodName := ⟨RJ2, "getChar", "([BI)C"⟩
abbrev cJ2_length_9d52b : ByteArray := prog_19_method_6_code
def yJ2_length_9d52b : MethodName := ⟨RJ2, "length", "([B)I"⟩
abbrev cJ2_charAt_3b067 : ByteArray := prog_19_method_83_code
def yJ2_charAt_3b067 : MethodName := ⟨RJ2, "charAt", "([BI)C"⟩
abbrev cJ2_checkIndex_2214a : ByteArray := prog_19_method_91_code
def yJ2_checkIndex_2214a : MethodName := ⟨RJ2, "checkIndex", "(I[B)V"⟩
def RJ10 : String := "java/lang/System"
def TJ10 : u_T := fun k => match k with
  | _ => ("", "", "", false)
def tyJ10 : Nat → FieldType := fun k => match k with
  | _ => .int
theorem nmJ10 : ∀ a, a < 0 → ∀ b, b < 0 → a ≠ b → (TJ10 a).2.1 ≠ (TJ10 b).2.1 := by decide +kernel
theorem tyJ10_ok : ∀ k, k < 0 → parseFieldDescriptor (TJ10 k).2.2.1 = some (tyJ10 k) := by decide +kernel
def RJ7 : String := "java/util/Arrays"
def TJ7 : u_T := fun k => match k with
  | _ => ("", "", "", false)
def tyJ7 : Nat → FieldType := fun k => match k with
  | _ => .int
theorem nmJ7 : ∀ a, a < 0 → ∀ b, b < 0 → a ≠ b → (TJ7 a).2.1 ≠ (TJ7 b).2.1 := by decide +kernel
theorem tyJ7_ok : ∀ k, k < 0 → parseFieldDescriptor (TJ7 k).2.2.1 = some (tyJ7 k) := by decide +kernel
abbrev cJ7_fill_d0a16 : ByteArray := prog_21_method_101_code
def yJ7_fill_d0a16 : MethodName := ⟨RJ7, "fill", "([JJ)V"⟩
abbrev cJ7_fill_53178 : ByteArray := prog_21_method_103_code
def yJ7_fill_53178 : MethodName := ⟨RJ7, "fill", "([II)V"⟩
def RJ3 : String := "jdk/internal/util/Preconditions"
def TJ3 : u_T := fun k => match k with
  | _ => ("", "", "", false)
def tyJ3 : Nat → FieldType := fun k => match k with
  | _ => .int
theorem nmJ3 : ∀ a, a < 0 → ∀ b, b < 0 → a ≠ b → (TJ3 a).2.1 ≠ (TJ3 b).2.1 := by decide +kernel
theorem tyJ3_ok : ∀ k, k < 0 → parseFieldDescriptor (TJ3 k).2.2.1 = some (tyJ3 k) := by decide +kernel
abbrev cJ3_checkIndex_8e157 : ByteArray := prog_22_method_11_code
def yJ3_checkIndex_8e157 : MethodName := ⟨RJ3, "checkIndex", "(IILjava/util/function/BiFunction;)I"⟩
abbrev vwCl : List vw_C := [(RX0, TX0, 11), (RX1, TX1, 8), (RX2, TX2, 4), (RX3, TX3, 5), (RX4, TX4, 3), (RX5, TX5, 11), (RX6, TX6, 14), (RX7, TX7, 9), (RX8, TX8, 4), (RX9, TX9, 13), (RX10, TX10, 3), (RX11, TX11, 18), (RX12, TX12, 86)]

/-! my own: the words that last over calls -/
def zw : List Cond := lw_tbl.filter goodWord
theorem zmem {w : Cond} (k : Nat) (h : lw_tbl[k]? = some w) (g : goodWord w = true) : w ∈ zw := List.mem_filter.mpr ⟨List.mem_of_getElem? h, g⟩
theorem z_inw {ws : List Cond} (ps : List Nat) (hp : ws = ps.filterMap (fun i => lw_tbl[i]?)) (h : ws.all goodWord = true) : ∀ w ∈ ws, w ∈ zw := by
  intro w hw
  have h1 := List.all_eq_true.mp h w hw
  rw [hp] at hw
  obtain ⟨i, -, hi⟩ := List.mem_filterMap.mp hw
  exact zmem i hi h1

theorem inX0 : ∀ w ∈ u_ws RX0 TX0 11, w ∈ zw := z_inw [276, 278, 280, 282, 284, 286, 288, 290, 292, 294, 296] (by decide +kernel) (by decide +kernel)
theorem inX1 : ∀ w ∈ u_ws RX1 TX1 8, w ∈ zw := z_inw [344, 346, 348, 350, 352, 354, 356, 358] (by decide +kernel) (by decide +kernel)
theorem inX2 : ∀ w ∈ u_ws RX2 TX2 4, w ∈ zw := z_inw [372, 374, 376, 378] (by decide +kernel) (by decide +kernel)
theorem inX3 : ∀ w ∈ u_ws RX3 TX3 5, w ∈ zw := z_inw [314, 316, 318, 320, 322] (by decide +kernel) (by decide +kernel)
theorem inX4 : ∀ w ∈ u_ws RX4 TX4 3, w ∈ zw := z_inw [204, 206, 208] (by decide +kernel) (by decide +kernel)
theorem inX5 : ∀ w ∈ u_ws RX5 TX5 11, w ∈ zw := z_inw [407, 409, 411, 413, 415, 417, 419, 421, 423, 425, 427] (by decide +kernel) (by decide +kernel)
theorem inX6 : ∀ w ∈ u_ws RX6 TX6 14, w ∈ zw := z_inw [526, 528, 530, 532, 534, 536, 538, 540, 542, 544, 546, 548, 550, 552] (by decide +kernel) (by decide +kernel)
theorem inX7 : ∀ w ∈ u_ws RX7 TX7 9, w ∈ zw := z_inw [239, 241, 243, 245, 247, 249, 251, 253, 255] (by decide +kernel) (by decide +kernel)
theorem inX8 : ∀ w ∈ u_ws RX8 TX8 4, w ∈ zw := z_inw [179, 181, 183, 185] (by decide +kernel) (by decide +kernel)
theorem inX9 : ∀ w ∈ u_ws RX9 TX9 13, w ∈ zw := z_inw [480, 482, 484, 486, 488, 490, 492, 494, 496, 498, 500, 502, 504] (by decide +kernel) (by decide +kernel)
theorem inX10 : ∀ w ∈ u_ws RX10 TX10 3, w ∈ zw := z_inw [153, 155, 157] (by decide +kernel) (by decide +kernel)
theorem inX11 : ∀ w ∈ u_ws RX11 TX11 18, w ∈ zw := z_inw [573, 575, 577, 579, 581, 583, 585, 587, 589, 591, 593, 595, 597, 599, 601, 603, 605, 607] (by decide +kernel) (by decide +kernel)
theorem inX12 : ∀ w ∈ u_ws RX12 TX12 86, w ∈ zw := z_inw [1451, 1453, 1455, 1457, 1459, 1461, 1463, 1465, 1467, 1469, 1471, 1473, 1475, 1477, 1479, 1481, 1483, 1485, 1487, 1489, 1491, 1493, 1495, 1497, 1499, 1501, 1503, 1505, 1507, 1509, 1511, 1513, 1515, 1517, 1519, 1521, 1523, 1525, 1527, 1529, 1531, 1533, 1535, 1537, 1539, 1541, 1543, 1545, 1547, 1549, 1551, 1553, 1555, 1557, 1559, 1561, 1563, 1565, 1567, 1569, 1571, 1573, 1575, 1577, 1579, 1581, 1583, 1585, 1587, 1589, 1591, 1593, 1595, 1597, 1599, 1601, 1603, 1605, 1607, 1609, 1611, 1613, 1615, 1617, 1619, 1621] (by decide +kernel) (by decide +kernel)
