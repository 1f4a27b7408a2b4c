-- ===== PART A: goes FIRST, ahead of the names: the tables' words, and 'selects' of the private methods out of them =====
/-- a private method of a class that the tables say can be made, by its rows of tables_1 -/
def lw_okq (q : MethodName × Nat) : Prop := (q.1.cls ≠ "java/lang/invoke/MethodHandle" ∧ q.1.cls ≠ "java/lang/invoke/VarHandle") ∧ Cond.instantiable q.1.cls q.2 ∈ tables_1 ∧ Cond.privateMethod q.1 ∈ tables_1 ∧ Cond.instanceMethod q.1 ∈ tables_1
theorem lw_p0 : lw_okq (⟨"TailBounds", "isFull", "()Z"⟩, 17) := ⟨⟨by decide +kernel, by decide +kernel⟩, List.mem_of_getElem? (i := 14) (by decide +kernel), List.mem_of_getElem? (i := 254) (by decide +kernel), List.mem_of_getElem? (i := 255) (by decide +kernel)⟩
theorem lw_p1 : lw_okq (⟨"TailBounds", "makeRounds", "(I[II)LTailBounds$Row;"⟩, 17) := ⟨⟨by decide +kernel, by decide +kernel⟩, List.mem_of_getElem? (i := 14) (by decide +kernel), List.mem_of_getElem? (i := 258) (by decide +kernel), List.mem_of_getElem? (i := 259) (by decide +kernel)⟩
theorem lw_p2 : lw_okq (⟨"TailBounds$Row", "lacks", "(I)Z"⟩, 3) := ⟨⟨by decide +kernel, by decide +kernel⟩, List.mem_of_getElem? (i := 141) (by decide +kernel), List.mem_of_getElem? (i := 288) (by decide +kernel), List.mem_of_getElem? (i := 289) (by decide +kernel)⟩
theorem lw_p3 : lw_okq (⟨"TailBounds", "keep", "(ILTailBounds$Row;)I"⟩, 17) := ⟨⟨by decide +kernel, by decide +kernel⟩, List.mem_of_getElem? (i := 14) (by decide +kernel), List.mem_of_getElem? (i := 297) (by decide +kernel), List.mem_of_getElem? (i := 298) (by decide +kernel)⟩
theorem lw_p4 : lw_okq (⟨"TailBounds$Divider", "findCommon", "(LTailBounds$Num;LTailBounds$Num;)V"⟩, 9) := ⟨⟨by decide +kernel, by decide +kernel⟩, List.mem_of_getElem? (i := 70) (by decide +kernel), List.mem_of_getElem? (i := 358) (by decide +kernel), List.mem_of_getElem? (i := 359) (by decide +kernel)⟩
theorem lw_p5 : lw_okq (⟨"TailBounds$Divider", "finish", "()V"⟩, 9) := ⟨⟨by decide +kernel, by decide +kernel⟩, List.mem_of_getElem? (i := 70) (by decide +kernel), List.mem_of_getElem? (i := 372) (by decide +kernel), List.mem_of_getElem? (i := 373) (by decide +kernel)⟩
theorem lw_p6 : lw_okq (⟨"TailBounds$Divider", "findLeap", "()Z"⟩, 9) := ⟨⟨by decide +kernel, by decide +kernel⟩, List.mem_of_getElem? (i := 70) (by decide +kernel), List.mem_of_getElem? (i := 386) (by decide +kernel), List.mem_of_getElem? (i := 387) (by decide +kernel)⟩
theorem lw_p7 : lw_okq (⟨"TailBounds$Divider", "leap", "()V"⟩, 9) := ⟨⟨by decide +kernel, by decide +kernel⟩, List.mem_of_getElem? (i := 70) (by decide +kernel), List.mem_of_getElem? (i := 398) (by decide +kernel), List.mem_of_getElem? (i := 399) (by decide +kernel)⟩
theorem lw_p8 : lw_okq (⟨"TailBounds$Divider", "guessAt", "(I)J"⟩, 9) := ⟨⟨by decide +kernel, by decide +kernel⟩, List.mem_of_getElem? (i := 70) (by decide +kernel), List.mem_of_getElem? (i := 413) (by decide +kernel), List.mem_of_getElem? (i := 414) (by decide +kernel)⟩
theorem lw_p9 : lw_okq (⟨"TailBounds$Divider", "takeAway", "(IJ)Z"⟩, 9) := ⟨⟨by decide +kernel, by decide +kernel⟩, List.mem_of_getElem? (i := 70) (by decide +kernel), List.mem_of_getElem? (i := 422) (by decide +kernel), List.mem_of_getElem? (i := 423) (by decide +kernel)⟩
theorem lw_p10 : lw_okq (⟨"TailBounds$Divider", "giveBack", "(I)V"⟩, 9) := ⟨⟨by decide +kernel, by decide +kernel⟩, List.mem_of_getElem? (i := 70) (by decide +kernel), List.mem_of_getElem? (i := 426) (by decide +kernel), List.mem_of_getElem? (i := 427) (by decide +kernel)⟩
theorem lw_p11 : lw_okq (⟨"TailBounds$Divider", "moveOn", "()V"⟩, 9) := ⟨⟨by decide +kernel, by decide +kernel⟩, List.mem_of_getElem? (i := 70) (by decide +kernel), List.mem_of_getElem? (i := 434) (by decide +kernel), List.mem_of_getElem? (i := 435) (by decide +kernel)⟩
theorem lw_p12 : lw_okq (⟨"TailBounds", "sourceAt", "(I)LTailBounds$Source;"⟩, 17) := ⟨⟨by decide +kernel, by decide +kernel⟩, List.mem_of_getElem? (i := 14) (by decide +kernel), List.mem_of_getElem? (i := 463) (by decide +kernel), List.mem_of_getElem? (i := 464) (by decide +kernel)⟩
theorem lw_p13 : lw_okq (⟨"TailBounds$Row", "addPair", "(LTailBounds$Row;ILTailBounds$Row;I)V"⟩, 3) := ⟨⟨by decide +kernel, by decide +kernel⟩, List.mem_of_getElem? (i := 141) (by decide +kernel), List.mem_of_getElem? (i := 484) (by decide +kernel), List.mem_of_getElem? (i := 485) (by decide +kernel)⟩
theorem lw_p14 : lw_okq (⟨"TailBounds", "placeAt", "(I)LTailBounds$Fraction;"⟩, 17) := ⟨⟨by decide +kernel, by decide +kernel⟩, List.mem_of_getElem? (i := 14) (by decide +kernel), List.mem_of_getElem? (i := 517) (by decide +kernel), List.mem_of_getElem? (i := 518) (by decide +kernel)⟩
theorem lw_p15 : lw_okq (⟨"TailBounds", "settle", "(LTailBounds$Fraction;)I"⟩, 17) := ⟨⟨by decide +kernel, by decide +kernel⟩, List.mem_of_getElem? (i := 14) (by decide +kernel), List.mem_of_getElem? (i := 526) (by decide +kernel), List.mem_of_getElem? (i := 527) (by decide +kernel)⟩
def lw_privs_1 : List (MethodName × Nat) := [(⟨"TailBounds", "isFull", "()Z"⟩, 17), (⟨"TailBounds", "makeRounds", "(I[II)LTailBounds$Row;"⟩, 17), (⟨"TailBounds$Row", "lacks", "(I)Z"⟩, 3), (⟨"TailBounds", "keep", "(ILTailBounds$Row;)I"⟩, 17), (⟨"TailBounds$Divider", "findCommon", "(LTailBounds$Num;LTailBounds$Num;)V"⟩, 9), (⟨"TailBounds$Divider", "finish", "()V"⟩, 9), (⟨"TailBounds$Divider", "findLeap", "()Z"⟩, 9), (⟨"TailBounds$Divider", "leap", "()V"⟩, 9), (⟨"TailBounds$Divider", "guessAt", "(I)J"⟩, 9), (⟨"TailBounds$Divider", "takeAway", "(IJ)Z"⟩, 9), (⟨"TailBounds$Divider", "giveBack", "(I)V"⟩, 9), (⟨"TailBounds$Divider", "moveOn", "()V"⟩, 9), (⟨"TailBounds", "sourceAt", "(I)LTailBounds$Source;"⟩, 17), (⟨"TailBounds$Row", "addPair", "(LTailBounds$Row;ILTailBounds$Row;I)V"⟩, 3), (⟨"TailBounds", "placeAt", "(I)LTailBounds$Fraction;"⟩, 17), (⟨"TailBounds", "settle", "(LTailBounds$Fraction;)I"⟩, 17)]
theorem lw_r1 : ∀ q ∈ lw_privs_1, lw_okq q := List.forall_mem_cons.mpr ⟨lw_p0, List.forall_mem_cons.mpr ⟨lw_p1, List.forall_mem_cons.mpr ⟨lw_p2, List.forall_mem_cons.mpr ⟨lw_p3, List.forall_mem_cons.mpr ⟨lw_p4, List.forall_mem_cons.mpr ⟨lw_p5, List.forall_mem_cons.mpr ⟨lw_p6, List.forall_mem_cons.mpr ⟨lw_p7, List.forall_mem_cons.mpr ⟨lw_p8, List.forall_mem_cons.mpr ⟨lw_p9, List.forall_mem_cons.mpr ⟨lw_p10, List.forall_mem_cons.mpr ⟨lw_p11, List.forall_mem_cons.mpr ⟨lw_p12, List.forall_mem_cons.mpr ⟨lw_p13, List.forall_mem_cons.mpr ⟨lw_p14, List.forall_mem_cons.mpr ⟨lw_p15, fun _ h => absurd h List.not_mem_nil⟩⟩⟩⟩⟩⟩⟩⟩⟩⟩⟩⟩⟩⟩⟩⟩
theorem lw_p16 : lw_okq (⟨"TailBounds", "store", "(LTailBounds$Fraction;)I"⟩, 17) := ⟨⟨by decide +kernel, by decide +kernel⟩, List.mem_of_getElem? (i := 14) (by decide +kernel), List.mem_of_getElem? (i := 530) (by decide +kernel), List.mem_of_getElem? (i := 531) (by decide +kernel)⟩
theorem lw_p17 : lw_okq (⟨"TailBounds$Measurer", "spreadOfTwo", "(LTailBounds$Source;LTailBounds$Num;)V"⟩, 6) := ⟨⟨by decide +kernel, by decide +kernel⟩, List.mem_of_getElem? (i := 106) (by decide +kernel), List.mem_of_getElem? (i := 546) (by decide +kernel), List.mem_of_getElem? (i := 547) (by decide +kernel)⟩
theorem lw_p18 : lw_okq (⟨"TailBounds$Measurer", "sumOfPowers", "(LTailBounds$Source;ILTailBounds$Num;)V"⟩, 6) := ⟨⟨by decide +kernel, by decide +kernel⟩, List.mem_of_getElem? (i := 106) (by decide +kernel), List.mem_of_getElem? (i := 551) (by decide +kernel), List.mem_of_getElem? (i := 552) (by decide +kernel)⟩
theorem lw_p19 : lw_okq (⟨"TailBounds$Measurer", "spreadOfFour", "(LTailBounds$Source;LTailBounds$Num;)V"⟩, 6) := ⟨⟨by decide +kernel, by decide +kernel⟩, List.mem_of_getElem? (i := 106) (by decide +kernel), List.mem_of_getElem? (i := 561) (by decide +kernel), List.mem_of_getElem? (i := 562) (by decide +kernel)⟩
theorem lw_p20 : lw_okq (⟨"TailBounds$Measurer", "raise", "(LTailBounds$Num;I)V"⟩, 6) := ⟨⟨by decide +kernel, by decide +kernel⟩, List.mem_of_getElem? (i := 106) (by decide +kernel), List.mem_of_getElem? (i := 575) (by decide +kernel), List.mem_of_getElem? (i := 576) (by decide +kernel)⟩
theorem lw_p21 : lw_okq (⟨"TailBounds$Measurer", "isInTail", "(LTailBounds$Source;III)Z"⟩, 6) := ⟨⟨by decide +kernel, by decide +kernel⟩, List.mem_of_getElem? (i := 106) (by decide +kernel), List.mem_of_getElem? (i := 588) (by decide +kernel), List.mem_of_getElem? (i := 589) (by decide +kernel)⟩
theorem lw_p22 : lw_okq (⟨"TailBounds$Measurer", "weigh", "(LTailBounds$Source;ILTailBounds$Num;)V"⟩, 6) := ⟨⟨by decide +kernel, by decide +kernel⟩, List.mem_of_getElem? (i := 106) (by decide +kernel), List.mem_of_getElem? (i := 610) (by decide +kernel), List.mem_of_getElem? (i := 611) (by decide +kernel)⟩
theorem lw_p23 : lw_okq (⟨"TailBounds", "compare", "(LTailBounds$Fraction;LTailBounds$Fraction;)I"⟩, 17) := ⟨⟨by decide +kernel, by decide +kernel⟩, List.mem_of_getElem? (i := 14) (by decide +kernel), List.mem_of_getElem? (i := 648) (by decide +kernel), List.mem_of_getElem? (i := 649) (by decide +kernel)⟩
theorem lw_p24 : lw_okq (⟨"TailBounds", "isNarrow", "(IIII)Z"⟩, 17) := ⟨⟨by decide +kernel, by decide +kernel⟩, List.mem_of_getElem? (i := 14) (by decide +kernel), List.mem_of_getElem? (i := 729) (by decide +kernel), List.mem_of_getElem? (i := 730) (by decide +kernel)⟩
theorem lw_p25 : lw_okq (⟨"TailBounds", "filledPlaces", "()I"⟩, 17) := ⟨⟨by decide +kernel, by decide +kernel⟩, List.mem_of_getElem? (i := 14) (by decide +kernel), List.mem_of_getElem? (i := 756) (by decide +kernel), List.mem_of_getElem? (i := 757) (by decide +kernel)⟩
theorem lw_p26 : lw_okq (⟨"TailBoundsModel", "power", "([JJI)V"⟩, 39) := ⟨⟨by decide +kernel, by decide +kernel⟩, List.mem_of_getElem? (i := 760) (by decide +kernel), List.mem_of_getElem? (i := 908) (by decide +kernel), List.mem_of_getElem? (i := 909) (by decide +kernel)⟩
theorem lw_p27 : lw_okq (⟨"TailBoundsModel", "comes", "(II)I"⟩, 39) := ⟨⟨by decide +kernel, by decide +kernel⟩, List.mem_of_getElem? (i := 760) (by decide +kernel), List.mem_of_getElem? (i := 921) (by decide +kernel), List.mem_of_getElem? (i := 922) (by decide +kernel)⟩
theorem lw_p28 : lw_okq (⟨"TailBoundsModel", "isSource", "(I)Z"⟩, 39) := ⟨⟨by decide +kernel, by decide +kernel⟩, List.mem_of_getElem? (i := 760) (by decide +kernel), List.mem_of_getElem? (i := 949) (by decide +kernel), List.mem_of_getElem? (i := 950) (by decide +kernel)⟩
theorem lw_p29 : lw_okq (⟨"TailBoundsModel", "give", "(I)I"⟩, 39) := ⟨⟨by decide +kernel, by decide +kernel⟩, List.mem_of_getElem? (i := 760) (by decide +kernel), List.mem_of_getElem? (i := 979) (by decide +kernel), List.mem_of_getElem? (i := 980) (by decide +kernel)⟩
theorem lw_p30 : lw_okq (⟨"TailBoundsModel", "lowest", "()V"⟩, 39) := ⟨⟨by decide +kernel, by decide +kernel⟩, List.mem_of_getElem? (i := 760) (by decide +kernel), List.mem_of_getElem? (i := 983) (by decide +kernel), List.mem_of_getElem? (i := 984) (by decide +kernel)⟩
theorem lw_p31 : lw_okq (⟨"TailBoundsModel", "findDivisor", "([J[J)V"⟩, 39) := ⟨⟨by decide +kernel, by decide +kernel⟩, List.mem_of_getElem? (i := 760) (by decide +kernel), List.mem_of_getElem? (i := 987) (by decide +kernel), List.mem_of_getElem? (i := 988) (by decide +kernel)⟩
def lw_privs_2 : List (MethodName × Nat) := [(⟨"TailBounds", "store", "(LTailBounds$Fraction;)I"⟩, 17), (⟨"TailBounds$Measurer", "spreadOfTwo", "(LTailBounds$Source;LTailBounds$Num;)V"⟩, 6), (⟨"TailBounds$Measurer", "sumOfPowers", "(LTailBounds$Source;ILTailBounds$Num;)V"⟩, 6), (⟨"TailBounds$Measurer", "spreadOfFour", "(LTailBounds$Source;LTailBounds$Num;)V"⟩, 6), (⟨"TailBounds$Measurer", "raise", "(LTailBounds$Num;I)V"⟩, 6), (⟨"TailBounds$Measurer", "isInTail", "(LTailBounds$Source;III)Z"⟩, 6), (⟨"TailBounds$Measurer", "weigh", "(LTailBounds$Source;ILTailBounds$Num;)V"⟩, 6), (⟨"TailBounds", "compare", "(LTailBounds$Fraction;LTailBounds$Fraction;)I"⟩, 17), (⟨"TailBounds", "isNarrow", "(IIII)Z"⟩, 17), (⟨"TailBounds", "filledPlaces", "()I"⟩, 17), (⟨"TailBoundsModel", "power", "([JJI)V"⟩, 39), (⟨"TailBoundsModel", "comes", "(II)I"⟩, 39), (⟨"TailBoundsModel", "isSource", "(I)Z"⟩, 39), (⟨"TailBoundsModel", "give", "(I)I"⟩, 39), (⟨"TailBoundsModel", "lowest", "()V"⟩, 39), (⟨"TailBoundsModel", "findDivisor", "([J[J)V"⟩, 39)]
theorem lw_r2 : ∀ q ∈ lw_privs_2, lw_okq q := List.forall_mem_cons.mpr ⟨lw_p16, List.forall_mem_cons.mpr ⟨lw_p17, List.forall_mem_cons.mpr ⟨lw_p18, List.forall_mem_cons.mpr ⟨lw_p19, List.forall_mem_cons.mpr ⟨lw_p20, List.forall_mem_cons.mpr ⟨lw_p21, List.forall_mem_cons.mpr ⟨lw_p22, List.forall_mem_cons.mpr ⟨lw_p23, List.forall_mem_cons.mpr ⟨lw_p24, List.forall_mem_cons.mpr ⟨lw_p25, List.forall_mem_cons.mpr ⟨lw_p26, List.forall_mem_cons.mpr ⟨lw_p27, List.forall_mem_cons.mpr ⟨lw_p28, List.forall_mem_cons.mpr ⟨lw_p29, List.forall_mem_cons.mpr ⟨lw_p30, List.forall_mem_cons.mpr ⟨lw_p31, fun _ h => absurd h List.not_mem_nil⟩⟩⟩⟩⟩⟩⟩⟩⟩⟩⟩⟩⟩⟩⟩⟩
theorem lw_p32 : lw_okq (⟨"TailBoundsModel", "divide", "([J[J)V"⟩, 39) := ⟨⟨by decide +kernel, by decide +kernel⟩, List.mem_of_getElem? (i := 760) (by decide +kernel), List.mem_of_getElem? (i := 1003) (by decide +kernel), List.mem_of_getElem? (i := 1004) (by decide +kernel)⟩
theorem lw_p33 : lw_okq (⟨"TailBoundsModel", "weighs", "(I)V"⟩, 39) := ⟨⟨by decide +kernel, by decide +kernel⟩, List.mem_of_getElem? (i := 760) (by decide +kernel), List.mem_of_getElem? (i := 1014) (by decide +kernel), List.mem_of_getElem? (i := 1015) (by decide +kernel)⟩
theorem lw_p34 : lw_okq (⟨"TailBoundsModel", "moments", "(II)V"⟩, 39) := ⟨⟨by decide +kernel, by decide +kernel⟩, List.mem_of_getElem? (i := 760) (by decide +kernel), List.mem_of_getElem? (i := 1022) (by decide +kernel), List.mem_of_getElem? (i := 1023) (by decide +kernel)⟩
theorem lw_p35 : lw_okq (⟨"TailBoundsModel", "away", "([JI)Z"⟩, 39) := ⟨⟨by decide +kernel, by decide +kernel⟩, List.mem_of_getElem? (i := 760) (by decide +kernel), List.mem_of_getElem? (i := 1026) (by decide +kernel), List.mem_of_getElem? (i := 1027) (by decide +kernel)⟩
theorem lw_p36 : lw_okq (⟨"TailBoundsModel", "bounded", "(III)I"⟩, 39) := ⟨⟨by decide +kernel, by decide +kernel⟩, List.mem_of_getElem? (i := 760) (by decide +kernel), List.mem_of_getElem? (i := 1038) (by decide +kernel), List.mem_of_getElem? (i := 1039) (by decide +kernel)⟩
theorem lw_p37 : lw_okq (⟨"TailBoundsModel", "leastRaised", "(II)I"⟩, 39) := ⟨⟨by decide +kernel, by decide +kernel⟩, List.mem_of_getElem? (i := 760) (by decide +kernel), List.mem_of_getElem? (i := 1042) (by decide +kernel), List.mem_of_getElem? (i := 1043) (by decide +kernel)⟩
theorem lw_p38 : lw_okq (⟨"TailBoundsModel", "raised", "(III)V"⟩, 39) := ⟨⟨by decide +kernel, by decide +kernel⟩, List.mem_of_getElem? (i := 760) (by decide +kernel), List.mem_of_getElem? (i := 1046) (by decide +kernel), List.mem_of_getElem? (i := 1047) (by decide +kernel)⟩
theorem lw_p39 : lw_okq (⟨"TailBoundsModel", "takeLeft", "(I)V"⟩, 39) := ⟨⟨by decide +kernel, by decide +kernel⟩, List.mem_of_getElem? (i := 760) (by decide +kernel), List.mem_of_getElem? (i := 1059) (by decide +kernel), List.mem_of_getElem? (i := 1060) (by decide +kernel)⟩
theorem lw_p40 : lw_okq (⟨"TailBoundsModel", "takeRight", "(I)V"⟩, 39) := ⟨⟨by decide +kernel, by decide +kernel⟩, List.mem_of_getElem? (i := 760) (by decide +kernel), List.mem_of_getElem? (i := 1063) (by decide +kernel), List.mem_of_getElem? (i := 1064) (by decide +kernel)⟩
theorem lw_p41 : lw_okq (⟨"TailBoundsModel", "ordered", "()I"⟩, 39) := ⟨⟨by decide +kernel, by decide +kernel⟩, List.mem_of_getElem? (i := 760) (by decide +kernel), List.mem_of_getElem? (i := 1067) (by decide +kernel), List.mem_of_getElem? (i := 1068) (by decide +kernel)⟩
theorem lw_p42 : lw_okq (⟨"TailBoundsModel", "asks", "(II)I"⟩, 39) := ⟨⟨by decide +kernel, by decide +kernel⟩, List.mem_of_getElem? (i := 760) (by decide +kernel), List.mem_of_getElem? (i := 1079) (by decide +kernel), List.mem_of_getElem? (i := 1080) (by decide +kernel)⟩
theorem lw_p43 : lw_okq (⟨"TailBoundsModel", "isGood", "(IIIII)Z"⟩, 39) := ⟨⟨by decide +kernel, by decide +kernel⟩, List.mem_of_getElem? (i := 760) (by decide +kernel), List.mem_of_getElem? (i := 1109) (by decide +kernel), List.mem_of_getElem? (i := 1110) (by decide +kernel)⟩
theorem lw_p44 : lw_okq (⟨"TailBoundsModel", "isCrossed", "(II)Z"⟩, 39) := ⟨⟨by decide +kernel, by decide +kernel⟩, List.mem_of_getElem? (i := 760) (by decide +kernel), List.mem_of_getElem? (i := 1122) (by decide +kernel), List.mem_of_getElem? (i := 1123) (by decide +kernel)⟩
def lw_privs_3 : List (MethodName × Nat) := [(⟨"TailBoundsModel", "divide", "([J[J)V"⟩, 39), (⟨"TailBoundsModel", "weighs", "(I)V"⟩, 39), (⟨"TailBoundsModel", "moments", "(II)V"⟩, 39), (⟨"TailBoundsModel", "away", "([JI)Z"⟩, 39), (⟨"TailBoundsModel", "bounded", "(III)I"⟩, 39), (⟨"TailBoundsModel", "leastRaised", "(II)I"⟩, 39), (⟨"TailBoundsModel", "raised", "(III)V"⟩, 39), (⟨"TailBoundsModel", "takeLeft", "(I)V"⟩, 39), (⟨"TailBoundsModel", "takeRight", "(I)V"⟩, 39), (⟨"TailBoundsModel", "ordered", "()I"⟩, 39), (⟨"TailBoundsModel", "asks", "(II)I"⟩, 39), (⟨"TailBoundsModel", "isGood", "(IIIII)Z"⟩, 39), (⟨"TailBoundsModel", "isCrossed", "(II)Z"⟩, 39)]
theorem lw_r3 : ∀ q ∈ lw_privs_3, lw_okq q := List.forall_mem_cons.mpr ⟨lw_p32, List.forall_mem_cons.mpr ⟨lw_p33, List.forall_mem_cons.mpr ⟨lw_p34, List.forall_mem_cons.mpr ⟨lw_p35, List.forall_mem_cons.mpr ⟨lw_p36, List.forall_mem_cons.mpr ⟨lw_p37, List.forall_mem_cons.mpr ⟨lw_p38, List.forall_mem_cons.mpr ⟨lw_p39, List.forall_mem_cons.mpr ⟨lw_p40, List.forall_mem_cons.mpr ⟨lw_p41, List.forall_mem_cons.mpr ⟨lw_p42, List.forall_mem_cons.mpr ⟨lw_p43, List.forall_mem_cons.mpr ⟨lw_p44, fun _ h => absurd h List.not_mem_nil⟩⟩⟩⟩⟩⟩⟩⟩⟩⟩⟩⟩⟩
def lw_privs : List (MethodName × Nat) := lw_privs_1 ++ (lw_privs_2 ++ (lw_privs_3))
def lw_tbl : List Cond := k2_sels lw_privs ++ tables_1
theorem lw_privs_ok : ∀ q ∈ lw_privs, lw_okq q := by
  show ∀ q ∈ lw_privs_1 ++ (lw_privs_2 ++ (lw_privs_3)), lw_okq q
  exact List.forall_mem_append.mpr ⟨lw_r1, List.forall_mem_append.mpr ⟨lw_r2, lw_r3⟩⟩
def RX0 : String := "TailBounds$Divider"
def TX0 : u_T := fun k => match k with
  | 0 => ("TailBounds$Divider", "quotient", "LTailBounds$Num;", true)
  | 1 => ("TailBounds$Divider", "divisor", "LTailBounds$Num;", true)
  | 2 => ("TailBounds$Divider", "rest", "LTailBounds$Num;", false)
  | 3 => ("TailBounds$Divider", "high", "LTailBounds$Num;", false)
  | 4 => ("TailBounds$Divider", "low", "LTailBounds$Num;", false)
  | 5 => ("TailBounds$Divider", "a", "J", false)
  | 6 => ("TailBounds$Divider", "b", "J", false)
  | 7 => ("TailBounds$Divider", "c", "J", false)
  | _ => ("TailBounds$Divider", "d", "J", false)
def tyX0 : Nat → FieldType := fun k => match k with
  | 0 => .object "TailBounds$Num"
  | 1 => .object "TailBounds$Num"
  | 2 => .object "TailBounds$Num"
  | 3 => .object "TailBounds$Num"
  | 4 => .object "TailBounds$Num"
  | 5 => .long
  | 6 => .long
  | 7 => .long
  | _ => .long
abbrev wsX00 : List Cond := u_ws RX0 TX0 9
theorem nmX0 : ∀ a, a < 9 → ∀ b, b < 9 → a ≠ b → (TX0 a).2.1 ≠ (TX0 b).2.1 := by decide +kernel
theorem tyX0_ok : ∀ k, k < 9 → parseFieldDescriptor (TX0 k).2.2.1 = some (tyX0 k) := by decide +kernel
abbrev cX0_init : ByteArray := prog_2_method_1_code
def yX0_init : MethodName := ⟨RX0, "<init>", "()V"⟩
abbrev cX0_toLowestTerms : ByteArray := prog_2_method_2_code
def yX0_toLowestTerms : MethodName := ⟨RX0, "toLowestTerms", "(LTailBounds$Fraction;)V"⟩
abbrev cX0_divide : ByteArray := prog_2_method_3_code
def yX0_divide : MethodName := ⟨RX0, "divide", "(LTailBounds$Num;LTailBounds$Num;)LTailBounds$Num;"⟩
abbrev cX0_guessAt : ByteArray := prog_2_method_4_code
def yX0_guessAt : MethodName := ⟨RX0, "guessAt", "(I)J"⟩
abbrev cX0_unsignedQuotient : ByteArray := prog_2_method_5_code
def yX0_unsignedQuotient : MethodName := ⟨RX0, "unsignedQuotient", "(JJ)J"⟩
abbrev cX0_takeAway : ByteArray := prog_2_method_6_code
def yX0_takeAway : MethodName := ⟨RX0, "takeAway", "(IJ)Z"⟩
abbrev cX0_giveBack : ByteArray := prog_2_method_7_code
def yX0_giveBack : MethodName := ⟨RX0, "giveBack", "(I)V"⟩
abbrev cX0_findCommon : ByteArray := prog_2_method_8_code
def yX0_findCommon : MethodName := ⟨RX0, "findCommon", "(LTailBounds$Num;LTailBounds$Num;)V"⟩
abbrev cX0_finish : ByteArray := prog_2_method_9_code
def yX0_finish : MethodName := ⟨RX0, "finish", "()V"⟩
abbrev cX0_moveOn : ByteArray := prog_2_method_10_code
def yX0_moveOn : MethodName := ⟨RX0, "moveOn", "()V"⟩
abbrev cX0_findLeap : ByteArray := prog_2_method_11_code
def yX0_findLeap : MethodName := ⟨RX0, "findLeap", "()Z"⟩
abbrev cX0_leap : ByteArray := prog_2_method_12_code
def yX0_leap : MethodName := ⟨RX0, "leap", "()V"⟩
def RX1 : String := "TailBounds$Fraction"
def TX1 : u_T := fun k => match k with
  | 0 => ("TailBounds$Fraction", "above", "LTailBounds$Num;", true)
  | 1 => ("TailBounds$Fraction", "below", "LTailBounds$Num;", true)
  | _ => ("TailBounds$Fraction", "filled", "Z", false)
def tyX1 : Nat → FieldType := fun k => match k with
  | 0 => .object "TailBounds$Num"
  | 1 => .object "TailBounds$Num"
  | _ => .boolean
abbrev wsX10 : List Cond := u_ws RX1 TX1 3
theorem nmX1 : ∀ a, a < 3 → ∀ b, b < 3 → a ≠ b → (TX1 a).2.1 ≠ (TX1 b).2.1 := by decide +kernel
theorem tyX1_ok : ∀ k, k < 3 → parseFieldDescriptor (TX1 k).2.2.1 = some (tyX1 k) := by decide +kernel
abbrev cX1_init : ByteArray := prog_3_method_1_code
def yX1_init : MethodName := ⟨RX1, "<init>", "(I)V"⟩
abbrev cX1_half : ByteArray := prog_3_method_2_code
def yX1_half : MethodName := ⟨RX1, "half", "(I)LTailBounds$Num;"⟩
abbrev cX1_put : ByteArray := prog_3_method_3_code
def yX1_put : MethodName := ⟨RX1, "put", "(II)V"⟩
abbrev cX1_copy : ByteArray := prog_3_method_4_code
def yX1_copy : MethodName := ⟨RX1, "copy", "(LTailBounds$Fraction;)V"⟩
abbrev cX1_capAtOne : ByteArray := prog_3_method_5_code
def yX1_capAtOne : MethodName := ⟨RX1, "capAtOne", "()V"⟩
abbrev cX1_addUp : ByteArray := prog_3_method_6_code
def yX1_addUp : MethodName := ⟨RX1, "addUp", "(LTailBounds$Fraction;LTailBounds$Fraction;LTailBounds$Num;)V"⟩
abbrev cX1_multiply : ByteArray := prog_3_method_7_code
def yX1_multiply : MethodName := ⟨RX1, "multiply", "(LTailBounds$Fraction;LTailBounds$Fraction;)V"⟩
abbrev cX1_lessThanOne : ByteArray := prog_3_method_8_code
def yX1_lessThanOne : MethodName := ⟨RX1, "lessThanOne", "(LTailBounds$Fraction;)V"⟩
def RX2 : String := "TailBounds$Measurer"
def TX2 : u_T := fun k => match k with
  | 0 => ("TailBounds$Measurer", "first", "LTailBounds$Num;", true)
  | 1 => ("TailBounds$Measurer", "second", "LTailBounds$Num;", true)
  | 2 => ("TailBounds$Measurer", "third", "LTailBounds$Num;", true)
  | 3 => ("TailBounds$Measurer", "fourth", "LTailBounds$Num;", true)
  | 4 => ("TailBounds$Measurer", "bestSum", "LTailBounds$Num;", true)
  | _ => ("TailBounds$Measurer", "bestPower", "LTailBounds$Num;", true)
def tyX2 : Nat → FieldType := fun k => match k with
  | 0 => .object "TailBounds$Num"
  | 1 => .object "TailBounds$Num"
  | 2 => .object "TailBounds$Num"
  | 3 => .object "TailBounds$Num"
  | 4 => .object "TailBounds$Num"
  | _ => .object "TailBounds$Num"
abbrev wsX20 : List Cond := u_ws RX2 TX2 6
theorem nmX2 : ∀ a, a < 6 → ∀ b, b < 6 → a ≠ b → (TX2 a).2.1 ≠ (TX2 b).2.1 := by decide +kernel
theorem tyX2_ok : ∀ k, k < 6 → parseFieldDescriptor (TX2 k).2.2.1 = some (tyX2 k) := by decide +kernel
abbrev cX2_init : ByteArray := prog_4_method_1_code
def yX2_init : MethodName := ⟨RX2, "<init>", "()V"⟩
abbrev cX2_findTail : ByteArray := prog_4_method_2_code
def yX2_findTail : MethodName := ⟨RX2, "findTail", "(LTailBounds$Source;IILTailBounds$Fraction;)V"⟩
abbrev cX2_isInTail : ByteArray := prog_4_method_3_code
def yX2_isInTail : MethodName := ⟨RX2, "isInTail", "(LTailBounds$Source;III)Z"⟩
abbrev cX2_findMoment : ByteArray := prog_4_method_4_code
def yX2_findMoment : MethodName := ⟨RX2, "findMoment", "(LTailBounds$Source;ILTailBounds$Fraction;)V"⟩
abbrev cX2_isAboveMean : ByteArray := prog_4_method_5_code
def yX2_isAboveMean : MethodName := ⟨RX2, "isAboveMean", "(LTailBounds$Source;I)Z"⟩
abbrev cX2_boundByMean : ByteArray := prog_4_method_6_code
def yX2_boundByMean : MethodName := ⟨RX2, "boundByMean", "(LTailBounds$Source;ILTailBounds$Fraction;)V"⟩
abbrev cX2_boundByMoment : ByteArray := prog_4_method_7_code
def yX2_boundByMoment : MethodName := ⟨RX2, "boundByMoment", "(LTailBounds$Source;IILTailBounds$Fraction;)V"⟩
abbrev cX2_raise : ByteArray := prog_4_method_8_code
def yX2_raise : MethodName := ⟨RX2, "raise", "(LTailBounds$Num;I)V"⟩
abbrev cX2_sumOfPowers : ByteArray := prog_4_method_9_code
def yX2_sumOfPowers : MethodName := ⟨RX2, "sumOfPowers", "(LTailBounds$Source;ILTailBounds$Num;)V"⟩
abbrev cX2_spreadOfTwo : ByteArray := prog_4_method_10_code
def yX2_spreadOfTwo : MethodName := ⟨RX2, "spreadOfTwo", "(LTailBounds$Source;LTailBounds$Num;)V"⟩
abbrev cX2_spreadOfFour : ByteArray := prog_4_method_11_code
def yX2_spreadOfFour : MethodName := ⟨RX2, "spreadOfFour", "(LTailBounds$Source;LTailBounds$Num;)V"⟩
abbrev cX2_boundByPowers : ByteArray := prog_4_method_12_code
def yX2_boundByPowers : MethodName := ⟨RX2, "boundByPowers", "(LTailBounds$Source;ILTailBounds$Fraction;)I"⟩
abbrev cX2_weigh : ByteArray := prog_4_method_13_code
def yX2_weigh : MethodName := ⟨RX2, "weigh", "(LTailBounds$Source;ILTailBounds$Num;)V"⟩
def RX3 : String := "TailBounds$Num"
def TX3 : u_T := fun k => match k with
  | 0 => ("TailBounds$Num", "part", "[I", true)
  | _ => ("TailBounds$Num", "size", "I", false)
def tyX3 : Nat → FieldType := fun k => match k with
  | 0 => .array .int
  | _ => .int
abbrev wsX30 : List Cond := u_ws RX3 TX3 2
theorem nmX3 : ∀ a, a < 2 → ∀ b, b < 2 → a ≠ b → (TX3 a).2.1 ≠ (TX3 b).2.1 := by decide +kernel
theorem tyX3_ok : ∀ k, k < 2 → parseFieldDescriptor (TX3 k).2.2.1 = some (tyX3 k) := by decide +kernel
abbrev cX3_init : ByteArray := prog_5_method_1_code
def yX3_init : MethodName := ⟨RX3, "<init>", "(I)V"⟩
abbrev cX3_clear : ByteArray := prog_5_method_2_code
def yX3_clear : MethodName := ⟨RX3, "clear", "()V"⟩
abbrev cX3_put : ByteArray := prog_5_method_3_code
def yX3_put : MethodName := ⟨RX3, "put", "(J)V"⟩
abbrev cX3_copy : ByteArray := prog_5_method_4_code
def yX3_copy : MethodName := ⟨RX3, "copy", "(LTailBounds$Num;)V"⟩
abbrev cX3_trim : ByteArray := prog_5_method_5_code
def yX3_trim : MethodName := ⟨RX3, "trim", "()V"⟩
abbrev cX3_word : ByteArray := prog_5_method_6_code
def yX3_word : MethodName := ⟨RX3, "word", "(I)J"⟩
abbrev cX3_isOne : ByteArray := prog_5_method_7_code
def yX3_isOne : MethodName := ⟨RX3, "isOne", "()Z"⟩
abbrev cX3_toLong : ByteArray := prog_5_method_8_code
def yX3_toLong : MethodName := ⟨RX3, "toLong", "()J"⟩
abbrev cX3_bits : ByteArray := prog_5_method_9_code
def yX3_bits : MethodName := ⟨RX3, "bits", "()I"⟩
abbrev cX3_window : ByteArray := prog_5_method_10_code
def yX3_window : MethodName := ⟨RX3, "window", "(I)J"⟩
abbrev cX3_against : ByteArray := prog_5_method_11_code
def yX3_against : MethodName := ⟨RX3, "against", "(LTailBounds$Num;)I"⟩
abbrev cX3_widenTo : ByteArray := prog_5_method_12_code
def yX3_widenTo : MethodName := ⟨RX3, "widenTo", "(I)V"⟩
abbrev cX3_copyShifted : ByteArray := prog_5_method_13_code
def yX3_copyShifted : MethodName := ⟨RX3, "copyShifted", "(LTailBounds$Num;I)V"⟩
abbrev cX3_add : ByteArray := prog_5_method_14_code
def yX3_add : MethodName := ⟨RX3, "add", "(LTailBounds$Num;)V"⟩
abbrev cX3_addScaled : ByteArray := prog_5_method_15_code
def yX3_addScaled : MethodName := ⟨RX3, "addScaled", "(I[IIIJ)V"⟩
abbrev cX3_subtract : ByteArray := prog_5_method_16_code
def yX3_subtract : MethodName := ⟨RX3, "subtract", "(LTailBounds$Num;)V"⟩
abbrev cX3_scale : ByteArray := prog_5_method_17_code
def yX3_scale : MethodName := ⟨RX3, "scale", "(J)V"⟩
abbrev cX3_power : ByteArray := prog_5_method_18_code
def yX3_power : MethodName := ⟨RX3, "power", "(II)V"⟩
abbrev cX3_product : ByteArray := prog_5_method_19_code
def yX3_product : MethodName := ⟨RX3, "product", "(LTailBounds$Num;LTailBounds$Num;)V"⟩
abbrev cX3_shiftDown : ByteArray := prog_5_method_20_code
def yX3_shiftDown : MethodName := ⟨RX3, "shiftDown", "(I)V"⟩
def RX4 : String := "TailBounds$Row"
def TX4 : u_T := fun k => match k with
  | 0 => ("TailBounds$Row", "top", "I", true)
  | 1 => ("TailBounds$Row", "wide", "I", true)
  | _ => ("TailBounds$Row", "cells", "[I", true)
def tyX4 : Nat → FieldType := fun k => match k with
  | 0 => .int
  | 1 => .int
  | _ => .array .int
abbrev wsX40 : List Cond := u_ws RX4 TX4 3
theorem nmX4 : ∀ a, a < 3 → ∀ b, b < 3 → a ≠ b → (TX4 a).2.1 ≠ (TX4 b).2.1 := by decide +kernel
theorem tyX4_ok : ∀ k, k < 3 → parseFieldDescriptor (TX4 k).2.2.1 = some (tyX4 k) := by decide +kernel
abbrev cX4_init : ByteArray := prog_6_method_1_code
def yX4_init : MethodName := ⟨RX4, "<init>", "(II)V"⟩
abbrev cX4_lacks : ByteArray := prog_6_method_2_code
def yX4_lacks : MethodName := ⟨RX4, "lacks", "(I)Z"⟩
abbrev cX4_word : ByteArray := prog_6_method_3_code
def yX4_word : MethodName := ⟨RX4, "word", "(II)J"⟩
abbrev cX4_write : ByteArray := prog_6_method_4_code
def yX4_write : MethodName := ⟨RX4, "write", "(IJ)V"⟩
abbrev cX4_erase : ByteArray := prog_6_method_5_code
def yX4_erase : MethodName := ⟨RX4, "erase", "(I)V"⟩
abbrev cX4_startAnew : ByteArray := prog_6_method_6_code
def yX4_startAnew : MethodName := ⟨RX4, "startAnew", "()V"⟩
abbrev cX4_isZero : ByteArray := prog_6_method_7_code
def yX4_isZero : MethodName := ⟨RX4, "isZero", "(I)Z"⟩
abbrev cX4_zeros : ByteArray := prog_6_method_8_code
def yX4_zeros : MethodName := ⟨RX4, "zeros", "()I"⟩
abbrev cX4_addTo : ByteArray := prog_6_method_9_code
def yX4_addTo : MethodName := ⟨RX4, "addTo", "(LTailBounds$Num;II)V"⟩
abbrev cX4_addShiftedTo : ByteArray := prog_6_method_10_code
def yX4_addShiftedTo : MethodName := ⟨RX4, "addShiftedTo", "(LTailBounds$Num;II)V"⟩
abbrev cX4_addRound : ByteArray := prog_6_method_11_code
def yX4_addRound : MethodName := ⟨RX4, "addRound", "([III)V"⟩
abbrev cX4_addFrom : ByteArray := prog_6_method_12_code
def yX4_addFrom : MethodName := ⟨RX4, "addFrom", "(LTailBounds$Row;II)V"⟩
abbrev cX4_addAllPairs : ByteArray := prog_6_method_13_code
def yX4_addAllPairs : MethodName := ⟨RX4, "addAllPairs", "(LTailBounds$Row;LTailBounds$Row;)V"⟩
abbrev cX4_addPair : ByteArray := prog_6_method_14_code
def yX4_addPair : MethodName := ⟨RX4, "addPair", "(LTailBounds$Row;ILTailBounds$Row;I)V"⟩
def RX5 : String := "TailBounds$Source"
def TX5 : u_T := fun k => match k with
  | 0 => ("TailBounds$Source", "kind", "I", true)
  | 1 => ("TailBounds$Source", "row", "LTailBounds$Row;", true)
  | 2 => ("TailBounds$Source", "total", "LTailBounds$Num;", true)
  | _ => ("TailBounds$Source", "mean", "LTailBounds$Fraction;", true)
def tyX5 : Nat → FieldType := fun k => match k with
  | 0 => .int
  | 1 => .object "TailBounds$Row"
  | 2 => .object "TailBounds$Num"
  | _ => .object "TailBounds$Fraction"
abbrev wsX50 : List Cond := u_ws RX5 TX5 4
theorem nmX5 : ∀ a, a < 4 → ∀ b, b < 4 → a ≠ b → (TX5 a).2.1 ≠ (TX5 b).2.1 := by decide +kernel
theorem tyX5_ok : ∀ k, k < 4 → parseFieldDescriptor (TX5 k).2.2.1 = some (tyX5 k) := by decide +kernel
abbrev cX5_init : ByteArray := prog_7_method_1_code
def yX5_init : MethodName := ⟨RX5, "<init>", "(ILTailBounds$Row;)V"⟩
def RX6 : String := "TailBounds$Tosser"
def TX6 : u_T := fun k => match k with
  | 0 => ("TailBounds$Tosser", "all", "LTailBounds$Num;", true)
  | 1 => ("TailBounds$Tosser", "row", "LTailBounds$Row;", true)
  | 2 => ("TailBounds$Tosser", "left", "LTailBounds$Num;", true)
  | 3 => ("TailBounds$Tosser", "right", "LTailBounds$Num;", true)
  | 4 => ("TailBounds$Tosser", "shares", "[I", true)
  | _ => ("TailBounds$Tosser", "tossed", "I", false)
def tyX6 : Nat → FieldType := fun k => match k with
  | 0 => .object "TailBounds$Num"
  | 1 => .object "TailBounds$Row"
  | 2 => .object "TailBounds$Num"
  | 3 => .object "TailBounds$Num"
  | 4 => .array .int
  | _ => .int
abbrev wsX60 : List Cond := u_ws RX6 TX6 6
theorem nmX6 : ∀ a, a < 6 → ∀ b, b < 6 → a ≠ b → (TX6 a).2.1 ≠ (TX6 b).2.1 := by decide +kernel
theorem tyX6_ok : ∀ k, k < 6 → parseFieldDescriptor (TX6 k).2.2.1 = some (tyX6 k) := by decide +kernel
abbrev cX6_init : ByteArray := prog_8_method_1_code
def yX6_init : MethodName := ⟨RX6, "<init>", "()V"⟩
abbrev cX6_start : ByteArray := prog_8_method_2_code
def yX6_start : MethodName := ⟨RX6, "start", "(II)V"⟩
abbrev cX6_tossNext : ByteArray := prog_8_method_3_code
def yX6_tossNext : MethodName := ⟨RX6, "tossNext", "()V"⟩
abbrev cX6_addFrom : ByteArray := prog_8_method_4_code
def yX6_addFrom : MethodName := ⟨RX6, "addFrom", "(IZLTailBounds$Num;)V"⟩
abbrev cX6_isRareNext : ByteArray := prog_8_method_5_code
def yX6_isRareNext : MethodName := ⟨RX6, "isRareNext", "(III)Z"⟩
def RX7 : String := "TailBounds"
def TX7 : u_T := fun k => match k with
  | 0 => ("TailBounds", "weights", "[I", true)
  | 1 => ("TailBounds", "sources", "[LTailBounds$Source;", true)
  | 2 => ("TailBounds", "places", "[LTailBounds$Fraction;", true)
  | 3 => ("TailBounds", "odds", "[I", true)
  | 4 => ("TailBounds", "outcome", "LTailBounds$Fraction;", true)
  | 5 => ("TailBounds", "spare", "LTailBounds$Num;", true)
  | 6 => ("TailBounds", "divider", "LTailBounds$Divider;", true)
  | 7 => ("TailBounds", "measurer", "LTailBounds$Measurer;", true)
  | 8 => ("TailBounds", "tosser", "LTailBounds$Tosser;", true)
  | 9 => ("TailBounds", "weightCount", "I", false)
  | 10 => ("TailBounds", "sourceCount", "I", false)
  | 11 => ("TailBounds", "latestBase", "I", false)
  | 12 => ("TailBounds", "coinA", "I", false)
  | 13 => ("TailBounds", "coinB", "I", false)
  | 14 => ("TailBounds", "lineC", "I", false)
  | 15 => ("TailBounds", "lineD", "I", false)
  | _ => ("TailBounds", "lineE", "I", false)
def tyX7 : Nat → FieldType := fun k => match k with
  | 0 => .array .int
  | 1 => .array (.object "TailBounds$Source")
  | 2 => .array (.object "TailBounds$Fraction")
  | 3 => .array .int
  | 4 => .object "TailBounds$Fraction"
  | 5 => .object "TailBounds$Num"
  | 6 => .object "TailBounds$Divider"
  | 7 => .object "TailBounds$Measurer"
  | 8 => .object "TailBounds$Tosser"
  | 9 => .int
  | 10 => .int
  | 11 => .int
  | 12 => .int
  | 13 => .int
  | 14 => .int
  | 15 => .int
  | _ => .int
abbrev wsX70 : List Cond := u_ws RX7 TX7 17
theorem nmX7 : ∀ a, a < 17 → ∀ b, b < 17 → a ≠ b → (TX7 a).2.1 ≠ (TX7 b).2.1 := by decide +kernel
theorem tyX7_ok : ∀ k, k < 17 → parseFieldDescriptor (TX7 k).2.2.1 = some (tyX7 k) := by decide +kernel
abbrev cX7_init : ByteArray := prog_1_method_1_code
def yX7_init : MethodName := ⟨RX7, "<init>", "()V"⟩
abbrev cX7_weight : ByteArray := prog_1_method_2_code
def yX7_weight : MethodName := ⟨RX7, "weight", "(I)I"⟩
abbrev cX7_wipe : ByteArray := prog_1_method_3_code
def yX7_wipe : MethodName := ⟨RX7, "wipe", "()I"⟩
abbrev cX7_coins : ByteArray := prog_1_method_4_code
def yX7_coins : MethodName := ⟨RX7, "coins", "(III)I"⟩
abbrev cX7_drawn : ByteArray := prog_1_method_5_code
def yX7_drawn : MethodName := ⟨RX7, "drawn", "(III)I"⟩
abbrev cX7_sums : ByteArray := prog_1_method_6_code
def yX7_sums : MethodName := ⟨RX7, "sums", "(I)I"⟩
abbrev cX7_both : ByteArray := prog_1_method_7_code
def yX7_both : MethodName := ⟨RX7, "both", "(II)I"⟩
abbrev cX7_held : ByteArray := prog_1_method_8_code
def yX7_held : MethodName := ⟨RX7, "held", "(III)I"⟩
abbrev cX7_source : ByteArray := prog_1_method_9_code
def yX7_source : MethodName := ⟨RX7, "source", "(II)I"⟩
abbrev cX7_counted : ByteArray := prog_1_method_10_code
def yX7_counted : MethodName := ⟨RX7, "counted", "(II)I"⟩
abbrev cX7_set : ByteArray := prog_1_method_11_code
def yX7_set : MethodName := ⟨RX7, "set", "(III)I"⟩
abbrev cX7_mean : ByteArray := prog_1_method_12_code
def yX7_mean : MethodName := ⟨RX7, "mean", "(II)I"⟩
abbrev cX7_moment : ByteArray := prog_1_method_13_code
def yX7_moment : MethodName := ⟨RX7, "moment", "(III)I"⟩
abbrev cX7_tail : ByteArray := prog_1_method_14_code
def yX7_tail : MethodName := ⟨RX7, "tail", "(IIII)I"⟩
abbrev cX7_bound : ByteArray := prog_1_method_15_code
def yX7_bound : MethodName := ⟨RX7, "bound", "(IIII)I"⟩
abbrev cX7_base : ByteArray := prog_1_method_16_code
def yX7_base : MethodName := ⟨RX7, "base", "()I"⟩
abbrev cX7_work : ByteArray := prog_1_method_17_code
def yX7_work : MethodName := ⟨RX7, "work", "(IIII)I"⟩
abbrev cX7_order : ByteArray := prog_1_method_18_code
def yX7_order : MethodName := ⟨RX7, "order", "(II)I"⟩
abbrev cX7_limbs : ByteArray := prog_1_method_19_code
def yX7_limbs : MethodName := ⟨RX7, "limbs", "(II)I"⟩
abbrev cX7_limb : ByteArray := prog_1_method_20_code
def yX7_limb : MethodName := ⟨RX7, "limb", "(III)J"⟩
abbrev cX7_digits : ByteArray := prog_1_method_21_code
def yX7_digits : MethodName := ⟨RX7, "digits", "(II)J"⟩
abbrev cX7_free : ByteArray := prog_1_method_22_code
def yX7_free : MethodName := ⟨RX7, "free", "(I)I"⟩
abbrev cX7_coin : ByteArray := prog_1_method_23_code
def yX7_coin : MethodName := ⟨RX7, "coin", "(II)I"⟩
abbrev cX7_needed : ByteArray := prog_1_method_24_code
def yX7_needed : MethodName := ⟨RX7, "needed", "(IIIII)I"⟩
abbrev cX7_line : ByteArray := prog_1_method_25_code
def yX7_line : MethodName := ⟨RX7, "line", "(III)I"⟩
abbrev cX7_crossed : ByteArray := prog_1_method_26_code
def yX7_crossed : MethodName := ⟨RX7, "crossed", "(III)I"⟩
abbrev cX7_count : ByteArray := prog_1_method_27_code
def yX7_count : MethodName := ⟨RX7, "count", "(I)I"⟩
abbrev cX7_outside : ByteArray := prog_1_method_28_code
def yX7_outside : MethodName := ⟨RX7, "outside", "(III)Z"⟩
abbrev cX7_notOdds : ByteArray := prog_1_method_29_code
def yX7_notOdds : MethodName := ⟨RX7, "notOdds", "(II)Z"⟩
abbrev cX7_isFull : ByteArray := prog_1_method_30_code
def yX7_isFull : MethodName := ⟨RX7, "isFull", "()Z"⟩
abbrev cX7_sourceAt : ByteArray := prog_1_method_31_code
def yX7_sourceAt : MethodName := ⟨RX7, "sourceAt", "(I)LTailBounds$Source;"⟩
abbrev cX7_placeAt : ByteArray := prog_1_method_32_code
def yX7_placeAt : MethodName := ⟨RX7, "placeAt", "(I)LTailBounds$Fraction;"⟩
abbrev cX7_filledPlaces : ByteArray := prog_1_method_33_code
def yX7_filledPlaces : MethodName := ⟨RX7, "filledPlaces", "()I"⟩
abbrev cX7_together : ByteArray := prog_1_method_34_code
def yX7_together : MethodName := ⟨RX7, "together", "([II)I"⟩
abbrev cX7_ways : ByteArray := prog_1_method_35_code
def yX7_ways : MethodName := ⟨RX7, "ways", "(II)J"⟩
abbrev cX7_isNarrow : ByteArray := prog_1_method_36_code
def yX7_isNarrow : MethodName := ⟨RX7, "isNarrow", "(IIII)Z"⟩
abbrev cX7_makeRounds : ByteArray := prog_1_method_37_code
def yX7_makeRounds : MethodName := ⟨RX7, "makeRounds", "(I[II)LTailBounds$Row;"⟩
abbrev cX7_keep : ByteArray := prog_1_method_38_code
def yX7_keep : MethodName := ⟨RX7, "keep", "(ILTailBounds$Row;)I"⟩
abbrev cX7_settle : ByteArray := prog_1_method_39_code
def yX7_settle : MethodName := ⟨RX7, "settle", "(LTailBounds$Fraction;)I"⟩
abbrev cX7_store : ByteArray := prog_1_method_40_code
def yX7_store : MethodName := ⟨RX7, "store", "(LTailBounds$Fraction;)I"⟩
abbrev cX7_compare : ByteArray := prog_1_method_41_code
def yX7_compare : MethodName := ⟨RX7, "compare", "(LTailBounds$Fraction;LTailBounds$Fraction;)I"⟩
def RX8 : String := "TailBoundsModel"
def TX8 : u_T := fun k => match k with
  | 0 => ("TailBoundsModel", "first", "[J", true)
  | 1 => ("TailBoundsModel", "second", "[J", true)
  | 2 => ("TailBoundsModel", "divisor", "[J", true)
  | 3 => ("TailBoundsModel", "quotient", "[J", true)
  | 4 => ("TailBoundsModel", "rest", "[J", true)
  | 5 => ("TailBoundsModel", "aboves", "[J", true)
  | 6 => ("TailBoundsModel", "belows", "[J", true)
  | 7 => ("TailBoundsModel", "holds", "[Z", true)
  | 8 => ("TailBoundsModel", "above", "[J", true)
  | 9 => ("TailBoundsModel", "below", "[J", true)
  | 10 => ("TailBoundsModel", "leftAbove", "[J", true)
  | 11 => ("TailBoundsModel", "leftBelow", "[J", true)
  | 12 => ("TailBoundsModel", "rightAbove", "[J", true)
  | 13 => ("TailBoundsModel", "rightBelow", "[J", true)
  | 14 => ("TailBoundsModel", "cross", "[J", true)
  | 15 => ("TailBoundsModel", "other", "[J", true)
  | 16 => ("TailBoundsModel", "sources", "I", false)
  | 17 => ("TailBoundsModel", "kinds", "[I", true)
  | 18 => ("TailBoundsModel", "mosts", "[I", true)
  | 19 => ("TailBoundsModel", "counts", "[J", true)
  | 20 => ("TailBoundsModel", "totals", "[J", true)
  | 21 => ("TailBoundsModel", "weights", "I", false)
  | 22 => ("TailBoundsModel", "weight", "[I", true)
  | 23 => ("TailBoundsModel", "x", "[J", true)
  | 24 => ("TailBoundsModel", "y", "[J", true)
  | 25 => ("TailBoundsModel", "z", "[J", true)
  | 26 => ("TailBoundsModel", "sum", "[J", true)
  | 27 => ("TailBoundsModel", "row", "[J", true)
  | 28 => ("TailBoundsModel", "next", "[J", true)
  | 29 => ("TailBoundsModel", "total", "[J", true)
  | 30 => ("TailBoundsModel", "mean", "[J", true)
  | 31 => ("TailBoundsModel", "base", "I", false)
  | 32 => ("TailBoundsModel", "bestAbove", "[J", true)
  | 33 => ("TailBoundsModel", "bestBelow", "[J", true)
  | 34 => ("TailBoundsModel", "coinA", "I", false)
  | 35 => ("TailBoundsModel", "coinB", "I", false)
  | 36 => ("TailBoundsModel", "lineC", "I", false)
  | 37 => ("TailBoundsModel", "lineD", "I", false)
  | _ => ("TailBoundsModel", "lineE", "I", false)
def tyX8 : Nat → FieldType := fun k => match k with
  | 0 => .array .long
  | 1 => .array .long
  | 2 => .array .long
  | 3 => .array .long
  | 4 => .array .long
  | 5 => .array .long
  | 6 => .array .long
  | 7 => .array .boolean
  | 8 => .array .long
  | 9 => .array .long
  | 10 => .array .long
  | 11 => .array .long
  | 12 => .array .long
  | 13 => .array .long
  | 14 => .array .long
  | 15 => .array .long
  | 16 => .int
  | 17 => .array .int
  | 18 => .array .int
  | 19 => .array .long
  | 20 => .array .long
  | 21 => .int
  | 22 => .array .int
  | 23 => .array .long
  | 24 => .array .long
  | 25 => .array .long
  | 26 => .array .long
  | 27 => .array .long
  | 28 => .array .long
  | 29 => .array .long
  | 30 => .array .long
  | 31 => .int
  | 32 => .array .long
  | 33 => .array .long
  | 34 => .int
  | 35 => .int
  | 36 => .int
  | 37 => .int
  | _ => .int
abbrev wsX80 : List Cond := u_ws RX8 TX8 39
theorem nmX8 : ∀ a, a < 39 → ∀ b, b < 39 → a ≠ b → (TX8 a).2.1 ≠ (TX8 b).2.1 := by decide +kernel
theorem tyX8_ok : ∀ k, k < 39 → parseFieldDescriptor (TX8 k).2.2.1 = some (tyX8 k) := by decide +kernel
abbrev cX8_init : ByteArray := prog_10_method_1_code
def yX8_init : MethodName := ⟨RX8, "<init>", "()V"⟩
abbrev cX8_in : ByteArray := prog_10_method_3_code
def yX8_in : MethodName := ⟨RX8, "in", "(III)Z"⟩
abbrev cX8_become : ByteArray := prog_10_method_4_code
def yX8_become : MethodName := ⟨RX8, "become", "([JJ)V"⟩
abbrev cX8_copy : ByteArray := prog_10_method_5_code
def yX8_copy : MethodName := ⟨RX8, "copy", "([J[J)V"⟩
abbrev cX8_load : ByteArray := prog_10_method_6_code
def yX8_load : MethodName := ⟨RX8, "load", "([J[JII)V"⟩
abbrev cX8_store : ByteArray := prog_10_method_7_code
def yX8_store : MethodName := ⟨RX8, "store", "([JII[J)V"⟩
abbrev cX8_top : ByteArray := prog_10_method_8_code
def yX8_top : MethodName := ⟨RX8, "top", "([J)I"⟩
abbrev cX8_bits : ByteArray := prog_10_method_9_code
def yX8_bits : MethodName := ⟨RX8, "bits", "([J)I"⟩
abbrev cX8_compare : ByteArray := prog_10_method_10_code
def yX8_compare : MethodName := ⟨RX8, "compare", "([J[J)I"⟩
abbrev cX8_plus : ByteArray := prog_10_method_11_code
def yX8_plus : MethodName := ⟨RX8, "plus", "([J[J)V"⟩
abbrev cX8_minus : ByteArray := prog_10_method_12_code
def yX8_minus : MethodName := ⟨RX8, "minus", "([J[J)V"⟩
abbrev cX8_times : ByteArray := prog_10_method_13_code
def yX8_times : MethodName := ⟨RX8, "times", "([J[J[J)V"⟩
abbrev cX8_by : ByteArray := prog_10_method_14_code
def yX8_by : MethodName := ⟨RX8, "by", "([JJ)V"⟩
abbrev cX8_half : ByteArray := prog_10_method_15_code
def yX8_half : MethodName := ⟨RX8, "half", "([JI)V"⟩
abbrev cX8_twice : ByteArray := prog_10_method_16_code
def yX8_twice : MethodName := ⟨RX8, "twice", "([JJ)V"⟩
abbrev cX8_bitOf : ByteArray := prog_10_method_17_code
def yX8_bitOf : MethodName := ⟨RX8, "bitOf", "([JI)J"⟩
abbrev cX8_findDivisor : ByteArray := prog_10_method_18_code
def yX8_findDivisor : MethodName := ⟨RX8, "findDivisor", "([J[J)V"⟩
abbrev cX8_divide : ByteArray := prog_10_method_19_code
def yX8_divide : MethodName := ⟨RX8, "divide", "([J[J)V"⟩
abbrev cX8_isPlace : ByteArray := prog_10_method_20_code
def yX8_isPlace : MethodName := ⟨RX8, "isPlace", "(I)Z"⟩
abbrev cX8_lowest : ByteArray := prog_10_method_21_code
def yX8_lowest : MethodName := ⟨RX8, "lowest", "()V"⟩
abbrev cX8_give : ByteArray := prog_10_method_22_code
def yX8_give : MethodName := ⟨RX8, "give", "(I)I"⟩
abbrev cX8_takeLeft : ByteArray := prog_10_method_23_code
def yX8_takeLeft : MethodName := ⟨RX8, "takeLeft", "(I)V"⟩
abbrev cX8_takeRight : ByteArray := prog_10_method_24_code
def yX8_takeRight : MethodName := ⟨RX8, "takeRight", "(I)V"⟩
abbrev cX8_ordered : ByteArray := prog_10_method_25_code
def yX8_ordered : MethodName := ⟨RX8, "ordered", "()I"⟩
abbrev cX8_at : ByteArray := prog_10_method_26_code
def yX8_at : MethodName := ⟨RX8, "at", "(II)I"⟩
abbrev cX8_isSource : ByteArray := prog_10_method_27_code
def yX8_isSource : MethodName := ⟨RX8, "isSource", "(I)Z"⟩
abbrev cX8_weight : ByteArray := prog_10_method_28_code
def yX8_weight : MethodName := ⟨RX8, "weight", "(I)I"⟩
abbrev cX8_wipe : ByteArray := prog_10_method_29_code
def yX8_wipe : MethodName := ⟨RX8, "wipe", "()I"⟩
abbrev cX8_choose : ByteArray := prog_10_method_30_code
def yX8_choose : MethodName := ⟨RX8, "choose", "(II)J"⟩
abbrev cX8_power : ByteArray := prog_10_method_31_code
def yX8_power : MethodName := ⟨RX8, "power", "([JJI)V"⟩
abbrev cX8_comes : ByteArray := prog_10_method_32_code
def yX8_comes : MethodName := ⟨RX8, "comes", "(II)I"⟩
abbrev cX8_coins : ByteArray := prog_10_method_33_code
def yX8_coins : MethodName := ⟨RX8, "coins", "(III)I"⟩
abbrev cX8_drawn : ByteArray := prog_10_method_34_code
def yX8_drawn : MethodName := ⟨RX8, "drawn", "(III)I"⟩
abbrev cX8_sums : ByteArray := prog_10_method_35_code
def yX8_sums : MethodName := ⟨RX8, "sums", "(I)I"⟩
abbrev cX8_both : ByteArray := prog_10_method_36_code
def yX8_both : MethodName := ⟨RX8, "both", "(II)I"⟩
abbrev cX8_held : ByteArray := prog_10_method_37_code
def yX8_held : MethodName := ⟨RX8, "held", "(III)I"⟩
abbrev cX8_source : ByteArray := prog_10_method_38_code
def yX8_source : MethodName := ⟨RX8, "source", "(II)I"⟩
abbrev cX8_counted : ByteArray := prog_10_method_39_code
def yX8_counted : MethodName := ⟨RX8, "counted", "(II)I"⟩
abbrev cX8_set : ByteArray := prog_10_method_40_code
def yX8_set : MethodName := ⟨RX8, "set", "(III)I"⟩
abbrev cX8_weighs : ByteArray := prog_10_method_41_code
def yX8_weighs : MethodName := ⟨RX8, "weighs", "(I)V"⟩
abbrev cX8_mean : ByteArray := prog_10_method_42_code
def yX8_mean : MethodName := ⟨RX8, "mean", "(II)I"⟩
abbrev cX8_away : ByteArray := prog_10_method_43_code
def yX8_away : MethodName := ⟨RX8, "away", "([JI)Z"⟩
abbrev cX8_moments : ByteArray := prog_10_method_44_code
def yX8_moments : MethodName := ⟨RX8, "moments", "(II)V"⟩
abbrev cX8_moment : ByteArray := prog_10_method_45_code
def yX8_moment : MethodName := ⟨RX8, "moment", "(III)I"⟩
abbrev cX8_tail : ByteArray := prog_10_method_46_code
def yX8_tail : MethodName := ⟨RX8, "tail", "(IIII)I"⟩
abbrev cX8_raised : ByteArray := prog_10_method_47_code
def yX8_raised : MethodName := ⟨RX8, "raised", "(III)V"⟩
abbrev cX8_leastRaised : ByteArray := prog_10_method_48_code
def yX8_leastRaised : MethodName := ⟨RX8, "leastRaised", "(II)I"⟩
abbrev cX8_bounded : ByteArray := prog_10_method_49_code
def yX8_bounded : MethodName := ⟨RX8, "bounded", "(III)I"⟩
abbrev cX8_bound : ByteArray := prog_10_method_50_code
def yX8_bound : MethodName := ⟨RX8, "bound", "(IIII)I"⟩
abbrev cX8_base : ByteArray := prog_10_method_51_code
def yX8_base : MethodName := ⟨RX8, "base", "()I"⟩
abbrev cX8_work : ByteArray := prog_10_method_52_code
def yX8_work : MethodName := ⟨RX8, "work", "(IIII)I"⟩
abbrev cX8_order : ByteArray := prog_10_method_53_code
def yX8_order : MethodName := ⟨RX8, "order", "(II)I"⟩
abbrev cX8_asks : ByteArray := prog_10_method_54_code
def yX8_asks : MethodName := ⟨RX8, "asks", "(II)I"⟩
abbrev cX8_limbs : ByteArray := prog_10_method_55_code
def yX8_limbs : MethodName := ⟨RX8, "limbs", "(II)I"⟩
abbrev cX8_limb : ByteArray := prog_10_method_56_code
def yX8_limb : MethodName := ⟨RX8, "limb", "(III)J"⟩
abbrev cX8_digits : ByteArray := prog_10_method_57_code
def yX8_digits : MethodName := ⟨RX8, "digits", "(II)J"⟩
abbrev cX8_free : ByteArray := prog_10_method_58_code
def yX8_free : MethodName := ⟨RX8, "free", "(I)I"⟩
abbrev cX8_coin : ByteArray := prog_10_method_59_code
def yX8_coin : MethodName := ⟨RX8, "coin", "(II)I"⟩
abbrev cX8_isGood : ByteArray := prog_10_method_60_code
def yX8_isGood : MethodName := ⟨RX8, "isGood", "(IIIII)Z"⟩
abbrev cX8_needed : ByteArray := prog_10_method_61_code
def yX8_needed : MethodName := ⟨RX8, "needed", "(IIIII)I"⟩
abbrev cX8_line : ByteArray := prog_10_method_62_code
def yX8_line : MethodName := ⟨RX8, "line", "(III)I"⟩
abbrev cX8_isCrossed : ByteArray := prog_10_method_63_code
def yX8_isCrossed : MethodName := ⟨RX8, "isCrossed", "(II)Z"⟩
abbrev cX8_crossed : ByteArray := prog_10_method_64_code
def yX8_crossed : MethodName := ⟨RX8, "crossed", "(III)I"⟩
abbrev cX8_count : ByteArray := prog_10_method_65_code
def yX8_count : MethodName := ⟨RX8, "count", "(I)I"⟩
def RJ9 : String := "java/lang/Math"
def TJ9 : u_T := fun k => match k with
  | _ => ("", "", "", false)
def tyJ9 : Nat → FieldType := fun k => match k with
  | _ => .int
abbrev wsJ90 : List Cond := u_ws RJ9 TJ9 0
theorem nmJ9 : ∀ a, a < 0 → ∀ b, b < 0 → a ≠ b → (TJ9 a).2.1 ≠ (TJ9 b).2.1 := by decide +kernel
theorem tyJ9_ok : ∀ k, k < 0 → parseFieldDescriptor (TJ9 k).2.2.1 = some (tyJ9 k) := by decide +kernel
abbrev cJ9_abs_0f7a4 : ByteArray := prog_11_method_59_code
def yJ9_abs_0f7a4 : MethodName := ⟨RJ9, "abs", "(I)I"⟩
abbrev cJ9_abs_067f4 : ByteArray := prog_11_method_61_code
def yJ9_abs_067f4 : MethodName := ⟨RJ9, "abs", "(J)J"⟩
abbrev cJ9_max_7cf53 : ByteArray := prog_11_method_65_code
def yJ9_max_7cf53 : MethodName := ⟨RJ9, "max", "(II)I"⟩
abbrev cJ9_min_7cf53 : ByteArray := prog_11_method_69_code
def yJ9_min_7cf53 : MethodName := ⟨RJ9, "min", "(II)I"⟩
def RJ10 : String := "java/lang/System"
def TJ10 : u_T := fun k => match k with
  | _ => ("", "", "", false)
def tyJ10 : Nat → FieldType := fun k => match k with
  | _ => .int
abbrev wsJ100 : List Cond := u_ws RJ10 TJ10 0
theorem nmJ10 : ∀ a, a < 0 → ∀ b, b < 0 → a ≠ b → (TJ10 a).2.1 ≠ (TJ10 b).2.1 := by decide +kernel
theorem tyJ10_ok : ∀ k, k < 0 → parseFieldDescriptor (TJ10 k).2.2.1 = some (tyJ10 k) := by decide +kernel
def RJ7 : String := "java/util/Arrays"
def TJ7 : u_T := fun k => match k with
  | _ => ("", "", "", false)
def tyJ7 : Nat → FieldType := fun k => match k with
  | _ => .int
abbrev wsJ70 : List Cond := u_ws RJ7 TJ7 0
theorem nmJ7 : ∀ a, a < 0 → ∀ b, b < 0 → a ≠ b → (TJ7 a).2.1 ≠ (TJ7 b).2.1 := by decide +kernel
theorem tyJ7_ok : ∀ k, k < 0 → parseFieldDescriptor (TJ7 k).2.2.1 = some (tyJ7 k) := by decide +kernel
abbrev cJ7_fill_53178 : ByteArray := prog_13_method_103_code
def yJ7_fill_53178 : MethodName := ⟨RJ7, "fill", "([II)V"⟩
def RL : String := "TailBoundsLaw"
abbrev cL_law : ByteArray := code
def yL_law : MethodName := ⟨RL, "law", "([I)Z"⟩
abbrev vwCl : List vw_C := [(RX0, TX0, 9), (RX1, TX1, 3), (RX2, TX2, 6), (RX3, TX3, 2), (RX4, TX4, 3), (RX5, TX5, 4), (RX6, TX6, 6), (RX7, TX7, 17), (RX8, TX8, 39)]
def lw_good : List Cond := lw_tbl.filter goodWord
theorem gd_of {w : Cond} (h : w ∈ lw_tbl) (g : goodWord w = true) : w ∈ lw_good := List.mem_filter.mpr ⟨h, g⟩
theorem tb_1 {w : Cond} (i : Nat) (h0 : tables_1_1[i]? = some w) : w ∈ lw_tbl := List.mem_append_right _ (by have h := List.mem_of_getElem? h0; exact List.mem_append_left _ h)
theorem gd_1 {w : Cond} (i : Nat) (h0 : tables_1_1[i]? = some w) (g : goodWord w = true) : w ∈ lw_good := gd_of (tb_1 i h0) g
theorem tb_2 {w : Cond} (i : Nat) (h0 : tables_1_2[i]? = some w) : w ∈ lw_tbl := List.mem_append_right _ (by have h := List.mem_of_getElem? h0; exact List.mem_append_right _ (List.mem_append_left _ h))
theorem gd_2 {w : Cond} (i : Nat) (h0 : tables_1_2[i]? = some w) (g : goodWord w = true) : w ∈ lw_good := gd_of (tb_2 i h0) g
theorem tb_3 {w : Cond} (i : Nat) (h0 : tables_1_3[i]? = some w) : w ∈ lw_tbl := List.mem_append_right _ (by have h := List.mem_of_getElem? h0; exact List.mem_append_right _ (List.mem_append_right _ (List.mem_append_left _ h)))
theorem gd_3 {w : Cond} (i : Nat) (h0 : tables_1_3[i]? = some w) (g : goodWord w = true) : w ∈ lw_good := gd_of (tb_3 i h0) g
theorem tb_4 {w : Cond} (i : Nat) (h0 : tables_1_4[i]? = some w) : w ∈ lw_tbl := List.mem_append_right _ (by have h := List.mem_of_getElem? h0; exact List.mem_append_right _ (List.mem_append_right _ (List.mem_append_right _ (List.mem_append_left _ h))))
theorem gd_4 {w : Cond} (i : Nat) (h0 : tables_1_4[i]? = some w) (g : goodWord w = true) : w ∈ lw_good := gd_of (tb_4 i h0) g
theorem tb_5 {w : Cond} (i : Nat) (h0 : tables_1_5[i]? = some w) : w ∈ lw_tbl := List.mem_append_right _ (by have h := List.mem_of_getElem? h0; exact List.mem_append_right _ (List.mem_append_right _ (List.mem_append_right _ (List.mem_append_right _ h))))
theorem gd_5 {w : Cond} (i : Nat) (h0 : tables_1_5[i]? = some w) (g : goodWord w = true) : w ∈ lw_good := gd_of (tb_5 i h0) g
theorem gd_s {w : Cond} (i : Nat) (h0 : (k2_sels lw_privs)[i]? = some w) (g : goodWord w = true) : w ∈ lw_good := gd_of (List.mem_append_left _ (List.mem_of_getElem? h0)) g
