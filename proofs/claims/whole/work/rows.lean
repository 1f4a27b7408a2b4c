section
-- ===== PART A: goes FIRST, ahead of the names: the tables' words, and 'selects' of the private methods out of them =====
/-- a private method of a class that the tables say can be made, by its rows of tables_1 -/
def lw_okq (q : MethodName × Nat) : Prop := (q.1.cls ≠ "java/lang/invoke/MethodHandle" ∧ q.1.cls ≠ "java/lang/invoke/VarHandle") ∧ Cond.instantiable q.1.cls q.2 ∈ tables_1 ∧ Cond.privateMethod q.1 ∈ tables_1 ∧ Cond.instanceMethod q.1 ∈ tables_1
theorem lw_p0 : lw_okq (⟨"TailBounds", "isFull", "()Z"⟩, 17) := ⟨⟨by decide +kernel, by decide +kernel⟩, List.mem_of_getElem? (i := 14) (by decide +kernel), List.mem_of_getElem? (i := 254) (by decide +kernel), List.mem_of_getElem? (i := 255) (by decide +kernel)⟩
theorem lw_p1 : lw_okq (⟨"TailBounds", "makeRounds", "(I[II)LTailBounds$Row;"⟩, 17) := ⟨⟨by decide +kernel, by decide +kernel⟩, List.mem_of_getElem? (i := 14) (by decide +kernel), List.mem_of_getElem? (i := 258) (by decide +kernel), List.mem_of_getElem? (i := 259) (by decide +kernel)⟩
theorem lw_p2 : lw_okq (⟨"TailBounds$Row", "lacks", "(I)Z"⟩, 3) := ⟨⟨by decide +kernel, by decide +kernel⟩, List.mem_of_getElem? (i := 141) (by decide +kernel), List.mem_of_getElem? (i := 288) (by decide +kernel), List.mem_of_getElem? (i := 289) (by decide +kernel)⟩
theorem lw_p3 : lw_okq (⟨"TailBounds", "keep", "(ILTailBounds$Row;)I"⟩, 17) := ⟨⟨by decide +kernel, by decide +kernel⟩, List.mem_of_getElem? (i := 14) (by decide +kernel), List.mem_of_getElem? (i := 297) (by decide +kernel), List.mem_of_getElem? (i := 298) (by decide +kernel)⟩
theorem lw_p4 : lw_okq (⟨"TailBounds$Divider", "findCommon", "(LTailBounds$Num;LTailBounds$Num;)V"⟩, 9) := ⟨⟨by decide +kernel, by decide +kernel⟩, List.mem_of_getElem? (i := 70) (by decide +kernel), List.mem_of_getElem? (i := 358) (by decide +kernel), List.mem_of_getElem? (i := 359) (by decide +kernel)⟩
theorem lw_p5 : lw_okq (⟨"TailBounds$Divider", "finish", "()V"⟩, 9) := ⟨⟨by decide +kernel, by decide +kernel⟩, List.mem_of_getElem? (i := 70) (by decide +kernel), List.mem_of_getElem? (i := 372) (by decide +kernel), List.mem_of_getElem? (i := 373) (by decide +kernel)⟩
theorem lw_p6 : lw_okq (⟨"TailBounds$Divider", "findLeap", "()Z"⟩, 9) := ⟨⟨by decide +kernel, by decide +kernel⟩, List.mem_of_getElem? (i := 70) (by decide +kernel), List.mem_of_getElem? (i := 386) (by decide +kernel), List.mem_of_getElem? (i := 387) (by decide +kernel)⟩
theorem lw_p7 : lw_okq (⟨"TailBounds$Divider", "leap", "()V"⟩, 9) := ⟨⟨by decide +kernel, by decide +kernel⟩, List.mem_of_getElem? (i := 70) (by decide +kernel), List.mem_of_getElem? (i := 398) (by decide +kernel), List.mem_of_getElem? (i := 399) (by decide +kernel)⟩
theorem lw_p8 : lw_okq (⟨"TailBounds$Divider", "guessAt", "(I)J"⟩, 9) := ⟨⟨by decide +kernel, by decide +kernel⟩, List.mem_of_getElem? (i := 70) (by decide +kernel), List.mem_of_getElem? (i := 413) (by decide +kernel), List.mem_of_getElem? (i := 414) (by decide +kernel)⟩
theorem lw_p9 : lw_okq (⟨"TailBounds$Divider", "takeAway", "(IJ)Z"⟩, 9) := ⟨⟨by decide +kernel, by decide +kernel⟩, List.mem_of_getElem? (i := 70) (by decide +kernel), List.mem_of_getElem? (i := 422) (by decide +kernel), List.mem_of_getElem? (i := 423) (by decide +kernel)⟩
theorem lw_p10 : lw_okq (⟨"TailBounds$Divider", "giveBack", "(I)V"⟩, 9) := ⟨⟨by decide +kernel, by decide +kernel⟩, List.mem_of_getElem? (i := 70) (by decide +kernel), List.mem_of_getElem? (i := 426) (by decide +kernel), List.mem_of_getElem? (i := 427) (by decide +kernel)⟩
theorem lw_p11 : lw_okq (⟨"TailBounds$Divider", "moveOn", "()V"⟩, 9) := ⟨⟨by decide +kernel, by decide +kernel⟩, List.mem_of_getElem? (i := 70) (by decide +kernel), List.mem_of_getElem? (i := 434) (by decide +kernel), List.mem_of_getElem? (i := 435) (by decide +kernel)⟩
theorem lw_p12 : lw_okq (⟨"TailBounds", "sourceAt", "(I)LTailBounds$Source;"⟩, 17) := ⟨⟨by decide +kernel, by decide +kernel⟩, List.mem_of_getElem? (i := 14) (by decide +kernel), List.mem_of_getElem? (i := 463) (by decide +kernel), List.mem_of_getElem? (i := 464) (by decide +kernel)⟩
theorem lw_p13 : lw_okq (⟨"TailBounds$Row", "addPair", "(LTailBounds$Row;ILTailBounds$Row;I)V"⟩, 3) := ⟨⟨by decide +kernel, by decide +kernel⟩, List.mem_of_getElem? (i := 141) (by decide +kernel), List.mem_of_getElem? (i := 484) (by decide +kernel), List.mem_of_getElem? (i := 485) (by decide +kernel)⟩
theorem lw_p14 : lw_okq (⟨"TailBounds", "placeAt", "(I)LTailBounds$Fraction;"⟩, 17) := ⟨⟨by decide +kernel, by decide +kernel⟩, List.mem_of_getElem? (i := 14) (by decide +kernel), List.mem_of_getElem? (i := 517) (by decide +kernel), List.mem_of_getElem? (i := 518) (by decide +kernel)⟩
theorem lw_p15 : lw_okq (⟨"TailBounds", "settle", "(LTailBounds$Fraction;)I"⟩, 17) := ⟨⟨by decide +kernel, by decide +kernel⟩, List.mem_of_getElem? (i := 14) (by decide +kernel), List.mem_of_getElem? (i := 526) (by decide +kernel), List.mem_of_getElem? (i := 527) (by decide +kernel)⟩
def lw_privs_1 : List (MethodName × Nat) := [(⟨"TailBounds", "isFull", "()Z"⟩, 17), (⟨"TailBounds", "makeRounds", "(I[II)LTailBounds$Row;"⟩, 17), (⟨"TailBounds$Row", "lacks", "(I)Z"⟩, 3), (⟨"TailBounds", "keep", "(ILTailBounds$Row;)I"⟩, 17), (⟨"TailBounds$Divider", "findCommon", "(LTailBounds$Num;LTailBounds$Num;)V"⟩, 9), (⟨"TailBounds$Divider", "finish", "()V"⟩, 9), (⟨"TailBounds$Divider", "findLeap", "()Z"⟩, 9), (⟨"TailBounds$Divider", "leap", "()V"⟩, 9), (⟨"TailBounds$Divider", "guessAt", "(I)J"⟩, 9), (⟨"TailBounds$Divider", "takeAway", "(IJ)Z"⟩, 9), (⟨"TailBounds$Divider", "giveBack", "(I)V"⟩, 9), (⟨"TailBounds$Divider", "moveOn", "()V"⟩, 9), (⟨"TailBounds", "sourceAt", "(I)LTailBounds$Source;"⟩, 17), (⟨"TailBounds$Row", "addPair", "(LTailBounds$Row;ILTailBounds$Row;I)V"⟩, 3), (⟨"TailBounds", "placeAt", "(I)LTailBounds$Fraction;"⟩, 17), (⟨"TailBounds", "settle", "(LTailBounds$Fraction;)I"⟩, 17)]
theorem lw_r1 : ∀ q ∈ lw_privs_1, lw_okq q := List.forall_mem_cons.mpr ⟨lw_p0, List.forall_mem_cons.mpr ⟨lw_p1, List.forall_mem_cons.mpr ⟨lw_p2, List.forall_mem_cons.mpr ⟨lw_p3, List.forall_mem_cons.mpr ⟨lw_p4, List.forall_mem_cons.mpr ⟨lw_p5, List.forall_mem_cons.mpr ⟨lw_p6, List.forall_mem_cons.mpr ⟨lw_p7, List.forall_mem_cons.mpr ⟨lw_p8, List.forall_mem_cons.mpr ⟨lw_p9, List.forall_mem_cons.mpr ⟨lw_p10, List.forall_mem_cons.mpr ⟨lw_p11, List.forall_mem_cons.mpr ⟨lw_p12, List.forall_mem_cons.mpr ⟨lw_p13, List.forall_mem_cons.mpr ⟨lw_p14, List.forall_mem_cons.mpr ⟨lw_p15, fun _ h => absurd h List.not_mem_nil⟩⟩⟩⟩⟩⟩⟩⟩⟩⟩⟩⟩⟩⟩⟩⟩
theorem lw_p16 : lw_okq (⟨"TailBounds", "store", "(LTailBounds$Fraction;)I"⟩, 17) := ⟨⟨by decide +kernel, by decide +kernel⟩, List.mem_of_getElem? (i := 14) (by decide +kernel), List.mem_of_getElem? (i := 530) (by decide +kernel), List.mem_of_getElem? (i := 531) (by decide +kernel)⟩
theorem lw_p17 : lw_okq (⟨"TailBounds$Measurer", "spreadOfTwo", "(LTailBounds$Source;LTailBounds$Num;)V"⟩, 6) := ⟨⟨by decide +kernel, by decide +kernel⟩, List.mem_of_getElem? (i := 106) (by decide +kernel), List.mem_of_getElem? (i := 546) (by decide +kernel), List.mem_of_getElem? (i := 547) (by decide +kernel)⟩
theorem lw_p18 : lw_okq (⟨"TailBounds$Measurer", "sumOfPowers", "(LTailBounds$Source;ILTailBounds$Num;)V"⟩, 6) := ⟨⟨by decide +kernel, by decide +kernel⟩, List.mem_of_getElem? (i := 106) (by decide +kernel), List.mem_of_getElem? (i := 551) (by decide +kernel), List.mem_of_getElem? (i := 552) (by decide +kernel)⟩
theorem lw_p19 : lw_okq (⟨"TailBounds$Measurer", "spreadOfFour", "(LTailBounds$Source;LTailBounds$Num;)V"⟩, 6) := ⟨⟨by decide +kernel, by decide +kernel⟩, List.mem_of_getElem? (i := 106) (by decide +kernel), List.mem_of_getElem? (i := 561) (by decide +kernel), List.mem_of_getElem? (i := 562) (by decide +kernel)⟩
theorem lw_p20 : lw_okq (⟨"TailBounds$Measurer", "raise", "(LTailBounds$Num;I)V"⟩, 6) := ⟨⟨by decide +kernel, by decide +kernel⟩, List.mem_of_getElem? (i := 106) (by decide +kernel), List.mem_of_getElem? (i := 575) (by decide +kernel), List.mem_of_getElem? (i := 576) (by decide +kernel)⟩
theorem lw_p21 : lw_okq (⟨"TailBounds$Measurer", "isInTail", "(LTailBounds$Source;III)Z"⟩, 6) := ⟨⟨by decide +kernel, by decide +kernel⟩, List.mem_of_getElem? (i := 106) (by decide +kernel), List.mem_of_getElem? (i := 588) (by decide +kernel), List.mem_of_getElem? (i := 589) (by decide +kernel)⟩
theorem lw_p22 : lw_okq (⟨"TailBounds$Measurer", "weigh", "(LTailBounds$Source;ILTailBounds$Num;)V"⟩, 6) := ⟨⟨by decide +kernel, by decide +kernel⟩, List.mem_of_getElem? (i := 106) (by decide +kernel), List.mem_of_getElem? (i := 610) (by decide +kernel), List.mem_of_getElem? (i := 611) (by decide +kernel)⟩
theorem lw_p23 : lw_okq (⟨"TailBounds", "compare", "(LTailBounds$Fraction;LTailBounds$Fraction;)I"⟩, 17) := ⟨⟨by decide +kernel, by decide +kernel⟩, List.mem_of_getElem? (i := 14) (by decide +kernel), List.mem_of_getElem? (i := 648) (by decide +kernel), List.mem_of_getElem? (i := 649) (by decide +kernel)⟩
theorem lw_p24 : lw_okq (⟨"TailBounds", "isNarrow", "(IIII)Z"⟩, 17) := ⟨⟨by decide +kernel, by decide +kernel⟩, List.mem_of_getElem? (i := 14) (by decide +kernel), List.mem_of_getElem? (i := 729) (by decide +kernel), List.mem_of_getElem? (i := 730) (by decide +kernel)⟩
theorem lw_p25 : lw_okq (⟨"TailBounds", "filledPlaces", "()I"⟩, 17) := ⟨⟨by decide +kernel, by decide +kernel⟩, List.mem_of_getElem? (i := 14) (by decide +kernel), List.mem_of_getElem? (i := 756) (by decide +kernel), List.mem_of_getElem? (i := 757) (by decide +kernel)⟩
theorem lw_p26 : lw_okq (⟨"TailBoundsModel", "power", "([JJI)V"⟩, 39) := ⟨⟨by decide +kernel, by decide +kernel⟩, List.mem_of_getElem? (i := 760) (by decide +kernel), List.mem_of_getElem? (i := 908) (by decide +kernel), List.mem_of_getElem? (i := 909) (by decide +kernel)⟩
theorem lw_p27 : lw_okq (⟨"TailBoundsModel", "comes", "(II)I"⟩, 39) := ⟨⟨by decide +kernel, by decide +kernel⟩, List.mem_of_getElem? (i := 760) (by decide +kernel), List.mem_of_getElem? (i := 921) (by decide +kernel), List.mem_of_getElem? (i := 922) (by decide +kernel)⟩
theorem lw_p28 : lw_okq (⟨"TailBoundsModel", "isSource", "(I)Z"⟩, 39) := ⟨⟨by decide +kernel, by decide +kernel⟩, List.mem_of_getElem? (i := 760) (by decide +kernel), List.mem_of_getElem? (i := 949) (by decide +kernel), List.mem_of_getElem? (i := 950) (by decide +kernel)⟩
theorem lw_p29 : lw_okq (⟨"TailBoundsModel", "give", "(I)I"⟩, 39) := ⟨⟨by decide +kernel, by decide +kernel⟩, List.mem_of_getElem? (i := 760) (by decide +kernel), List.mem_of_getElem? (i := 979) (by decide +kernel), List.mem_of_getElem? (i := 980) (by decide +kernel)⟩
theorem lw_p30 : lw_okq (⟨"TailBoundsModel", "lowest", "()V"⟩, 39) := ⟨⟨by decide +kernel, by decide +kernel⟩, List.mem_of_getElem? (i := 760) (by decide +kernel), List.mem_of_getElem? (i := 983) (by decide +kernel), List.mem_of_getElem? (i := 984) (by decide +kernel)⟩
theorem lw_p31 : lw_okq (⟨"TailBoundsModel", "findDivisor", "([J[J)V"⟩, 39) := ⟨⟨by decide +kernel, by decide +kernel⟩, List.mem_of_getElem? (i := 760) (by decide +kernel), List.mem_of_getElem? (i := 987) (by decide +kernel), List.mem_of_getElem? (i := 988) (by decide +kernel)⟩
def lw_privs_2 : List (MethodName × Nat) := [(⟨"TailBounds", "store", "(LTailBounds$Fraction;)I"⟩, 17), (⟨"TailBounds$Measurer", "spreadOfTwo", "(LTailBounds$Source;LTailBounds$Num;)V"⟩, 6), (⟨"TailBounds$Measurer", "sumOfPowers", "(LTailBounds$Source;ILTailBounds$Num;)V"⟩, 6), (⟨"TailBounds$Measurer", "spreadOfFour", "(LTailBounds$Source;LTailBounds$Num;)V"⟩, 6), (⟨"TailBounds$Measurer", "raise", "(LTailBounds$Num;I)V"⟩, 6), (⟨"TailBounds$Measurer", "isInTail", "(LTailBounds$Source;III)Z"⟩, 6), (⟨"TailBounds$Measurer", "weigh", "(LTailBounds$Source;ILTailBounds$Num;)V"⟩, 6), (⟨"TailBounds", "compare", "(LTailBounds$Fraction;LTailBounds$Fraction;)I"⟩, 17), (⟨"TailBounds", "isNarrow", "(IIII)Z"⟩, 17), (⟨"TailBounds", "filledPlaces", "()I"⟩, 17), (⟨"TailBoundsModel", "power", "([JJI)V"⟩, 39), (⟨"TailBoundsModel", "comes", "(II)I"⟩, 39), (⟨"TailBoundsModel", "isSource", "(I)Z"⟩, 39), (⟨"TailBoundsModel", "give", "(I)I"⟩, 39), (⟨"TailBoundsModel", "lowest", "()V"⟩, 39), (⟨"TailBoundsModel", "findDivisor", "([J[J)V"⟩, 39)]
theorem lw_r2 : ∀ q ∈ lw_privs_2, lw_okq q := List.forall_mem_cons.mpr ⟨lw_p16, List.forall_mem_cons.mpr ⟨lw_p17, List.forall_mem_cons.mpr ⟨lw_p18, List.forall_mem_cons.mpr ⟨lw_p19, List.forall_mem_cons.mpr ⟨lw_p20, List.forall_mem_cons.mpr ⟨lw_p21, List.forall_mem_cons.mpr ⟨lw_p22, List.forall_mem_cons.mpr ⟨lw_p23, List.forall_mem_cons.mpr ⟨lw_p24, List.forall_mem_cons.mpr ⟨lw_p25, List.forall_mem_cons.mpr ⟨lw_p26, List.forall_mem_cons.mpr ⟨lw_p27, List.forall_mem_cons.mpr ⟨lw_p28, List.forall_mem_cons.mpr ⟨lw_p29, List.forall_mem_cons.mpr ⟨lw_p30, List.forall_mem_cons.mpr ⟨lw_p31, fun _ h => absurd h List.not_mem_nil⟩⟩⟩⟩⟩⟩⟩⟩⟩⟩⟩⟩⟩⟩⟩⟩
theorem lw_p32 : lw_okq (⟨"TailBoundsModel", "divide", "([J[J)V"⟩, 39) := ⟨⟨by decide +kernel, by decide +kernel⟩, List.mem_of_getElem? (i := 760) (by decide +kernel), List.mem_of_getElem? (i := 1003) (by decide +kernel), List.mem_of_getElem? (i := 1004) (by decide +kernel)⟩
theorem lw_p33 : lw_okq (⟨"TailBoundsModel", "weighs", "(I)V"⟩, 39) := ⟨⟨by decide +kernel, by decide +kernel⟩, List.mem_of_getElem? (i := 760) (by decide +kernel), List.mem_of_getElem? (i := 1014) (by decide +kernel), List.mem_of_getElem? (i := 1015) (by decide +kernel)⟩
theorem lw_p34 : lw_okq (⟨"TailBoundsModel", "moments", "(II)V"⟩, 39) := ⟨⟨by decide +kernel, by decide +kernel⟩, List.mem_of_getElem? (i := 760) (by decide +kernel), List.mem_of_getElem? (i := 1022) (by decide +kernel), List.mem_of_getElem? (i := 1023) (by decide +kernel)⟩
theorem lw_p35 : lw_okq (⟨"TailBoundsModel", "away", "([JI)Z"⟩, 39) := ⟨⟨by decide +kernel, by decide +kernel⟩, List.mem_of_getElem? (i := 760) (by decide +kernel), List.mem_of_getElem? (i := 1026) (by decide +kernel), List.mem_of_getElem? (i := 1027) (by decide +kernel)⟩
theorem lw_p36 : lw_okq (⟨"TailBoundsModel", "bounded", "(III)I"⟩, 39) := ⟨⟨by decide +kernel, by decide +kernel⟩, List.mem_of_getElem? (i := 760) (by decide +kernel), List.mem_of_getElem? (i := 1038) (by decide +kernel), List.mem_of_getElem? (i := 1039) (by decide +kernel)⟩
theorem lw_p37 : lw_okq (⟨"TailBoundsModel", "leastRaised", "(II)I"⟩, 39) := ⟨⟨by decide +kernel, by decide +kernel⟩, List.mem_of_getElem? (i := 760) (by decide +kernel), List.mem_of_getElem? (i := 1042) (by decide +kernel), List.mem_of_getElem? (i := 1043) (by decide +kernel)⟩
theorem lw_p38 : lw_okq (⟨"TailBoundsModel", "raised", "(III)V"⟩, 39) := ⟨⟨by decide +kernel, by decide +kernel⟩, List.mem_of_getElem? (i := 760) (by decide +kernel), List.mem_of_getElem? (i := 1046) (by decide +kernel), List.mem_of_getElem? (i := 1047) (by decide +kernel)⟩
theorem lw_p39 : lw_okq (⟨"TailBoundsModel", "takeLeft", "(I)V"⟩, 39) := ⟨⟨by decide +kernel, by decide +kernel⟩, List.mem_of_getElem? (i := 760) (by decide +kernel), List.mem_of_getElem? (i := 1059) (by decide +kernel), List.mem_of_getElem? (i := 1060) (by decide +kernel)⟩
theorem lw_p40 : lw_okq (⟨"TailBoundsModel", "takeRight", "(I)V"⟩, 39) := ⟨⟨by decide +kernel, by decide +kernel⟩, List.mem_of_getElem? (i := 760) (by decide +kernel), List.mem_of_getElem? (i := 1063) (by decide +kernel), List.mem_of_getElem? (i := 1064) (by decide +kernel)⟩
theorem lw_p41 : lw_okq (⟨"TailBoundsModel", "ordered", "()I"⟩, 39) := ⟨⟨by decide +kernel, by decide +kernel⟩, List.mem_of_getElem? (i := 760) (by decide +kernel), List.mem_of_getElem? (i := 1067) (by decide +kernel), List.mem_of_getElem? (i := 1068) (by decide +kernel)⟩
theorem lw_p42 : lw_okq (⟨"TailBoundsModel", "asks", "(II)I"⟩, 39) := ⟨⟨by decide +kernel, by decide +kernel⟩, List.mem_of_getElem? (i := 760) (by decide +kernel), List.mem_of_getElem? (i := 1079) (by decide +kernel), List.mem_of_getElem? (i := 1080) (by decide +kernel)⟩
theorem lw_p43 : lw_okq (⟨"TailBoundsModel", "isGood", "(IIIII)Z"⟩, 39) := ⟨⟨by decide +kernel, by decide +kernel⟩, List.mem_of_getElem? (i := 760) (by decide +kernel), List.mem_of_getElem? (i := 1109) (by decide +kernel), List.mem_of_getElem? (i := 1110) (by decide +kernel)⟩
theorem lw_p44 : lw_okq (⟨"TailBoundsModel", "isCrossed", "(II)Z"⟩, 39) := ⟨⟨by decide +kernel, by decide +kernel⟩, List.mem_of_getElem? (i := 760) (by decide +kernel), List.mem_of_getElem? (i := 1122) (by decide +kernel), List.mem_of_getElem? (i := 1123) (by decide +kernel)⟩
def lw_privs_3 : List (MethodName × Nat) := [(⟨"TailBoundsModel", "divide", "([J[J)V"⟩, 39), (⟨"TailBoundsModel", "weighs", "(I)V"⟩, 39), (⟨"TailBoundsModel", "moments", "(II)V"⟩, 39), (⟨"TailBoundsModel", "away", "([JI)Z"⟩, 39), (⟨"TailBoundsModel", "bounded", "(III)I"⟩, 39), (⟨"TailBoundsModel", "leastRaised", "(II)I"⟩, 39), (⟨"TailBoundsModel", "raised", "(III)V"⟩, 39), (⟨"TailBoundsModel", "takeLeft", "(I)V"⟩, 39), (⟨"TailBoundsModel", "takeRight", "(I)V"⟩, 39), (⟨"TailBoundsModel", "ordered", "()I"⟩, 39), (⟨"TailBoundsModel", "asks", "(II)I"⟩, 39), (⟨"TailBoundsModel", "isGood", "(IIIII)Z"⟩, 39), (⟨"TailBoundsModel", "isCrossed", "(II)Z"⟩, 39)]
theorem lw_r3 : ∀ q ∈ lw_privs_3, lw_okq q := List.forall_mem_cons.mpr ⟨lw_p32, List.forall_mem_cons.mpr ⟨lw_p33, List.forall_mem_cons.mpr ⟨lw_p34, List.forall_mem_cons.mpr ⟨lw_p35, List.forall_mem_cons.mpr ⟨lw_p36, List.forall_mem_cons.mpr ⟨lw_p37, List.forall_mem_cons.mpr ⟨lw_p38, List.forall_mem_cons.mpr ⟨lw_p39, List.forall_mem_cons.mpr ⟨lw_p40, List.forall_mem_cons.mpr ⟨lw_p41, List.forall_mem_cons.mpr ⟨lw_p42, List.forall_mem_cons.mpr ⟨lw_p43, List.forall_mem_cons.mpr ⟨lw_p44, fun _ h => absurd h List.not_mem_nil⟩⟩⟩⟩⟩⟩⟩⟩⟩⟩⟩⟩⟩
def lw_privs : List (MethodName × Nat) := lw_privs_1 ++ (lw_privs_2 ++ (lw_privs_3))
def lw_tbl : List Cond := k2_sels lw_privs ++ tables_1
theorem lw_privs_ok : ∀ q ∈ lw_privs, lw_okq q := by
  show ∀ q ∈ lw_privs_1 ++ (lw_privs_2 ++ (lw_privs_3)), lw_okq q
  exact List.forall_mem_append.mpr ⟨lw_r1, List.forall_mem_append.mpr ⟨lw_r2, lw_r3⟩⟩
def RX0 : String := "TailBounds$Divider"
def TX0 : u_T := fun k => match k with
  | 0 => ("TailBounds$Divider", "quotient", "LTailBounds$Num;", true)
  | 1 => ("TailBounds$Divider", "divisor", "LTailBounds$Num;", true)
  | 2 => ("TailBounds$Divider", "rest", "LTailBounds$Num;", false)
  | 3 => ("TailBounds$Divider", "high", "LTailBounds$Num;", false)
  | 4 => ("TailBounds$Divider", "low", "LTailBounds$Num;", false)
  | 5 => ("TailBounds$Divider", "a", "J", false)
  | 6 => ("TailBounds$Divider", "b", "J", false)
  | 7 => ("TailBounds$Divider", "c", "J", false)
  | _ => ("TailBounds$Divider", "d", "J", false)
def tyX0 : Nat → FieldType := fun k => match k with
  | 0 => .object "TailBounds$Num"
  | 1 => .object "TailBounds$Num"
  | 2 => .object "TailBounds$Num"
  | 3 => .object "TailBounds$Num"
  | 4 => .object "TailBounds$Num"
  | 5 => .long
  | 6 => .long
  | 7 => .long
  | _ => .long
abbrev wsX00 : List Cond := u_ws RX0 TX0 9
theorem nmX0 : ∀ a, a < 9 → ∀ b, b < 9 → a ≠ b → (TX0 a).2.1 ≠ (TX0 b).2.1 := by decide +kernel
theorem tyX0_ok : ∀ k, k < 9 → parseFieldDescriptor (TX0 k).2.2.1 = some (tyX0 k) := by decide +kernel
abbrev cX0_init : ByteArray := prog_2_method_1_code
def yX0_init : MethodName := ⟨RX0, "<init>", "()V"⟩
abbrev cX0_toLowestTerms : ByteArray := prog_2_method_2_code
def yX0_toLowestTerms : MethodName := ⟨RX0, "toLowestTerms", "(LTailBounds$Fraction;)V"⟩
abbrev cX0_divide : ByteArray := prog_2_method_3_code
def yX0_divide : MethodName := ⟨RX0, "divide", "(LTailBounds$Num;LTailBounds$Num;)LTailBounds$Num;"⟩
abbrev cX0_guessAt : ByteArray := prog_2_method_4_code
def yX0_guessAt : MethodName := ⟨RX0, "guessAt", "(I)J"⟩
abbrev cX0_unsignedQuotient : ByteArray := prog_2_method_5_code
def yX0_unsignedQuotient : MethodName := ⟨RX0, "unsignedQuotient", "(JJ)J"⟩
abbrev cX0_takeAway : ByteArray := prog_2_method_6_code
def yX0_takeAway : MethodName := ⟨RX0, "takeAway", "(IJ)Z"⟩
abbrev cX0_giveBack : ByteArray := prog_2_method_7_code
def yX0_giveBack : MethodName := ⟨RX0, "giveBack", "(I)V"⟩
abbrev cX0_findCommon : ByteArray := prog_2_method_8_code
def yX0_findCommon : MethodName := ⟨RX0, "findCommon", "(LTailBounds$Num;LTailBounds$Num;)V"⟩
abbrev cX0_finish : ByteArray := prog_2_method_9_code
def yX0_finish : MethodName := ⟨RX0, "finish", "()V"⟩
abbrev cX0_moveOn : ByteArray := prog_2_method_10_code
def yX0_moveOn : MethodName := ⟨RX0, "moveOn", "()V"⟩
abbrev cX0_findLeap : ByteArray := prog_2_method_11_code
def yX0_findLeap : MethodName := ⟨RX0, "findLeap", "()Z"⟩
abbrev cX0_leap : ByteArray := prog_2_method_12_code
def yX0_leap : MethodName := ⟨RX0, "leap", "()V"⟩
def RX1 : String := "TailBounds$Fraction"
def TX1 : u_T := fun k => match k with
  | 0 => ("TailBounds$Fraction", "above", "LTailBounds$Num;", true)
  | 1 => ("TailBounds$Fraction", "below", "LTailBounds$Num;", true)
  | _ => ("TailBounds$Fraction", "filled", "Z", false)
def tyX1 : Nat → FieldType := fun k => match k with
  | 0 => .object "TailBounds$Num"
  | 1 => .object "TailBounds$Num"
  | _ => .boolean
abbrev wsX10 : List Cond := u_ws RX1 TX1 3
theorem nmX1 : ∀ a, a < 3 → ∀ b, b < 3 → a ≠ b → (TX1 a).2.1 ≠ (TX1 b).2.1 := by decide +kernel
theorem tyX1_ok : ∀ k, k < 3 → parseFieldDescriptor (TX1 k).2.2.1 = some (tyX1 k) := by decide +kernel
abbrev cX1_init : ByteArray := prog_3_method_1_code
def yX1_init : MethodName := ⟨RX1, "<init>", "(I)V"⟩
abbrev cX1_half : ByteArray := prog_3_method_2_code
def yX1_half : MethodName := ⟨RX1, "half", "(I)LTailBounds$Num;"⟩
abbrev cX1_put : ByteArray := prog_3_method_3_code
def yX1_put : MethodName := ⟨RX1, "put", "(II)V"⟩
abbrev cX1_copy : ByteArray := prog_3_method_4_code
def yX1_copy : MethodName := ⟨RX1, "copy", "(LTailBounds$Fraction;)V"⟩
abbrev cX1_capAtOne : ByteArray := prog_3_method_5_code
def yX1_capAtOne : MethodName := ⟨RX1, "capAtOne", "()V"⟩
abbrev cX1_addUp : ByteArray := prog_3_method_6_code
def yX1_addUp : MethodName := ⟨RX1, "addUp", "(LTailBounds$Fraction;LTailBounds$Fraction;LTailBounds$Num;)V"⟩
abbrev cX1_multiply : ByteArray := prog_3_method_7_code
def yX1_multiply : MethodName := ⟨RX1, "multiply", "(LTailBounds$Fraction;LTailBounds$Fraction;)V"⟩
abbrev cX1_lessThanOne : ByteArray := prog_3_method_8_code
def yX1_lessThanOne : MethodName := ⟨RX1, "lessThanOne", "(LTailBounds$Fraction;)V"⟩
def RX2 : String := "TailBounds$Measurer"
def TX2 : u_T := fun k => match k with
  | 0 => ("TailBounds$Measurer", "first", "LTailBounds$Num;", true)
  | 1 => ("TailBounds$Measurer", "second", "LTailBounds$Num;", true)
  | 2 => ("TailBounds$Measurer", "third", "LTailBounds$Num;", true)
  | 3 => ("TailBounds$Measurer", "fourth", "LTailBounds$Num;", true)
  | 4 => ("TailBounds$Measurer", "bestSum", "LTailBounds$Num;", true)
  | _ => ("TailBounds$Measurer", "bestPower", "LTailBounds$Num;", true)
def tyX2 : Nat → FieldType := fun k => match k with
  | 0 => .object "TailBounds$Num"
  | 1 => .object "TailBounds$Num"
  | 2 => .object "TailBounds$Num"
  | 3 => .object "TailBounds$Num"
  | 4 => .object "TailBounds$Num"
  | _ => .object "TailBounds$Num"
abbrev wsX20 : List Cond := u_ws RX2 TX2 6
theorem nmX2 : ∀ a, a < 6 → ∀ b, b < 6 → a ≠ b → (TX2 a).2.1 ≠ (TX2 b).2.1 := by decide +kernel
theorem tyX2_ok : ∀ k, k < 6 → parseFieldDescriptor (TX2 k).2.2.1 = some (tyX2 k) := by decide +kernel
abbrev cX2_init : ByteArray := prog_4_method_1_code
def yX2_init : MethodName := ⟨RX2, "<init>", "()V"⟩
abbrev cX2_findTail : ByteArray := prog_4_method_2_code
def yX2_findTail : MethodName := ⟨RX2, "findTail", "(LTailBounds$Source;IILTailBounds$Fraction;)V"⟩
abbrev cX2_isInTail : ByteArray := prog_4_method_3_code
def yX2_isInTail : MethodName := ⟨RX2, "isInTail", "(LTailBounds$Source;III)Z"⟩
abbrev cX2_findMoment : ByteArray := prog_4_method_4_code
def yX2_findMoment : MethodName := ⟨RX2, "findMoment", "(LTailBounds$Source;ILTailBounds$Fraction;)V"⟩
abbrev cX2_isAboveMean : ByteArray := prog_4_method_5_code
def yX2_isAboveMean : MethodName := ⟨RX2, "isAboveMean", "(LTailBounds$Source;I)Z"⟩
abbrev cX2_boundByMean : ByteArray := prog_4_method_6_code
def yX2_boundByMean : MethodName := ⟨RX2, "boundByMean", "(LTailBounds$Source;ILTailBounds$Fraction;)V"⟩
abbrev cX2_boundByMoment : ByteArray := prog_4_method_7_code
def yX2_boundByMoment : MethodName := ⟨RX2, "boundByMoment", "(LTailBounds$Source;IILTailBounds$Fraction;)V"⟩
abbrev cX2_raise : ByteArray := prog_4_method_8_code
def yX2_raise : MethodName := ⟨RX2, "raise", "(LTailBounds$Num;I)V"⟩
abbrev cX2_sumOfPowers : ByteArray := prog_4_method_9_code
def yX2_sumOfPowers : MethodName := ⟨RX2, "sumOfPowers", "(LTailBounds$Source;ILTailBounds$Num;)V"⟩
abbrev cX2_spreadOfTwo : ByteArray := prog_4_method_10_code
def yX2_spreadOfTwo : MethodName := ⟨RX2, "spreadOfTwo", "(LTailBounds$Source;LTailBounds$Num;)V"⟩
abbrev cX2_spreadOfFour : ByteArray := prog_4_method_11_code
def yX2_spreadOfFour : MethodName := ⟨RX2, "spreadOfFour", "(LTailBounds$Source;LTailBounds$Num;)V"⟩
abbrev cX2_boundByPowers : ByteArray := prog_4_method_12_code
def yX2_boundByPowers : MethodName := ⟨RX2, "boundByPowers", "(LTailBounds$Source;ILTailBounds$Fraction;)I"⟩
abbrev cX2_weigh : ByteArray := prog_4_method_13_code
def yX2_weigh : MethodName := ⟨RX2, "weigh", "(LTailBounds$Source;ILTailBounds$Num;)V"⟩
def RX3 : String := "TailBounds$Num"
def TX3 : u_T := fun k => match k with
  | 0 => ("TailBounds$Num", "part", "[I", true)
  | _ => ("TailBounds$Num", "size", "I", false)
def tyX3 : Nat → FieldType := fun k => match k with
  | 0 => .array .int
  | _ => .int
abbrev wsX30 : List Cond := u_ws RX3 TX3 2
theorem nmX3 : ∀ a, a < 2 → ∀ b, b < 2 → a ≠ b → (TX3 a).2.1 ≠ (TX3 b).2.1 := by decide +kernel
theorem tyX3_ok : ∀ k, k < 2 → parseFieldDescriptor (TX3 k).2.2.1 = some (tyX3 k) := by decide +kernel
abbrev cX3_init : ByteArray := prog_5_method_1_code
def yX3_init : MethodName := ⟨RX3, "<init>", "(I)V"⟩
abbrev cX3_clear : ByteArray := prog_5_method_2_code
def yX3_clear : MethodName := ⟨RX3, "clear", "()V"⟩
abbrev cX3_put : ByteArray := prog_5_method_3_code
def yX3_put : MethodName := ⟨RX3, "put", "(J)V"⟩
abbrev cX3_copy : ByteArray := prog_5_method_4_code
def yX3_copy : MethodName := ⟨RX3, "copy", "(LTailBounds$Num;)V"⟩
abbrev cX3_trim : ByteArray := prog_5_method_5_code
def yX3_trim : MethodName := ⟨RX3, "trim", "()V"⟩
abbrev cX3_word : ByteArray := prog_5_method_6_code
def yX3_word : MethodName := ⟨RX3, "word", "(I)J"⟩
abbrev cX3_isOne : ByteArray := prog_5_method_7_code
def yX3_isOne : MethodName := ⟨RX3, "isOne", "()Z"⟩
abbrev cX3_toLong : ByteArray := prog_5_method_8_code
def yX3_toLong : MethodName := ⟨RX3, "toLong", "()J"⟩
abbrev cX3_bits : ByteArray := prog_5_method_9_code
def yX3_bits : MethodName := ⟨RX3, "bits", "()I"⟩
abbrev cX3_window : ByteArray := prog_5_method_10_code
def yX3_window : MethodName := ⟨RX3, "window", "(I)J"⟩
abbrev cX3_against : ByteArray := prog_5_method_11_code
def yX3_against : MethodName := ⟨RX3, "against", "(LTailBounds$Num;)I"⟩
abbrev cX3_widenTo : ByteArray := prog_5_method_12_code
def yX3_widenTo : MethodName := ⟨RX3, "widenTo", "(I)V"⟩
abbrev cX3_copyShifted : ByteArray := prog_5_method_13_code
def yX3_copyShifted : MethodName := ⟨RX3, "copyShifted", "(LTailBounds$Num;I)V"⟩
abbrev cX3_add : ByteArray := prog_5_method_14_code
def yX3_add : MethodName := ⟨RX3, "add", "(LTailBounds$Num;)V"⟩
abbrev cX3_addScaled : ByteArray := prog_5_method_15_code
def yX3_addScaled : MethodName := ⟨RX3, "addScaled", "(I[IIIJ)V"⟩
abbrev cX3_subtract : ByteArray := prog_5_method_16_code
def yX3_subtract : MethodName := ⟨RX3, "subtract", "(LTailBounds$Num;)V"⟩
abbrev cX3_scale : ByteArray := prog_5_method_17_code
def yX3_scale : MethodName := ⟨RX3, "scale", "(J)V"⟩
abbrev cX3_power : ByteArray := prog_5_method_18_code
def yX3_power : MethodName := ⟨RX3, "power", "(II)V"⟩
abbrev cX3_product : ByteArray := prog_5_method_19_code
def yX3_product : MethodName := ⟨RX3, "product", "(LTailBounds$Num;LTailBounds$Num;)V"⟩
abbrev cX3_shiftDown : ByteArray := prog_5_method_20_code
def yX3_shiftDown : MethodName := ⟨RX3, "shiftDown", "(I)V"⟩
def RX4 : String := "TailBounds$Row"
def TX4 : u_T := fun k => match k with
  | 0 => ("TailBounds$Row", "top", "I", true)
  | 1 => ("TailBounds$Row", "wide", "I", true)
  | _ => ("TailBounds$Row", "cells", "[I", true)
def tyX4 : Nat → FieldType := fun k => match k with
  | 0 => .int
  | 1 => .int
  | _ => .array .int
abbrev wsX40 : List Cond := u_ws RX4 TX4 3
theorem nmX4 : ∀ a, a < 3 → ∀ b, b < 3 → a ≠ b → (TX4 a).2.1 ≠ (TX4 b).2.1 := by decide +kernel
theorem tyX4_ok : ∀ k, k < 3 → parseFieldDescriptor (TX4 k).2.2.1 = some (tyX4 k) := by decide +kernel
abbrev cX4_init : ByteArray := prog_6_method_1_code
def yX4_init : MethodName := ⟨RX4, "<init>", "(II)V"⟩
abbrev cX4_lacks : ByteArray := prog_6_method_2_code
def yX4_lacks : MethodName := ⟨RX4, "lacks", "(I)Z"⟩
abbrev cX4_word : ByteArray := prog_6_method_3_code
def yX4_word : MethodName := ⟨RX4, "word", "(II)J"⟩
abbrev cX4_write : ByteArray := prog_6_method_4_code
def yX4_write : MethodName := ⟨RX4, "write", "(IJ)V"⟩
abbrev cX4_erase : ByteArray := prog_6_method_5_code
def yX4_erase : MethodName := ⟨RX4, "erase", "(I)V"⟩
abbrev cX4_startAnew : ByteArray := prog_6_method_6_code
def yX4_startAnew : MethodName := ⟨RX4, "startAnew", "()V"⟩
abbrev cX4_isZero : ByteArray := prog_6_method_7_code
def yX4_isZero : MethodName := ⟨RX4, "isZero", "(I)Z"⟩
abbrev cX4_zeros : ByteArray := prog_6_method_8_code
def yX4_zeros : MethodName := ⟨RX4, "zeros", "()I"⟩
abbrev cX4_addTo : ByteArray := prog_6_method_9_code
def yX4_addTo : MethodName := ⟨RX4, "addTo", "(LTailBounds$Num;II)V"⟩
abbrev cX4_addShiftedTo : ByteArray := prog_6_method_10_code
def yX4_addShiftedTo : MethodName := ⟨RX4, "addShiftedTo", "(LTailBounds$Num;II)V"⟩
abbrev cX4_addRound : ByteArray := prog_6_method_11_code
def yX4_addRound : MethodName := ⟨RX4, "addRound", "([III)V"⟩
abbrev cX4_addFrom : ByteArray := prog_6_method_12_code
def yX4_addFrom : MethodName := ⟨RX4, "addFrom", "(LTailBounds$Row;II)V"⟩
abbrev cX4_addAllPairs : ByteArray := prog_6_method_13_code
def yX4_addAllPairs : MethodName := ⟨RX4, "addAllPairs", "(LTailBounds$Row;LTailBounds$Row;)V"⟩
abbrev cX4_addPair : ByteArray := prog_6_method_14_code
def yX4_addPair : MethodName := ⟨RX4, "addPair", "(LTailBounds$Row;ILTailBounds$Row;I)V"⟩
def RX5 : String := "TailBounds$Source"
def TX5 : u_T := fun k => match k with
  | 0 => ("TailBounds$Source", "kind", "I", true)
  | 1 => ("TailBounds$Source", "row", "LTailBounds$Row;", true)
  | 2 => ("TailBounds$Source", "total", "LTailBounds$Num;", true)
  | _ => ("TailBounds$Source", "mean", "LTailBounds$Fraction;", true)
def tyX5 : Nat → FieldType := fun k => match k with
  | 0 => .int
  | 1 => .object "TailBounds$Row"
  | 2 => .object "TailBounds$Num"
  | _ => .object "TailBounds$Fraction"
abbrev wsX50 : List Cond := u_ws RX5 TX5 4
theorem nmX5 : ∀ a, a < 4 → ∀ b, b < 4 → a ≠ b → (TX5 a).2.1 ≠ (TX5 b).2.1 := by decide +kernel
theorem tyX5_ok : ∀ k, k < 4 → parseFieldDescriptor (TX5 k).2.2.1 = some (tyX5 k) := by decide +kernel
abbrev cX5_init : ByteArray := prog_7_method_1_code
def yX5_init : MethodName := ⟨RX5, "<init>", "(ILTailBounds$Row;)V"⟩
def RX6 : String := "TailBounds$Tosser"
def TX6 : u_T := fun k => match k with
  | 0 => ("TailBounds$Tosser", "all", "LTailBounds$Num;", true)
  | 1 => ("TailBounds$Tosser", "row", "LTailBounds$Row;", true)
  | 2 => ("TailBounds$Tosser", "left", "LTailBounds$Num;", true)
  | 3 => ("TailBounds$Tosser", "right", "LTailBounds$Num;", true)
  | 4 => ("TailBounds$Tosser", "shares", "[I", true)
  | _ => ("TailBounds$Tosser", "tossed", "I", false)
def tyX6 : Nat → FieldType := fun k => match k with
  | 0 => .object "TailBounds$Num"
  | 1 => .object "TailBounds$Row"
  | 2 => .object "TailBounds$Num"
  | 3 => .object "TailBounds$Num"
  | 4 => .array .int
  | _ => .int
abbrev wsX60 : List Cond := u_ws RX6 TX6 6
theorem nmX6 : ∀ a, a < 6 → ∀ b, b < 6 → a ≠ b → (TX6 a).2.1 ≠ (TX6 b).2.1 := by decide +kernel
theorem tyX6_ok : ∀ k, k < 6 → parseFieldDescriptor (TX6 k).2.2.1 = some (tyX6 k) := by decide +kernel
abbrev cX6_init : ByteArray := prog_8_method_1_code
def yX6_init : MethodName := ⟨RX6, "<init>", "()V"⟩
abbrev cX6_start : ByteArray := prog_8_method_2_code
def yX6_start : MethodName := ⟨RX6, "start", "(II)V"⟩
abbrev cX6_tossNext : ByteArray := prog_8_method_3_code
def yX6_tossNext : MethodName := ⟨RX6, "tossNext", "()V"⟩
abbrev cX6_addFrom : ByteArray := prog_8_method_4_code
def yX6_addFrom : MethodName := ⟨RX6, "addFrom", "(IZLTailBounds$Num;)V"⟩
abbrev cX6_isRareNext : ByteArray := prog_8_method_5_code
def yX6_isRareNext : MethodName := ⟨RX6, "isRareNext", "(III)Z"⟩
def RX7 : String := "TailBounds"
def TX7 : u_T := fun k => match k with
  | 0 => ("TailBounds", "weights", "[I", true)
  | 1 => ("TailBounds", "sources", "[LTailBounds$Source;", true)
  | 2 => ("TailBounds", "places", "[LTailBounds$Fraction;", true)
  | 3 => ("TailBounds", "odds", "[I", true)
  | 4 => ("TailBounds", "outcome", "LTailBounds$Fraction;", true)
  | 5 => ("TailBounds", "spare", "LTailBounds$Num;", true)
  | 6 => ("TailBounds", "divider", "LTailBounds$Divider;", true)
  | 7 => ("TailBounds", "measurer", "LTailBounds$Measurer;", true)
  | 8 => ("TailBounds", "tosser", "LTailBounds$Tosser;", true)
  | 9 => ("TailBounds", "weightCount", "I", false)
  | 10 => ("TailBounds", "sourceCount", "I", false)
  | 11 => ("TailBounds", "latestBase", "I", false)
  | 12 => ("TailBounds", "coinA", "I", false)
  | 13 => ("TailBounds", "coinB", "I", false)
  | 14 => ("TailBounds", "lineC", "I", false)
  | 15 => ("TailBounds", "lineD", "I", false)
  | _ => ("TailBounds", "lineE", "I", false)
def tyX7 : Nat → FieldType := fun k => match k with
  | 0 => .array .int
  | 1 => .array (.object "TailBounds$Source")
  | 2 => .array (.object "TailBounds$Fraction")
  | 3 => .array .int
  | 4 => .object "TailBounds$Fraction"
  | 5 => .object "TailBounds$Num"
  | 6 => .object "TailBounds$Divider"
  | 7 => .object "TailBounds$Measurer"
  | 8 => .object "TailBounds$Tosser"
  | 9 => .int
  | 10 => .int
  | 11 => .int
  | 12 => .int
  | 13 => .int
  | 14 => .int
  | 15 => .int
  | _ => .int
abbrev wsX70 : List Cond := u_ws RX7 TX7 17
theorem nmX7 : ∀ a, a < 17 → ∀ b, b < 17 → a ≠ b → (TX7 a).2.1 ≠ (TX7 b).2.1 := by decide +kernel
theorem tyX7_ok : ∀ k, k < 17 → parseFieldDescriptor (TX7 k).2.2.1 = some (tyX7 k) := by decide +kernel
abbrev cX7_init : ByteArray := prog_1_method_1_code
def yX7_init : MethodName := ⟨RX7, "<init>", "()V"⟩
abbrev cX7_weight : ByteArray := prog_1_method_2_code
def yX7_weight : MethodName := ⟨RX7, "weight", "(I)I"⟩
abbrev cX7_wipe : ByteArray := prog_1_method_3_code
def yX7_wipe : MethodName := ⟨RX7, "wipe", "()I"⟩
abbrev cX7_coins : ByteArray := prog_1_method_4_code
def yX7_coins : MethodName := ⟨RX7, "coins", "(III)I"⟩
abbrev cX7_drawn : ByteArray := prog_1_method_5_code
def yX7_drawn : MethodName := ⟨RX7, "drawn", "(III)I"⟩
abbrev cX7_sums : ByteArray := prog_1_method_6_code
def yX7_sums : MethodName := ⟨RX7, "sums", "(I)I"⟩
abbrev cX7_both : ByteArray := prog_1_method_7_code
def yX7_both : MethodName := ⟨RX7, "both", "(II)I"⟩
abbrev cX7_held : ByteArray := prog_1_method_8_code
def yX7_held : MethodName := ⟨RX7, "held", "(III)I"⟩
abbrev cX7_source : ByteArray := prog_1_method_9_code
def yX7_source : MethodName := ⟨RX7, "source", "(II)I"⟩
abbrev cX7_counted : ByteArray := prog_1_method_10_code
def yX7_counted : MethodName := ⟨RX7, "counted", "(II)I"⟩
abbrev cX7_set : ByteArray := prog_1_method_11_code
def yX7_set : MethodName := ⟨RX7, "set", "(III)I"⟩
abbrev cX7_mean : ByteArray := prog_1_method_12_code
def yX7_mean : MethodName := ⟨RX7, "mean", "(II)I"⟩
abbrev cX7_moment : ByteArray := prog_1_method_13_code
def yX7_moment : MethodName := ⟨RX7, "moment", "(III)I"⟩
abbrev cX7_tail : ByteArray := prog_1_method_14_code
def yX7_tail : MethodName := ⟨RX7, "tail", "(IIII)I"⟩
abbrev cX7_bound : ByteArray := prog_1_method_15_code
def yX7_bound : MethodName := ⟨RX7, "bound", "(IIII)I"⟩
abbrev cX7_base : ByteArray := prog_1_method_16_code
def yX7_base : MethodName := ⟨RX7, "base", "()I"⟩
abbrev cX7_work : ByteArray := prog_1_method_17_code
def yX7_work : MethodName := ⟨RX7, "work", "(IIII)I"⟩
abbrev cX7_order : ByteArray := prog_1_method_18_code
def yX7_order : MethodName := ⟨RX7, "order", "(II)I"⟩
abbrev cX7_limbs : ByteArray := prog_1_method_19_code
def yX7_limbs : MethodName := ⟨RX7, "limbs", "(II)I"⟩
abbrev cX7_limb : ByteArray := prog_1_method_20_code
def yX7_limb : MethodName := ⟨RX7, "limb", "(III)J"⟩
abbrev cX7_digits : ByteArray := prog_1_method_21_code
def yX7_digits : MethodName := ⟨RX7, "digits", "(II)J"⟩
abbrev cX7_free : ByteArray := prog_1_method_22_code
def yX7_free : MethodName := ⟨RX7, "free", "(I)I"⟩
abbrev cX7_coin : ByteArray := prog_1_method_23_code
def yX7_coin : MethodName := ⟨RX7, "coin", "(II)I"⟩
abbrev cX7_needed : ByteArray := prog_1_method_24_code
def yX7_needed : MethodName := ⟨RX7, "needed", "(IIIII)I"⟩
abbrev cX7_line : ByteArray := prog_1_method_25_code
def yX7_line : MethodName := ⟨RX7, "line", "(III)I"⟩
abbrev cX7_crossed : ByteArray := prog_1_method_26_code
def yX7_crossed : MethodName := ⟨RX7, "crossed", "(III)I"⟩
abbrev cX7_count : ByteArray := prog_1_method_27_code
def yX7_count : MethodName := ⟨RX7, "count", "(I)I"⟩
abbrev cX7_outside : ByteArray := prog_1_method_28_code
def yX7_outside : MethodName := ⟨RX7, "outside", "(III)Z"⟩
abbrev cX7_notOdds : ByteArray := prog_1_method_29_code
def yX7_notOdds : MethodName := ⟨RX7, "notOdds", "(II)Z"⟩
abbrev cX7_isFull : ByteArray := prog_1_method_30_code
def yX7_isFull : MethodName := ⟨RX7, "isFull", "()Z"⟩
abbrev cX7_sourceAt : ByteArray := prog_1_method_31_code
def yX7_sourceAt : MethodName := ⟨RX7, "sourceAt", "(I)LTailBounds$Source;"⟩
abbrev cX7_placeAt : ByteArray := prog_1_method_32_code
def yX7_placeAt : MethodName := ⟨RX7, "placeAt", "(I)LTailBounds$Fraction;"⟩
abbrev cX7_filledPlaces : ByteArray := prog_1_method_33_code
def yX7_filledPlaces : MethodName := ⟨RX7, "filledPlaces", "()I"⟩
abbrev cX7_together : ByteArray := prog_1_method_34_code
def yX7_together : MethodName := ⟨RX7, "together", "([II)I"⟩
abbrev cX7_ways : ByteArray := prog_1_method_35_code
def yX7_ways : MethodName := ⟨RX7, "ways", "(II)J"⟩
abbrev cX7_isNarrow : ByteArray := prog_1_method_36_code
def yX7_isNarrow : MethodName := ⟨RX7, "isNarrow", "(IIII)Z"⟩
abbrev cX7_makeRounds : ByteArray := prog_1_method_37_code
def yX7_makeRounds : MethodName := ⟨RX7, "makeRounds", "(I[II)LTailBounds$Row;"⟩
abbrev cX7_keep : ByteArray := prog_1_method_38_code
def yX7_keep : MethodName := ⟨RX7, "keep", "(ILTailBounds$Row;)I"⟩
abbrev cX7_settle : ByteArray := prog_1_method_39_code
def yX7_settle : MethodName := ⟨RX7, "settle", "(LTailBounds$Fraction;)I"⟩
abbrev cX7_store : ByteArray := prog_1_method_40_code
def yX7_store : MethodName := ⟨RX7, "store", "(LTailBounds$Fraction;)I"⟩
abbrev cX7_compare : ByteArray := prog_1_method_41_code
def yX7_compare : MethodName := ⟨RX7, "compare", "(LTailBounds$Fraction;LTailBounds$Fraction;)I"⟩
def RX8 : String := "TailBoundsModel"
def TX8 : u_T := fun k => match k with
  | 0 => ("TailBoundsModel", "first", "[J", true)
  | 1 => ("TailBoundsModel", "second", "[J", true)
  | 2 => ("TailBoundsModel", "divisor", "[J", true)
  | 3 => ("TailBoundsModel", "quotient", "[J", true)
  | 4 => ("TailBoundsModel", "rest", "[J", true)
  | 5 => ("TailBoundsModel", "aboves", "[J", true)
  | 6 => ("TailBoundsModel", "belows", "[J", true)
  | 7 => ("TailBoundsModel", "holds", "[Z", true)
  | 8 => ("TailBoundsModel", "above", "[J", true)
  | 9 => ("TailBoundsModel", "below", "[J", true)
  | 10 => ("TailBoundsModel", "leftAbove", "[J", true)
  | 11 => ("TailBoundsModel", "leftBelow", "[J", true)
  | 12 => ("TailBoundsModel", "rightAbove", "[J", true)
  | 13 => ("TailBoundsModel", "rightBelow", "[J", true)
  | 14 => ("TailBoundsModel", "cross", "[J", true)
  | 15 => ("TailBoundsModel", "other", "[J", true)
  | 16 => ("TailBoundsModel", "sources", "I", false)
  | 17 => ("TailBoundsModel", "kinds", "[I", true)
  | 18 => ("TailBoundsModel", "mosts", "[I", true)
  | 19 => ("TailBoundsModel", "counts", "[J", true)
  | 20 => ("TailBoundsModel", "totals", "[J", true)
  | 21 => ("TailBoundsModel", "weights", "I", false)
  | 22 => ("TailBoundsModel", "weight", "[I", true)
  | 23 => ("TailBoundsModel", "x", "[J", true)
  | 24 => ("TailBoundsModel", "y", "[J", true)
  | 25 => ("TailBoundsModel", "z", "[J", true)
  | 26 => ("TailBoundsModel", "sum", "[J", true)
  | 27 => ("TailBoundsModel", "row", "[J", true)
  | 28 => ("TailBoundsModel", "next", "[J", true)
  | 29 => ("TailBoundsModel", "total", "[J", true)
  | 30 => ("TailBoundsModel", "mean", "[J", true)
  | 31 => ("TailBoundsModel", "base", "I", false)
  | 32 => ("TailBoundsModel", "bestAbove", "[J", true)
  | 33 => ("TailBoundsModel", "bestBelow", "[J", true)
  | 34 => ("TailBoundsModel", "coinA", "I", false)
  | 35 => ("TailBoundsModel", "coinB", "I", false)
  | 36 => ("TailBoundsModel", "lineC", "I", false)
  | 37 => ("TailBoundsModel", "lineD", "I", false)
  | _ => ("TailBoundsModel", "lineE", "I", false)
def tyX8 : Nat → FieldType := fun k => match k with
  | 0 => .array .long
  | 1 => .array .long
  | 2 => .array .long
  | 3 => .array .long
  | 4 => .array .long
  | 5 => .array .long
  | 6 => .array .long
  | 7 => .array .boolean
  | 8 => .array .long
  | 9 => .array .long
  | 10 => .array .long
  | 11 => .array .long
  | 12 => .array .long
  | 13 => .array .long
  | 14 => .array .long
  | 15 => .array .long
  | 16 => .int
  | 17 => .array .int
  | 18 => .array .int
  | 19 => .array .long
  | 20 => .array .long
  | 21 => .int
  | 22 => .array .int
  | 23 => .array .long
  | 24 => .array .long
  | 25 => .array .long
  | 26 => .array .long
  | 27 => .array .long
  | 28 => .array .long
  | 29 => .array .long
  | 30 => .array .long
  | 31 => .int
  | 32 => .array .long
  | 33 => .array .long
  | 34 => .int
  | 35 => .int
  | 36 => .int
  | 37 => .int
  | _ => .int
abbrev wsX80 : List Cond := u_ws RX8 TX8 39
theorem nmX8 : ∀ a, a < 39 → ∀ b, b < 39 → a ≠ b → (TX8 a).2.1 ≠ (TX8 b).2.1 := by decide +kernel
theorem tyX8_ok : ∀ k, k < 39 → parseFieldDescriptor (TX8 k).2.2.1 = some (tyX8 k) := by decide +kernel
abbrev cX8_init : ByteArray := prog_10_method_1_code
def yX8_init : MethodName := ⟨RX8, "<init>", "()V"⟩
abbrev cX8_in : ByteArray := prog_10_method_3_code
def yX8_in : MethodName := ⟨RX8, "in", "(III)Z"⟩
abbrev cX8_become : ByteArray := prog_10_method_4_code
def yX8_become : MethodName := ⟨RX8, "become", "([JJ)V"⟩
abbrev cX8_copy : ByteArray := prog_10_method_5_code
def yX8_copy : MethodName := ⟨RX8, "copy", "([J[J)V"⟩
abbrev cX8_load : ByteArray := prog_10_method_6_code
def yX8_load : MethodName := ⟨RX8, "load", "([J[JII)V"⟩
abbrev cX8_store : ByteArray := prog_10_method_7_code
def yX8_store : MethodName := ⟨RX8, "store", "([JII[J)V"⟩
abbrev cX8_top : ByteArray := prog_10_method_8_code
def yX8_top : MethodName := ⟨RX8, "top", "([J)I"⟩
abbrev cX8_bits : ByteArray := prog_10_method_9_code
def yX8_bits : MethodName := ⟨RX8, "bits", "([J)I"⟩
abbrev cX8_compare : ByteArray := prog_10_method_10_code
def yX8_compare : MethodName := ⟨RX8, "compare", "([J[J)I"⟩
abbrev cX8_plus : ByteArray := prog_10_method_11_code
def yX8_plus : MethodName := ⟨RX8, "plus", "([J[J)V"⟩
abbrev cX8_minus : ByteArray := prog_10_method_12_code
def yX8_minus : MethodName := ⟨RX8, "minus", "([J[J)V"⟩
abbrev cX8_times : ByteArray := prog_10_method_13_code
def yX8_times : MethodName := ⟨RX8, "times", "([J[J[J)V"⟩
abbrev cX8_by : ByteArray := prog_10_method_14_code
def yX8_by : MethodName := ⟨RX8, "by", "([JJ)V"⟩
abbrev cX8_half : ByteArray := prog_10_method_15_code
def yX8_half : MethodName := ⟨RX8, "half", "([JI)V"⟩
abbrev cX8_twice : ByteArray := prog_10_method_16_code
def yX8_twice : MethodName := ⟨RX8, "twice", "([JJ)V"⟩
abbrev cX8_bitOf : ByteArray := prog_10_method_17_code
def yX8_bitOf : MethodName := ⟨RX8, "bitOf", "([JI)J"⟩
abbrev cX8_findDivisor : ByteArray := prog_10_method_18_code
def yX8_findDivisor : MethodName := ⟨RX8, "findDivisor", "([J[J)V"⟩
abbrev cX8_divide : ByteArray := prog_10_method_19_code
def yX8_divide : MethodName := ⟨RX8, "divide", "([J[J)V"⟩
abbrev cX8_isPlace : ByteArray := prog_10_method_20_code
def yX8_isPlace : MethodName := ⟨RX8, "isPlace", "(I)Z"⟩
abbrev cX8_lowest : ByteArray := prog_10_method_21_code
def yX8_lowest : MethodName := ⟨RX8, "lowest", "()V"⟩
abbrev cX8_give : ByteArray := prog_10_method_22_code
def yX8_give : MethodName := ⟨RX8, "give", "(I)I"⟩
abbrev cX8_takeLeft : ByteArray := prog_10_method_23_code
def yX8_takeLeft : MethodName := ⟨RX8, "takeLeft", "(I)V"⟩
abbrev cX8_takeRight : ByteArray := prog_10_method_24_code
def yX8_takeRight : MethodName := ⟨RX8, "takeRight", "(I)V"⟩
abbrev cX8_ordered : ByteArray := prog_10_method_25_code
def yX8_ordered : MethodName := ⟨RX8, "ordered", "()I"⟩
abbrev cX8_at : ByteArray := prog_10_method_26_code
def yX8_at : MethodName := ⟨RX8, "at", "(II)I"⟩
abbrev cX8_isSource : ByteArray := prog_10_method_27_code
def yX8_isSource : MethodName := ⟨RX8, "isSource", "(I)Z"⟩
abbrev cX8_weight : ByteArray := prog_10_method_28_code
def yX8_weight : MethodName := ⟨RX8, "weight", "(I)I"⟩
abbrev cX8_wipe : ByteArray := prog_10_method_29_code
def yX8_wipe : MethodName := ⟨RX8, "wipe", "()I"⟩
abbrev cX8_choose : ByteArray := prog_10_method_30_code
def yX8_choose : MethodName := ⟨RX8, "choose", "(II)J"⟩
abbrev cX8_power : ByteArray := prog_10_method_31_code
def yX8_power : MethodName := ⟨RX8, "power", "([JJI)V"⟩
abbrev cX8_comes : ByteArray := prog_10_method_32_code
def yX8_comes : MethodName := ⟨RX8, "comes", "(II)I"⟩
abbrev cX8_coins : ByteArray := prog_10_method_33_code
def yX8_coins : MethodName := ⟨RX8, "coins", "(III)I"⟩
abbrev cX8_drawn : ByteArray := prog_10_method_34_code
def yX8_drawn : MethodName := ⟨RX8, "drawn", "(III)I"⟩
abbrev cX8_sums : ByteArray := prog_10_method_35_code
def yX8_sums : MethodName := ⟨RX8, "sums", "(I)I"⟩
abbrev cX8_both : ByteArray := prog_10_method_36_code
def yX8_both : MethodName := ⟨RX8, "both", "(II)I"⟩
abbrev cX8_held : ByteArray := prog_10_method_37_code
def yX8_held : MethodName := ⟨RX8, "held", "(III)I"⟩
abbrev cX8_source : ByteArray := prog_10_method_38_code
def yX8_source : MethodName := ⟨RX8, "source", "(II)I"⟩
abbrev cX8_counted : ByteArray := prog_10_method_39_code
def yX8_counted : MethodName := ⟨RX8, "counted", "(II)I"⟩
abbrev cX8_set : ByteArray := prog_10_method_40_code
def yX8_set : MethodName := ⟨RX8, "set", "(III)I"⟩
abbrev cX8_weighs : ByteArray := prog_10_method_41_code
def yX8_weighs : MethodName := ⟨RX8, "weighs", "(I)V"⟩
abbrev cX8_mean : ByteArray := prog_10_method_42_code
def yX8_mean : MethodName := ⟨RX8, "mean", "(II)I"⟩
abbrev cX8_away : ByteArray := prog_10_method_43_code
def yX8_away : MethodName := ⟨RX8, "away", "([JI)Z"⟩
abbrev cX8_moments : ByteArray := prog_10_method_44_code
def yX8_moments : MethodName := ⟨RX8, "moments", "(II)V"⟩
abbrev cX8_moment : ByteArray := prog_10_method_45_code
def yX8_moment : MethodName := ⟨RX8, "moment", "(III)I"⟩
abbrev cX8_tail : ByteArray := prog_10_method_46_code
def yX8_tail : MethodName := ⟨RX8, "tail", "(IIII)I"⟩
abbrev cX8_raised : ByteArray := prog_10_method_47_code
def yX8_raised : MethodName := ⟨RX8, "raised", "(III)V"⟩
abbrev cX8_leastRaised : ByteArray := prog_10_method_48_code
def yX8_leastRaised : MethodName := ⟨RX8, "leastRaised", "(II)I"⟩
abbrev cX8_bounded : ByteArray := prog_10_method_49_code
def yX8_bounded : MethodName := ⟨RX8, "bounded", "(III)I"⟩
abbrev cX8_bound : ByteArray := prog_10_method_50_code
def yX8_bound : MethodName := ⟨RX8, "bound", "(IIII)I"⟩
abbrev cX8_base : ByteArray := prog_10_method_51_code
def yX8_base : MethodName := ⟨RX8, "base", "()I"⟩
abbrev cX8_work : ByteArray := prog_10_method_52_code
def yX8_work : MethodName := ⟨RX8, "work", "(IIII)I"⟩
abbrev cX8_order : ByteArray := prog_10_method_53_code
def yX8_order : MethodName := ⟨RX8, "order", "(II)I"⟩
abbrev cX8_asks : ByteArray := prog_10_method_54_code
def yX8_asks : MethodName := ⟨RX8, "asks", "(II)I"⟩
abbrev cX8_limbs : ByteArray := prog_10_method_55_code
def yX8_limbs : MethodName := ⟨RX8, "limbs", "(II)I"⟩
abbrev cX8_limb : ByteArray := prog_10_method_56_code
def yX8_limb : MethodName := ⟨RX8, "limb", "(III)J"⟩
abbrev cX8_digits : ByteArray := prog_10_method_57_code
def yX8_digits : MethodName := ⟨RX8, "digits", "(II)J"⟩
abbrev cX8_free : ByteArray := prog_10_method_58_code
def yX8_free : MethodName := ⟨RX8, "free", "(I)I"⟩
abbrev cX8_coin : ByteArray := prog_10_method_59_code
def yX8_coin : MethodName := ⟨RX8, "coin", "(II)I"⟩
abbrev cX8_isGood : ByteArray := prog_10_method_60_code
def yX8_isGood : MethodName := ⟨RX8, "isGood", "(IIIII)Z"⟩
abbrev cX8_needed : ByteArray := prog_10_method_61_code
def yX8_needed : MethodName := ⟨RX8, "needed", "(IIIII)I"⟩
abbrev cX8_line : ByteArray := prog_10_method_62_code
def yX8_line : MethodName := ⟨RX8, "line", "(III)I"⟩
abbrev cX8_isCrossed : ByteArray := prog_10_method_63_code
def yX8_isCrossed : MethodName := ⟨RX8, "isCrossed", "(II)Z"⟩
abbrev cX8_crossed : ByteArray := prog_10_method_64_code
def yX8_crossed : MethodName := ⟨RX8, "crossed", "(III)I"⟩
abbrev cX8_count : ByteArray := prog_10_method_65_code
def yX8_count : MethodName := ⟨RX8, "count", "(I)I"⟩
def RJ9 : String := "java/lang/Math"
def TJ9 : u_T := fun k => match k with
  | _ => ("", "", "", false)
def tyJ9 : Nat → FieldType := fun k => match k with
  | _ => .int
abbrev wsJ90 : List Cond := u_ws RJ9 TJ9 0
theorem nmJ9 : ∀ a, a < 0 → ∀ b, b < 0 → a ≠ b → (TJ9 a).2.1 ≠ (TJ9 b).2.1 := by decide +kernel
theorem tyJ9_ok : ∀ k, k < 0 → parseFieldDescriptor (TJ9 k).2.2.1 = some (tyJ9 k) := by decide +kernel
abbrev cJ9_abs_0f7a4 : ByteArray := prog_11_method_59_code
def yJ9_abs_0f7a4 : MethodName := ⟨RJ9, "abs", "(I)I"⟩
abbrev cJ9_abs_067f4 : ByteArray := prog_11_method_61_code
def yJ9_abs_067f4 : MethodName := ⟨RJ9, "abs", "(J)J"⟩
abbrev cJ9_max_7cf53 : ByteArray := prog_11_method_65_code
def yJ9_max_7cf53 : MethodName := ⟨RJ9, "max", "(II)I"⟩
abbrev cJ9_min_7cf53 : ByteArray := prog_11_method_69_code
def yJ9_min_7cf53 : MethodName := ⟨RJ9, "min", "(II)I"⟩
def RJ10 : String := "java/lang/System"
def TJ10 : u_T := fun k => match k with
  | _ => ("", "", "", false)
def tyJ10 : Nat → FieldType := fun k => match k with
  | _ => .int
abbrev wsJ100 : List Cond := u_ws RJ10 TJ10 0
theorem nmJ10 : ∀ a, a < 0 → ∀ b, b < 0 → a ≠ b → (TJ10 a).2.1 ≠ (TJ10 b).2.1 := by decide +kernel
theorem tyJ10_ok : ∀ k, k < 0 → parseFieldDescriptor (TJ10 k).2.2.1 = some (tyJ10 k) := by decide +kernel
def RJ7 : String := "java/util/Arrays"
def TJ7 : u_T := fun k => match k with
  | _ => ("", "", "", false)
def tyJ7 : Nat → FieldType := fun k => match k with
  | _ => .int
abbrev wsJ70 : List Cond := u_ws RJ7 TJ7 0
theorem nmJ7 : ∀ a, a < 0 → ∀ b, b < 0 → a ≠ b → (TJ7 a).2.1 ≠ (TJ7 b).2.1 := by decide +kernel
theorem tyJ7_ok : ∀ k, k < 0 → parseFieldDescriptor (TJ7 k).2.2.1 = some (tyJ7 k) := by decide +kernel
abbrev cJ7_fill_53178 : ByteArray := prog_13_method_103_code
def yJ7_fill_53178 : MethodName := ⟨RJ7, "fill", "([II)V"⟩
def RL : String := "TailBoundsLaw"
abbrev cL_law : ByteArray := code
def yL_law : MethodName := ⟨RL, "law", "([I)Z"⟩
abbrev vwCl : List vw_C := [(RX0, TX0, 9), (RX1, TX1, 3), (RX2, TX2, 6), (RX3, TX3, 2), (RX4, TX4, 3), (RX5, TX5, 4), (RX6, TX6, 6), (RX7, TX7, 17), (RX8, TX8, 39)]
def lw_good : List Cond := lw_tbl.filter goodWord
theorem gd_of {w : Cond} (h : w ∈ lw_tbl) (g : goodWord w = true) : w ∈ lw_good := List.mem_filter.mpr ⟨h, g⟩
theorem tb_1 {w : Cond} (i : Nat) (h0 : tables_1_1[i]? = some w) : w ∈ lw_tbl := List.mem_append_right _ (by have h := List.mem_of_getElem? h0; exact List.mem_append_left _ h)
theorem gd_1 {w : Cond} (i : Nat) (h0 : tables_1_1[i]? = some w) (g : goodWord w = true) : w ∈ lw_good := gd_of (tb_1 i h0) g
theorem tb_2 {w : Cond} (i : Nat) (h0 : tables_1_2[i]? = some w) : w ∈ lw_tbl := List.mem_append_right _ (by have h := List.mem_of_getElem? h0; exact List.mem_append_right _ (List.mem_append_left _ h))
theorem gd_2 {w : Cond} (i : Nat) (h0 : tables_1_2[i]? = some w) (g : goodWord w = true) : w ∈ lw_good := gd_of (tb_2 i h0) g
theorem tb_3 {w : Cond} (i : Nat) (h0 : tables_1_3[i]? = some w) : w ∈ lw_tbl := List.mem_append_right _ (by have h := List.mem_of_getElem? h0; exact List.mem_append_right _ (List.mem_append_right _ (List.mem_append_left _ h)))
theorem gd_3 {w : Cond} (i : Nat) (h0 : tables_1_3[i]? = some w) (g : goodWord w = true) : w ∈ lw_good := gd_of (tb_3 i h0) g
theorem tb_4 {w : Cond} (i : Nat) (h0 : tables_1_4[i]? = some w) : w ∈ lw_tbl := List.mem_append_right _ (by have h := List.mem_of_getElem? h0; exact List.mem_append_right _ (List.mem_append_right _ (List.mem_append_right _ (List.mem_append_left _ h))))
theorem gd_4 {w : Cond} (i : Nat) (h0 : tables_1_4[i]? = some w) (g : goodWord w = true) : w ∈ lw_good := gd_of (tb_4 i h0) g
theorem tb_5 {w : Cond} (i : Nat) (h0 : tables_1_5[i]? = some w) : w ∈ lw_tbl := List.mem_append_right _ (by have h := List.mem_of_getElem? h0; exact List.mem_append_right _ (List.mem_append_right _ (List.mem_append_right _ (List.mem_append_right _ h))))
theorem gd_5 {w : Cond} (i : Nat) (h0 : tables_1_5[i]? = some w) (g : goodWord w = true) : w ∈ lw_good := gd_of (tb_5 i h0) g
theorem gd_s {w : Cond} (i : Nat) (h0 : (k2_sels lw_privs)[i]? = some w) (g : goodWord w = true) : w ∈ lw_good := gd_of (List.mem_append_left _ (List.mem_of_getElem? h0)) g
end
section

/-! an abstract heap: a cell is an array (its component type, length, contents) or an object (its class's number, its fields) -/
abbrev AC : Type := (FieldType × vp_A) ⊕ (Nat × List Value)
abbrev Hp : Type := Nat → Option AC
def hup (h : Hp) (a : Nat) (c : AC) : Hp := fun x => if x = a then some c else h x
theorem hup_self (h : Hp) (a : Nat) (c : AC) : hup h a c a = some c := by simp [hup]
theorem hup_ne {h : Hp} {a b : Nat} {c : AC} (n : b ≠ a) : hup h a c b = h b := by simp [hup, n]
theorem hup_hup (h : Hp) (a : Nat) (c d : AC) : hup (hup h a c) a d = hup h a d := by funext x; simp only [hup]; split <;> rfl
theorem hup_comm {h : Hp} {a b : Nat} {c d : AC} (n : a ≠ b) : hup (hup h a c) b d = hup (hup h b d) a c := by
  funext x; simp only [hup]
  by_cases h1 : x = a
  · subst h1; simp [n]
  · by_cases h2 : x = b <;> simp [h1]
theorem hup_id {h : Hp} {a : Nat} {c : AC} (e : h a = some c) : hup h a c = h := by
  funext x; simp only [hup]; split
  · rename_i q; rw [q, e]
  · rfl
/-- a method: its name, bytes, locals, answer, and the frames and locals of its room -/
abbrev MI : Type := MethodName × ByteArray × Nat × Option FieldType × Nat × Nat
abbrev aA (B : Nat) : Nat → Prop := fun q => B ≤ q
def aV (ws : va_W) (tys : List (ClassId × FieldType)) (a : Nat) (c : AC) : Prop := match c with
  | .inl x => ∃ (q0 t0 : Nat) (cA : ClassId), ws[q0]? = some (a, .inl (cA, x.2)) ∧ tys[t0]? = some (cA, x.1)
  | .inr o => ∃ q0 : Nat, ws[q0]? = some (a, .inr o)
def aR (D : va_G) (B n : Nat) (h : Hp) (s : State) (H : Heap) : Prop := H.size = n ∧ ∃ (ws : va_W) (tys : List (ClassId × FieldType)), va_K D vwCl tys s ∧ va_P D vwCl ws H ∧ va_D (aA B) ws ∧ ∀ (a : Nat) (c : AC), h a = some c → aV ws tys a c
def aX (s : State) : Prop := va_Nw (.methodLinkNest "TailBounds" 44 ⟨"TailBounds$Divider", "<init>", "()V"⟩ "TailBounds") s ∧ va_Nw (.methodLinkNest "TailBounds" 51 ⟨"TailBounds$Measurer", "<init>", "()V"⟩ "TailBounds") s ∧ va_Nw (.methodLinkNest "TailBounds" 58 ⟨"TailBounds$Tosser", "<init>", "()V"⟩ "TailBounds") s ∧ va_AO "TailBounds$Source" s ∧ va_AO "TailBounds$Fraction" s
theorem aX.warm {s U : State} (hW : s.WarmedH U.vm) (h : aX s) : aX U := ⟨h.1.warmM hW, h.2.1.warmM hW, h.2.2.1.warmM hW, h.2.2.2.1.moved hW.alike, h.2.2.2.2.moved hW.alike⟩
theorem aX.same {s U : State} (e : s.vm = U.vm) (h : aX s) : aX U := ⟨h.1.same rfl e, h.2.1.same rfl e, h.2.2.1.same rfl e, h.2.2.2.1.moved (e ▸ Vm.Alike.refl s.vm), h.2.2.2.2.moved (e ▸ Vm.Alike.refl s.vm)⟩
theorem aR.moved {D : va_G} {B n : Nat} {h : Hp} {u U : State} {H : Heap} (hvm : u.vm.Alike U.vm) (r : aR D B n h u H) : aR D B n h U H := by
  obtain ⟨z, ws, tys, hK, r⟩ := r
  exact ⟨z, ws, tys, va_K.moved hvm hK, r⟩
def aL (ls : Array Slot) (nL : Nat) (lv : List (Option Value)) : Prop := ls.size = nL ∧ lv_wf ls ∧ ∀ (i : Nat) (v : Value), lv[i]? = some (some v) → ls[i]? = some (.val v)
/-- room for cells and slots; what is known of the start beside; the end -/
abbrev AG : Type := (Nat × Nat) × (Nat → Array Value → State → Prop) × (va_G → Nat → List Frame → Array Value → State → State → Prop)
def aC (M : MI) (G : AG) (B : Nat) (p : Program) (s : State) (m : MethodId) (args : Array Value) (meth : Method) (c : Code) : Prop :=
  p.tables.exec = Jvm.exec ∧ c.code = M.2.1 ∧ meth.sig.returnType = M.2.2.2.1 ∧ c.maxLocals = M.2.2.1 ∧ s.vm.findClass M.1.cls = some m.cls ∧ (∀ w ∈ lw_good, w.before args s = true) ∧ meth.locks = false ∧ meth.name = M.1.name ∧ B ≤ s.heap.size ∧ aX s ∧ G.2.1 B args s
def AW (M : MI) (G : AG) (pc : Nat) (lv : List (Option Value)) (st : List Value) (kc ks n : Nat) (h : Hp) : Prop :=
  ∀ (l : Launch) (D : va_G) (B : Nat) (p : Program) (e : Env) (s : State) (m : MethodId) (args : Array Value) (below : List Frame) (meth : Method) (c : Code) (H : Heap) (locs : List Loc) (ls : Array Slot),
    aC M G B p s m args meth c → aL ls M.2.2.1 lv → aR D B n h s H → va_S (aA B) s.heap H locs →
    W p l e { frames := M.2.2.2.2.1, cells := G.1.1, slots := G.1.2, locals := M.2.2.2.2.2 } s m args below meth c H locs kc ks (G.2.2 D B below args s) (F0 m pc ls st)
def aQ (D : va_G) (B : Nat) (Q : Option Value → Nat → Hp → Prop) : Array Value → State → Outcome → State → Prop := fun _ st oc t => (∃ (r : Option Value) (n : Nat) (h : Hp), oc = .returned r ∧ Q r n h ∧ aR D B n h t t.heap) ∧ va_F (aA B) st t
def aP (D : va_G) (B n : Nat) (h : Hp) : State → Prop := fun U => B ≤ U.heap.size ∧ aX U ∧ aR D B n h U U.heap
def gq (mc ms : Nat) (Q : Option Value → Nat → Hp → Prop) : AG := ((mc, ms), (fun _ _ _ => True), (fun D B below args s => MQ below (aQ D B Q) args s mc ms (aA B)))
/-- a method's contract: called with these arguments in this heap it returns, and Q of its answer and the heap behind it -/
def CT (M : MI) (mc ms n : Nat) (h : Hp) (av : List Value) (Q : Option Value → Nat → Hp → Prop) : Prop :=
  ∀ (l : Launch) (D : va_G) (B : Nat), Met l M.1 (Cond.code M.1 M.2.1 M.2.2.1 M.2.2.2.1 :: lw_good) { frames := M.2.2.2.2.1, cells := mc, slots := ms, locals := M.2.2.2.2.2 } (va_Pc av (aP D B n h)) (aQ D B Q) mc ms (aA B)
theorem AW.widen {M : MI} {G : AG} {pc : Nat} {lv : List (Option Value)} {st : List Value} {kc ks n : Nat} {h : Hp} {k2 s2 : Nat} (h1 : kc ≤ k2) (h2 : ks ≤ s2) (k : AW M G pc lv st k2 s2 n h) : AW M G pc lv st kc ks n h :=
  fun l D B p e s m args below meth c H locs ls C L R S => W.widen h1 h2 (k l D B p e s m args below meth c H locs ls C L R S)
theorem aL.fewer {ls : Array Slot} {nL : Nat} {lv lv' : List (Option Value)} (h : aL ls nL lv) (hs : ∀ (i : Nat) (v : Value), lv'[i]? = some (some v) → lv[i]? = some (some v)) : aL ls nL lv' := ⟨h.1, h.2.1, fun i v q => h.2.2 i v (hs i v q)⟩
theorem AW.fewer {M : MI} {G : AG} {pc : Nat} {lv lv' : List (Option Value)} {st : List Value} {kc ks n : Nat} {h : Hp} (hs : ∀ (i : Nat) (v : Value), lv'[i]? = some (some v) → lv[i]? = some (some v)) (k : AW M G pc lv' st kc ks n h) : AW M G pc lv st kc ks n h :=
  fun l D B p e s m args below meth c H locs ls C L R S => k l D B p e s m args below meth c H locs ls C (L.fewer hs) R S
/-- lv' is lv with some places forgotten -/
def lvle : List (Option Value) → List (Option Value) → Prop
  | [], _ => True
  | none :: t, _ :: u => lvle t u
  | some a :: t, some b :: u => a = b ∧ lvle t u
  | none :: t, [] => lvle t []
  | some _ :: _, _ => False
theorem lvle_get : ∀ (a b : List (Option Value)), lvle a b → ∀ (i : Nat) (v : Value), a[i]? = some (some v) → b[i]? = some (some v)
  | [], _, _, i, v, q => by simp at q
  | none :: t, [], h, i, v, q => by
    cases i with
    | zero => simp at q
    | succ i => have := lvle_get t [] h i v (by simpa using q); simp at this
  | none :: t, x :: u, h, i, v, q => by
    cases i with
    | zero => simp at q
    | succ i => simpa using lvle_get t u h i v (by simpa using q)
  | some a :: t, some b :: u, h, i, v, q => by
    obtain ⟨rfl, h⟩ := h
    cases i with
    | zero => simpa using q
    | succ i => simpa using lvle_get t u h i v (by simpa using q)
  | some _ :: _, none :: _, h, _, _, _ => h.elim
  | some _ :: _, [], h, _, _, _ => h.elim
theorem AW.forget {M : MI} {G : AG} {pc : Nat} {lv : List (Option Value)} (lv' : List (Option Value)) {st : List Value} {kc ks n : Nat} {h : Hp} (hs : lvle lv' lv) (k : AW M G pc lv' st kc ks n h) : AW M G pc lv st kc ks n h := AW.fewer (lvle_get lv' lv hs) k
def enu : Nat → List (Option Value) → List (Nat × Value)
  | _, [] => []
  | k, none :: t => enu (k + 1) t
  | k, some v :: t => (k, v) :: enu (k + 1) t
theorem enu_mem : ∀ (lv : List (Option Value)) (k : Nat) (q : Nat × Value), q ∈ enu k lv → ∃ i, q.1 = k + i ∧ lv[i]? = some (some q.2)
  | [], _, _, h => by simp [enu] at h
  | none :: t, k, q, h => by
    obtain ⟨i, h1, h2⟩ := enu_mem t (k + 1) q h
    exact ⟨i + 1, by omega, by simpa using h2⟩
  | some v :: t, k, q, h => by
    rcases List.mem_cons.mp h with rfl | h
    · exact ⟨0, by simp, by simp⟩
    · obtain ⟨i, h1, h2⟩ := enu_mem t (k + 1) q h
      exact ⟨i + 1, by omega, by simpa using h2⟩
theorem enu_in : ∀ (lv : List (Option Value)) (k i : Nat) (v : Value), lv[i]? = some (some v) → (k + i, v) ∈ enu k lv
  | [], _, _, _, h => by simp at h
  | none :: t, k, i, v, h => by
    cases i with
    | zero => simp at h
    | succ i => have := enu_in t (k + 1) i v (by simpa using h); rw [show k + (i + 1) = k + 1 + i by omega]; simpa [enu] using this
  | some w :: t, k, i, v, h => by
    cases i with
    | zero => simp at h; simp [enu, h]
    | succ i => have := enu_in t (k + 1) i v (by simpa using h); rw [show k + (i + 1) = k + 1 + i by omega]; simp [enu]; exact Or.inr this
theorem aL.has {ls : Array Slot} {nL : Nat} {lv : List (Option Value)} (h : aL ls nL lv) : lv_has ls nL (enu 0 lv) := ⟨h.1, h.2.1, fun q hq => by
  obtain ⟨i, h1, h2⟩ := enu_mem lv 0 q hq
  rw [h1, Nat.zero_add]
  exact h.2.2 i q.2 h2⟩
/-- what a store may leave -/
def aSt (lv lv' : List (Option Value)) (i : Nat) (v : Value) (two : Bool) : Prop := ∀ (j : Nat) (w : Value), lv'[j]? = some (some w) → (j = i ∧ w = v) ∨ (lv[j]? = some (some w) ∧ j ≠ i ∧ ¬ (j + 1 = i ∧ w.category = 2) ∧ (two = true → j ≠ i + 1))
theorem aL.st1 {ls ls' : Array Slot} {nL i : Nat} {v : Value} {lv lv' : List (Option Value)} (h : lv_has ls' nL ((i, v) :: (enu 0 lv).filter (fun q => !(q.1 == i) && !(q.1 + 1 == i && q.2.category == 2)))) (hs : aSt lv lv' i v false) : aL ls' nL lv' := ⟨h.1, h.2.1, fun j w q => by
  rcases hs j w q with ⟨rfl, rfl⟩ | ⟨h1, h2, h3, -⟩
  · exact h.2.2 _ List.mem_cons_self
  · refine h.2.2 (j, w) (List.mem_cons_of_mem _ (List.mem_filter.mpr ⟨by simpa using enu_in lv 0 j w h1, ?_⟩))
    simp [h2]; omega⟩
theorem aL.st2 {ls ls' : Array Slot} {nL i : Nat} {v : Value} {lv lv' : List (Option Value)} (h : lv_has ls' nL ((i, v) :: (enu 0 lv).filter (fun q => !(q.1 == i) && (!(q.1 == i + 1) && !(q.1 + 1 == i && q.2.category == 2))))) (hs : aSt lv lv' i v true) : aL ls' nL lv' := ⟨h.1, h.2.1, fun j w q => by
  rcases hs j w q with ⟨rfl, rfl⟩ | ⟨h1, h2, h3, h4⟩
  · exact h.2.2 _ List.mem_cons_self
  · refine h.2.2 (j, w) (List.mem_cons_of_mem _ (List.mem_filter.mpr ⟨by simpa using enu_in lv 0 j w h1, ?_⟩))
    simp [h2, h4 rfl]; omega⟩
def nl2 (o : Option Value) : Bool := match o with
  | some v => !(v.category == 2)
  | none => true
theorem aSt_1 : ∀ (pre : List (Option Value)) (o : Option Value) (r : List (Option Value)) (v : Value), (∀ x, pre.getLast? = some x → nl2 x = true) → aSt (pre ++ o :: r) (pre ++ some v :: r) pre.length v false := by
  intro pre o r v hl j w q
  by_cases hj : j < pre.length
  · rw [List.getElem?_append_left hj] at q
    refine Or.inr ⟨by rw [List.getElem?_append_left hj]; exact q, by omega, ?_, by simp⟩
    rintro ⟨e, c⟩
    have : pre.getLast? = some (some w) := by rw [List.getLast?_eq_getElem?, ← e]; simpa using q
    have := hl _ this
    simp [nl2, c] at this
  · by_cases hj2 : j = pre.length
    · subst hj2
      simp at q
      exact Or.inl ⟨rfl, q.symm⟩
    · obtain ⟨d, rfl⟩ : ∃ d, j = pre.length + (d + 1) := ⟨j - pre.length - 1, by omega⟩
      rw [List.getElem?_append_right (by omega)] at q
      refine Or.inr ⟨by rw [List.getElem?_append_right (by omega)]; simpa using q, by omega, by omega, by simp⟩
theorem aSt_2 : ∀ (pre : List (Option Value)) (o o2 : Option Value) (r : List (Option Value)) (v : Value), (∀ x, pre.getLast? = some x → nl2 x = true) → aSt (pre ++ o :: o2 :: r) (pre ++ some v :: none :: r) pre.length v true := by
  intro pre o o2 r v hl j w q
  by_cases hj : j < pre.length
  · rw [List.getElem?_append_left hj] at q
    refine Or.inr ⟨by rw [List.getElem?_append_left hj]; exact q, by omega, ?_, by omega⟩
    rintro ⟨e, c⟩
    have : pre.getLast? = some (some w) := by rw [List.getLast?_eq_getElem?, ← e]; simpa using q
    have := hl _ this
    simp [nl2, c] at this
  · by_cases hj2 : j = pre.length
    · subst hj2
      simp at q
      exact Or.inl ⟨rfl, q.symm⟩
    · obtain ⟨d, rfl⟩ : ∃ d, j = pre.length + (d + 1) := ⟨j - pre.length - 1, by omega⟩
      rw [List.getElem?_append_right (by omega)] at q
      have q' : (none :: r)[d]? = some (some w) := by simpa using q
      cases d with
      | zero => simp at q'
      | succ d =>
        refine Or.inr ⟨by rw [List.getElem?_append_right (by omega)]; simpa using q', by omega, by omega, by omega⟩
theorem aw_iconst {M : MI} {G : AG} {pc kc ks n : Nat} {lv : List (Option Value)} {h : Hp} {rest : List Value} {n0 : Int} {v : Int32} (hdg : decode M.2.1 pc = .ok (.iconst n0, 1)) (hv : Int32.ofInt n0 = v)
    (k :  AW M G (pc + 1) lv (.int v :: rest) kc ks n h) :  AW M G pc lv (rest) kc ks n h := fun l D B p e s m args below meth c H locs ls C L R S => lv_iconst C.1 C.2.1 hdg hv (k l D B p e s m args below meth c H locs ls C L R S)
theorem aw_bipush {M : MI} {G : AG} {pc kc ks n : Nat} {lv : List (Option Value)} {h : Hp} {rest : List Value} {n0 : Int} {v : Int32} (hdg : decode M.2.1 pc = .ok (.bipush n0, 2)) (hv : (Int8.ofInt n0).toInt32 = v)
    (k :  AW M G (pc + 2) lv (.int v :: rest) kc ks n h) :  AW M G pc lv (rest) kc ks n h := fun l D B p e s m args below meth c H locs ls C L R S => lv_bipush C.1 C.2.1 hdg hv (k l D B p e s m args below meth c H locs ls C L R S)
theorem aw_sipush {M : MI} {G : AG} {pc kc ks n : Nat} {lv : List (Option Value)} {h : Hp} {rest : List Value} {n0 : Int} {v : Int32} (hdg : decode M.2.1 pc = .ok (.sipush n0, 3)) (hv : (Int16.ofInt n0).toInt32 = v)
    (k :  AW M G (pc + 3) lv (.int v :: rest) kc ks n h) :  AW M G pc lv (rest) kc ks n h := fun l D B p e s m args below meth c H locs ls C L R S => lv_sipush C.1 C.2.1 hdg hv (k l D B p e s m args below meth c H locs ls C L R S)
theorem aw_lconst {M : MI} {G : AG} {pc kc ks n : Nat} {lv : List (Option Value)} {h : Hp} {rest : List Value} {n0 : Fin 2} {v : Int64} (hdg : decode M.2.1 pc = .ok (.lconst n0, 1)) (hv : Int64.ofNat (n0 : Nat) = v)
    (k :  AW M G (pc + 1) lv (.long v :: rest) kc ks n h) :  AW M G pc lv (rest) kc ks n h := fun l D B p e s m args below meth c H locs ls C L R S => lv_lconst C.1 C.2.1 hdg hv (k l D B p e s m args below meth c H locs ls C L R S)
theorem aw_iadd {M : MI} {G : AG} {pc kc ks n : Nat} {lv : List (Option Value)} {h : Hp} {rest : List Value} {x y : Int32} (hdg : decode M.2.1 pc = .ok (.iadd, 1)) 
    (k :  AW M G (pc + 1) lv (.int (x + y) :: rest) kc ks n h) :  AW M G pc lv (.int y :: .int x :: rest) kc ks n h := fun l D B p e s m args below meth c H locs ls C L R S => lv_iadd C.1 C.2.1 hdg (k l D B p e s m args below meth c H locs ls C L R S)
theorem aw_isub {M : MI} {G : AG} {pc kc ks n : Nat} {lv : List (Option Value)} {h : Hp} {rest : List Value} {x y : Int32} (hdg : decode M.2.1 pc = .ok (.isub, 1)) 
    (k :  AW M G (pc + 1) lv (.int (x - y) :: rest) kc ks n h) :  AW M G pc lv (.int y :: .int x :: rest) kc ks n h := fun l D B p e s m args below meth c H locs ls C L R S => lv_isub C.1 C.2.1 hdg (k l D B p e s m args below meth c H locs ls C L R S)
theorem aw_imul {M : MI} {G : AG} {pc kc ks n : Nat} {lv : List (Option Value)} {h : Hp} {rest : List Value} {x y : Int32} (hdg : decode M.2.1 pc = .ok (.imul, 1)) 
    (k :  AW M G (pc + 1) lv (.int (x * y) :: rest) kc ks n h) :  AW M G pc lv (.int y :: .int x :: rest) kc ks n h := fun l D B p e s m args below meth c H locs ls C L R S => lv_imul C.1 C.2.1 hdg (k l D B p e s m args below meth c H locs ls C L R S)
theorem aw_iand {M : MI} {G : AG} {pc kc ks n : Nat} {lv : List (Option Value)} {h : Hp} {rest : List Value} {x y : Int32} (hdg : decode M.2.1 pc = .ok (.iand, 1)) 
    (k :  AW M G (pc + 1) lv (.int (x &&& y) :: rest) kc ks n h) :  AW M G pc lv (.int y :: .int x :: rest) kc ks n h := fun l D B p e s m args below meth c H locs ls C L R S => lv_iand C.1 C.2.1 hdg (k l D B p e s m args below meth c H locs ls C L R S)
theorem aw_idiv {M : MI} {G : AG} {pc kc ks n : Nat} {lv : List (Option Value)} {h : Hp} {rest : List Value} {x y : Int32} (hdg : decode M.2.1 pc = .ok (.idiv, 1)) (hne : ¬ y = 0)
    (k :  AW M G (pc + 1) lv (.int (x / y) :: rest) kc ks n h) :  AW M G pc lv (.int y :: .int x :: rest) kc ks n h := fun l D B p e s m args below meth c H locs ls C L R S => lv_idiv C.1 C.2.1 hdg hne (k l D B p e s m args below meth c H locs ls C L R S)
theorem aw_irem {M : MI} {G : AG} {pc kc ks n : Nat} {lv : List (Option Value)} {h : Hp} {rest : List Value} {x y : Int32} (hdg : decode M.2.1 pc = .ok (.irem, 1)) (hne : ¬ y = 0)
    (k :  AW M G (pc + 1) lv (.int (x - x / y * y) :: rest) kc ks n h) :  AW M G pc lv (.int y :: .int x :: rest) kc ks n h := fun l D B p e s m args below meth c H locs ls C L R S => lv_irem C.1 C.2.1 hdg hne (k l D B p e s m args below meth c H locs ls C L R S)
theorem aw_ineg {M : MI} {G : AG} {pc kc ks n : Nat} {lv : List (Option Value)} {h : Hp} {rest : List Value} {x : Int32} (hdg : decode M.2.1 pc = .ok (.ineg, 1)) 
    (k :  AW M G (pc + 1) lv (.int (-x) :: rest) kc ks n h) :  AW M G pc lv (.int x :: rest) kc ks n h := fun l D B p e s m args below meth c H locs ls C L R S => lv_ineg C.1 C.2.1 hdg (k l D B p e s m args below meth c H locs ls C L R S)
theorem aw_ladd {M : MI} {G : AG} {pc kc ks n : Nat} {lv : List (Option Value)} {h : Hp} {rest : List Value} {x y : Int64} (hdg : decode M.2.1 pc = .ok (.ladd, 1)) 
    (k :  AW M G (pc + 1) lv (.long (x + y) :: rest) kc ks n h) :  AW M G pc lv (.long y :: .long x :: rest) kc ks n h := fun l D B p e s m args below meth c H locs ls C L R S => lv_ladd C.1 C.2.1 hdg (k l D B p e s m args below meth c H locs ls C L R S)
theorem aw_lsub {M : MI} {G : AG} {pc kc ks n : Nat} {lv : List (Option Value)} {h : Hp} {rest : List Value} {x y : Int64} (hdg : decode M.2.1 pc = .ok (.lsub, 1)) 
    (k :  AW M G (pc + 1) lv (.long (x - y) :: rest) kc ks n h) :  AW M G pc lv (.long y :: .long x :: rest) kc ks n h := fun l D B p e s m args below meth c H locs ls C L R S => lv_lsub C.1 C.2.1 hdg (k l D B p e s m args below meth c H locs ls C L R S)
theorem aw_lmul {M : MI} {G : AG} {pc kc ks n : Nat} {lv : List (Option Value)} {h : Hp} {rest : List Value} {x y : Int64} (hdg : decode M.2.1 pc = .ok (.lmul, 1)) 
    (k :  AW M G (pc + 1) lv (.long (x * y) :: rest) kc ks n h) :  AW M G pc lv (.long y :: .long x :: rest) kc ks n h := fun l D B p e s m args below meth c H locs ls C L R S => lv_lmul C.1 C.2.1 hdg (k l D B p e s m args below meth c H locs ls C L R S)
theorem aw_land {M : MI} {G : AG} {pc kc ks n : Nat} {lv : List (Option Value)} {h : Hp} {rest : List Value} {x y : Int64} (hdg : decode M.2.1 pc = .ok (.land, 1)) 
    (k :  AW M G (pc + 1) lv (.long (x &&& y) :: rest) kc ks n h) :  AW M G pc lv (.long y :: .long x :: rest) kc ks n h := fun l D B p e s m args below meth c H locs ls C L R S => lv_land C.1 C.2.1 hdg (k l D B p e s m args below meth c H locs ls C L R S)
theorem aw_lor {M : MI} {G : AG} {pc kc ks n : Nat} {lv : List (Option Value)} {h : Hp} {rest : List Value} {x y : Int64} (hdg : decode M.2.1 pc = .ok (.lor, 1)) 
    (k :  AW M G (pc + 1) lv (.long (x ||| y) :: rest) kc ks n h) :  AW M G pc lv (.long y :: .long x :: rest) kc ks n h := fun l D B p e s m args below meth c H locs ls C L R S => lv_lor C.1 C.2.1 hdg (k l D B p e s m args below meth c H locs ls C L R S)
theorem aw_ldiv {M : MI} {G : AG} {pc kc ks n : Nat} {lv : List (Option Value)} {h : Hp} {rest : List Value} {x y : Int64} (hdg : decode M.2.1 pc = .ok (.ldiv, 1)) (hne : ¬ y = 0)
    (k :  AW M G (pc + 1) lv (.long (x / y) :: rest) kc ks n h) :  AW M G pc lv (.long y :: .long x :: rest) kc ks n h := fun l D B p e s m args below meth c H locs ls C L R S => lv_ldiv C.1 C.2.1 hdg hne (k l D B p e s m args below meth c H locs ls C L R S)
theorem aw_lrem {M : MI} {G : AG} {pc kc ks n : Nat} {lv : List (Option Value)} {h : Hp} {rest : List Value} {x y : Int64} (hdg : decode M.2.1 pc = .ok (.lrem, 1)) (hne : ¬ y = 0)
    (k :  AW M G (pc + 1) lv (.long (x - x / y * y) :: rest) kc ks n h) :  AW M G pc lv (.long y :: .long x :: rest) kc ks n h := fun l D B p e s m args below meth c H locs ls C L R S => lv_lrem C.1 C.2.1 hdg hne (k l D B p e s m args below meth c H locs ls C L R S)
theorem aw_lneg {M : MI} {G : AG} {pc kc ks n : Nat} {lv : List (Option Value)} {h : Hp} {rest : List Value} {x : Int64} (hdg : decode M.2.1 pc = .ok (.lneg, 1)) 
    (k :  AW M G (pc + 1) lv (.long (-x) :: rest) kc ks n h) :  AW M G pc lv (.long x :: rest) kc ks n h := fun l D B p e s m args below meth c H locs ls C L R S => lv_lneg C.1 C.2.1 hdg (k l D B p e s m args below meth c H locs ls C L R S)
theorem aw_ishl {M : MI} {G : AG} {pc kc ks n : Nat} {lv : List (Option Value)} {h : Hp} {rest : List Value} {x y : Int32} (hdg : decode M.2.1 pc = .ok (.ishl, 1)) 
    (k :  AW M G (pc + 1) lv (.int (x <<< (y &&& 31)) :: rest) kc ks n h) :  AW M G pc lv (.int y :: .int x :: rest) kc ks n h := fun l D B p e s m args below meth c H locs ls C L R S => lv_ishl C.1 C.2.1 hdg (k l D B p e s m args below meth c H locs ls C L R S)
theorem aw_ishr {M : MI} {G : AG} {pc kc ks n : Nat} {lv : List (Option Value)} {h : Hp} {rest : List Value} {x y : Int32} (hdg : decode M.2.1 pc = .ok (.ishr, 1)) 
    (k :  AW M G (pc + 1) lv (.int (x >>> (y &&& 31)) :: rest) kc ks n h) :  AW M G pc lv (.int y :: .int x :: rest) kc ks n h := fun l D B p e s m args below meth c H locs ls C L R S => lv_ishr C.1 C.2.1 hdg (k l D B p e s m args below meth c H locs ls C L R S)
theorem aw_i2l {M : MI} {G : AG} {pc kc ks n : Nat} {lv : List (Option Value)} {h : Hp} {rest : List Value} {x : Int32} {v : Int64} (hdg : decode M.2.1 pc = .ok (.i2l, 1)) (hv : x.toInt64 = v)
    (k :  AW M G (pc + 1) lv (.long v :: rest) kc ks n h) :  AW M G pc lv (.int x :: rest) kc ks n h := fun l D B p e s m args below meth c H locs ls C L R S => lv_i2l C.1 C.2.1 hdg hv (k l D B p e s m args below meth c H locs ls C L R S)
theorem aw_l2i {M : MI} {G : AG} {pc kc ks n : Nat} {lv : List (Option Value)} {h : Hp} {rest : List Value} {x : Int64} {v : Int32} (hdg : decode M.2.1 pc = .ok (.l2i, 1)) (hv : x.toInt32 = v)
    (k :  AW M G (pc + 1) lv (.int v :: rest) kc ks n h) :  AW M G pc lv (.long x :: rest) kc ks n h := fun l D B p e s m args below meth c H locs ls C L R S => lv_l2i C.1 C.2.1 hdg hv (k l D B p e s m args below meth c H locs ls C L R S)
theorem aw_lushr {M : MI} {G : AG} {pc kc ks n : Nat} {lv : List (Option Value)} {h : Hp} {rest : List Value} {x v : Int64} {y : Int32} (hdg : decode M.2.1 pc = .ok (.lushr, 1)) (hv : (x.toUInt64 >>> (y.toInt64.toUInt64 &&& Int64.toUInt64 63)).toInt64 = v)
    (k :  AW M G (pc + 1) lv (.long v :: rest) kc ks n h) :  AW M G pc lv (.int y :: .long x :: rest) kc ks n h := fun l D B p e s m args below meth c H locs ls C L R S => lv_lushr C.1 C.2.1 hdg hv (k l D B p e s m args below meth c H locs ls C L R S)
theorem aw_lshl {M : MI} {G : AG} {pc kc ks n : Nat} {lv : List (Option Value)} {h : Hp} {rest : List Value} {x v : Int64} {y : Int32} (hdg : decode M.2.1 pc = .ok (.lshl, 1)) (hv : x <<< (y.toInt64 &&& 63) = v)
    (k :  AW M G (pc + 1) lv (.long v :: rest) kc ks n h) :  AW M G pc lv (.int y :: .long x :: rest) kc ks n h := fun l D B p e s m args below meth c H locs ls C L R S => lv_lshl C.1 C.2.1 hdg hv (k l D B p e s m args below meth c H locs ls C L R S)
theorem aw_lshr {M : MI} {G : AG} {pc kc ks n : Nat} {lv : List (Option Value)} {h : Hp} {rest : List Value} {x v : Int64} {y : Int32} (hdg : decode M.2.1 pc = .ok (.lshr, 1)) (hv : x >>> (y.toInt64 &&& 63) = v)
    (k :  AW M G (pc + 1) lv (.long v :: rest) kc ks n h) :  AW M G pc lv (.int y :: .long x :: rest) kc ks n h := fun l D B p e s m args below meth c H locs ls C L R S => lv_lshr C.1 C.2.1 hdg hv (k l D B p e s m args below meth c H locs ls C L R S)
theorem aw_dup {M : MI} {G : AG} {pc kc ks n : Nat} {lv : List (Option Value)} {h : Hp} {rest : List Value} {va : Value} (hdg : decode M.2.1 pc = .ok (.dup, 1)) (hva : va.category = 1)
    (k :  AW M G (pc + 1) lv (va :: va :: rest) kc ks n h) :  AW M G pc lv (va :: rest) kc ks n h := fun l D B p e s m args below meth c H locs ls C L R S => lv_dup C.1 C.2.1 hdg hva (k l D B p e s m args below meth c H locs ls C L R S)
theorem aw_pop {M : MI} {G : AG} {pc kc ks n : Nat} {lv : List (Option Value)} {h : Hp} {rest : List Value} {va : Value} (hdg : decode M.2.1 pc = .ok (.pop, 1)) (hva : va.category = 1)
    (k :  AW M G (pc + 1) lv (rest) kc ks n h) :  AW M G pc lv (va :: rest) kc ks n h := fun l D B p e s m args below meth c H locs ls C L R S => lv_pop C.1 C.2.1 hdg hva (k l D B p e s m args below meth c H locs ls C L R S)
theorem aw_dup2_11 {M : MI} {G : AG} {pc kc ks n : Nat} {lv : List (Option Value)} {h : Hp} {rest : List Value} {va vb : Value} (hdg : decode M.2.1 pc = .ok (.dup2, 1)) (hva : va.category = 1) (hvb : vb.category = 1)
    (k :  AW M G (pc + 1) lv (va :: vb :: va :: vb :: rest) kc ks n h) :  AW M G pc lv (va :: vb :: rest) kc ks n h := fun l D B p e s m args below meth c H locs ls C L R S => lv_dup2_11 C.1 C.2.1 hdg hva hvb (k l D B p e s m args below meth c H locs ls C L R S)
theorem aw_null {M : MI} {G : AG} {pc kc ks n : Nat} {lv : List (Option Value)} {h : Hp} {rest : List Value} (hdg : decode M.2.1 pc = .ok (.aconst_null, 1)) (k :  AW M G (pc + 1) lv (.null :: rest) kc ks n h) :  AW M G pc lv rest kc ks n h := fun l D B p e s m args below meth c H locs ls C L R S => lv_null C.1 C.2.1 hdg (k l D B p e s m args below meth c H locs ls C L R S)
theorem aw_goto {M : MI} {G : AG} {pc kc ks n : Nat} {lv : List (Option Value)} {h : Hp} {rest : List Value} {off : Int} {tgt : Nat} (hdg : decode M.2.1 pc = .ok (.goto off, 3)) (ht : (pc : Int) + off = (tgt : Int)) (k :  AW M G tgt lv rest kc ks n h) :  AW M G pc lv rest kc ks n h := fun l D B p e s m args below meth c H locs ls C L R S => lv_goto C.1 C.2.1 hdg ht (k l D B p e s m args below meth c H locs ls C L R S)
theorem aw_ifnull {M : MI} {G : AG} {pc kc ks n : Nat} {lv : List (Option Value)} {h : Hp} {rest : List Value} {x : Nat} {off : Int} (hdg : decode M.2.1 pc = .ok (.ifnull off, 3)) (k :  AW M G (pc + 3) lv rest kc ks n h) :  AW M G pc lv (.ref x :: rest) kc ks n h := fun l D B p e s m args below meth c H locs ls C L R S => lv_ifnull C.1 C.2.1 hdg (k l D B p e s m args below meth c H locs ls C L R S)
theorem aw_ifnonnull {M : MI} {G : AG} {pc kc ks n : Nat} {lv : List (Option Value)} {h : Hp} {rest : List Value} {x : Nat} {off : Int} {tgt : Nat} (hdg : decode M.2.1 pc = .ok (.ifnonnull off, 3)) (ht : (pc : Int) + off = (tgt : Int)) (k :  AW M G tgt lv rest kc ks n h) :  AW M G pc lv (.ref x :: rest) kc ks n h := fun l D B p e s m args below meth c H locs ls C L R S => lv_ifnonnull C.1 C.2.1 hdg ht (k l D B p e s m args below meth c H locs ls C L R S)
theorem aw_ifnullN {M : MI} {G : AG} {pc kc ks n : Nat} {lv : List (Option Value)} {h : Hp} {rest : List Value} {off : Int} {tgt : Nat} (hdg : decode M.2.1 pc = .ok (.ifnull off, 3)) (ht : (pc : Int) + off = (tgt : Int)) (k :  AW M G tgt lv rest kc ks n h) :  AW M G pc lv (.null :: rest) kc ks n h := fun l D B p e s m args below meth c H locs ls C L R S => lv_ifnullN C.1 C.2.1 hdg ht (k l D B p e s m args below meth c H locs ls C L R S)
theorem aw_ifnonnullN {M : MI} {G : AG} {pc kc ks n : Nat} {lv : List (Option Value)} {h : Hp} {rest : List Value} {off : Int} (hdg : decode M.2.1 pc = .ok (.ifnonnull off, 3)) (k :  AW M G (pc + 3) lv rest kc ks n h) :  AW M G pc lv (.null :: rest) kc ks n h := fun l D B p e s m args below meth c H locs ls C L R S => lv_ifnonnullN C.1 C.2.1 hdg (k l D B p e s m args below meth c H locs ls C L R S)
theorem aw_tableIn {M : MI} {G : AG} {pc kc ks n : Nat} {lv : List (Option Value)} {h : Hp} {rest : List Value} {dflt lo hi : Int} {offs : Array Int} {len : Nat} {x : Int32} {off : Int} {tgt : Nat} (hdg : decode M.2.1 pc = .ok (.tableswitch dflt lo hi offs, len)) (h1 : ¬ x.toInt < lo) (h2 : ¬ hi < x.toInt) (ho : offs[(x.toInt - lo).toNat]? = some off) (ht : (pc : Int) + off = (tgt : Int))
    (k :  AW M G tgt lv rest kc ks n h) :  AW M G pc lv (.int x :: rest) kc ks n h := fun l D B p e s m args below meth c H locs ls C L R S => lv_tableIn C.1 C.2.1 hdg h1 h2 ho ht (k l D B p e s m args below meth c H locs ls C L R S)
theorem aw_tableOut {M : MI} {G : AG} {pc kc ks n : Nat} {lv : List (Option Value)} {h : Hp} {rest : List Value} {dflt lo hi : Int} {offs : Array Int} {len : Nat} {x : Int32} {tgt : Nat} (hdg : decode M.2.1 pc = .ok (.tableswitch dflt lo hi offs, len)) (ho : x.toInt < lo ∨ hi < x.toInt) (ht : (pc : Int) + dflt = (tgt : Int))
    (k :  AW M G tgt lv rest kc ks n h) :  AW M G pc lv (.int x :: rest) kc ks n h := fun l D B p e s m args below meth c H locs ls C L R S => lv_tableOut C.1 C.2.1 hdg ho ht (k l D B p e s m args below meth c H locs ls C L R S)
theorem aw_iload_n {M : MI} {G : AG} {pc kc ks n : Nat} {lv : List (Option Value)} {h : Hp} {rest : List Value} {k : Fin 4} {i : Nat} {x : Int32} (hdg : decode M.2.1 pc = .ok (.iload_n k, 1)) (hi : (k : Nat) = i) (hl : lv[i]? = some (some (.int x)))
    (kk :  AW M G (pc + 1) lv (.int x :: rest) kc ks n h) :  AW M G pc lv (rest) kc ks n h := fun l D B p e s m args below meth c H locs ls C L R S => lv_iload_n C.1 C.2.1 hdg hi (L.2.2 _ _ hl) (kk l D B p e s m args below meth c H locs ls C L R S)
theorem aw_iload {M : MI} {G : AG} {pc kc ks n : Nat} {lv : List (Option Value)} {h : Hp} {rest : List Value} {i : Nat} {x : Int32} (hdg : decode M.2.1 pc = .ok (.iload i, 2)) (hl : lv[i]? = some (some (.int x)))
    (k :  AW M G (pc + 2) lv (.int x :: rest) kc ks n h) :  AW M G pc lv (rest) kc ks n h := fun l D B p e s m args below meth c H locs ls C L R S => lv_iload C.1 C.2.1 hdg (L.2.2 _ _ hl) (k l D B p e s m args below meth c H locs ls C L R S)
theorem aw_lload_n {M : MI} {G : AG} {pc kc ks n : Nat} {lv : List (Option Value)} {h : Hp} {rest : List Value} {k : Fin 4} {i : Nat} {x : Int64} (hdg : decode M.2.1 pc = .ok (.lload_n k, 1)) (hi : (k : Nat) = i) (hl : lv[i]? = some (some (.long x)))
    (kk :  AW M G (pc + 1) lv (.long x :: rest) kc ks n h) :  AW M G pc lv (rest) kc ks n h := fun l D B p e s m args below meth c H locs ls C L R S => lv_lload_n C.1 C.2.1 hdg hi (L.2.2 _ _ hl) (kk l D B p e s m args below meth c H locs ls C L R S)
theorem aw_lload {M : MI} {G : AG} {pc kc ks n : Nat} {lv : List (Option Value)} {h : Hp} {rest : List Value} {i : Nat} {x : Int64} (hdg : decode M.2.1 pc = .ok (.lload i, 2)) (hl : lv[i]? = some (some (.long x)))
    (k :  AW M G (pc + 2) lv (.long x :: rest) kc ks n h) :  AW M G pc lv (rest) kc ks n h := fun l D B p e s m args below meth c H locs ls C L R S => lv_lload C.1 C.2.1 hdg (L.2.2 _ _ hl) (k l D B p e s m args below meth c H locs ls C L R S)
theorem aw_aload_n {M : MI} {G : AG} {pc kc ks n : Nat} {lv : List (Option Value)} {h : Hp} {rest : List Value} {k : Fin 4} {i : Nat} {x : Nat} (hdg : decode M.2.1 pc = .ok (.aload_n k, 1)) (hi : (k : Nat) = i) (hl : lv[i]? = some (some (.ref x)))
    (kk :  AW M G (pc + 1) lv (.ref x :: rest) kc ks n h) :  AW M G pc lv (rest) kc ks n h := fun l D B p e s m args below meth c H locs ls C L R S => lv_aload_n C.1 C.2.1 hdg hi (L.2.2 _ _ hl) (kk l D B p e s m args below meth c H locs ls C L R S)
theorem aw_aload {M : MI} {G : AG} {pc kc ks n : Nat} {lv : List (Option Value)} {h : Hp} {rest : List Value} {i : Nat} {x : Nat} (hdg : decode M.2.1 pc = .ok (.aload i, 2)) (hl : lv[i]? = some (some (.ref x)))
    (k :  AW M G (pc + 2) lv (.ref x :: rest) kc ks n h) :  AW M G pc lv (rest) kc ks n h := fun l D B p e s m args below meth c H locs ls C L R S => lv_aload C.1 C.2.1 hdg (L.2.2 _ _ hl) (k l D B p e s m args below meth c H locs ls C L R S)
theorem aw_aload_nN {M : MI} {G : AG} {pc kc ks n : Nat} {lv : List (Option Value)} {h : Hp} {rest : List Value} {k : Fin 4} {i : Nat} (hdg : decode M.2.1 pc = .ok (.aload_n k, 1)) (hi : (k : Nat) = i) (hl : lv[i]? = some (some (.null)))
    (kk :  AW M G (pc + 1) lv (.null :: rest) kc ks n h) :  AW M G pc lv (rest) kc ks n h := fun l D B p e s m args below meth c H locs ls C L R S => lv_aload_nN C.1 C.2.1 hdg hi (L.2.2 _ _ hl) (kk l D B p e s m args below meth c H locs ls C L R S)
theorem aw_aloadN {M : MI} {G : AG} {pc kc ks n : Nat} {lv : List (Option Value)} {h : Hp} {rest : List Value} {i : Nat} (hdg : decode M.2.1 pc = .ok (.aload i, 2)) (hl : lv[i]? = some (some (.null)))
    (k :  AW M G (pc + 2) lv (.null :: rest) kc ks n h) :  AW M G pc lv (rest) kc ks n h := fun l D B p e s m args below meth c H locs ls C L R S => lv_aloadN C.1 C.2.1 hdg (L.2.2 _ _ hl) (k l D B p e s m args below meth c H locs ls C L R S)
theorem aw_if_eq {M : MI} {G : AG} {pc kc ks n : Nat} {lv : List (Option Value)} {h : Hp} {rest : List Value} {x : Int32} {off : Int} {tgt : Nat} (hdg : decode M.2.1 pc = .ok (.ifCond .eq off, 3)) (ht : (pc : Int) + off = (tgt : Int))
    (kt : x = 0 →  AW M G tgt lv rest kc ks n h) (kf : ¬ x = 0 →  AW M G (pc + 3) lv rest kc ks n h) :  AW M G pc lv (.int x :: rest) kc ks n h := fun l D B p e s m args below meth c H locs ls C L R S => lv_if_eq C.1 C.2.1 hdg ht (fun q => kt q l D B p e s m args below meth c H locs ls C L R S) (fun q => kf q l D B p e s m args below meth c H locs ls C L R S)
theorem aw_if_ne {M : MI} {G : AG} {pc kc ks n : Nat} {lv : List (Option Value)} {h : Hp} {rest : List Value} {x : Int32} {off : Int} {tgt : Nat} (hdg : decode M.2.1 pc = .ok (.ifCond .ne off, 3)) (ht : (pc : Int) + off = (tgt : Int))
    (kt : ¬ x = 0 →  AW M G tgt lv rest kc ks n h) (kf : x = 0 →  AW M G (pc + 3) lv rest kc ks n h) :  AW M G pc lv (.int x :: rest) kc ks n h := fun l D B p e s m args below meth c H locs ls C L R S => lv_if_ne C.1 C.2.1 hdg ht (fun q => kt q l D B p e s m args below meth c H locs ls C L R S) (fun q => kf q l D B p e s m args below meth c H locs ls C L R S)
theorem aw_if_lt {M : MI} {G : AG} {pc kc ks n : Nat} {lv : List (Option Value)} {h : Hp} {rest : List Value} {x : Int32} {off : Int} {tgt : Nat} (hdg : decode M.2.1 pc = .ok (.ifCond .lt off, 3)) (ht : (pc : Int) + off = (tgt : Int))
    (kt : x < 0 →  AW M G tgt lv rest kc ks n h) (kf : ¬ x < 0 →  AW M G (pc + 3) lv rest kc ks n h) :  AW M G pc lv (.int x :: rest) kc ks n h := fun l D B p e s m args below meth c H locs ls C L R S => lv_if_lt C.1 C.2.1 hdg ht (fun q => kt q l D B p e s m args below meth c H locs ls C L R S) (fun q => kf q l D B p e s m args below meth c H locs ls C L R S)
theorem aw_if_ge {M : MI} {G : AG} {pc kc ks n : Nat} {lv : List (Option Value)} {h : Hp} {rest : List Value} {x : Int32} {off : Int} {tgt : Nat} (hdg : decode M.2.1 pc = .ok (.ifCond .ge off, 3)) (ht : (pc : Int) + off = (tgt : Int))
    (kt : 0 ≤ x →  AW M G tgt lv rest kc ks n h) (kf : ¬ 0 ≤ x →  AW M G (pc + 3) lv rest kc ks n h) :  AW M G pc lv (.int x :: rest) kc ks n h := fun l D B p e s m args below meth c H locs ls C L R S => lv_if_ge C.1 C.2.1 hdg ht (fun q => kt q l D B p e s m args below meth c H locs ls C L R S) (fun q => kf q l D B p e s m args below meth c H locs ls C L R S)
theorem aw_if_gt {M : MI} {G : AG} {pc kc ks n : Nat} {lv : List (Option Value)} {h : Hp} {rest : List Value} {x : Int32} {off : Int} {tgt : Nat} (hdg : decode M.2.1 pc = .ok (.ifCond .gt off, 3)) (ht : (pc : Int) + off = (tgt : Int))
    (kt : 0 < x →  AW M G tgt lv rest kc ks n h) (kf : ¬ 0 < x →  AW M G (pc + 3) lv rest kc ks n h) :  AW M G pc lv (.int x :: rest) kc ks n h := fun l D B p e s m args below meth c H locs ls C L R S => lv_if_gt C.1 C.2.1 hdg ht (fun q => kt q l D B p e s m args below meth c H locs ls C L R S) (fun q => kf q l D B p e s m args below meth c H locs ls C L R S)
theorem aw_if_le {M : MI} {G : AG} {pc kc ks n : Nat} {lv : List (Option Value)} {h : Hp} {rest : List Value} {x : Int32} {off : Int} {tgt : Nat} (hdg : decode M.2.1 pc = .ok (.ifCond .le off, 3)) (ht : (pc : Int) + off = (tgt : Int))
    (kt : x ≤ 0 →  AW M G tgt lv rest kc ks n h) (kf : ¬ x ≤ 0 →  AW M G (pc + 3) lv rest kc ks n h) :  AW M G pc lv (.int x :: rest) kc ks n h := fun l D B p e s m args below meth c H locs ls C L R S => lv_if_le C.1 C.2.1 hdg ht (fun q => kt q l D B p e s m args below meth c H locs ls C L R S) (fun q => kf q l D B p e s m args below meth c H locs ls C L R S)
theorem aw_icmp_eq {M : MI} {G : AG} {pc kc ks n : Nat} {lv : List (Option Value)} {h : Hp} {rest : List Value} {x y : Int32} {off : Int} {tgt : Nat} (hdg : decode M.2.1 pc = .ok (.if_icmp .eq off, 3)) (ht : (pc : Int) + off = (tgt : Int))
    (kt : x = y →  AW M G tgt lv rest kc ks n h) (kf : ¬ x = y →  AW M G (pc + 3) lv rest kc ks n h) :  AW M G pc lv (.int y :: .int x :: rest) kc ks n h := fun l D B p e s m args below meth c H locs ls C L R S => lv_icmp_eq C.1 C.2.1 hdg ht (fun q => kt q l D B p e s m args below meth c H locs ls C L R S) (fun q => kf q l D B p e s m args below meth c H locs ls C L R S)
theorem aw_icmp_ne {M : MI} {G : AG} {pc kc ks n : Nat} {lv : List (Option Value)} {h : Hp} {rest : List Value} {x y : Int32} {off : Int} {tgt : Nat} (hdg : decode M.2.1 pc = .ok (.if_icmp .ne off, 3)) (ht : (pc : Int) + off = (tgt : Int))
    (kt : ¬ x = y →  AW M G tgt lv rest kc ks n h) (kf : x = y →  AW M G (pc + 3) lv rest kc ks n h) :  AW M G pc lv (.int y :: .int x :: rest) kc ks n h := fun l D B p e s m args below meth c H locs ls C L R S => lv_icmp_ne C.1 C.2.1 hdg ht (fun q => kt q l D B p e s m args below meth c H locs ls C L R S) (fun q => kf q l D B p e s m args below meth c H locs ls C L R S)
theorem aw_icmp_lt {M : MI} {G : AG} {pc kc ks n : Nat} {lv : List (Option Value)} {h : Hp} {rest : List Value} {x y : Int32} {off : Int} {tgt : Nat} (hdg : decode M.2.1 pc = .ok (.if_icmp .lt off, 3)) (ht : (pc : Int) + off = (tgt : Int))
    (kt : x < y →  AW M G tgt lv rest kc ks n h) (kf : ¬ x < y →  AW M G (pc + 3) lv rest kc ks n h) :  AW M G pc lv (.int y :: .int x :: rest) kc ks n h := fun l D B p e s m args below meth c H locs ls C L R S => lv_icmp_lt C.1 C.2.1 hdg ht (fun q => kt q l D B p e s m args below meth c H locs ls C L R S) (fun q => kf q l D B p e s m args below meth c H locs ls C L R S)
theorem aw_icmp_ge {M : MI} {G : AG} {pc kc ks n : Nat} {lv : List (Option Value)} {h : Hp} {rest : List Value} {x y : Int32} {off : Int} {tgt : Nat} (hdg : decode M.2.1 pc = .ok (.if_icmp .ge off, 3)) (ht : (pc : Int) + off = (tgt : Int))
    (kt : y ≤ x →  AW M G tgt lv rest kc ks n h) (kf : ¬ y ≤ x →  AW M G (pc + 3) lv rest kc ks n h) :  AW M G pc lv (.int y :: .int x :: rest) kc ks n h := fun l D B p e s m args below meth c H locs ls C L R S => lv_icmp_ge C.1 C.2.1 hdg ht (fun q => kt q l D B p e s m args below meth c H locs ls C L R S) (fun q => kf q l D B p e s m args below meth c H locs ls C L R S)
theorem aw_icmp_gt {M : MI} {G : AG} {pc kc ks n : Nat} {lv : List (Option Value)} {h : Hp} {rest : List Value} {x y : Int32} {off : Int} {tgt : Nat} (hdg : decode M.2.1 pc = .ok (.if_icmp .gt off, 3)) (ht : (pc : Int) + off = (tgt : Int))
    (kt : y < x →  AW M G tgt lv rest kc ks n h) (kf : ¬ y < x →  AW M G (pc + 3) lv rest kc ks n h) :  AW M G pc lv (.int y :: .int x :: rest) kc ks n h := fun l D B p e s m args below meth c H locs ls C L R S => lv_icmp_gt C.1 C.2.1 hdg ht (fun q => kt q l D B p e s m args below meth c H locs ls C L R S) (fun q => kf q l D B p e s m args below meth c H locs ls C L R S)
theorem aw_icmp_le {M : MI} {G : AG} {pc kc ks n : Nat} {lv : List (Option Value)} {h : Hp} {rest : List Value} {x y : Int32} {off : Int} {tgt : Nat} (hdg : decode M.2.1 pc = .ok (.if_icmp .le off, 3)) (ht : (pc : Int) + off = (tgt : Int))
    (kt : x ≤ y →  AW M G tgt lv rest kc ks n h) (kf : ¬ x ≤ y →  AW M G (pc + 3) lv rest kc ks n h) :  AW M G pc lv (.int y :: .int x :: rest) kc ks n h := fun l D B p e s m args below meth c H locs ls C L R S => lv_icmp_le C.1 C.2.1 hdg ht (fun q => kt q l D B p e s m args below meth c H locs ls C L R S) (fun q => kf q l D B p e s m args below meth c H locs ls C L R S)

theorem aw_lcmp {M : MI} {G : AG} {pc kc ks n : Nat} {lv : List (Option Value)} {h : Hp} {rest : List Value} {x y : Int64} (hdg : decode M.2.1 pc = .ok (.lcmp, 1)) (k : AW M G (pc + 1) lv (.int (lg_cmp x y) :: rest) kc ks n h) : AW M G pc lv (.long y :: .long x :: rest) kc ks n h := fun l D B p e s m args below meth c H locs ls C L R S => W.lcmp C.1 C.2.1 hdg (k l D B p e s m args below meth c H locs ls C L R S)
theorem aw_ldc {M : MI} {G : AG} {pc kc ks n : Nat} {lv : List (Option Value)} {h : Hp} {rest : List Value} {index : Nat} {v : Int32} (hc : Cond.constant M.1.cls index v ∈ lw_good) (hdg : decode M.2.1 pc = .ok (.ldc index, 2)) (k : AW M G (pc + 2) lv (.int v :: rest) kc ks n h) : AW M G pc lv rest kc ks n h := fun l D B p e s m args below meth c H locs ls C L R S => lv_ldc C.1 C.2.1 C.2.2.2.2.1 (C.2.2.2.2.2.1 _ hc) hdg (k l D B p e s m args below meth c H locs ls C L R S)
theorem aw_ldc_w {M : MI} {G : AG} {pc kc ks n : Nat} {lv : List (Option Value)} {h : Hp} {rest : List Value} {index : Nat} {v : Int32} (hc : Cond.constant M.1.cls index v ∈ lw_good) (hdg : decode M.2.1 pc = .ok (.ldc_w index, 3)) (k : AW M G (pc + 3) lv (.int v :: rest) kc ks n h) : AW M G pc lv rest kc ks n h := fun l D B p e s m args below meth c H locs ls C L R S => lv_ldcw C.1 C.2.1 C.2.2.2.2.1 (C.2.2.2.2.2.1 _ hc) hdg (k l D B p e s m args below meth c H locs ls C L R S)
theorem aw_ldc2_w {M : MI} {G : AG} {pc kc ks n : Nat} {lv : List (Option Value)} {h : Hp} {rest : List Value} {index : Nat} {v : Int64} (hc : Cond.constantLong M.1.cls index v ∈ lw_good) (hdg : decode M.2.1 pc = .ok (.ldc2_w index, 3)) (k : AW M G (pc + 3) lv (.long v :: rest) kc ks n h) : AW M G pc lv rest kc ks n h := fun l D B p e s m args below meth c H locs ls C L R S => lv_ldc2 C.1 C.2.1 C.2.2.2.2.1 (C.2.2.2.2.2.1 _ hc) hdg (k l D B p e s m args below meth c H locs ls C L R S)
theorem awG_istore_n {M : MI} {G : AG} {pc kc ks n : Nat} {lv : List (Option Value)} {h : Hp} {rest : List Value} {k : Fin 4} {i : Nat} {x : Int32} {lv' : List (Option Value)} (hdg : decode M.2.1 pc = .ok (.istore_n k, 1)) (hi : (k : Nat) = i) (hn : i < M.2.2.1) (hs : aSt lv lv' i (.int x) false) (kk : AW M G (pc + 1) lv' rest kc ks n h) : AW M G pc lv (.int x :: rest) kc ks n h := fun l D B p e s m args below meth c H locs ls C L R S => lv_istore_n C.1 C.2.1 hdg hi L.has hn rfl fun ls' hl => kk l D B p e s m args below meth c H locs ls' C (aL.st1 (ls := ls) hl hs) R S
theorem awG_istore {M : MI} {G : AG} {pc kc ks n : Nat} {lv : List (Option Value)} {h : Hp} {rest : List Value} {i : Nat} {x : Int32} {lv' : List (Option Value)} (hdg : decode M.2.1 pc = .ok (.istore i, 2)) (hn : i < M.2.2.1) (hs : aSt lv lv' i (.int x) false) (kk : AW M G (pc + 2) lv' rest kc ks n h) : AW M G pc lv (.int x :: rest) kc ks n h := fun l D B p e s m args below meth c H locs ls C L R S => lv_istore C.1 C.2.1 hdg L.has hn rfl fun ls' hl => kk l D B p e s m args below meth c H locs ls' C (aL.st1 (ls := ls) hl hs) R S
theorem awG_lstore_n {M : MI} {G : AG} {pc kc ks n : Nat} {lv : List (Option Value)} {h : Hp} {rest : List Value} {k : Fin 4} {i : Nat} {x : Int64} {lv' : List (Option Value)} (hdg : decode M.2.1 pc = .ok (.lstore_n k, 1)) (hi : (k : Nat) = i) (hn : i + 1 < M.2.2.1) (hs : aSt lv lv' i (.long x) true) (kk : AW M G (pc + 1) lv' rest kc ks n h) : AW M G pc lv (.long x :: rest) kc ks n h := fun l D B p e s m args below meth c H locs ls C L R S => lv_lstore_n C.1 C.2.1 hdg hi L.has hn rfl fun ls' hl => kk l D B p e s m args below meth c H locs ls' C (aL.st2 (ls := ls) hl hs) R S
theorem awG_lstore {M : MI} {G : AG} {pc kc ks n : Nat} {lv : List (Option Value)} {h : Hp} {rest : List Value} {i : Nat} {x : Int64} {lv' : List (Option Value)} (hdg : decode M.2.1 pc = .ok (.lstore i, 2)) (hn : i + 1 < M.2.2.1) (hs : aSt lv lv' i (.long x) true) (kk : AW M G (pc + 2) lv' rest kc ks n h) : AW M G pc lv (.long x :: rest) kc ks n h := fun l D B p e s m args below meth c H locs ls C L R S => lv_lstore C.1 C.2.1 hdg L.has hn rfl fun ls' hl => kk l D B p e s m args below meth c H locs ls' C (aL.st2 (ls := ls) hl hs) R S
theorem awG_astore_n {M : MI} {G : AG} {pc kc ks n : Nat} {lv : List (Option Value)} {h : Hp} {rest : List Value} {k : Fin 4} {i : Nat} {x : Nat} {lv' : List (Option Value)} (hdg : decode M.2.1 pc = .ok (.astore_n k, 1)) (hi : (k : Nat) = i) (hn : i < M.2.2.1) (hs : aSt lv lv' i (.ref x) false) (kk : AW M G (pc + 1) lv' rest kc ks n h) : AW M G pc lv (.ref x :: rest) kc ks n h := fun l D B p e s m args below meth c H locs ls C L R S => lv_astore_n C.1 C.2.1 hdg hi L.has hn rfl fun ls' hl => kk l D B p e s m args below meth c H locs ls' C (aL.st1 (ls := ls) hl hs) R S
theorem awG_astore {M : MI} {G : AG} {pc kc ks n : Nat} {lv : List (Option Value)} {h : Hp} {rest : List Value} {i : Nat} {x : Nat} {lv' : List (Option Value)} (hdg : decode M.2.1 pc = .ok (.astore i, 2)) (hn : i < M.2.2.1) (hs : aSt lv lv' i (.ref x) false) (kk : AW M G (pc + 2) lv' rest kc ks n h) : AW M G pc lv (.ref x :: rest) kc ks n h := fun l D B p e s m args below meth c H locs ls C L R S => lv_astore C.1 C.2.1 hdg L.has hn rfl fun ls' hl => kk l D B p e s m args below meth c H locs ls' C (aL.st1 (ls := ls) hl hs) R S
theorem awG_astore_nN {M : MI} {G : AG} {pc kc ks n : Nat} {lv : List (Option Value)} {h : Hp} {rest : List Value} {k : Fin 4} {i : Nat} {lv' : List (Option Value)} (hdg : decode M.2.1 pc = .ok (.astore_n k, 1)) (hi : (k : Nat) = i) (hn : i < M.2.2.1) (hs : aSt lv lv' i .null false) (kk : AW M G (pc + 1) lv' rest kc ks n h) : AW M G pc lv (.null :: rest) kc ks n h := fun l D B p e s m args below meth c H locs ls C L R S => lv_astore_nN C.1 C.2.1 hdg hi L.has hn rfl fun ls' hl => kk l D B p e s m args below meth c H locs ls' C (aL.st1 (ls := ls) hl hs) R S
theorem awG_astoreN {M : MI} {G : AG} {pc kc ks n : Nat} {lv : List (Option Value)} {h : Hp} {rest : List Value} {i : Nat} {lv' : List (Option Value)} (hdg : decode M.2.1 pc = .ok (.astore i, 2)) (hn : i < M.2.2.1) (hs : aSt lv lv' i .null false) (kk : AW M G (pc + 2) lv' rest kc ks n h) : AW M G pc lv (.null :: rest) kc ks n h := fun l D B p e s m args below meth c H locs ls C L R S => lv_astoreN C.1 C.2.1 hdg L.has hn rfl fun ls' hl => kk l D B p e s m args below meth c H locs ls' C (aL.st1 (ls := ls) hl hs) R S
theorem awG_iinc {M : MI} {G : AG} {pc kc ks n : Nat} {lv : List (Option Value)} {h : Hp} {rest : List Value} {i : Nat} {n0 : Int} {x c0 : Int32} {lv' : List (Option Value)} (hdg : decode M.2.1 pc = .ok (.iinc i n0, 3)) (hk : lv[i]? = some (some (.int x))) (hv : Int32.ofInt n0 = c0) (hn : i < M.2.2.1) (hs : aSt lv lv' i (.int (x + c0)) false) (kk : AW M G (pc + 3) lv' rest kc ks n h) : AW M G pc lv rest kc ks n h := by
  intro l D B p e s m args below meth c H locs ls C L R S
  obtain ⟨k, hk2⟩ := List.getElem?_of_mem (by simpa using enu_in lv 0 i _ hk)
  exact lv_iinc (v := x + c0) C.1 C.2.1 hdg L.has (k := k) hk2 (by rw [hv]) hn rfl fun ls' hl => kk l D B p e s m args below meth c H locs ls' C (aL.st1 (ls := ls) hl hs) R S
theorem aw_istore_0 {M : MI} {G : AG} {pc kc ks n : Nat} {h : Hp} {rest : List Value} {a0 : Option Value} {r : List (Option Value)} {x : Int32} (hdg : decode M.2.1 pc = .ok (.istore_n 0, 1)) (hn : 0 < M.2.2.1) (kk : AW M G (pc + 1) (some (.int x) :: r) rest kc ks n h) : AW M G pc (a0 :: r) (.int x :: rest) kc ks n h := awG_istore_n hdg rfl hn (aSt_1 [] a0 r _ (fun x q => by simp at q)) kk
theorem aw_astore_0 {M : MI} {G : AG} {pc kc ks n : Nat} {h : Hp} {rest : List Value} {a0 : Option Value} {r : List (Option Value)} {x : Nat} (hdg : decode M.2.1 pc = .ok (.astore_n 0, 1)) (hn : 0 < M.2.2.1) (kk : AW M G (pc + 1) (some (.ref x) :: r) rest kc ks n h) : AW M G pc (a0 :: r) (.ref x :: rest) kc ks n h := awG_astore_n hdg rfl hn (aSt_1 [] a0 r _ (fun x q => by simp at q)) kk
theorem aw_astore_0N {M : MI} {G : AG} {pc kc ks n : Nat} {h : Hp} {rest : List Value} {a0 : Option Value} {r : List (Option Value)} (hdg : decode M.2.1 pc = .ok (.astore_n 0, 1)) (hn : 0 < M.2.2.1) (kk : AW M G (pc + 1) (some (.null) :: r) rest kc ks n h) : AW M G pc (a0 :: r) (.null :: rest) kc ks n h := awG_astore_nN hdg rfl hn (aSt_1 [] a0 r _ (fun x q => by simp at q)) kk
theorem aw_lstore_0 {M : MI} {G : AG} {pc kc ks n : Nat} {h : Hp} {rest : List Value} {a0 a1 : Option Value} {r : List (Option Value)} {x : Int64} (hdg : decode M.2.1 pc = .ok (.lstore_n 0, 1)) (hn : 1 < M.2.2.1) (kk : AW M G (pc + 1) (some (.long x) :: none :: r) rest kc ks n h) : AW M G pc (a0 :: a1 :: r) (.long x :: rest) kc ks n h := awG_lstore_n hdg rfl hn (aSt_2 [] a0 a1 r _ (fun x q => by simp at q)) kk
theorem aw_iinc_0 {M : MI} {G : AG} {pc kc ks n : Nat} {h : Hp} {rest : List Value} {r : List (Option Value)} {n0 : Int} {x c0 : Int32} (hdg : decode M.2.1 pc = .ok (.iinc 0 n0, 3)) (hv : Int32.ofInt n0 = c0) (hn : 0 < M.2.2.1) (kk : AW M G (pc + 3) (some (.int (x + c0)) :: r) rest kc ks n h) : AW M G pc (some (.int x) :: r) rest kc ks n h := awG_iinc hdg rfl hv hn (aSt_1 [] (some (.int x)) r _ (fun x q => by simp at q)) kk
theorem aw_istore_1 {M : MI} {G : AG} {pc kc ks n : Nat} {h : Hp} {rest : List Value} {a0 a1 : Option Value} {r : List (Option Value)} {x : Int32} (hdg : decode M.2.1 pc = .ok (.istore_n 1, 1)) (hn : 1 < M.2.2.1) (h2 : nl2 a0 = true) (kk : AW M G (pc + 1) (a0 :: some (.int x) :: r) rest kc ks n h) : AW M G pc (a0 :: a1 :: r) (.int x :: rest) kc ks n h := awG_istore_n hdg rfl hn (aSt_1 [a0] a1 r _ (fun x q => by simp at q; rw [← q]; exact h2)) kk
theorem aw_astore_1 {M : MI} {G : AG} {pc kc ks n : Nat} {h : Hp} {rest : List Value} {a0 a1 : Option Value} {r : List (Option Value)} {x : Nat} (hdg : decode M.2.1 pc = .ok (.astore_n 1, 1)) (hn : 1 < M.2.2.1) (h2 : nl2 a0 = true) (kk : AW M G (pc + 1) (a0 :: some (.ref x) :: r) rest kc ks n h) : AW M G pc (a0 :: a1 :: r) (.ref x :: rest) kc ks n h := awG_astore_n hdg rfl hn (aSt_1 [a0] a1 r _ (fun x q => by simp at q; rw [← q]; exact h2)) kk
theorem aw_astore_1N {M : MI} {G : AG} {pc kc ks n : Nat} {h : Hp} {rest : List Value} {a0 a1 : Option Value} {r : List (Option Value)} (hdg : decode M.2.1 pc = .ok (.astore_n 1, 1)) (hn : 1 < M.2.2.1) (h2 : nl2 a0 = true) (kk : AW M G (pc + 1) (a0 :: some (.null) :: r) rest kc ks n h) : AW M G pc (a0 :: a1 :: r) (.null :: rest) kc ks n h := awG_astore_nN hdg rfl hn (aSt_1 [a0] a1 r _ (fun x q => by simp at q; rw [← q]; exact h2)) kk
theorem aw_lstore_1 {M : MI} {G : AG} {pc kc ks n : Nat} {h : Hp} {rest : List Value} {a0 a1 a2 : Option Value} {r : List (Option Value)} {x : Int64} (hdg : decode M.2.1 pc = .ok (.lstore_n 1, 1)) (hn : 2 < M.2.2.1) (h2 : nl2 a0 = true) (kk : AW M G (pc + 1) (a0 :: some (.long x) :: none :: r) rest kc ks n h) : AW M G pc (a0 :: a1 :: a2 :: r) (.long x :: rest) kc ks n h := awG_lstore_n hdg rfl hn (aSt_2 [a0] a1 a2 r _ (fun x q => by simp at q; rw [← q]; exact h2)) kk
theorem aw_iinc_1 {M : MI} {G : AG} {pc kc ks n : Nat} {h : Hp} {rest : List Value} {a0 : Option Value} {r : List (Option Value)} {n0 : Int} {x c0 : Int32} (hdg : decode M.2.1 pc = .ok (.iinc 1 n0, 3)) (hv : Int32.ofInt n0 = c0) (hn : 1 < M.2.2.1) (h2 : nl2 a0 = true) (kk : AW M G (pc + 3) (a0 :: some (.int (x + c0)) :: r) rest kc ks n h) : AW M G pc (a0 :: some (.int x) :: r) rest kc ks n h := awG_iinc hdg rfl hv hn (aSt_1 [a0] (some (.int x)) r _ (fun x q => by simp at q; rw [← q]; exact h2)) kk
theorem aw_istore_2 {M : MI} {G : AG} {pc kc ks n : Nat} {h : Hp} {rest : List Value} {a0 a1 a2 : Option Value} {r : List (Option Value)} {x : Int32} (hdg : decode M.2.1 pc = .ok (.istore_n 2, 1)) (hn : 2 < M.2.2.1) (h2 : nl2 a1 = true) (kk : AW M G (pc + 1) (a0 :: a1 :: some (.int x) :: r) rest kc ks n h) : AW M G pc (a0 :: a1 :: a2 :: r) (.int x :: rest) kc ks n h := awG_istore_n hdg rfl hn (aSt_1 [a0, a1] a2 r _ (fun x q => by simp at q; rw [← q]; exact h2)) kk
theorem aw_astore_2 {M : MI} {G : AG} {pc kc ks n : Nat} {h : Hp} {rest : List Value} {a0 a1 a2 : Option Value} {r : List (Option Value)} {x : Nat} (hdg : decode M.2.1 pc = .ok (.astore_n 2, 1)) (hn : 2 < M.2.2.1) (h2 : nl2 a1 = true) (kk : AW M G (pc + 1) (a0 :: a1 :: some (.ref x) :: r) rest kc ks n h) : AW M G pc (a0 :: a1 :: a2 :: r) (.ref x :: rest) kc ks n h := awG_astore_n hdg rfl hn (aSt_1 [a0, a1] a2 r _ (fun x q => by simp at q; rw [← q]; exact h2)) kk
theorem aw_astore_2N {M : MI} {G : AG} {pc kc ks n : Nat} {h : Hp} {rest : List Value} {a0 a1 a2 : Option Value} {r : List (Option Value)} (hdg : decode M.2.1 pc = .ok (.astore_n 2, 1)) (hn : 2 < M.2.2.1) (h2 : nl2 a1 = true) (kk : AW M G (pc + 1) (a0 :: a1 :: some (.null) :: r) rest kc ks n h) : AW M G pc (a0 :: a1 :: a2 :: r) (.null :: rest) kc ks n h := awG_astore_nN hdg rfl hn (aSt_1 [a0, a1] a2 r _ (fun x q => by simp at q; rw [← q]; exact h2)) kk
theorem aw_lstore_2 {M : MI} {G : AG} {pc kc ks n : Nat} {h : Hp} {rest : List Value} {a0 a1 a2 a3 : Option Value} {r : List (Option Value)} {x : Int64} (hdg : decode M.2.1 pc = .ok (.lstore_n 2, 1)) (hn : 3 < M.2.2.1) (h2 : nl2 a1 = true) (kk : AW M G (pc + 1) (a0 :: a1 :: some (.long x) :: none :: r) rest kc ks n h) : AW M G pc (a0 :: a1 :: a2 :: a3 :: r) (.long x :: rest) kc ks n h := awG_lstore_n hdg rfl hn (aSt_2 [a0, a1] a2 a3 r _ (fun x q => by simp at q; rw [← q]; exact h2)) kk
theorem aw_iinc_2 {M : MI} {G : AG} {pc kc ks n : Nat} {h : Hp} {rest : List Value} {a0 a1 : Option Value} {r : List (Option Value)} {n0 : Int} {x c0 : Int32} (hdg : decode M.2.1 pc = .ok (.iinc 2 n0, 3)) (hv : Int32.ofInt n0 = c0) (hn : 2 < M.2.2.1) (h2 : nl2 a1 = true) (kk : AW M G (pc + 3) (a0 :: a1 :: some (.int (x + c0)) :: r) rest kc ks n h) : AW M G pc (a0 :: a1 :: some (.int x) :: r) rest kc ks n h := awG_iinc hdg rfl hv hn (aSt_1 [a0, a1] (some (.int x)) r _ (fun x q => by simp at q; rw [← q]; exact h2)) kk
theorem aw_istore_3 {M : MI} {G : AG} {pc kc ks n : Nat} {h : Hp} {rest : List Value} {a0 a1 a2 a3 : Option Value} {r : List (Option Value)} {x : Int32} (hdg : decode M.2.1 pc = .ok (.istore_n 3, 1)) (hn : 3 < M.2.2.1) (h2 : nl2 a2 = true) (kk : AW M G (pc + 1) (a0 :: a1 :: a2 :: some (.int x) :: r) rest kc ks n h) : AW M G pc (a0 :: a1 :: a2 :: a3 :: r) (.int x :: rest) kc ks n h := awG_istore_n hdg rfl hn (aSt_1 [a0, a1, a2] a3 r _ (fun x q => by simp at q; rw [← q]; exact h2)) kk
theorem aw_astore_3 {M : MI} {G : AG} {pc kc ks n : Nat} {h : Hp} {rest : List Value} {a0 a1 a2 a3 : Option Value} {r : List (Option Value)} {x : Nat} (hdg : decode M.2.1 pc = .ok (.astore_n 3, 1)) (hn : 3 < M.2.2.1) (h2 : nl2 a2 = true) (kk : AW M G (pc + 1) (a0 :: a1 :: a2 :: some (.ref x) :: r) rest kc ks n h) : AW M G pc (a0 :: a1 :: a2 :: a3 :: r) (.ref x :: rest) kc ks n h := awG_astore_n hdg rfl hn (aSt_1 [a0, a1, a2] a3 r _ (fun x q => by simp at q; rw [← q]; exact h2)) kk
theorem aw_astore_3N {M : MI} {G : AG} {pc kc ks n : Nat} {h : Hp} {rest : List Value} {a0 a1 a2 a3 : Option Value} {r : List (Option Value)} (hdg : decode M.2.1 pc = .ok (.astore_n 3, 1)) (hn : 3 < M.2.2.1) (h2 : nl2 a2 = true) (kk : AW M G (pc + 1) (a0 :: a1 :: a2 :: some (.null) :: r) rest kc ks n h) : AW M G pc (a0 :: a1 :: a2 :: a3 :: r) (.null :: rest) kc ks n h := awG_astore_nN hdg rfl hn (aSt_1 [a0, a1, a2] a3 r _ (fun x q => by simp at q; rw [← q]; exact h2)) kk
theorem aw_lstore_3 {M : MI} {G : AG} {pc kc ks n : Nat} {h : Hp} {rest : List Value} {a0 a1 a2 a3 a4 : Option Value} {r : List (Option Value)} {x : Int64} (hdg : decode M.2.1 pc = .ok (.lstore_n 3, 1)) (hn : 4 < M.2.2.1) (h2 : nl2 a2 = true) (kk : AW M G (pc + 1) (a0 :: a1 :: a2 :: some (.long x) :: none :: r) rest kc ks n h) : AW M G pc (a0 :: a1 :: a2 :: a3 :: a4 :: r) (.long x :: rest) kc ks n h := awG_lstore_n hdg rfl hn (aSt_2 [a0, a1, a2] a3 a4 r _ (fun x q => by simp at q; rw [← q]; exact h2)) kk
theorem aw_iinc_3 {M : MI} {G : AG} {pc kc ks n : Nat} {h : Hp} {rest : List Value} {a0 a1 a2 : Option Value} {r : List (Option Value)} {n0 : Int} {x c0 : Int32} (hdg : decode M.2.1 pc = .ok (.iinc 3 n0, 3)) (hv : Int32.ofInt n0 = c0) (hn : 3 < M.2.2.1) (h2 : nl2 a2 = true) (kk : AW M G (pc + 3) (a0 :: a1 :: a2 :: some (.int (x + c0)) :: r) rest kc ks n h) : AW M G pc (a0 :: a1 :: a2 :: some (.int x) :: r) rest kc ks n h := awG_iinc hdg rfl hv hn (aSt_1 [a0, a1, a2] (some (.int x)) r _ (fun x q => by simp at q; rw [← q]; exact h2)) kk
theorem aw_istore_4 {M : MI} {G : AG} {pc kc ks n : Nat} {h : Hp} {rest : List Value} {a0 a1 a2 a3 a4 : Option Value} {r : List (Option Value)} {x : Int32} (hdg : decode M.2.1 pc = .ok (.istore 4, 2)) (hn : 4 < M.2.2.1) (h2 : nl2 a3 = true) (kk : AW M G (pc + 2) (a0 :: a1 :: a2 :: a3 :: some (.int x) :: r) rest kc ks n h) : AW M G pc (a0 :: a1 :: a2 :: a3 :: a4 :: r) (.int x :: rest) kc ks n h := awG_istore hdg hn (aSt_1 [a0, a1, a2, a3] a4 r _ (fun x q => by simp at q; rw [← q]; exact h2)) kk
theorem aw_astore_4 {M : MI} {G : AG} {pc kc ks n : Nat} {h : Hp} {rest : List Value} {a0 a1 a2 a3 a4 : Option Value} {r : List (Option Value)} {x : Nat} (hdg : decode M.2.1 pc = .ok (.astore 4, 2)) (hn : 4 < M.2.2.1) (h2 : nl2 a3 = true) (kk : AW M G (pc + 2) (a0 :: a1 :: a2 :: a3 :: some (.ref x) :: r) rest kc ks n h) : AW M G pc (a0 :: a1 :: a2 :: a3 :: a4 :: r) (.ref x :: rest) kc ks n h := awG_astore hdg hn (aSt_1 [a0, a1, a2, a3] a4 r _ (fun x q => by simp at q; rw [← q]; exact h2)) kk
theorem aw_astore_4N {M : MI} {G : AG} {pc kc ks n : Nat} {h : Hp} {rest : List Value} {a0 a1 a2 a3 a4 : Option Value} {r : List (Option Value)} (hdg : decode M.2.1 pc = .ok (.astore 4, 2)) (hn : 4 < M.2.2.1) (h2 : nl2 a3 = true) (kk : AW M G (pc + 2) (a0 :: a1 :: a2 :: a3 :: some (.null) :: r) rest kc ks n h) : AW M G pc (a0 :: a1 :: a2 :: a3 :: a4 :: r) (.null :: rest) kc ks n h := awG_astoreN hdg hn (aSt_1 [a0, a1, a2, a3] a4 r _ (fun x q => by simp at q; rw [← q]; exact h2)) kk
theorem aw_lstore_4 {M : MI} {G : AG} {pc kc ks n : Nat} {h : Hp} {rest : List Value} {a0 a1 a2 a3 a4 a5 : Option Value} {r : List (Option Value)} {x : Int64} (hdg : decode M.2.1 pc = .ok (.lstore 4, 2)) (hn : 5 < M.2.2.1) (h2 : nl2 a3 = true) (kk : AW M G (pc + 2) (a0 :: a1 :: a2 :: a3 :: some (.long x) :: none :: r) rest kc ks n h) : AW M G pc (a0 :: a1 :: a2 :: a3 :: a4 :: a5 :: r) (.long x :: rest) kc ks n h := awG_lstore hdg hn (aSt_2 [a0, a1, a2, a3] a4 a5 r _ (fun x q => by simp at q; rw [← q]; exact h2)) kk
theorem aw_iinc_4 {M : MI} {G : AG} {pc kc ks n : Nat} {h : Hp} {rest : List Value} {a0 a1 a2 a3 : Option Value} {r : List (Option Value)} {n0 : Int} {x c0 : Int32} (hdg : decode M.2.1 pc = .ok (.iinc 4 n0, 3)) (hv : Int32.ofInt n0 = c0) (hn : 4 < M.2.2.1) (h2 : nl2 a3 = true) (kk : AW M G (pc + 3) (a0 :: a1 :: a2 :: a3 :: some (.int (x + c0)) :: r) rest kc ks n h) : AW M G pc (a0 :: a1 :: a2 :: a3 :: some (.int x) :: r) rest kc ks n h := awG_iinc hdg rfl hv hn (aSt_1 [a0, a1, a2, a3] (some (.int x)) r _ (fun x q => by simp at q; rw [← q]; exact h2)) kk
theorem aw_istore_5 {M : MI} {G : AG} {pc kc ks n : Nat} {h : Hp} {rest : List Value} {a0 a1 a2 a3 a4 a5 : Option Value} {r : List (Option Value)} {x : Int32} (hdg : decode M.2.1 pc = .ok (.istore 5, 2)) (hn : 5 < M.2.2.1) (h2 : nl2 a4 = true) (kk : AW M G (pc + 2) (a0 :: a1 :: a2 :: a3 :: a4 :: some (.int x) :: r) rest kc ks n h) : AW M G pc (a0 :: a1 :: a2 :: a3 :: a4 :: a5 :: r) (.int x :: rest) kc ks n h := awG_istore hdg hn (aSt_1 [a0, a1, a2, a3, a4] a5 r _ (fun x q => by simp at q; rw [← q]; exact h2)) kk
theorem aw_astore_5 {M : MI} {G : AG} {pc kc ks n : Nat} {h : Hp} {rest : List Value} {a0 a1 a2 a3 a4 a5 : Option Value} {r : List (Option Value)} {x : Nat} (hdg : decode M.2.1 pc = .ok (.astore 5, 2)) (hn : 5 < M.2.2.1) (h2 : nl2 a4 = true) (kk : AW M G (pc + 2) (a0 :: a1 :: a2 :: a3 :: a4 :: some (.ref x) :: r) rest kc ks n h) : AW M G pc (a0 :: a1 :: a2 :: a3 :: a4 :: a5 :: r) (.ref x :: rest) kc ks n h := awG_astore hdg hn (aSt_1 [a0, a1, a2, a3, a4] a5 r _ (fun x q => by simp at q; rw [← q]; exact h2)) kk
theorem aw_astore_5N {M : MI} {G : AG} {pc kc ks n : Nat} {h : Hp} {rest : List Value} {a0 a1 a2 a3 a4 a5 : Option Value} {r : List (Option Value)} (hdg : decode M.2.1 pc = .ok (.astore 5, 2)) (hn : 5 < M.2.2.1) (h2 : nl2 a4 = true) (kk : AW M G (pc + 2) (a0 :: a1 :: a2 :: a3 :: a4 :: some (.null) :: r) rest kc ks n h) : AW M G pc (a0 :: a1 :: a2 :: a3 :: a4 :: a5 :: r) (.null :: rest) kc ks n h := awG_astoreN hdg hn (aSt_1 [a0, a1, a2, a3, a4] a5 r _ (fun x q => by simp at q; rw [← q]; exact h2)) kk
theorem aw_lstore_5 {M : MI} {G : AG} {pc kc ks n : Nat} {h : Hp} {rest : List Value} {a0 a1 a2 a3 a4 a5 a6 : Option Value} {r : List (Option Value)} {x : Int64} (hdg : decode M.2.1 pc = .ok (.lstore 5, 2)) (hn : 6 < M.2.2.1) (h2 : nl2 a4 = true) (kk : AW M G (pc + 2) (a0 :: a1 :: a2 :: a3 :: a4 :: some (.long x) :: none :: r) rest kc ks n h) : AW M G pc (a0 :: a1 :: a2 :: a3 :: a4 :: a5 :: a6 :: r) (.long x :: rest) kc ks n h := awG_lstore hdg hn (aSt_2 [a0, a1, a2, a3, a4] a5 a6 r _ (fun x q => by simp at q; rw [← q]; exact h2)) kk
theorem aw_iinc_5 {M : MI} {G : AG} {pc kc ks n : Nat} {h : Hp} {rest : List Value} {a0 a1 a2 a3 a4 : Option Value} {r : List (Option Value)} {n0 : Int} {x c0 : Int32} (hdg : decode M.2.1 pc = .ok (.iinc 5 n0, 3)) (hv : Int32.ofInt n0 = c0) (hn : 5 < M.2.2.1) (h2 : nl2 a4 = true) (kk : AW M G (pc + 3) (a0 :: a1 :: a2 :: a3 :: a4 :: some (.int (x + c0)) :: r) rest kc ks n h) : AW M G pc (a0 :: a1 :: a2 :: a3 :: a4 :: some (.int x) :: r) rest kc ks n h := awG_iinc hdg rfl hv hn (aSt_1 [a0, a1, a2, a3, a4] (some (.int x)) r _ (fun x q => by simp at q; rw [← q]; exact h2)) kk
theorem aw_istore_6 {M : MI} {G : AG} {pc kc ks n : Nat} {h : Hp} {rest : List Value} {a0 a1 a2 a3 a4 a5 a6 : Option Value} {r : List (Option Value)} {x : Int32} (hdg : decode M.2.1 pc = .ok (.istore 6, 2)) (hn : 6 < M.2.2.1) (h2 : nl2 a5 = true) (kk : AW M G (pc + 2) (a0 :: a1 :: a2 :: a3 :: a4 :: a5 :: some (.int x) :: r) rest kc ks n h) : AW M G pc (a0 :: a1 :: a2 :: a3 :: a4 :: a5 :: a6 :: r) (.int x :: rest) kc ks n h := awG_istore hdg hn (aSt_1 [a0, a1, a2, a3, a4, a5] a6 r _ (fun x q => by simp at q; rw [← q]; exact h2)) kk
theorem aw_astore_6 {M : MI} {G : AG} {pc kc ks n : Nat} {h : Hp} {rest : List Value} {a0 a1 a2 a3 a4 a5 a6 : Option Value} {r : List (Option Value)} {x : Nat} (hdg : decode M.2.1 pc = .ok (.astore 6, 2)) (hn : 6 < M.2.2.1) (h2 : nl2 a5 = true) (kk : AW M G (pc + 2) (a0 :: a1 :: a2 :: a3 :: a4 :: a5 :: some (.ref x) :: r) rest kc ks n h) : AW M G pc (a0 :: a1 :: a2 :: a3 :: a4 :: a5 :: a6 :: r) (.ref x :: rest) kc ks n h := awG_astore hdg hn (aSt_1 [a0, a1, a2, a3, a4, a5] a6 r _ (fun x q => by simp at q; rw [← q]; exact h2)) kk
theorem aw_astore_6N {M : MI} {G : AG} {pc kc ks n : Nat} {h : Hp} {rest : List Value} {a0 a1 a2 a3 a4 a5 a6 : Option Value} {r : List (Option Value)} (hdg : decode M.2.1 pc = .ok (.astore 6, 2)) (hn : 6 < M.2.2.1) (h2 : nl2 a5 = true) (kk : AW M G (pc + 2) (a0 :: a1 :: a2 :: a3 :: a4 :: a5 :: some (.null) :: r) rest kc ks n h) : AW M G pc (a0 :: a1 :: a2 :: a3 :: a4 :: a5 :: a6 :: r) (.null :: rest) kc ks n h := awG_astoreN hdg hn (aSt_1 [a0, a1, a2, a3, a4, a5] a6 r _ (fun x q => by simp at q; rw [← q]; exact h2)) kk
theorem aw_lstore_6 {M : MI} {G : AG} {pc kc ks n : Nat} {h : Hp} {rest : List Value} {a0 a1 a2 a3 a4 a5 a6 a7 : Option Value} {r : List (Option Value)} {x : Int64} (hdg : decode M.2.1 pc = .ok (.lstore 6, 2)) (hn : 7 < M.2.2.1) (h2 : nl2 a5 = true) (kk : AW M G (pc + 2) (a0 :: a1 :: a2 :: a3 :: a4 :: a5 :: some (.long x) :: none :: r) rest kc ks n h) : AW M G pc (a0 :: a1 :: a2 :: a3 :: a4 :: a5 :: a6 :: a7 :: r) (.long x :: rest) kc ks n h := awG_lstore hdg hn (aSt_2 [a0, a1, a2, a3, a4, a5] a6 a7 r _ (fun x q => by simp at q; rw [← q]; exact h2)) kk
theorem aw_iinc_6 {M : MI} {G : AG} {pc kc ks n : Nat} {h : Hp} {rest : List Value} {a0 a1 a2 a3 a4 a5 : Option Value} {r : List (Option Value)} {n0 : Int} {x c0 : Int32} (hdg : decode M.2.1 pc = .ok (.iinc 6 n0, 3)) (hv : Int32.ofInt n0 = c0) (hn : 6 < M.2.2.1) (h2 : nl2 a5 = true) (kk : AW M G (pc + 3) (a0 :: a1 :: a2 :: a3 :: a4 :: a5 :: some (.int (x + c0)) :: r) rest kc ks n h) : AW M G pc (a0 :: a1 :: a2 :: a3 :: a4 :: a5 :: some (.int x) :: r) rest kc ks n h := awG_iinc hdg rfl hv hn (aSt_1 [a0, a1, a2, a3, a4, a5] (some (.int x)) r _ (fun x q => by simp at q; rw [← q]; exact h2)) kk
theorem aw_istore_7 {M : MI} {G : AG} {pc kc ks n : Nat} {h : Hp} {rest : List Value} {a0 a1 a2 a3 a4 a5 a6 a7 : Option Value} {r : List (Option Value)} {x : Int32} (hdg : decode M.2.1 pc = .ok (.istore 7, 2)) (hn : 7 < M.2.2.1) (h2 : nl2 a6 = true) (kk : AW M G (pc + 2) (a0 :: a1 :: a2 :: a3 :: a4 :: a5 :: a6 :: some (.int x) :: r) rest kc ks n h) : AW M G pc (a0 :: a1 :: a2 :: a3 :: a4 :: a5 :: a6 :: a7 :: r) (.int x :: rest) kc ks n h := awG_istore hdg hn (aSt_1 [a0, a1, a2, a3, a4, a5, a6] a7 r _ (fun x q => by simp at q; rw [← q]; exact h2)) kk
theorem aw_astore_7 {M : MI} {G : AG} {pc kc ks n : Nat} {h : Hp} {rest : List Value} {a0 a1 a2 a3 a4 a5 a6 a7 : Option Value} {r : List (Option Value)} {x : Nat} (hdg : decode M.2.1 pc = .ok (.astore 7, 2)) (hn : 7 < M.2.2.1) (h2 : nl2 a6 = true) (kk : AW M G (pc + 2) (a0 :: a1 :: a2 :: a3 :: a4 :: a5 :: a6 :: some (.ref x) :: r) rest kc ks n h) : AW M G pc (a0 :: a1 :: a2 :: a3 :: a4 :: a5 :: a6 :: a7 :: r) (.ref x :: rest) kc ks n h := awG_astore hdg hn (aSt_1 [a0, a1, a2, a3, a4, a5, a6] a7 r _ (fun x q => by simp at q; rw [← q]; exact h2)) kk
theorem aw_astore_7N {M : MI} {G : AG} {pc kc ks n : Nat} {h : Hp} {rest : List Value} {a0 a1 a2 a3 a4 a5 a6 a7 : Option Value} {r : List (Option Value)} (hdg : decode M.2.1 pc = .ok (.astore 7, 2)) (hn : 7 < M.2.2.1) (h2 : nl2 a6 = true) (kk : AW M G (pc + 2) (a0 :: a1 :: a2 :: a3 :: a4 :: a5 :: a6 :: some (.null) :: r) rest kc ks n h) : AW M G pc (a0 :: a1 :: a2 :: a3 :: a4 :: a5 :: a6 :: a7 :: r) (.null :: rest) kc ks n h := awG_astoreN hdg hn (aSt_1 [a0, a1, a2, a3, a4, a5, a6] a7 r _ (fun x q => by simp at q; rw [← q]; exact h2)) kk
theorem aw_lstore_7 {M : MI} {G : AG} {pc kc ks n : Nat} {h : Hp} {rest : List Value} {a0 a1 a2 a3 a4 a5 a6 a7 a8 : Option Value} {r : List (Option Value)} {x : Int64} (hdg : decode M.2.1 pc = .ok (.lstore 7, 2)) (hn : 8 < M.2.2.1) (h2 : nl2 a6 = true) (kk : AW M G (pc + 2) (a0 :: a1 :: a2 :: a3 :: a4 :: a5 :: a6 :: some (.long x) :: none :: r) rest kc ks n h) : AW M G pc (a0 :: a1 :: a2 :: a3 :: a4 :: a5 :: a6 :: a7 :: a8 :: r) (.long x :: rest) kc ks n h := awG_lstore hdg hn (aSt_2 [a0, a1, a2, a3, a4, a5, a6] a7 a8 r _ (fun x q => by simp at q; rw [← q]; exact h2)) kk
theorem aw_iinc_7 {M : MI} {G : AG} {pc kc ks n : Nat} {h : Hp} {rest : List Value} {a0 a1 a2 a3 a4 a5 a6 : Option Value} {r : List (Option Value)} {n0 : Int} {x c0 : Int32} (hdg : decode M.2.1 pc = .ok (.iinc 7 n0, 3)) (hv : Int32.ofInt n0 = c0) (hn : 7 < M.2.2.1) (h2 : nl2 a6 = true) (kk : AW M G (pc + 3) (a0 :: a1 :: a2 :: a3 :: a4 :: a5 :: a6 :: some (.int (x + c0)) :: r) rest kc ks n h) : AW M G pc (a0 :: a1 :: a2 :: a3 :: a4 :: a5 :: a6 :: some (.int x) :: r) rest kc ks n h := awG_iinc hdg rfl hv hn (aSt_1 [a0, a1, a2, a3, a4, a5, a6] (some (.int x)) r _ (fun x q => by simp at q; rw [← q]; exact h2)) kk
theorem aw_istore_8 {M : MI} {G : AG} {pc kc ks n : Nat} {h : Hp} {rest : List Value} {a0 a1 a2 a3 a4 a5 a6 a7 a8 : Option Value} {r : List (Option Value)} {x : Int32} (hdg : decode M.2.1 pc = .ok (.istore 8, 2)) (hn : 8 < M.2.2.1) (h2 : nl2 a7 = true) (kk : AW M G (pc + 2) (a0 :: a1 :: a2 :: a3 :: a4 :: a5 :: a6 :: a7 :: some (.int x) :: r) rest kc ks n h) : AW M G pc (a0 :: a1 :: a2 :: a3 :: a4 :: a5 :: a6 :: a7 :: a8 :: r) (.int x :: rest) kc ks n h := awG_istore hdg hn (aSt_1 [a0, a1, a2, a3, a4, a5, a6, a7] a8 r _ (fun x q => by simp at q; rw [← q]; exact h2)) kk
theorem aw_astore_8 {M : MI} {G : AG} {pc kc ks n : Nat} {h : Hp} {rest : List Value} {a0 a1 a2 a3 a4 a5 a6 a7 a8 : Option Value} {r : List (Option Value)} {x : Nat} (hdg : decode M.2.1 pc = .ok (.astore 8, 2)) (hn : 8 < M.2.2.1) (h2 : nl2 a7 = true) (kk : AW M G (pc + 2) (a0 :: a1 :: a2 :: a3 :: a4 :: a5 :: a6 :: a7 :: some (.ref x) :: r) rest kc ks n h) : AW M G pc (a0 :: a1 :: a2 :: a3 :: a4 :: a5 :: a6 :: a7 :: a8 :: r) (.ref x :: rest) kc ks n h := awG_astore hdg hn (aSt_1 [a0, a1, a2, a3, a4, a5, a6, a7] a8 r _ (fun x q => by simp at q; rw [← q]; exact h2)) kk
theorem aw_astore_8N {M : MI} {G : AG} {pc kc ks n : Nat} {h : Hp} {rest : List Value} {a0 a1 a2 a3 a4 a5 a6 a7 a8 : Option Value} {r : List (Option Value)} (hdg : decode M.2.1 pc = .ok (.astore 8, 2)) (hn : 8 < M.2.2.1) (h2 : nl2 a7 = true) (kk : AW M G (pc + 2) (a0 :: a1 :: a2 :: a3 :: a4 :: a5 :: a6 :: a7 :: some (.null) :: r) rest kc ks n h) : AW M G pc (a0 :: a1 :: a2 :: a3 :: a4 :: a5 :: a6 :: a7 :: a8 :: r) (.null :: rest) kc ks n h := awG_astoreN hdg hn (aSt_1 [a0, a1, a2, a3, a4, a5, a6, a7] a8 r _ (fun x q => by simp at q; rw [← q]; exact h2)) kk
theorem aw_lstore_8 {M : MI} {G : AG} {pc kc ks n : Nat} {h : Hp} {rest : List Value} {a0 a1 a2 a3 a4 a5 a6 a7 a8 a9 : Option Value} {r : List (Option Value)} {x : Int64} (hdg : decode M.2.1 pc = .ok (.lstore 8, 2)) (hn : 9 < M.2.2.1) (h2 : nl2 a7 = true) (kk : AW M G (pc + 2) (a0 :: a1 :: a2 :: a3 :: a4 :: a5 :: a6 :: a7 :: some (.long x) :: none :: r) rest kc ks n h) : AW M G pc (a0 :: a1 :: a2 :: a3 :: a4 :: a5 :: a6 :: a7 :: a8 :: a9 :: r) (.long x :: rest) kc ks n h := awG_lstore hdg hn (aSt_2 [a0, a1, a2, a3, a4, a5, a6, a7] a8 a9 r _ (fun x q => by simp at q; rw [← q]; exact h2)) kk
theorem aw_iinc_8 {M : MI} {G : AG} {pc kc ks n : Nat} {h : Hp} {rest : List Value} {a0 a1 a2 a3 a4 a5 a6 a7 : Option Value} {r : List (Option Value)} {n0 : Int} {x c0 : Int32} (hdg : decode M.2.1 pc = .ok (.iinc 8 n0, 3)) (hv : Int32.ofInt n0 = c0) (hn : 8 < M.2.2.1) (h2 : nl2 a7 = true) (kk : AW M G (pc + 3) (a0 :: a1 :: a2 :: a3 :: a4 :: a5 :: a6 :: a7 :: some (.int (x + c0)) :: r) rest kc ks n h) : AW M G pc (a0 :: a1 :: a2 :: a3 :: a4 :: a5 :: a6 :: a7 :: some (.int x) :: r) rest kc ks n h := awG_iinc hdg rfl hv hn (aSt_1 [a0, a1, a2, a3, a4, a5, a6, a7] (some (.int x)) r _ (fun x q => by simp at q; rw [← q]; exact h2)) kk
theorem aw_istore_9 {M : MI} {G : AG} {pc kc ks n : Nat} {h : Hp} {rest : List Value} {a0 a1 a2 a3 a4 a5 a6 a7 a8 a9 : Option Value} {r : List (Option Value)} {x : Int32} (hdg : decode M.2.1 pc = .ok (.istore 9, 2)) (hn : 9 < M.2.2.1) (h2 : nl2 a8 = true) (kk : AW M G (pc + 2) (a0 :: a1 :: a2 :: a3 :: a4 :: a5 :: a6 :: a7 :: a8 :: some (.int x) :: r) rest kc ks n h) : AW M G pc (a0 :: a1 :: a2 :: a3 :: a4 :: a5 :: a6 :: a7 :: a8 :: a9 :: r) (.int x :: rest) kc ks n h := awG_istore hdg hn (aSt_1 [a0, a1, a2, a3, a4, a5, a6, a7, a8] a9 r _ (fun x q => by simp at q; rw [← q]; exact h2)) kk
theorem aw_astore_9 {M : MI} {G : AG} {pc kc ks n : Nat} {h : Hp} {rest : List Value} {a0 a1 a2 a3 a4 a5 a6 a7 a8 a9 : Option Value} {r : List (Option Value)} {x : Nat} (hdg : decode M.2.1 pc = .ok (.astore 9, 2)) (hn : 9 < M.2.2.1) (h2 : nl2 a8 = true) (kk : AW M G (pc + 2) (a0 :: a1 :: a2 :: a3 :: a4 :: a5 :: a6 :: a7 :: a8 :: some (.ref x) :: r) rest kc ks n h) : AW M G pc (a0 :: a1 :: a2 :: a3 :: a4 :: a5 :: a6 :: a7 :: a8 :: a9 :: r) (.ref x :: rest) kc ks n h := awG_astore hdg hn (aSt_1 [a0, a1, a2, a3, a4, a5, a6, a7, a8] a9 r _ (fun x q => by simp at q; rw [← q]; exact h2)) kk
theorem aw_astore_9N {M : MI} {G : AG} {pc kc ks n : Nat} {h : Hp} {rest : List Value} {a0 a1 a2 a3 a4 a5 a6 a7 a8 a9 : Option Value} {r : List (Option Value)} (hdg : decode M.2.1 pc = .ok (.astore 9, 2)) (hn : 9 < M.2.2.1) (h2 : nl2 a8 = true) (kk : AW M G (pc + 2) (a0 :: a1 :: a2 :: a3 :: a4 :: a5 :: a6 :: a7 :: a8 :: some (.null) :: r) rest kc ks n h) : AW M G pc (a0 :: a1 :: a2 :: a3 :: a4 :: a5 :: a6 :: a7 :: a8 :: a9 :: r) (.null :: rest) kc ks n h := awG_astoreN hdg hn (aSt_1 [a0, a1, a2, a3, a4, a5, a6, a7, a8] a9 r _ (fun x q => by simp at q; rw [← q]; exact h2)) kk
theorem aw_lstore_9 {M : MI} {G : AG} {pc kc ks n : Nat} {h : Hp} {rest : List Value} {a0 a1 a2 a3 a4 a5 a6 a7 a8 a9 a10 : Option Value} {r : List (Option Value)} {x : Int64} (hdg : decode M.2.1 pc = .ok (.lstore 9, 2)) (hn : 10 < M.2.2.1) (h2 : nl2 a8 = true) (kk : AW M G (pc + 2) (a0 :: a1 :: a2 :: a3 :: a4 :: a5 :: a6 :: a7 :: a8 :: some (.long x) :: none :: r) rest kc ks n h) : AW M G pc (a0 :: a1 :: a2 :: a3 :: a4 :: a5 :: a6 :: a7 :: a8 :: a9 :: a10 :: r) (.long x :: rest) kc ks n h := awG_lstore hdg hn (aSt_2 [a0, a1, a2, a3, a4, a5, a6, a7, a8] a9 a10 r _ (fun x q => by simp at q; rw [← q]; exact h2)) kk
theorem aw_iinc_9 {M : MI} {G : AG} {pc kc ks n : Nat} {h : Hp} {rest : List Value} {a0 a1 a2 a3 a4 a5 a6 a7 a8 : Option Value} {r : List (Option Value)} {n0 : Int} {x c0 : Int32} (hdg : decode M.2.1 pc = .ok (.iinc 9 n0, 3)) (hv : Int32.ofInt n0 = c0) (hn : 9 < M.2.2.1) (h2 : nl2 a8 = true) (kk : AW M G (pc + 3) (a0 :: a1 :: a2 :: a3 :: a4 :: a5 :: a6 :: a7 :: a8 :: some (.int (x + c0)) :: r) rest kc ks n h) : AW M G pc (a0 :: a1 :: a2 :: a3 :: a4 :: a5 :: a6 :: a7 :: a8 :: some (.int x) :: r) rest kc ks n h := awG_iinc hdg rfl hv hn (aSt_1 [a0, a1, a2, a3, a4, a5, a6, a7, a8] (some (.int x)) r _ (fun x q => by simp at q; rw [← q]; exact h2)) kk
theorem aw_istore_10 {M : MI} {G : AG} {pc kc ks n : Nat} {h : Hp} {rest : List Value} {a0 a1 a2 a3 a4 a5 a6 a7 a8 a9 a10 : Option Value} {r : List (Option Value)} {x : Int32} (hdg : decode M.2.1 pc = .ok (.istore 10, 2)) (hn : 10 < M.2.2.1) (h2 : nl2 a9 = true) (kk : AW M G (pc + 2) (a0 :: a1 :: a2 :: a3 :: a4 :: a5 :: a6 :: a7 :: a8 :: a9 :: some (.int x) :: r) rest kc ks n h) : AW M G pc (a0 :: a1 :: a2 :: a3 :: a4 :: a5 :: a6 :: a7 :: a8 :: a9 :: a10 :: r) (.int x :: rest) kc ks n h := awG_istore hdg hn (aSt_1 [a0, a1, a2, a3, a4, a5, a6, a7, a8, a9] a10 r _ (fun x q => by simp at q; rw [← q]; exact h2)) kk
theorem aw_astore_10 {M : MI} {G : AG} {pc kc ks n : Nat} {h : Hp} {rest : List Value} {a0 a1 a2 a3 a4 a5 a6 a7 a8 a9 a10 : Option Value} {r : List (Option Value)} {x : Nat} (hdg : decode M.2.1 pc = .ok (.astore 10, 2)) (hn : 10 < M.2.2.1) (h2 : nl2 a9 = true) (kk : AW M G (pc + 2) (a0 :: a1 :: a2 :: a3 :: a4 :: a5 :: a6 :: a7 :: a8 :: a9 :: some (.ref x) :: r) rest kc ks n h) : AW M G pc (a0 :: a1 :: a2 :: a3 :: a4 :: a5 :: a6 :: a7 :: a8 :: a9 :: a10 :: r) (.ref x :: rest) kc ks n h := awG_astore hdg hn (aSt_1 [a0, a1, a2, a3, a4, a5, a6, a7, a8, a9] a10 r _ (fun x q => by simp at q; rw [← q]; exact h2)) kk
theorem aw_astore_10N {M : MI} {G : AG} {pc kc ks n : Nat} {h : Hp} {rest : List Value} {a0 a1 a2 a3 a4 a5 a6 a7 a8 a9 a10 : Option Value} {r : List (Option Value)} (hdg : decode M.2.1 pc = .ok (.astore 10, 2)) (hn : 10 < M.2.2.1) (h2 : nl2 a9 = true) (kk : AW M G (pc + 2) (a0 :: a1 :: a2 :: a3 :: a4 :: a5 :: a6 :: a7 :: a8 :: a9 :: some (.null) :: r) rest kc ks n h) : AW M G pc (a0 :: a1 :: a2 :: a3 :: a4 :: a5 :: a6 :: a7 :: a8 :: a9 :: a10 :: r) (.null :: rest) kc ks n h := awG_astoreN hdg hn (aSt_1 [a0, a1, a2, a3, a4, a5, a6, a7, a8, a9] a10 r _ (fun x q => by simp at q; rw [← q]; exact h2)) kk
theorem aw_lstore_10 {M : MI} {G : AG} {pc kc ks n : Nat} {h : Hp} {rest : List Value} {a0 a1 a2 a3 a4 a5 a6 a7 a8 a9 a10 a11 : Option Value} {r : List (Option Value)} {x : Int64} (hdg : decode M.2.1 pc = .ok (.lstore 10, 2)) (hn : 11 < M.2.2.1) (h2 : nl2 a9 = true) (kk : AW M G (pc + 2) (a0 :: a1 :: a2 :: a3 :: a4 :: a5 :: a6 :: a7 :: a8 :: a9 :: some (.long x) :: none :: r) rest kc ks n h) : AW M G pc (a0 :: a1 :: a2 :: a3 :: a4 :: a5 :: a6 :: a7 :: a8 :: a9 :: a10 :: a11 :: r) (.long x :: rest) kc ks n h := awG_lstore hdg hn (aSt_2 [a0, a1, a2, a3, a4, a5, a6, a7, a8, a9] a10 a11 r _ (fun x q => by simp at q; rw [← q]; exact h2)) kk
theorem aw_iinc_10 {M : MI} {G : AG} {pc kc ks n : Nat} {h : Hp} {rest : List Value} {a0 a1 a2 a3 a4 a5 a6 a7 a8 a9 : Option Value} {r : List (Option Value)} {n0 : Int} {x c0 : Int32} (hdg : decode M.2.1 pc = .ok (.iinc 10 n0, 3)) (hv : Int32.ofInt n0 = c0) (hn : 10 < M.2.2.1) (h2 : nl2 a9 = true) (kk : AW M G (pc + 3) (a0 :: a1 :: a2 :: a3 :: a4 :: a5 :: a6 :: a7 :: a8 :: a9 :: some (.int (x + c0)) :: r) rest kc ks n h) : AW M G pc (a0 :: a1 :: a2 :: a3 :: a4 :: a5 :: a6 :: a7 :: a8 :: a9 :: some (.int x) :: r) rest kc ks n h := awG_iinc hdg rfl hv hn (aSt_1 [a0, a1, a2, a3, a4, a5, a6, a7, a8, a9] (some (.int x)) r _ (fun x q => by simp at q; rw [← q]; exact h2)) kk
theorem aw_istore_11 {M : MI} {G : AG} {pc kc ks n : Nat} {h : Hp} {rest : List Value} {a0 a1 a2 a3 a4 a5 a6 a7 a8 a9 a10 a11 : Option Value} {r : List (Option Value)} {x : Int32} (hdg : decode M.2.1 pc = .ok (.istore 11, 2)) (hn : 11 < M.2.2.1) (h2 : nl2 a10 = true) (kk : AW M G (pc + 2) (a0 :: a1 :: a2 :: a3 :: a4 :: a5 :: a6 :: a7 :: a8 :: a9 :: a10 :: some (.int x) :: r) rest kc ks n h) : AW M G pc (a0 :: a1 :: a2 :: a3 :: a4 :: a5 :: a6 :: a7 :: a8 :: a9 :: a10 :: a11 :: r) (.int x :: rest) kc ks n h := awG_istore hdg hn (aSt_1 [a0, a1, a2, a3, a4, a5, a6, a7, a8, a9, a10] a11 r _ (fun x q => by simp at q; rw [← q]; exact h2)) kk
theorem aw_astore_11 {M : MI} {G : AG} {pc kc ks n : Nat} {h : Hp} {rest : List Value} {a0 a1 a2 a3 a4 a5 a6 a7 a8 a9 a10 a11 : Option Value} {r : List (Option Value)} {x : Nat} (hdg : decode M.2.1 pc = .ok (.astore 11, 2)) (hn : 11 < M.2.2.1) (h2 : nl2 a10 = true) (kk : AW M G (pc + 2) (a0 :: a1 :: a2 :: a3 :: a4 :: a5 :: a6 :: a7 :: a8 :: a9 :: a10 :: some (.ref x) :: r) rest kc ks n h) : AW M G pc (a0 :: a1 :: a2 :: a3 :: a4 :: a5 :: a6 :: a7 :: a8 :: a9 :: a10 :: a11 :: r) (.ref x :: rest) kc ks n h := awG_astore hdg hn (aSt_1 [a0, a1, a2, a3, a4, a5, a6, a7, a8, a9, a10] a11 r _ (fun x q => by simp at q; rw [← q]; exact h2)) kk
theorem aw_astore_11N {M : MI} {G : AG} {pc kc ks n : Nat} {h : Hp} {rest : List Value} {a0 a1 a2 a3 a4 a5 a6 a7 a8 a9 a10 a11 : Option Value} {r : List (Option Value)} (hdg : decode M.2.1 pc = .ok (.astore 11, 2)) (hn : 11 < M.2.2.1) (h2 : nl2 a10 = true) (kk : AW M G (pc + 2) (a0 :: a1 :: a2 :: a3 :: a4 :: a5 :: a6 :: a7 :: a8 :: a9 :: a10 :: some (.null) :: r) rest kc ks n h) : AW M G pc (a0 :: a1 :: a2 :: a3 :: a4 :: a5 :: a6 :: a7 :: a8 :: a9 :: a10 :: a11 :: r) (.null :: rest) kc ks n h := awG_astoreN hdg hn (aSt_1 [a0, a1, a2, a3, a4, a5, a6, a7, a8, a9, a10] a11 r _ (fun x q => by simp at q; rw [← q]; exact h2)) kk
theorem aw_lstore_11 {M : MI} {G : AG} {pc kc ks n : Nat} {h : Hp} {rest : List Value} {a0 a1 a2 a3 a4 a5 a6 a7 a8 a9 a10 a11 a12 : Option Value} {r : List (Option Value)} {x : Int64} (hdg : decode M.2.1 pc = .ok (.lstore 11, 2)) (hn : 12 < M.2.2.1) (h2 : nl2 a10 = true) (kk : AW M G (pc + 2) (a0 :: a1 :: a2 :: a3 :: a4 :: a5 :: a6 :: a7 :: a8 :: a9 :: a10 :: some (.long x) :: none :: r) rest kc ks n h) : AW M G pc (a0 :: a1 :: a2 :: a3 :: a4 :: a5 :: a6 :: a7 :: a8 :: a9 :: a10 :: a11 :: a12 :: r) (.long x :: rest) kc ks n h := awG_lstore hdg hn (aSt_2 [a0, a1, a2, a3, a4, a5, a6, a7, a8, a9, a10] a11 a12 r _ (fun x q => by simp at q; rw [← q]; exact h2)) kk
theorem aw_iinc_11 {M : MI} {G : AG} {pc kc ks n : Nat} {h : Hp} {rest : List Value} {a0 a1 a2 a3 a4 a5 a6 a7 a8 a9 a10 : Option Value} {r : List (Option Value)} {n0 : Int} {x c0 : Int32} (hdg : decode M.2.1 pc = .ok (.iinc 11 n0, 3)) (hv : Int32.ofInt n0 = c0) (hn : 11 < M.2.2.1) (h2 : nl2 a10 = true) (kk : AW M G (pc + 3) (a0 :: a1 :: a2 :: a3 :: a4 :: a5 :: a6 :: a7 :: a8 :: a9 :: a10 :: some (.int (x + c0)) :: r) rest kc ks n h) : AW M G pc (a0 :: a1 :: a2 :: a3 :: a4 :: a5 :: a6 :: a7 :: a8 :: a9 :: a10 :: some (.int x) :: r) rest kc ks n h := awG_iinc hdg rfl hv hn (aSt_1 [a0, a1, a2, a3, a4, a5, a6, a7, a8, a9, a10] (some (.int x)) r _ (fun x q => by simp at q; rw [← q]; exact h2)) kk
theorem aw_istore_12 {M : MI} {G : AG} {pc kc ks n : Nat} {h : Hp} {rest : List Value} {a0 a1 a2 a3 a4 a5 a6 a7 a8 a9 a10 a11 a12 : Option Value} {r : List (Option Value)} {x : Int32} (hdg : decode M.2.1 pc = .ok (.istore 12, 2)) (hn : 12 < M.2.2.1) (h2 : nl2 a11 = true) (kk : AW M G (pc + 2) (a0 :: a1 :: a2 :: a3 :: a4 :: a5 :: a6 :: a7 :: a8 :: a9 :: a10 :: a11 :: some (.int x) :: r) rest kc ks n h) : AW M G pc (a0 :: a1 :: a2 :: a3 :: a4 :: a5 :: a6 :: a7 :: a8 :: a9 :: a10 :: a11 :: a12 :: r) (.int x :: rest) kc ks n h := awG_istore hdg hn (aSt_1 [a0, a1, a2, a3, a4, a5, a6, a7, a8, a9, a10, a11] a12 r _ (fun x q => by simp at q; rw [← q]; exact h2)) kk
theorem aw_astore_12 {M : MI} {G : AG} {pc kc ks n : Nat} {h : Hp} {rest : List Value} {a0 a1 a2 a3 a4 a5 a6 a7 a8 a9 a10 a11 a12 : Option Value} {r : List (Option Value)} {x : Nat} (hdg : decode M.2.1 pc = .ok (.astore 12, 2)) (hn : 12 < M.2.2.1) (h2 : nl2 a11 = true) (kk : AW M G (pc + 2) (a0 :: a1 :: a2 :: a3 :: a4 :: a5 :: a6 :: a7 :: a8 :: a9 :: a10 :: a11 :: some (.ref x) :: r) rest kc ks n h) : AW M G pc (a0 :: a1 :: a2 :: a3 :: a4 :: a5 :: a6 :: a7 :: a8 :: a9 :: a10 :: a11 :: a12 :: r) (.ref x :: rest) kc ks n h := awG_astore hdg hn (aSt_1 [a0, a1, a2, a3, a4, a5, a6, a7, a8, a9, a10, a11] a12 r _ (fun x q => by simp at q; rw [← q]; exact h2)) kk
theorem aw_astore_12N {M : MI} {G : AG} {pc kc ks n : Nat} {h : Hp} {rest : List Value} {a0 a1 a2 a3 a4 a5 a6 a7 a8 a9 a10 a11 a12 : Option Value} {r : List (Option Value)} (hdg : decode M.2.1 pc = .ok (.astore 12, 2)) (hn : 12 < M.2.2.1) (h2 : nl2 a11 = true) (kk : AW M G (pc + 2) (a0 :: a1 :: a2 :: a3 :: a4 :: a5 :: a6 :: a7 :: a8 :: a9 :: a10 :: a11 :: some (.null) :: r) rest kc ks n h) : AW M G pc (a0 :: a1 :: a2 :: a3 :: a4 :: a5 :: a6 :: a7 :: a8 :: a9 :: a10 :: a11 :: a12 :: r) (.null :: rest) kc ks n h := awG_astoreN hdg hn (aSt_1 [a0, a1, a2, a3, a4, a5, a6, a7, a8, a9, a10, a11] a12 r _ (fun x q => by simp at q; rw [← q]; exact h2)) kk
theorem aw_lstore_12 {M : MI} {G : AG} {pc kc ks n : Nat} {h : Hp} {rest : List Value} {a0 a1 a2 a3 a4 a5 a6 a7 a8 a9 a10 a11 a12 a13 : Option Value} {r : List (Option Value)} {x : Int64} (hdg : decode M.2.1 pc = .ok (.lstore 12, 2)) (hn : 13 < M.2.2.1) (h2 : nl2 a11 = true) (kk : AW M G (pc + 2) (a0 :: a1 :: a2 :: a3 :: a4 :: a5 :: a6 :: a7 :: a8 :: a9 :: a10 :: a11 :: some (.long x) :: none :: r) rest kc ks n h) : AW M G pc (a0 :: a1 :: a2 :: a3 :: a4 :: a5 :: a6 :: a7 :: a8 :: a9 :: a10 :: a11 :: a12 :: a13 :: r) (.long x :: rest) kc ks n h := awG_lstore hdg hn (aSt_2 [a0, a1, a2, a3, a4, a5, a6, a7, a8, a9, a10, a11] a12 a13 r _ (fun x q => by simp at q; rw [← q]; exact h2)) kk
theorem aw_iinc_12 {M : MI} {G : AG} {pc kc ks n : Nat} {h : Hp} {rest : List Value} {a0 a1 a2 a3 a4 a5 a6 a7 a8 a9 a10 a11 : Option Value} {r : List (Option Value)} {n0 : Int} {x c0 : Int32} (hdg : decode M.2.1 pc = .ok (.iinc 12 n0, 3)) (hv : Int32.ofInt n0 = c0) (hn : 12 < M.2.2.1) (h2 : nl2 a11 = true) (kk : AW M G (pc + 3) (a0 :: a1 :: a2 :: a3 :: a4 :: a5 :: a6 :: a7 :: a8 :: a9 :: a10 :: a11 :: some (.int (x + c0)) :: r) rest kc ks n h) : AW M G pc (a0 :: a1 :: a2 :: a3 :: a4 :: a5 :: a6 :: a7 :: a8 :: a9 :: a10 :: a11 :: some (.int x) :: r) rest kc ks n h := awG_iinc hdg rfl hv hn (aSt_1 [a0, a1, a2, a3, a4, a5, a6, a7, a8, a9, a10, a11] (some (.int x)) r _ (fun x q => by simp at q; rw [← q]; exact h2)) kk
theorem aw_istore_13 {M : MI} {G : AG} {pc kc ks n : Nat} {h : Hp} {rest : List Value} {a0 a1 a2 a3 a4 a5 a6 a7 a8 a9 a10 a11 a12 a13 : Option Value} {r : List (Option Value)} {x : Int32} (hdg : decode M.2.1 pc = .ok (.istore 13, 2)) (hn : 13 < M.2.2.1) (h2 : nl2 a12 = true) (kk : AW M G (pc + 2) (a0 :: a1 :: a2 :: a3 :: a4 :: a5 :: a6 :: a7 :: a8 :: a9 :: a10 :: a11 :: a12 :: some (.int x) :: r) rest kc ks n h) : AW M G pc (a0 :: a1 :: a2 :: a3 :: a4 :: a5 :: a6 :: a7 :: a8 :: a9 :: a10 :: a11 :: a12 :: a13 :: r) (.int x :: rest) kc ks n h := awG_istore hdg hn (aSt_1 [a0, a1, a2, a3, a4, a5, a6, a7, a8, a9, a10, a11, a12] a13 r _ (fun x q => by simp at q; rw [← q]; exact h2)) kk
theorem aw_astore_13 {M : MI} {G : AG} {pc kc ks n : Nat} {h : Hp} {rest : List Value} {a0 a1 a2 a3 a4 a5 a6 a7 a8 a9 a10 a11 a12 a13 : Option Value} {r : List (Option Value)} {x : Nat} (hdg : decode M.2.1 pc = .ok (.astore 13, 2)) (hn : 13 < M.2.2.1) (h2 : nl2 a12 = true) (kk : AW M G (pc + 2) (a0 :: a1 :: a2 :: a3 :: a4 :: a5 :: a6 :: a7 :: a8 :: a9 :: a10 :: a11 :: a12 :: some (.ref x) :: r) rest kc ks n h) : AW M G pc (a0 :: a1 :: a2 :: a3 :: a4 :: a5 :: a6 :: a7 :: a8 :: a9 :: a10 :: a11 :: a12 :: a13 :: r) (.ref x :: rest) kc ks n h := awG_astore hdg hn (aSt_1 [a0, a1, a2, a3, a4, a5, a6, a7, a8, a9, a10, a11, a12] a13 r _ (fun x q => by simp at q; rw [← q]; exact h2)) kk
theorem aw_astore_13N {M : MI} {G : AG} {pc kc ks n : Nat} {h : Hp} {rest : List Value} {a0 a1 a2 a3 a4 a5 a6 a7 a8 a9 a10 a11 a12 a13 : Option Value} {r : List (Option Value)} (hdg : decode M.2.1 pc = .ok (.astore 13, 2)) (hn : 13 < M.2.2.1) (h2 : nl2 a12 = true) (kk : AW M G (pc + 2) (a0 :: a1 :: a2 :: a3 :: a4 :: a5 :: a6 :: a7 :: a8 :: a9 :: a10 :: a11 :: a12 :: some (.null) :: r) rest kc ks n h) : AW M G pc (a0 :: a1 :: a2 :: a3 :: a4 :: a5 :: a6 :: a7 :: a8 :: a9 :: a10 :: a11 :: a12 :: a13 :: r) (.null :: rest) kc ks n h := awG_astoreN hdg hn (aSt_1 [a0, a1, a2, a3, a4, a5, a6, a7, a8, a9, a10, a11, a12] a13 r _ (fun x q => by simp at q; rw [← q]; exact h2)) kk
theorem aw_lstore_13 {M : MI} {G : AG} {pc kc ks n : Nat} {h : Hp} {rest : List Value} {a0 a1 a2 a3 a4 a5 a6 a7 a8 a9 a10 a11 a12 a13 a14 : Option Value} {r : List (Option Value)} {x : Int64} (hdg : decode M.2.1 pc = .ok (.lstore 13, 2)) (hn : 14 < M.2.2.1) (h2 : nl2 a12 = true) (kk : AW M G (pc + 2) (a0 :: a1 :: a2 :: a3 :: a4 :: a5 :: a6 :: a7 :: a8 :: a9 :: a10 :: a11 :: a12 :: some (.long x) :: none :: r) rest kc ks n h) : AW M G pc (a0 :: a1 :: a2 :: a3 :: a4 :: a5 :: a6 :: a7 :: a8 :: a9 :: a10 :: a11 :: a12 :: a13 :: a14 :: r) (.long x :: rest) kc ks n h := awG_lstore hdg hn (aSt_2 [a0, a1, a2, a3, a4, a5, a6, a7, a8, a9, a10, a11, a12] a13 a14 r _ (fun x q => by simp at q; rw [← q]; exact h2)) kk
theorem aw_iinc_13 {M : MI} {G : AG} {pc kc ks n : Nat} {h : Hp} {rest : List Value} {a0 a1 a2 a3 a4 a5 a6 a7 a8 a9 a10 a11 a12 : Option Value} {r : List (Option Value)} {n0 : Int} {x c0 : Int32} (hdg : decode M.2.1 pc = .ok (.iinc 13 n0, 3)) (hv : Int32.ofInt n0 = c0) (hn : 13 < M.2.2.1) (h2 : nl2 a12 = true) (kk : AW M G (pc + 3) (a0 :: a1 :: a2 :: a3 :: a4 :: a5 :: a6 :: a7 :: a8 :: a9 :: a10 :: a11 :: a12 :: some (.int (x + c0)) :: r) rest kc ks n h) : AW M G pc (a0 :: a1 :: a2 :: a3 :: a4 :: a5 :: a6 :: a7 :: a8 :: a9 :: a10 :: a11 :: a12 :: some (.int x) :: r) rest kc ks n h := awG_iinc hdg rfl hv hn (aSt_1 [a0, a1, a2, a3, a4, a5, a6, a7, a8, a9, a10, a11, a12] (some (.int x)) r _ (fun x q => by simp at q; rw [← q]; exact h2)) kk
theorem aw_istore_14 {M : MI} {G : AG} {pc kc ks n : Nat} {h : Hp} {rest : List Value} {a0 a1 a2 a3 a4 a5 a6 a7 a8 a9 a10 a11 a12 a13 a14 : Option Value} {r : List (Option Value)} {x : Int32} (hdg : decode M.2.1 pc = .ok (.istore 14, 2)) (hn : 14 < M.2.2.1) (h2 : nl2 a13 = true) (kk : AW M G (pc + 2) (a0 :: a1 :: a2 :: a3 :: a4 :: a5 :: a6 :: a7 :: a8 :: a9 :: a10 :: a11 :: a12 :: a13 :: some (.int x) :: r) rest kc ks n h) : AW M G pc (a0 :: a1 :: a2 :: a3 :: a4 :: a5 :: a6 :: a7 :: a8 :: a9 :: a10 :: a11 :: a12 :: a13 :: a14 :: r) (.int x :: rest) kc ks n h := awG_istore hdg hn (aSt_1 [a0, a1, a2, a3, a4, a5, a6, a7, a8, a9, a10, a11, a12, a13] a14 r _ (fun x q => by simp at q; rw [← q]; exact h2)) kk
theorem aw_astore_14 {M : MI} {G : AG} {pc kc ks n : Nat} {h : Hp} {rest : List Value} {a0 a1 a2 a3 a4 a5 a6 a7 a8 a9 a10 a11 a12 a13 a14 : Option Value} {r : List (Option Value)} {x : Nat} (hdg : decode M.2.1 pc = .ok (.astore 14, 2)) (hn : 14 < M.2.2.1) (h2 : nl2 a13 = true) (kk : AW M G (pc + 2) (a0 :: a1 :: a2 :: a3 :: a4 :: a5 :: a6 :: a7 :: a8 :: a9 :: a10 :: a11 :: a12 :: a13 :: some (.ref x) :: r) rest kc ks n h) : AW M G pc (a0 :: a1 :: a2 :: a3 :: a4 :: a5 :: a6 :: a7 :: a8 :: a9 :: a10 :: a11 :: a12 :: a13 :: a14 :: r) (.ref x :: rest) kc ks n h := awG_astore hdg hn (aSt_1 [a0, a1, a2, a3, a4, a5, a6, a7, a8, a9, a10, a11, a12, a13] a14 r _ (fun x q => by simp at q; rw [← q]; exact h2)) kk
theorem aw_astore_14N {M : MI} {G : AG} {pc kc ks n : Nat} {h : Hp} {rest : List Value} {a0 a1 a2 a3 a4 a5 a6 a7 a8 a9 a10 a11 a12 a13 a14 : Option Value} {r : List (Option Value)} (hdg : decode M.2.1 pc = .ok (.astore 14, 2)) (hn : 14 < M.2.2.1) (h2 : nl2 a13 = true) (kk : AW M G (pc + 2) (a0 :: a1 :: a2 :: a3 :: a4 :: a5 :: a6 :: a7 :: a8 :: a9 :: a10 :: a11 :: a12 :: a13 :: some (.null) :: r) rest kc ks n h) : AW M G pc (a0 :: a1 :: a2 :: a3 :: a4 :: a5 :: a6 :: a7 :: a8 :: a9 :: a10 :: a11 :: a12 :: a13 :: a14 :: r) (.null :: rest) kc ks n h := awG_astoreN hdg hn (aSt_1 [a0, a1, a2, a3, a4, a5, a6, a7, a8, a9, a10, a11, a12, a13] a14 r _ (fun x q => by simp at q; rw [← q]; exact h2)) kk
theorem aw_lstore_14 {M : MI} {G : AG} {pc kc ks n : Nat} {h : Hp} {rest : List Value} {a0 a1 a2 a3 a4 a5 a6 a7 a8 a9 a10 a11 a12 a13 a14 a15 : Option Value} {r : List (Option Value)} {x : Int64} (hdg : decode M.2.1 pc = .ok (.lstore 14, 2)) (hn : 15 < M.2.2.1) (h2 : nl2 a13 = true) (kk : AW M G (pc + 2) (a0 :: a1 :: a2 :: a3 :: a4 :: a5 :: a6 :: a7 :: a8 :: a9 :: a10 :: a11 :: a12 :: a13 :: some (.long x) :: none :: r) rest kc ks n h) : AW M G pc (a0 :: a1 :: a2 :: a3 :: a4 :: a5 :: a6 :: a7 :: a8 :: a9 :: a10 :: a11 :: a12 :: a13 :: a14 :: a15 :: r) (.long x :: rest) kc ks n h := awG_lstore hdg hn (aSt_2 [a0, a1, a2, a3, a4, a5, a6, a7, a8, a9, a10, a11, a12, a13] a14 a15 r _ (fun x q => by simp at q; rw [← q]; exact h2)) kk
theorem aw_iinc_14 {M : MI} {G : AG} {pc kc ks n : Nat} {h : Hp} {rest : List Value} {a0 a1 a2 a3 a4 a5 a6 a7 a8 a9 a10 a11 a12 a13 : Option Value} {r : List (Option Value)} {n0 : Int} {x c0 : Int32} (hdg : decode M.2.1 pc = .ok (.iinc 14 n0, 3)) (hv : Int32.ofInt n0 = c0) (hn : 14 < M.2.2.1) (h2 : nl2 a13 = true) (kk : AW M G (pc + 3) (a0 :: a1 :: a2 :: a3 :: a4 :: a5 :: a6 :: a7 :: a8 :: a9 :: a10 :: a11 :: a12 :: a13 :: some (.int (x + c0)) :: r) rest kc ks n h) : AW M G pc (a0 :: a1 :: a2 :: a3 :: a4 :: a5 :: a6 :: a7 :: a8 :: a9 :: a10 :: a11 :: a12 :: a13 :: some (.int x) :: r) rest kc ks n h := awG_iinc hdg rfl hv hn (aSt_1 [a0, a1, a2, a3, a4, a5, a6, a7, a8, a9, a10, a11, a12, a13] (some (.int x)) r _ (fun x q => by simp at q; rw [← q]; exact h2)) kk
theorem aw_istore_15 {M : MI} {G : AG} {pc kc ks n : Nat} {h : Hp} {rest : List Value} {a0 a1 a2 a3 a4 a5 a6 a7 a8 a9 a10 a11 a12 a13 a14 a15 : Option Value} {r : List (Option Value)} {x : Int32} (hdg : decode M.2.1 pc = .ok (.istore 15, 2)) (hn : 15 < M.2.2.1) (h2 : nl2 a14 = true) (kk : AW M G (pc + 2) (a0 :: a1 :: a2 :: a3 :: a4 :: a5 :: a6 :: a7 :: a8 :: a9 :: a10 :: a11 :: a12 :: a13 :: a14 :: some (.int x) :: r) rest kc ks n h) : AW M G pc (a0 :: a1 :: a2 :: a3 :: a4 :: a5 :: a6 :: a7 :: a8 :: a9 :: a10 :: a11 :: a12 :: a13 :: a14 :: a15 :: r) (.int x :: rest) kc ks n h := awG_istore hdg hn (aSt_1 [a0, a1, a2, a3, a4, a5, a6, a7, a8, a9, a10, a11, a12, a13, a14] a15 r _ (fun x q => by simp at q; rw [← q]; exact h2)) kk
theorem aw_astore_15 {M : MI} {G : AG} {pc kc ks n : Nat} {h : Hp} {rest : List Value} {a0 a1 a2 a3 a4 a5 a6 a7 a8 a9 a10 a11 a12 a13 a14 a15 : Option Value} {r : List (Option Value)} {x : Nat} (hdg : decode M.2.1 pc = .ok (.astore 15, 2)) (hn : 15 < M.2.2.1) (h2 : nl2 a14 = true) (kk : AW M G (pc + 2) (a0 :: a1 :: a2 :: a3 :: a4 :: a5 :: a6 :: a7 :: a8 :: a9 :: a10 :: a11 :: a12 :: a13 :: a14 :: some (.ref x) :: r) rest kc ks n h) : AW M G pc (a0 :: a1 :: a2 :: a3 :: a4 :: a5 :: a6 :: a7 :: a8 :: a9 :: a10 :: a11 :: a12 :: a13 :: a14 :: a15 :: r) (.ref x :: rest) kc ks n h := awG_astore hdg hn (aSt_1 [a0, a1, a2, a3, a4, a5, a6, a7, a8, a9, a10, a11, a12, a13, a14] a15 r _ (fun x q => by simp at q; rw [← q]; exact h2)) kk
theorem aw_astore_15N {M : MI} {G : AG} {pc kc ks n : Nat} {h : Hp} {rest : List Value} {a0 a1 a2 a3 a4 a5 a6 a7 a8 a9 a10 a11 a12 a13 a14 a15 : Option Value} {r : List (Option Value)} (hdg : decode M.2.1 pc = .ok (.astore 15, 2)) (hn : 15 < M.2.2.1) (h2 : nl2 a14 = true) (kk : AW M G (pc + 2) (a0 :: a1 :: a2 :: a3 :: a4 :: a5 :: a6 :: a7 :: a8 :: a9 :: a10 :: a11 :: a12 :: a13 :: a14 :: some (.null) :: r) rest kc ks n h) : AW M G pc (a0 :: a1 :: a2 :: a3 :: a4 :: a5 :: a6 :: a7 :: a8 :: a9 :: a10 :: a11 :: a12 :: a13 :: a14 :: a15 :: r) (.null :: rest) kc ks n h := awG_astoreN hdg hn (aSt_1 [a0, a1, a2, a3, a4, a5, a6, a7, a8, a9, a10, a11, a12, a13, a14] a15 r _ (fun x q => by simp at q; rw [← q]; exact h2)) kk
theorem aw_lstore_15 {M : MI} {G : AG} {pc kc ks n : Nat} {h : Hp} {rest : List Value} {a0 a1 a2 a3 a4 a5 a6 a7 a8 a9 a10 a11 a12 a13 a14 a15 a16 : Option Value} {r : List (Option Value)} {x : Int64} (hdg : decode M.2.1 pc = .ok (.lstore 15, 2)) (hn : 16 < M.2.2.1) (h2 : nl2 a14 = true) (kk : AW M G (pc + 2) (a0 :: a1 :: a2 :: a3 :: a4 :: a5 :: a6 :: a7 :: a8 :: a9 :: a10 :: a11 :: a12 :: a13 :: a14 :: some (.long x) :: none :: r) rest kc ks n h) : AW M G pc (a0 :: a1 :: a2 :: a3 :: a4 :: a5 :: a6 :: a7 :: a8 :: a9 :: a10 :: a11 :: a12 :: a13 :: a14 :: a15 :: a16 :: r) (.long x :: rest) kc ks n h := awG_lstore hdg hn (aSt_2 [a0, a1, a2, a3, a4, a5, a6, a7, a8, a9, a10, a11, a12, a13, a14] a15 a16 r _ (fun x q => by simp at q; rw [← q]; exact h2)) kk
theorem aw_iinc_15 {M : MI} {G : AG} {pc kc ks n : Nat} {h : Hp} {rest : List Value} {a0 a1 a2 a3 a4 a5 a6 a7 a8 a9 a10 a11 a12 a13 a14 : Option Value} {r : List (Option Value)} {n0 : Int} {x c0 : Int32} (hdg : decode M.2.1 pc = .ok (.iinc 15 n0, 3)) (hv : Int32.ofInt n0 = c0) (hn : 15 < M.2.2.1) (h2 : nl2 a14 = true) (kk : AW M G (pc + 3) (a0 :: a1 :: a2 :: a3 :: a4 :: a5 :: a6 :: a7 :: a8 :: a9 :: a10 :: a11 :: a12 :: a13 :: a14 :: some (.int (x + c0)) :: r) rest kc ks n h) : AW M G pc (a0 :: a1 :: a2 :: a3 :: a4 :: a5 :: a6 :: a7 :: a8 :: a9 :: a10 :: a11 :: a12 :: a13 :: a14 :: some (.int x) :: r) rest kc ks n h := awG_iinc hdg rfl hv hn (aSt_1 [a0, a1, a2, a3, a4, a5, a6, a7, a8, a9, a10, a11, a12, a13, a14] (some (.int x)) r _ (fun x q => by simp at q; rw [← q]; exact h2)) kk
theorem aw_istore_16 {M : MI} {G : AG} {pc kc ks n : Nat} {h : Hp} {rest : List Value} {a0 a1 a2 a3 a4 a5 a6 a7 a8 a9 a10 a11 a12 a13 a14 a15 a16 : Option Value} {r : List (Option Value)} {x : Int32} (hdg : decode M.2.1 pc = .ok (.istore 16, 2)) (hn : 16 < M.2.2.1) (h2 : nl2 a15 = true) (kk : AW M G (pc + 2) (a0 :: a1 :: a2 :: a3 :: a4 :: a5 :: a6 :: a7 :: a8 :: a9 :: a10 :: a11 :: a12 :: a13 :: a14 :: a15 :: some (.int x) :: r) rest kc ks n h) : AW M G pc (a0 :: a1 :: a2 :: a3 :: a4 :: a5 :: a6 :: a7 :: a8 :: a9 :: a10 :: a11 :: a12 :: a13 :: a14 :: a15 :: a16 :: r) (.int x :: rest) kc ks n h := awG_istore hdg hn (aSt_1 [a0, a1, a2, a3, a4, a5, a6, a7, a8, a9, a10, a11, a12, a13, a14, a15] a16 r _ (fun x q => by simp at q; rw [← q]; exact h2)) kk
theorem aw_astore_16 {M : MI} {G : AG} {pc kc ks n : Nat} {h : Hp} {rest : List Value} {a0 a1 a2 a3 a4 a5 a6 a7 a8 a9 a10 a11 a12 a13 a14 a15 a16 : Option Value} {r : List (Option Value)} {x : Nat} (hdg : decode M.2.1 pc = .ok (.astore 16, 2)) (hn : 16 < M.2.2.1) (h2 : nl2 a15 = true) (kk : AW M G (pc + 2) (a0 :: a1 :: a2 :: a3 :: a4 :: a5 :: a6 :: a7 :: a8 :: a9 :: a10 :: a11 :: a12 :: a13 :: a14 :: a15 :: some (.ref x) :: r) rest kc ks n h) : AW M G pc (a0 :: a1 :: a2 :: a3 :: a4 :: a5 :: a6 :: a7 :: a8 :: a9 :: a10 :: a11 :: a12 :: a13 :: a14 :: a15 :: a16 :: r) (.ref x :: rest) kc ks n h := awG_astore hdg hn (aSt_1 [a0, a1, a2, a3, a4, a5, a6, a7, a8, a9, a10, a11, a12, a13, a14, a15] a16 r _ (fun x q => by simp at q; rw [← q]; exact h2)) kk
theorem aw_astore_16N {M : MI} {G : AG} {pc kc ks n : Nat} {h : Hp} {rest : List Value} {a0 a1 a2 a3 a4 a5 a6 a7 a8 a9 a10 a11 a12 a13 a14 a15 a16 : Option Value} {r : List (Option Value)} (hdg : decode M.2.1 pc = .ok (.astore 16, 2)) (hn : 16 < M.2.2.1) (h2 : nl2 a15 = true) (kk : AW M G (pc + 2) (a0 :: a1 :: a2 :: a3 :: a4 :: a5 :: a6 :: a7 :: a8 :: a9 :: a10 :: a11 :: a12 :: a13 :: a14 :: a15 :: some (.null) :: r) rest kc ks n h) : AW M G pc (a0 :: a1 :: a2 :: a3 :: a4 :: a5 :: a6 :: a7 :: a8 :: a9 :: a10 :: a11 :: a12 :: a13 :: a14 :: a15 :: a16 :: r) (.null :: rest) kc ks n h := awG_astoreN hdg hn (aSt_1 [a0, a1, a2, a3, a4, a5, a6, a7, a8, a9, a10, a11, a12, a13, a14, a15] a16 r _ (fun x q => by simp at q; rw [← q]; exact h2)) kk
theorem aw_lstore_16 {M : MI} {G : AG} {pc kc ks n : Nat} {h : Hp} {rest : List Value} {a0 a1 a2 a3 a4 a5 a6 a7 a8 a9 a10 a11 a12 a13 a14 a15 a16 a17 : Option Value} {r : List (Option Value)} {x : Int64} (hdg : decode M.2.1 pc = .ok (.lstore 16, 2)) (hn : 17 < M.2.2.1) (h2 : nl2 a15 = true) (kk : AW M G (pc + 2) (a0 :: a1 :: a2 :: a3 :: a4 :: a5 :: a6 :: a7 :: a8 :: a9 :: a10 :: a11 :: a12 :: a13 :: a14 :: a15 :: some (.long x) :: none :: r) rest kc ks n h) : AW M G pc (a0 :: a1 :: a2 :: a3 :: a4 :: a5 :: a6 :: a7 :: a8 :: a9 :: a10 :: a11 :: a12 :: a13 :: a14 :: a15 :: a16 :: a17 :: r) (.long x :: rest) kc ks n h := awG_lstore hdg hn (aSt_2 [a0, a1, a2, a3, a4, a5, a6, a7, a8, a9, a10, a11, a12, a13, a14, a15] a16 a17 r _ (fun x q => by simp at q; rw [← q]; exact h2)) kk
theorem aw_iinc_16 {M : MI} {G : AG} {pc kc ks n : Nat} {h : Hp} {rest : List Value} {a0 a1 a2 a3 a4 a5 a6 a7 a8 a9 a10 a11 a12 a13 a14 a15 : Option Value} {r : List (Option Value)} {n0 : Int} {x c0 : Int32} (hdg : decode M.2.1 pc = .ok (.iinc 16 n0, 3)) (hv : Int32.ofInt n0 = c0) (hn : 16 < M.2.2.1) (h2 : nl2 a15 = true) (kk : AW M G (pc + 3) (a0 :: a1 :: a2 :: a3 :: a4 :: a5 :: a6 :: a7 :: a8 :: a9 :: a10 :: a11 :: a12 :: a13 :: a14 :: a15 :: some (.int (x + c0)) :: r) rest kc ks n h) : AW M G pc (a0 :: a1 :: a2 :: a3 :: a4 :: a5 :: a6 :: a7 :: a8 :: a9 :: a10 :: a11 :: a12 :: a13 :: a14 :: a15 :: some (.int x) :: r) rest kc ks n h := awG_iinc hdg rfl hv hn (aSt_1 [a0, a1, a2, a3, a4, a5, a6, a7, a8, a9, a10, a11, a12, a13, a14, a15] (some (.int x)) r _ (fun x q => by simp at q; rw [← q]; exact h2)) kk
theorem aw_istore_17 {M : MI} {G : AG} {pc kc ks n : Nat} {h : Hp} {rest : List Value} {a0 a1 a2 a3 a4 a5 a6 a7 a8 a9 a10 a11 a12 a13 a14 a15 a16 a17 : Option Value} {r : List (Option Value)} {x : Int32} (hdg : decode M.2.1 pc = .ok (.istore 17, 2)) (hn : 17 < M.2.2.1) (h2 : nl2 a16 = true) (kk : AW M G (pc + 2) (a0 :: a1 :: a2 :: a3 :: a4 :: a5 :: a6 :: a7 :: a8 :: a9 :: a10 :: a11 :: a12 :: a13 :: a14 :: a15 :: a16 :: some (.int x) :: r) rest kc ks n h) : AW M G pc (a0 :: a1 :: a2 :: a3 :: a4 :: a5 :: a6 :: a7 :: a8 :: a9 :: a10 :: a11 :: a12 :: a13 :: a14 :: a15 :: a16 :: a17 :: r) (.int x :: rest) kc ks n h := awG_istore hdg hn (aSt_1 [a0, a1, a2, a3, a4, a5, a6, a7, a8, a9, a10, a11, a12, a13, a14, a15, a16] a17 r _ (fun x q => by simp at q; rw [← q]; exact h2)) kk
theorem aw_astore_17 {M : MI} {G : AG} {pc kc ks n : Nat} {h : Hp} {rest : List Value} {a0 a1 a2 a3 a4 a5 a6 a7 a8 a9 a10 a11 a12 a13 a14 a15 a16 a17 : Option Value} {r : List (Option Value)} {x : Nat} (hdg : decode M.2.1 pc = .ok (.astore 17, 2)) (hn : 17 < M.2.2.1) (h2 : nl2 a16 = true) (kk : AW M G (pc + 2) (a0 :: a1 :: a2 :: a3 :: a4 :: a5 :: a6 :: a7 :: a8 :: a9 :: a10 :: a11 :: a12 :: a13 :: a14 :: a15 :: a16 :: some (.ref x) :: r) rest kc ks n h) : AW M G pc (a0 :: a1 :: a2 :: a3 :: a4 :: a5 :: a6 :: a7 :: a8 :: a9 :: a10 :: a11 :: a12 :: a13 :: a14 :: a15 :: a16 :: a17 :: r) (.ref x :: rest) kc ks n h := awG_astore hdg hn (aSt_1 [a0, a1, a2, a3, a4, a5, a6, a7, a8, a9, a10, a11, a12, a13, a14, a15, a16] a17 r _ (fun x q => by simp at q; rw [← q]; exact h2)) kk
theorem aw_astore_17N {M : MI} {G : AG} {pc kc ks n : Nat} {h : Hp} {rest : List Value} {a0 a1 a2 a3 a4 a5 a6 a7 a8 a9 a10 a11 a12 a13 a14 a15 a16 a17 : Option Value} {r : List (Option Value)} (hdg : decode M.2.1 pc = .ok (.astore 17, 2)) (hn : 17 < M.2.2.1) (h2 : nl2 a16 = true) (kk : AW M G (pc + 2) (a0 :: a1 :: a2 :: a3 :: a4 :: a5 :: a6 :: a7 :: a8 :: a9 :: a10 :: a11 :: a12 :: a13 :: a14 :: a15 :: a16 :: some (.null) :: r) rest kc ks n h) : AW M G pc (a0 :: a1 :: a2 :: a3 :: a4 :: a5 :: a6 :: a7 :: a8 :: a9 :: a10 :: a11 :: a12 :: a13 :: a14 :: a15 :: a16 :: a17 :: r) (.null :: rest) kc ks n h := awG_astoreN hdg hn (aSt_1 [a0, a1, a2, a3, a4, a5, a6, a7, a8, a9, a10, a11, a12, a13, a14, a15, a16] a17 r _ (fun x q => by simp at q; rw [← q]; exact h2)) kk
theorem aw_lstore_17 {M : MI} {G : AG} {pc kc ks n : Nat} {h : Hp} {rest : List Value} {a0 a1 a2 a3 a4 a5 a6 a7 a8 a9 a10 a11 a12 a13 a14 a15 a16 a17 a18 : Option Value} {r : List (Option Value)} {x : Int64} (hdg : decode M.2.1 pc = .ok (.lstore 17, 2)) (hn : 18 < M.2.2.1) (h2 : nl2 a16 = true) (kk : AW M G (pc + 2) (a0 :: a1 :: a2 :: a3 :: a4 :: a5 :: a6 :: a7 :: a8 :: a9 :: a10 :: a11 :: a12 :: a13 :: a14 :: a15 :: a16 :: some (.long x) :: none :: r) rest kc ks n h) : AW M G pc (a0 :: a1 :: a2 :: a3 :: a4 :: a5 :: a6 :: a7 :: a8 :: a9 :: a10 :: a11 :: a12 :: a13 :: a14 :: a15 :: a16 :: a17 :: a18 :: r) (.long x :: rest) kc ks n h := awG_lstore hdg hn (aSt_2 [a0, a1, a2, a3, a4, a5, a6, a7, a8, a9, a10, a11, a12, a13, a14, a15, a16] a17 a18 r _ (fun x q => by simp at q; rw [← q]; exact h2)) kk
theorem aw_iinc_17 {M : MI} {G : AG} {pc kc ks n : Nat} {h : Hp} {rest : List Value} {a0 a1 a2 a3 a4 a5 a6 a7 a8 a9 a10 a11 a12 a13 a14 a15 a16 : Option Value} {r : List (Option Value)} {n0 : Int} {x c0 : Int32} (hdg : decode M.2.1 pc = .ok (.iinc 17 n0, 3)) (hv : Int32.ofInt n0 = c0) (hn : 17 < M.2.2.1) (h2 : nl2 a16 = true) (kk : AW M G (pc + 3) (a0 :: a1 :: a2 :: a3 :: a4 :: a5 :: a6 :: a7 :: a8 :: a9 :: a10 :: a11 :: a12 :: a13 :: a14 :: a15 :: a16 :: some (.int (x + c0)) :: r) rest kc ks n h) : AW M G pc (a0 :: a1 :: a2 :: a3 :: a4 :: a5 :: a6 :: a7 :: a8 :: a9 :: a10 :: a11 :: a12 :: a13 :: a14 :: a15 :: a16 :: some (.int x) :: r) rest kc ks n h := awG_iinc hdg rfl hv hn (aSt_1 [a0, a1, a2, a3, a4, a5, a6, a7, a8, a9, a10, a11, a12, a13, a14, a15, a16] (some (.int x)) r _ (fun x q => by simp at q; rw [← q]; exact h2)) kk
end
section

theorem aR_set {D : va_G} {B n : Nat} {h : Hp} {s : State} {H H1 : Heap} {ws : va_W} {tys : List (ClassId × FieldType)} {a q0 : Nat} {e e' : va_E} {c' : AC} (z : H.size = n) (hK : va_K D vwCl tys s) (hP : va_P D vwCl ws H) (hD : va_D (aA B) ws) (hV : ∀ (a : Nat) (c : AC), h a = some c → aV ws tys a c)
    (he : ws[q0]? = some (a, e)) (hn : va_at D vwCl (a, e') H1) (z1 : H1.size = H.size) (oq : ∀ q : Nat, q ≠ a → H1[q]? = H[q]?) (hc : ∀ ws' : va_W, ws'[q0]? = some (a, e') → aV ws' tys a c') : aR D B n (hup h a c') s H1 := by
  have hl := (List.getElem?_eq_some_iff.mp he).1
  refine ⟨z1.trans z, ws.set q0 (a, e'), tys, hK, hP.set hD he hn oq, hD.set he, fun b c0 hb => ?_⟩
  by_cases hba : b = a
  · subst hba
    rw [hup_self] at hb
    cases hb
    exact hc _ (List.getElem?_set_self hl)
  · rw [hup_ne hba] at hb
    have h1 := hV b c0 hb
    have key : ∀ (q1 : Nat) (x : va_E), ws[q1]? = some (b, x) → (ws.set q0 (a, e'))[q1]? = some (b, x) := by
      intro q1 x hx
      rw [List.getElem?_set_ne]
      · exact hx
      · intro hq
        subst hq
        rw [hx] at he
        cases he
        exact hba rfl
    cases c0 with
    | inl x => obtain ⟨q1, t1, cA, g1, g2⟩ := h1; exact ⟨q1, t1, cA, key _ _ g1, g2⟩
    | inr o => obtain ⟨q1, g1⟩ := h1; exact ⟨q1, key _ _ g1⟩
theorem aR_push {D : va_G} {B n : Nat} {h : Hp} {s : State} {H H1 : Heap} {ws : va_W} {tys tys' : List (ClassId × FieldType)} {e' : va_E} {c' : AC} (z : H.size = n) (hK : va_K D vwCl (tys ++ tys') s) (hP : va_P D vwCl ws H) (hD : va_D (aA B) ws) (hV : ∀ (a : Nat) (c : AC), h a = some c → aV ws tys a c)
    (hB : B ≤ n) (hn : va_at D vwCl (n, e') H1) (z1 : H1.size = n + 1) (oq : ∀ q : Nat, q < n → H1[q]? = H[q]?) (hc : ∀ ws' : va_W, ws'[ws.length]? = some (n, e') → aV ws' (tys ++ tys') n c') : aR D B (n + 1) (hup h n c') s H1 := by
  refine ⟨z1, ws ++ [(n, e')], tys ++ tys', hK, ?_, hD.push hP z.symm hB, fun b c0 hb => ?_⟩
  · refine (hP.kept (fun k x hx => oq x.1 (by rw [← z]; exact (hP k x hx).lt))).app (fun k x hx => ?_)
    have hz : k < 1 := (List.getElem?_eq_some_iff.mp hx).1
    rw [show k = 0 by omega] at hx
    cases hx
    exact hn
  · by_cases hba : b = n
    · subst hba
      rw [hup_self] at hb
      cases hb
      exact hc _ (by simp)
    · rw [hup_ne hba] at hb
      have h1 := hV b c0 hb
      have ka : ∀ {α : Type} (l1 l2 : List α) (i : Nat) (x : α), l1[i]? = some x → (l1 ++ l2)[i]? = some x := by
        intro α l1 l2 i x hx
        rw [List.getElem?_append_left (List.getElem?_eq_some_iff.mp hx).1]; exact hx
      cases c0 with
      | inl x => obtain ⟨q1, t1, cA, g1, g2⟩ := h1; exact ⟨q1, t1, cA, ka _ _ _ _ g1, ka _ _ _ _ g2⟩
      | inr o => obtain ⟨q1, g1⟩ := h1; exact ⟨q1, ka _ _ _ _ g1⟩
theorem va_K.more {D : va_G} {cl : List vw_C} {tys : List (ClassId × FieldType)} {s : State} {cA : ClassId} {ty : FieldType} (hK : va_K D cl tys s) (h1 : ArrOfT s cA ty) (h2 : va_RA s cA ty) : va_K D cl (tys ++ [(cA, ty)]) s := by
  refine ⟨hK.1, fun k q hk => ?_⟩
  rcases List.mem_append.mp (List.mem_of_getElem? hk) with h | h
  · obtain ⟨i, hi⟩ := List.getElem?_of_mem h
    exact hK.2 i q hi
  · rw [List.mem_singleton] at h
    subst h
    exact ⟨h1, h2⟩
/-- a field's words: which class number, which place, of which type, final or not, declared where -/
def FL (own : String) (idx ci k : Nat) (ty : FieldType) (fin : Bool) (dc : String) : Prop := ∃ r : vw_C, vwCl[ci]? = some r ∧ k < r.2.2 ∧ (∀ w ∈ u_ws r.1 r.2.1 r.2.2, w ∈ lw_good) ∧ Cond.fieldLink own idx (r.2.1 k).1 (r.2.1 k).2.1 (r.2.1 k).2.2.1 ∈ lw_good ∧ (∀ a, a < r.2.2 → ∀ b, b < r.2.2 → a ≠ b → (r.2.1 a).2.1 ≠ (r.2.1 b).2.1) ∧ (∃ t0 : Nat → FieldType, ∀ k, k < r.2.2 → parseFieldDescriptor (r.2.1 k).2.2.1 = some (t0 k)) ∧ parseFieldDescriptor (r.2.1 k).2.2.1 = some ty ∧ (r.2.1 k).2.2.2 = fin ∧ (r.2.1 k).1 = dc
theorem aw_getfield {M : MI} {G : AG} {pc kc ks n : Nat} {lv : List (Option Value)} {h : Hp} {rest : List Value} {idx ci k : Nat} {ty : FieldType} {fin : Bool} {dc : String} {a : Nat} {fs : List Value} {v : Value} (F : FL M.1.cls idx ci k ty fin dc) (hdg : decode M.2.1 pc = .ok (.getfield idx, 3)) (ha : h a = some (.inr (ci, fs))) (hv : fs[k]? = some v) (kk : AW M G (pc + 3) lv (v :: rest) kc ks n h) : AW M G pc lv (.ref a :: rest) kc ks n h := by
  intro l D B p e s m args below meth c H locs ls C L R S
  obtain ⟨⟨C', T', N'⟩, hc, hk, hin, hlk, hnm, ⟨t0, ht0⟩, hty, hfin, hdc⟩ := F
  obtain ⟨z, ws, tys, hK, hP, hD, hV⟩ := id R
  obtain ⟨q0, he⟩ := hV a _ ha
  exact va_get C.1 C.2.1 C.2.2.2.2.2.1 hin C.2.2.2.2.1 hK hP q0 he hc k hk (C.2.2.2.2.2.1 _ hlk) (fun _ h9 => h9) hv hdg (kk l D B p e s m args below meth c H locs ls C L R S)
theorem aw_putfield {M : MI} {G : AG} {pc kc ks n : Nat} {lv : List (Option Value)} {h : Hp} {rest : List Value} {idx ci k : Nat} {ty : FieldType} {dc : String} {a : Nat} {fs : List Value} {v : Value} (F : FL M.1.cls idx ci k ty false dc) (hdg : decode M.2.1 pc = .ok (.putfield idx, 3)) (ha : h a = some (.inr (ci, fs))) (hn : narrow ty v = v) (hfit : fits ty v = true) (hl : k < fs.length) (kk : AW M G (pc + 3) lv rest kc ks n (hup h a (.inr (ci, fs.set k v)))) : AW M G pc lv (v :: .ref a :: rest) kc ks n h := by
  intro l D B p e s m args below meth c H locs ls C L R S
  obtain ⟨⟨C', T', N'⟩, hc, hk, hin, hlk, hnm, ⟨t0, ht0⟩, hty, hfin, hdc⟩ := F
  obtain ⟨z, ws, tys, hK, hP, hD, hV⟩ := id R
  obtain ⟨q0, he⟩ := hV a _ ha
  have hts := C.2.2.2.2.2.1
  have hap := va_apart (own := C') hts hin t0 ht0 hnm hK hc
  obtain ⟨r, h1, cell, q1, q2, q3, q4⟩ := hP q0 _ he
  have hr : r = (C', T', N') := Option.some.inj (h1.symm.trans hc)
  subst hr
  obtain ⟨hS, hfc, kC, hkC, hkind⟩ := hK.1 ci _ hc
  obtain ⟨cf, kf, fi, f, hi, hsl⟩ := hS k hk
  have hlay := hts _ (hin _ (u_in_lay hk))
  unfold u_lay at hlay
  rw [if_neg (by rw [hfin]; decide)] at hlay
  have hst := (u_facts hfc hkC (u_lays hts hin hk) hi).1
  have h6 := u_store hfc hkC hkind hlay hi hty hn hfit
  refine W.putK C.1 C.2.1 (f := f) ⟨C.2.2.2.2.1, C.2.2.2.2.2.1 _ hlk, ⟨_, _, _, hi⟩, hst⟩ (by rw [q2]; exact h6) q1 q3 (by rw [hsl]; exact k2_hasslot (q4 k hk)) rfl rfl hdg fun H' e1 e2 e3 => ?_
  rw [hsl] at e1 ⊢
  exact kk l D B p e s m args below meth c H' _ ls C L (aR_set z hK hP hD hV he (e' := .inr (ci, fs.set k v)) ⟨_, hc, t_OB.to (V := updV (vp_V fs) k v) ⟨_, e1, q2, q3, t_set q4 hap hk v⟩ (fun j _ => vp_updV_set hl v j)⟩ e2 e3 (fun ws' q => ⟨q0, q⟩)) (S.put e2 e3 (hD.2 q0 _ he))
theorem aw_putfinal {M : MI} {G : AG} {pc kc ks n : Nat} {lv : List (Option Value)} {h : Hp} {rest : List Value} {idx ci k : Nat} {ty : FieldType} {a : Nat} {fs : List Value} {v : Value} (F : FL M.1.cls idx ci k ty true M.1.cls) (hin2 : M.1.name = "<init>") (hdg : decode M.2.1 pc = .ok (.putfield idx, 3)) (ha : h a = some (.inr (ci, fs))) (hn : narrow ty v = v) (hfit : fits ty v = true) (hl : k < fs.length) (kk : AW M G (pc + 3) lv rest kc ks n (hup h a (.inr (ci, fs.set k v)))) : AW M G pc lv (v :: .ref a :: rest) kc ks n h := by
  intro l D B p e s m args below meth c H locs ls C L R S
  obtain ⟨⟨C', T', N'⟩, hc, hk, hin, hlk, hnm, ⟨t0, ht0⟩, hty, hfin, hdc⟩ := F
  obtain ⟨z, ws, tys, hK, hP, hD, hV⟩ := id R
  obtain ⟨q0, he⟩ := hV a _ ha
  have hts := C.2.2.2.2.2.1
  have hap := va_apart (own := C') hts hin t0 ht0 hnm hK hc
  obtain ⟨r, h1, cell, q1, q2, q3, q4⟩ := hP q0 _ he
  have hr : r = (C', T', N') := Option.some.inj (h1.symm.trans hc)
  subst hr
  obtain ⟨hS, hfc, kC, hkC, hkind⟩ := hK.1 ci _ hc
  obtain ⟨cf, kf, fi, f, hi, hsl⟩ := hS k hk
  have hlay := hts _ (hin _ (u_in_lay hk))
  unfold u_lay at hlay
  rw [if_pos hfin] at hlay
  have hst := (u_facts hfc hkC (u_lays hts hin hk) hi).1
  have hcf : m.cls = cf := by
    obtain ⟨_, _, c', _, _, _, -, -, hf', -, -, -, hown2, -⟩ := Cond.laysFinal_spec hlay
    have e1 : c' = cf := by have := hi.symm.trans hf'; simp at this; exact this.1.symm
    rw [hdc] at hown2
    rw [← e1]; exact Option.some.inj (C.2.2.2.2.1.symm.trans hown2)
  have h6 := u_fits hfc hkC hkind (Or.inr hlay) hi hty hn hfit
  refine W.putFinK C.1 C.2.1 C.2.2.2.2.1 (C.2.2.2.2.2.1 _ hlk) hi hst hcf (C.2.2.2.2.2.2.2.1.trans hin2) (by rw [q2]; exact h6) q1 q3 (by rw [hsl]; exact k2_hasslot (q4 k hk)) rfl rfl hdg fun H' e1 e2 e3 => ?_
  rw [hsl] at e1 ⊢
  exact kk l D B p e s m args below meth c H' _ ls C L (aR_set z hK hP hD hV he (e' := .inr (ci, fs.set k v)) ⟨_, hc, t_OB.to (V := updV (vp_V fs) k v) ⟨_, e1, q2, q3, t_set q4 hap hk v⟩ (fun j _ => vp_updV_set hl v j)⟩ e2 e3 (fun ws' q => ⟨q0, q⟩)) (S.put e2 e3 (hD.2 q0 _ he))
theorem ix_in {i : Int32} {j N : Nat} (hi : i.toInt = (j : Int)) (hj : j < N) : vp_in i N := vp_in_iff.mpr ⟨by omega, by omega⟩
theorem ix_cl {i : Int32} {j : Nat} (hi : i.toInt = (j : Int)) : i.toNatClampNeg = j := by
  have : i.toNatClampNeg = i.toInt.toNat := rfl
  rw [this, hi]; rfl
theorem aw_iaload {M : MI} {G : AG} {pc kc ks n : Nat} {lv : List (Option Value)} {h : Hp} {rest : List Value} {a len j : Nat} {f : Nat → Int32} {i : Int32} (hdg : decode M.2.1 pc = .ok (.iaload, 1)) (ha : h a = some (.inl (.int, len, .inl f))) (hi : i.toInt = (j : Int)) (hj : j < len) (kk : AW M G (pc + 1) lv (.int (f j) :: rest) kc ks n h) : AW M G pc lv (.int i :: .ref a :: rest) kc ks n h := by
  intro l D B p e s m args below meth c H locs ls C L R S
  obtain ⟨z, ws, tys, hK, hP, hD, hV⟩ := id R
  obtain ⟨q0, t0, cA, he, ht⟩ := hV a _ ha
  refine va_iald C.1 C.2.1 hK hP q0 t0 he ht (ix_in hi hj) hdg ?_
  rw [ix_cl hi]
  exact kk l D B p e s m args below meth c H locs ls C L R S
theorem aw_baload {M : MI} {G : AG} {pc kc ks n : Nat} {lv : List (Option Value)} {h : Hp} {rest : List Value} {a len j : Nat} {f : Nat → Int32} {i : Int32} (hdg : decode M.2.1 pc = .ok (.baload, 1)) (ha : h a = some (.inl (.boolean, len, .inl f))) (hi : i.toInt = (j : Int)) (hj : j < len) (kk : AW M G (pc + 1) lv (.int (f j) :: rest) kc ks n h) : AW M G pc lv (.int i :: .ref a :: rest) kc ks n h := by
  intro l D B p e s m args below meth c H locs ls C L R S
  obtain ⟨z, ws, tys, hK, hP, hD, hV⟩ := id R
  obtain ⟨q0, t0, cA, he, ht⟩ := hV a _ ha
  refine va_zald C.1 C.2.1 hK hP q0 t0 he ht (ix_in hi hj) hdg ?_
  rw [ix_cl hi]
  exact kk l D B p e s m args below meth c H locs ls C L R S
theorem aw_laload {M : MI} {G : AG} {pc kc ks n : Nat} {lv : List (Option Value)} {h : Hp} {rest : List Value} {a len j : Nat} {f : Nat → Int64} {i : Int32} (hdg : decode M.2.1 pc = .ok (.laload, 1)) (ha : h a = some (.inl (.long, len, .inr (.inl f)))) (hi : i.toInt = (j : Int)) (hj : j < len) (kk : AW M G (pc + 1) lv (.long (f j) :: rest) kc ks n h) : AW M G pc lv (.int i :: .ref a :: rest) kc ks n h := by
  intro l D B p e s m args below meth c H locs ls C L R S
  obtain ⟨z, ws, tys, hK, hP, hD, hV⟩ := id R
  obtain ⟨q0, t0, cA, he, ht⟩ := hV a _ ha
  refine va_lald C.1 C.2.1 hK hP q0 t0 he ht (ix_in hi hj) hdg ?_
  rw [ix_cl hi]
  exact kk l D B p e s m args below meth c H locs ls C L R S
theorem aw_aaload {M : MI} {G : AG} {pc kc ks n : Nat} {lv : List (Option Value)} {h : Hp} {rest : List Value} {a len j : Nat} {f : Nat → Option Nat} {i : Int32} {Cn : String} (hdg : decode M.2.1 pc = .ok (.aaload, 1)) (ha : h a = some (.inl (.object Cn, len, .inr (.inr (.inr (.inr f)))))) (hi : i.toInt = (j : Int)) (hj : j < len) (kk : AW M G (pc + 1) lv (va_rf (f j) :: rest) kc ks n h) : AW M G pc lv (.int i :: .ref a :: rest) kc ks n h := by
  intro l D B p e s m args below meth c H locs ls C L R S
  obtain ⟨z, ws, tys, hK, hP, hD, hV⟩ := id R
  obtain ⟨q0, t0, cA, he, ht⟩ := hV a _ ha
  refine va_aldq C.1 C.2.1 hK hP q0 t0 he ht (ix_in hi hj) hdg ?_
  rw [ix_cl hi]
  exact kk l D B p e s m args below meth c H locs ls C L R S
theorem aw_arraylength {M : MI} {G : AG} {pc kc ks n : Nat} {lv : List (Option Value)} {h : Hp} {rest : List Value} {a : Nat} {ty : FieldType} {x : vp_A} (hdg : decode M.2.1 pc = .ok (.arraylength, 1)) (ha : h a = some (.inl (ty, x))) (kk : AW M G (pc + 1) lv (.int (nI x.1) :: rest) kc ks n h) : AW M G pc lv (.ref a :: rest) kc ks n h := by
  intro l D B p e s m args below meth c H locs ls C L R S
  obtain ⟨z, ws, tys, hK, hP, hD, hV⟩ := id R
  obtain ⟨q0, t0, cA, he, ht⟩ := hV a _ ha
  exact va_alen C.1 C.2.1 hK hP q0 t0 he ht rfl hdg (kk l D B p e s m args below meth c H locs ls C L R S)
theorem aw_iastore {M : MI} {G : AG} {pc kc ks n : Nat} {lv : List (Option Value)} {h : Hp} {rest : List Value} {a len j : Nat} {f : Nat → Int32} {i : Int32} {x : Int32} (hdg : decode M.2.1 pc = .ok (.iastore, 1)) (ha : h a = some (.inl (.int, len, .inl f))) (hi : i.toInt = (j : Int)) (hj : j < len) (kk : AW M G (pc + 1) lv rest kc ks n (hup h a (.inl (.int, len, .inl (va_up f j x))))) : AW M G pc lv (.int x :: .int i :: .ref a :: rest) kc ks n h := by
  intro l D B p e s m args below meth c H locs ls C L R S
  obtain ⟨z, ws, tys, hK, hP, hD, hV⟩ := id R
  obtain ⟨q0, t0, cA, he, ht⟩ := hV a _ ha
  refine W.iast C.1 C.2.1 (hP q0 _ he) ((hK.2 t0 _ ht).1 len (fun j => .int (f j))) (fun q => by cases q) (by show ¬ (i < 0 ∨ (arrV _ _ _).slots.size ≤ _); rw [arrV_size]; exact ix_in hi hj) rfl rfl hdg fun H1 e1 z1 oq => ?_
  refine kk l D B p e s m args below meth c H1 _ ls C L (aR_set z hK hP hD hV he (e' := .inl (cA, len, .inl (va_up f j x))) ?_ z1 oq (fun ws' q => ⟨q0, t0, cA, q, ht⟩)) (S.put z1 oq (hD.2 q0 _ he))
  show H1[a]? = some (vp_cell _ _)
  rw [e1, ix_cl hi, vp_cell_i, vp_cell_i, arrV_store]
  congr 2
  funext q
  by_cases hq : q = j
  · subst hq; simp [updV, va_up]
  · simp [updV, va_up, hq]
theorem aw_lastore {M : MI} {G : AG} {pc kc ks n : Nat} {lv : List (Option Value)} {h : Hp} {rest : List Value} {a len j : Nat} {f : Nat → Int64} {i : Int32} {x : Int64} (hdg : decode M.2.1 pc = .ok (.lastore, 1)) (ha : h a = some (.inl (.long, len, .inr (.inl f)))) (hi : i.toInt = (j : Int)) (hj : j < len) (kk : AW M G (pc + 1) lv rest kc ks n (hup h a (.inl (.long, len, .inr (.inl (va_up f j x)))))) : AW M G pc lv (.long x :: .int i :: .ref a :: rest) kc ks n h := by
  intro l D B p e s m args below meth c H locs ls C L R S
  obtain ⟨z, ws, tys, hK, hP, hD, hV⟩ := id R
  obtain ⟨q0, t0, cA, he, ht⟩ := hV a _ ha
  refine W.last C.1 C.2.1 (hP q0 _ he) ((hK.2 t0 _ ht).1 len (fun j => .long (f j))) (fun q => by cases q) (by show ¬ (i < 0 ∨ (arrV _ _ _).slots.size ≤ _); rw [arrV_size]; exact ix_in hi hj) rfl rfl hdg fun H1 e1 z1 oq => ?_
  refine kk l D B p e s m args below meth c H1 _ ls C L (aR_set z hK hP hD hV he (e' := .inl (cA, len, .inr (.inl (va_up f j x)))) ?_ z1 oq (fun ws' q => ⟨q0, t0, cA, q, ht⟩)) (S.put z1 oq (hD.2 q0 _ he))
  show H1[a]? = some (vp_cell _ _)
  rw [e1, ix_cl hi, vp_cell_l, vp_cell_l, arrV_store]
  congr 2
  funext q
  by_cases hq : q = j
  · subst hq; simp [updV, va_up]
  · simp [updV, va_up, hq]
theorem aw_bastore {M : MI} {G : AG} {pc kc ks n : Nat} {lv : List (Option Value)} {h : Hp} {rest : List Value} {a len j : Nat} {f : Nat → Int32} {i : Int32} {x : Int32} (hdg : decode M.2.1 pc = .ok (.bastore, 1)) (ha : h a = some (.inl (.boolean, len, .inl f))) (hi : i.toInt = (j : Int)) (hj : j < len) (hx : narrow .boolean (.int x) = .int x) (kk : AW M G (pc + 1) lv rest kc ks n (hup h a (.inl (.boolean, len, .inl (va_up f j x))))) : AW M G pc lv (.int x :: .int i :: .ref a :: rest) kc ks n h := by
  intro l D B p e s m args below meth c H locs ls C L R S
  obtain ⟨z, ws, tys, hK, hP, hD, hV⟩ := id R
  obtain ⟨q0, t0, cA, he, ht⟩ := hV a _ ha
  refine W.zast C.1 C.2.1 (hP q0 _ he) ((hK.2 t0 _ ht).1 len (fun j => .int (f j))) (fun q => by cases q) (by show ¬ (i < 0 ∨ (arrV _ _ _).slots.size ≤ _); rw [arrV_size]; exact ix_in hi hj) rfl rfl hdg fun H1 e1 z1 oq => ?_
  refine kk l D B p e s m args below meth c H1 _ ls C L (aR_set z hK hP hD hV he (e' := .inl (cA, len, .inl (va_up f j x))) ?_ z1 oq (fun ws' q => ⟨q0, t0, cA, q, ht⟩)) (S.put z1 oq (hD.2 q0 _ he))
  show H1[a]? = some (vp_cell _ _)
  rw [e1, ix_cl hi, vp_cell_i, vp_cell_i, hx, arrV_store]
  congr 2
  funext q
  by_cases hq : q = j
  · subst hq; simp [updV, va_up]
  · simp [updV, va_up, hq]
theorem aw_aastore {M : MI} {G : AG} {pc kc ks n : Nat} {lv : List (Option Value)} {h : Hp} {rest : List Value} {a len j : Nat} {f : Nat → Option Nat} {i : Int32} {v ci : Nat} {vs : List Value} {r : vw_C} (hdg : decode M.2.1 pc = .ok (.aastore, 1)) (ha : h a = some (.inl (.object r.1, len, .inr (.inr (.inr (.inr f)))))) (hv : h v = some (.inr (ci, vs))) (hc : vwCl[ci]? = some r) (hi : i.toInt = (j : Int)) (hj : j < len) (kk : AW M G (pc + 1) lv rest kc ks n (hup h a (.inl (.object r.1, len, .inr (.inr (.inr (.inr (va_up f j (some v))))))))) : AW M G pc lv (.ref v :: .int i :: .ref a :: rest) kc ks n h := by
  intro l D B p e s m args below meth c H locs ls C L R S
  obtain ⟨z, ws, tys, hK, hP, hD, hV⟩ := id R
  obtain ⟨q0, t0, cA, he, ht⟩ := hV a _ ha
  obtain ⟨qk, hvk⟩ := hV v _ hv
  obtain ⟨r', hr', cellV, g1, g2, g3, -⟩ := hP qk _ hvk
  have hcls := (hK.1 ci r hc).2
  obtain ⟨kA, comp, k1, k2, k3, -⟩ := (hK.2 t0 _ ht).2
  have hcomp : comp = D.1 ci := Option.some.inj (k3.symm.trans hcls.1)
  subst hcomp
  obtain ⟨kC, hkC, -⟩ := hcls.2
  have hin := ix_in hi hj
  refine W.aast C.1 C.2.1 (hP q0 _ he) (fun q h => by cases h) (fun h => by cases h) k1 k2 rfl hkC ⟨fun q => hin (Or.inl q), by show _ < (arrV _ _ _).slots.size; rw [arrV_size, ix_cl hi]; exact hj⟩ g1 (fun q h => by rw [g3] at h; cases h) (by rw [g2]; exact hkC) (by rw [g2]; exact va_assign hcls) rfl rfl hdg fun H1 e1 z1 oq => ?_
  refine kk l D B p e s m args below meth c H1 _ ls C L (aR_set z hK hP hD hV he (e' := .inl (cA, len, .inr (.inr (.inr (.inr (va_up f j (some v))))))) ?_ z1 oq (fun ws' q => ⟨q0, t0, cA, q, ht⟩)) (S.put z1 oq (hD.2 q0 _ he))
  show H1[a]? = some (vp_cell _ _)
  rw [e1, ix_cl hi, vp_cell_q, vp_cell_q, arrV_store]
  congr 2
  funext q
  by_cases hq : q = j
  · subst hq; simp [updV, va_up, va_rf]
  · simp [updV, va_up, hq]
theorem aw_newarray {M : MI} {G : AG} {pc kc ks n : Nat} {lv : List (Option Value)} {h : Hp} {rest : List Value} {atype : ArrayType} {ty : FieldType} {x : Int32} {N : Nat} {a0 : vp_A} (hw : Cond.arrayClass (newarray.typeOf atype) ∈ lw_good) (hty : newarray.typeOf atype = ty) (hra : ∀ (s : State) (cA : ClassId), s.vm.findClass ("[" ++ ty.toString) = some cA → va_RA s cA ty) (hdg : decode M.2.1 pc = .ok (.newarray atype, 2)) (ha : ∀ cA : ClassId, vp_cell cA a0 = arrV cA N (fun _ => defaultValue ty)) (hx : x.toInt = (N : Int)) (hbytes : N * componentBytes ty ≤ 536870912) (hcells : kc + 1 ≤ G.1.1) (hslots : ks + N ≤ G.1.2) (kk : AW M G (pc + 2) lv (.ref n :: rest) (kc + 1) (ks + N) (n + 1) (hup h n (.inl (ty, a0)))) : AW M G pc lv (.int x :: rest) kc ks n h := by
  subst hty
  intro l D B p e s m args below meth c H locs ls C L R S
  obtain ⟨z, ws, tys, hK, hP, hD, hV⟩ := id R
  refine va_newaK C.1 C.2.1 (C.2.2.2.2.2.1 _ hw) rfl hdg rfl (fun q => by have := Int32.lt_iff_toInt_lt.mp q; rw [hx] at this; simp at this; omega) (ix_cl hx) hbytes hcells hslots z fun H1 cA e1 z1 o1 hAr hNm => ?_
  refine kk l D B p e s m args below meth c H1 _ ls C L (aR_push (tys' := [(cA, newarray.typeOf atype)]) z (hK.more hAr (hra s cA hNm)) hP hD hV (Nat.le_trans C.2.2.2.2.2.2.2.2.1 (by rw [← z]; exact S.1)) (e' := .inl (cA, a0)) ?_ z1 o1 (fun ws' q => ⟨ws.length, tys.length, cA, q, by simp⟩)) ⟨Nat.le_trans S.1 (by omega), fun x h1 h2 => (o1 x (by rw [← z]; exact Nat.lt_of_lt_of_le h1 S.1)).trans (S.2.1 x h1 h2), S.2.2⟩
  show H1[n]? = some (vp_cell _ _)
  rw [ha]
  exact e1
theorem aw_anewarray {M : MI} {G : AG} {pc kc ks n : Nat} {lv : List (Option Value)} {h : Hp} {rest : List Value} {idx : Nat} {Cn : String} {x : Int32} {N : Nat} (hw : Cond.classLink M.1.cls idx Cn ∈ lw_good) (hao : ∀ s : State, aX s → va_AO Cn s) (hdg : decode M.2.1 pc = .ok (.anewarray idx, 3)) (hx : x.toInt = (N : Int)) (hbytes : N * 4 ≤ 536870912) (hcells : kc + 1 ≤ G.1.1) (hslots : ks + N ≤ G.1.2) (kk : AW M G (pc + 3) lv (.ref n :: rest) (kc + 1) (ks + N) (n + 1) (hup h n (.inl (.object Cn, N, .inr (.inr (.inr (.inr (fun _ => none)))))))) : AW M G pc lv (.int x :: rest) kc ks n h := by
  intro l D B p e s m args below meth c H locs ls C L R S
  obtain ⟨z, ws, tys, hK, hP, hD, hV⟩ := id R
  refine W.anew C.1 C.2.1 C.2.2.2.2.1 (C.2.2.2.2.2.1 _ hw) (va_AO.use (hao s C.2.2.2.2.2.2.2.2.2.1)) rfl hdg rfl (fun q => by have := Int32.lt_iff_toInt_lt.mp q; rw [hx] at this; simp at this; omega) (by rw [ix_cl hx]; exact hbytes) hcells (by rw [ix_cl hx]; exact hslots) fun cA kA comp f1 f2 f3 f4 => ?_
  rw [ix_cl hx]
  generalize hH1 : H.push ({ cls := cA, slots := Array.replicate N .null, vm := .none } : Cell) = H1
  have z1 : H1.size = n + 1 := by rw [← hH1, Array.size_push, z]
  have e1 : H1[n]? = some (arrV cA N (fun _ => .null)) := by rw [← hH1, ← z, Array.getElem?_push_size, ← arrV_new]
  have o1 : ∀ q : Nat, q < n → H1[q]? = H[q]? := fun q hq => by rw [← hH1, Array.getElem?_push, if_neg (by omega)]
  have hAr : ArrOfT s cA (.object Cn) := fun N z => ⟨(fun k h => by cases h), kA, f2, comp, f3⟩
  rw [z]
  refine kk l D B p e s m args below meth c H1 _ ls C L (aR_push (tys' := [(cA, .object Cn)]) z (hK.more hAr ⟨kA, comp, f2, f3, f4, f1⟩) hP hD hV (Nat.le_trans C.2.2.2.2.2.2.2.2.1 (by rw [← z]; exact S.1)) (e' := .inl (cA, N, .inr (.inr (.inr (.inr (fun _ => none)))))) ?_ z1 o1 (fun ws' q => ⟨ws.length, tys.length, cA, q, by simp⟩)) ⟨Nat.le_trans S.1 (by omega), fun x h1 h2 => (o1 x (by rw [← z]; exact Nat.lt_of_lt_of_le h1 S.1)).trans (S.2.1 x h1 h2), S.2.2⟩
  show H1[n]? = some (vp_cell _ _)
  rw [vp_cell_q]
  exact e1
/-- a class that may be made: its number, its fields' first values -/
def NL (own : String) (idx ci N : Nat) (fs : List Value) : Prop := ∃ (C : String) (T : u_T), vwCl[ci]? = some (C, T, N) ∧ (∀ w ∈ u_ws C T N, w ∈ lw_good) ∧ Cond.classLink own idx C ∈ lw_good ∧ Cond.instantiable C N ∈ lw_good ∧ Cond.initialized C ∈ lw_good ∧ ∃ t0 : Nat → FieldType, (∀ k, k < N → parseFieldDescriptor (T k).2.2.1 = some (t0 k)) ∧ ∀ j, j < N → defaultValue (t0 j) = vp_V fs j
theorem aw_new {M : MI} {G : AG} {pc kc ks n : Nat} {lv : List (Option Value)} {h : Hp} {rest : List Value} {idx ci N : Nat} {fs : List Value} (F : NL M.1.cls idx ci N fs) (hdg : decode M.2.1 pc = .ok (.new idx, 3)) (hcells : kc + 1 ≤ G.1.1) (hslots : ks + N ≤ G.1.2) (kk : AW M G (pc + 3) lv (.ref n :: rest) (kc + 1) (ks + N) (n + 1) (hup h n (.inr (ci, fs)))) : AW M G pc lv rest kc ks n h := by
  intro l D B p e s m args below meth c H locs ls C L R S
  obtain ⟨z, ws, tys, hK, hP, hD, hV⟩ := id R
  obtain ⟨C', T', hc, hin, hcl, hinst, hini, t0, ht0, hfs⟩ := F
  have hts := C.2.2.2.2.2.1
  have hKn := hK.1 ci _ hc
  refine W.newcK C.1 C.2.1 C.2.2.2.2.1 (hts _ hcl) (hts _ hinst) (hts _ hini) rfl hdg hcells hslots hKn.2.1 z fun H1 kC hkC e1 z1 o1 => ?_
  have hK' : va_K D vwCl (tys ++ []) s := by rw [List.append_nil]; exact hK
  exact kk l D B p e s m args below meth c H1 _ ls C L (aR_push (tys' := []) z hK' hP hD hV (Nat.le_trans C.2.2.2.2.2.2.2.2.1 (by rw [← z]; exact S.1)) (e' := .inr (ci, fs)) ⟨_, hc, (u_born t0 hts hin hKn hkC e1 ht0).to hfs⟩ z1 o1 (fun ws' q => ⟨ws.length, q⟩)) ⟨Nat.le_trans S.1 (by omega), fun x h1 h2 => (o1 x (by rw [← z]; exact Nat.lt_of_lt_of_le h1 S.1)).trans (S.2.1 x h1 h2), S.2.2⟩
/-! ends -/
theorem aQ_at {D : va_G} {B n : Nat} {h : Hp} {s t : State} {H : Heap} {locs : List Loc} {args : Array Value} {Q : Option Value → Nat → Hp → Prop} {r : Option Value} (q : Q r n h) (R : aR D B n h s H) (S : va_S (aA B) s.heap H locs) (ht : t.heap = H) (hW : s.WarmedH t.vm) : aQ D B Q args s (.returned r) t := ⟨⟨r, n, h, rfl, q, by rw [ht]; exact R.moved hW.alike⟩, S.F ht⟩
theorem aw_ireturn {M : MI} {mc ms pc kc ks n : Nat} {lv : List (Option Value)} {h : Hp} {Q : Option Value → Nat → Hp → Prop} {v : Int32} {ty : FieldType} (hdg : decode M.2.1 pc = .ok (.ireturn, 1)) (hr : M.2.2.2.1 = some ty) (hn : narrow ty (.int v) = .int v) (h1 : kc ≤ mc) (h2 : ks ≤ ms) (q : Q (some (.int v)) n h) : AW M (gq mc ms Q) pc lv [.int v] kc ks n h :=
  fun l D B p e s m args below meth c H locs ls C L R S => W.widen h1 h2 (W.zret C.1 C.2.1 (C.2.2.1.trans hr) hn (fun t ht hW => aQ_at q R S ht hW) S.2.2 hdg C.2.2.2.2.2.2.1)
theorem aw_lreturn {M : MI} {mc ms pc kc ks n : Nat} {lv : List (Option Value)} {h : Hp} {Q : Option Value → Nat → Hp → Prop} {v : Int64} (hdg : decode M.2.1 pc = .ok (.lreturn, 1)) (hr : M.2.2.2.1 = some .long) (h1 : kc ≤ mc) (h2 : ks ≤ ms) (q : Q (some (.long v)) n h) : AW M (gq mc ms Q) pc lv [.long v] kc ks n h :=
  fun l D B p e s m args below meth c H locs ls C L R S => W.widen h1 h2 (W.lret C.1 C.2.1 (C.2.2.1.trans hr) (fun t ht hW => aQ_at q R S ht hW) S.2.2 hdg C.2.2.2.2.2.2.1)
theorem aw_return {M : MI} {mc ms pc kc ks n : Nat} {lv : List (Option Value)} {h : Hp} {Q : Option Value → Nat → Hp → Prop} (hdg : decode M.2.1 pc = .ok (.return_, 1)) (hr : M.2.2.2.1 = none) (h1 : kc ≤ mc) (h2 : ks ≤ ms) (q : Q none n h) : AW M (gq mc ms Q) pc lv [] kc ks n h :=
  fun l D B p e s m args below meth c H locs ls C L R S => W.widen h1 h2 (W.vret C.1 C.2.1 (C.2.2.1.trans hr) (fun t ht hW => aQ_at q R S ht hW) S.2.2 hdg C.2.2.2.2.2.2.1)
theorem aw_areturn {M : MI} {mc ms pc kc ks n : Nat} {lv : List (Option Value)} {h : Hp} {Q : Option Value → Nat → Hp → Prop} {v : Value} {C0 : String} (hdg : decode M.2.1 pc = .ok (.areturn, 1)) (hr : M.2.2.2.1 = some (.object C0)) (hv : v = .null ∨ ∃ a, v = .ref a) (h1 : kc ≤ mc) (h2 : ks ≤ ms) (q : Q (some v) n h) : AW M (gq mc ms Q) pc lv [v] kc ks n h :=
  fun l D B p e s m args below meth c H locs ls C L R S => W.widen h1 h2 (W.aret C.1 C.2.1 (C.2.2.1.trans hr) (Or.inl ⟨C0, rfl⟩) hv (fun t ht hW => aQ_at q R S ht hW) S.2.2 hdg C.2.2.2.2.2.2.1)
/-! a contract out of a walk -/
def elv : List Value → List (Option Value)
  | [] => []
  | v :: t => if v.category = 2 then some v :: none :: elv t else some v :: elv t
theorem elv_len : ∀ vs : List Value, (elv vs).length = (lg_sl vs).length
  | [] => rfl
  | v :: t => by
    have := elv_len t
    simp only [elv, lg_sl, List.flatMap_cons] at *
    split <;> simp_all <;> omega
theorem elv_get : ∀ (vs : List Value) (k i : Nat) (v : Value), (elv vs)[i]? = some (some v) → (k + i, v) ∈ lv_args k vs
  | [], _, _, _, h => by simp [elv] at h
  | w :: t, k, i, v, h => by
    simp only [elv] at h
    by_cases hc : w.category = 2
    · rw [if_pos hc] at h
      simp only [lv_args, if_pos hc]
      match i, h with
      | 0, h => simp at h; simp [h]
      | 1, h => simp at h
      | i + 2, h => exact List.mem_cons_of_mem _ (by have := elv_get t (k + 2) i v (by simpa using h); rwa [show k + (i + 2) = k + 2 + i by omega])
    · rw [if_neg hc] at h
      simp only [lv_args, if_neg hc]
      match i, h with
      | 0, h => simp at h; simp [h]
      | i + 1, h => exact List.mem_cons_of_mem _ (by have := elv_get t (k + 1) i v (by simpa using h); rwa [show k + (i + 1) = k + 1 + i by omega])
theorem CT.intro {M : MI} {mc ms n : Nat} {h : Hp} {av : List Value} {Sp : Option Value → Nat → Hp → Prop} (lv : List (Option Value)) (k : Nat) (hlv : lv = elv av ++ List.replicate k none) (hlen : lv.length = M.2.2.1) (hy : plainName M.1.cls = true)
    (body : ∀ Q : Option Value → Nat → Hp → Prop, (∀ r n' h', Sp r n' h' → Q r n' h') → AW M (gq mc ms Q) 0 lv [] 0 0 n h) : CT M mc ms n h av Sp := by
  intro l D B
  refine Met.ofW (cc := M.2.1) (maxL := M.2.2.1) (ret := M.2.2.2.1) hy rfl ?_
  intro p e s m args below meth c s₁ Bo hml hv
  obtain ⟨rfl, hB, hX, hR⟩ := hv
  have hts := atoms_spec (ws := Cond.code M.1 M.2.1 M.2.2.1 M.2.2.2.1 :: lw_good) Bo.pre
  have hown : s.vm.findClass M.1.cls = some m.cls := findClass_of_methodNamed Bo.named
  have hnm : meth.name = M.1.name := (name_of_methodNamed Bo.named Bo.method).1
  have hle : (lg_sl av).length ≤ M.2.2.1 := by rw [← elv_len, ← hlen, hlv]; simp
  have hl := lv_entry av (n := M.2.2.1) hle
  rw [lg_entry_eq]
  refine body Sp (fun _ _ _ q => q) l D B p e s m av.toArray below meth c s.heap [] _ ⟨Bo.exec, Bo.bytes, Bo.returns, hml, hown, fun w hw => hts w (List.mem_cons_of_mem _ hw), Bo.notSynchronized, hnm, hB, hX, trivial⟩ ⟨hl.1, hl.2.1, fun i v q => ?_⟩ hR va_S.rf
  have q2 : (elv av)[i]? = some (some v) := by
    rw [hlv] at q
    by_cases hi : i < (elv av).length
    · rwa [List.getElem?_append_left hi] at q
    · rw [List.getElem?_append_right (by omega)] at q
      rw [List.getElem?_replicate] at q
      split at q
      · cases q
      · cases q
  simpa using hl.2.2 _ (elv_get av 0 i v q2)
theorem CT.weaken {M : MI} {mc ms n : Nat} {h : Hp} {av : List Value} {Q Q' : Option Value → Nat → Hp → Prop} (hc : CT M mc ms n h av Q) (w : ∀ r n' h', Q r n' h' → Q' r n' h') : CT M mc ms n h av Q' := by
  intro l D B p e ha hcc hk s m args below hf happ hP hK
  obtain ⟨k, o, h1, h2, h3, ⟨⟨⟨r, n', h', e1, q, rr⟩, hF⟩, q2⟩⟩ := hc l D B p e ha hcc hk s m args below hf happ hP hK
  exact ⟨k, o, h1, h2, h3, ⟨⟨⟨r, n', h', e1, w _ _ _ q, rr⟩, hF⟩, q2⟩⟩
/-! calls -/
theorem aP_blind {D : va_G} {B n : Nat} {h : Hp} {av : List Value} : FrameBlind (va_Pc av (aP D B n h)) := fun a U g mk q => by
  obtain ⟨q0, q1, q2, q3⟩ := q
  exact ⟨q0, q1, q2.same rfl, q3.moved (u := U) (U := U.calling g mk a) (Vm.Alike.refl U.vm)⟩
theorem aP_of {D : va_G} {B n : Nat} {h : Hp} {s U : State} {H : Heap} {locs : List Loc} (hB : B ≤ s.heap.size) (hX : aX s) (R : aR D B n h s H) (S : va_S (aA B) s.heap H locs) (hU : U.heap = H) (hW : s.WarmedH U.vm) : aP D B n h U := ⟨by rw [hU]; exact Nat.le_trans hB S.1, hX.warm hW, by rw [hU]; exact R.moved hW.alike⟩
theorem lw_goodIn {w0 : Cond} (h : w0 ∈ lw_good) : GoodIn lw_good (w0 :: lw_good) := fun w hw => by
  have hm : w ∈ lw_good := (List.mem_cons.mp hw).elim (fun e => e ▸ h) id
  exact ⟨hm, good_of_word (List.mem_filter.mp hm).2⟩
theorem aw_go {M : MI} {G : AG} {pc kc ks n : Nat} {lv : List (Option Value)} {h : Hp} {rest : List Value} {M2 : MI} {mc ms : Nat} {h2 : Hp} {av : List Value} {Q2 : Option Value → Nat → Hp → Prop} {st0 : List Value} (run : ∀ (l : Launch) (D : va_G) (B : Nat) (p : Program) (e : Env) (s : State) (m : MethodId) (args : Array Value) (below : List Frame) (meth : Method) (c : Code) (H : Heap) (locs : List Loc) (ls : Array Slot), aC M G B p s m args meth c → aL ls M.2.2.1 lv → aR D B n h s H → va_S (aA B) s.heap H locs → va_Run p l e { frames := M.2.2.2.2.1, cells := G.1.1, slots := G.1.2, locals := M.2.2.2.2.2 } s m args below meth c H locs kc ks mc ms (F0 m pc ls st0) rest (aQ D B Q2 av.toArray) (aA B)) (kk : ∀ (r : Option Value) (n' : Nat) (h' : Hp), Q2 r n' h' → AW M G (pc + 3) lv (r.toList ++ rest) (kc + mc) (ks + ms) n' h') : AW M G pc lv st0 kc ks n h := by
  intro l D B p e s m args below meth c H locs ls C L R S
  intro T hT X
  obtain ⟨v, st₀, t, T', L', h0, X', hL, e1, e2, ⟨⟨r, n', h', hv, q, hR'⟩, hz, hk⟩, st⟩ := run l D B p e s m args below meth c H locs ls C L R S T hT X
  have hv : v = r := by simpa using hv
  subst hv
  rw [h0] at hz hk
  have hvm : s.vm.Alike t.vm := by rw [← e2]; exact X'.warmed.alike
  obtain ⟨t2, a1, b1⟩ := kk v n' h' q l D B p e s m args below meth c T'.heap (locs ++ L') ls C L (by rw [e1]; exact hR'.moved hvm.symm)
    ⟨Nat.le_trans S.1 (by rw [e1]; exact hz), fun q h1 h2 => by rw [e1, hk q (Nat.lt_of_lt_of_le h1 S.1) h2]; exact S.2.1 q h1 h2, fun q hq => by
      rcases List.mem_append.mp hq with h | h
      · exact S.2.2 q h
      · exact hL q h⟩ T' rfl X'
  exact ⟨t2, st t2 a1, b1⟩
/-- a call's words: static, of an object, of a constructor -/
def MLs (own : String) (idx : Nat) (M2 : MI) (k : Nat) : Prop := Cond.methodLink own idx M2.1 ∈ lw_good ∧ Cond.static M2.1 ∈ lw_good ∧ Cond.initialized M2.1.cls ∈ lw_good ∧ Cond.code M2.1 M2.2.1 M2.2.2.1 M2.2.2.2.1 ∈ lw_good ∧ (M2.1.cls ≠ "java/lang/invoke/MethodHandle" ∧ M2.1.cls ≠ "java/lang/invoke/VarHandle" ∧ (parseMethodDescriptor M2.1.desc).map (fun d => d.parameters.length) = some k)
def MLv (own : String) (idx : Nat) (M2 : MI) (ci k : Nat) : Prop := (∃ r : vw_C, vwCl[ci]? = some r ∧ r.1 = M2.1.cls) ∧ Cond.methodLink own idx M2.1 ∈ lw_good ∧ Cond.instanceMethod M2.1 ∈ lw_good ∧ Cond.selects M2.1.cls M2.1 M2.1 ∈ lw_good ∧ Cond.initialized M2.1.cls ∈ lw_good ∧ Cond.code M2.1 M2.2.1 M2.2.2.1 M2.2.2.2.1 ∈ lw_good ∧ (M2.1.cls ≠ "java/lang/invoke/MethodHandle" ∧ M2.1.cls ≠ "java/lang/invoke/VarHandle" ∧ (parseMethodDescriptor M2.1.desc).map (fun d => d.parameters.length) = some k)
def MLi (own : String) (idx : Nat) (M2 : MI) (k : Nat) : Prop := M2.1.name = "<init>" ∧ M2.2.2.2.1 = none ∧ Cond.methodLink own idx M2.1 ∈ lw_good ∧ Cond.instanceMethod M2.1 ∈ lw_good ∧ Cond.initialized M2.1.cls ∈ lw_good ∧ Cond.code M2.1 M2.2.1 M2.2.2.1 M2.2.2.2.1 ∈ lw_good ∧ (M2.1.cls ≠ "java/lang/invoke/MethodHandle" ∧ M2.1.cls ≠ "java/lang/invoke/VarHandle" ∧ (parseMethodDescriptor M2.1.desc).map (fun d => d.parameters.length) = some k)
theorem aw_invokestatic {M : MI} {G : AG} {pc kc ks n : Nat} {lv : List (Option Value)} {h : Hp} {rest : List Value} {M2 : MI} {idx k mc ms : Nat} {Q2 : Option Value → Nat → Hp → Prop} {As : List Value} {st0 : List Value} (F : MLs M.1.cls idx M2 k) (hdg : decode M.2.1 pc = .ok (.invokestatic idx, 3)) (hct : CT M2 mc ms n h As Q2) (hn : As.length = k) (hst : st0 = As.reverse ++ rest) (hW : (rest.map fun v => v.category).sum ≤ 8) (hR : M2.2.2.2.2.1 + 1 ≤ M.2.2.2.2.1 ∧ 8 + (M2.2.2.1 + 11) + M2.2.2.2.2.2 ≤ M.2.2.2.2.2) (hf : kc + mc ≤ G.1.1 ∧ ks + ms ≤ G.1.2) (kk : ∀ (r : Option Value) (n' : Nat) (h' : Hp), Q2 r n' h' → AW M G (pc + 3) lv (r.toList ++ rest) (kc + mc) (ks + ms) n' h') : AW M G pc lv st0 kc ks n h := by
  subst hst
  refine aw_go (M2 := M2) (h2 := h) (av := As) (mc := mc) (ms := ms) ?_ kk
  intro l D B p e s m args below meth c H locs ls C L R S
  obtain ⟨f1, f2, f3, f4, f5⟩ := F
  have hts := C.2.2.2.2.2.1
  exact va_runS (Ts := lw_good) ⟨C.1, C.2.1, C.2.2.2.1, C.2.2.2.2.1, hts⟩ (hct l D B) ⟨callB_of k hts (lw_goodIn f4) rfl rfl rfl (hts _ f3) (hts _ f1) f5 hR, hts _ f2⟩ ⟨aP_blind, fun U hU hW => ⟨rfl, aP_of C.2.2.2.2.2.2.2.2.1 C.2.2.2.2.2.2.2.2.2.1 R S hU hW⟩⟩ rfl hn L.1 rfl (lv_room hW) hdg hf
theorem aw_invokevirtual {M : MI} {G : AG} {pc kc ks n : Nat} {lv : List (Option Value)} {h : Hp} {rest : List Value} {M2 : MI} {idx ci k mc ms : Nat} {Q2 : Option Value → Nat → Hp → Prop} {b : Nat} {fs : List Value} {As : List Value} {st0 : List Value} (F : MLv M.1.cls idx M2 ci k) (hdg : decode M.2.1 pc = .ok (.invokevirtual idx, 3)) (hb : h b = some (.inr (ci, fs))) (hct : CT M2 mc ms n h (.ref b :: As) Q2) (hn : As.length = k) (hst : st0 = As.reverse ++ .ref b :: rest) (hW : (rest.map fun v => v.category).sum ≤ 8) (hR : M2.2.2.2.2.1 + 1 ≤ M.2.2.2.2.1 ∧ 8 + (M2.2.2.1 + 11) + M2.2.2.2.2.2 ≤ M.2.2.2.2.2) (hf : kc + mc ≤ G.1.1 ∧ ks + ms ≤ G.1.2) (kk : ∀ (r : Option Value) (n' : Nat) (h' : Hp), Q2 r n' h' → AW M G (pc + 3) lv (r.toList ++ rest) (kc + mc) (ks + ms) n' h') : AW M G pc lv st0 kc ks n h := by
  subst hst
  refine aw_go (M2 := M2) (h2 := h) (av := .ref b :: As) (mc := mc) (ms := ms) ?_ kk
  intro l D B p e s m args below meth c H locs ls C L R S
  obtain ⟨⟨r, hc, hr⟩, f1, f2, f2b, f3, f4, f5⟩ := F
  have hts := C.2.2.2.2.2.1
  obtain ⟨z, ws, tys, hK, hP, hD, hV⟩ := id R
  obtain ⟨q0, he⟩ := hV b _ hb
  have hrecv := va_recv hK hP hc he
  rw [hr] at hrecv
  exact va_runV (Ts := lw_good) (C := M2.1.cls) ⟨C.1, C.2.1, C.2.2.2.1, C.2.2.2.2.1, hts⟩ (hct l D B) ⟨callB_of k hts (lw_goodIn f4) rfl rfl rfl (hts _ f3) (hts _ f1) f5 hR, hts _ f2, hts _ f2b⟩ ⟨aP_blind, hrecv, fun U hU hW => ⟨rfl, aP_of C.2.2.2.2.2.2.2.2.1 C.2.2.2.2.2.2.2.2.2.1 R S hU hW⟩⟩ rfl hn L.1 rfl (lv_room hW) hdg hf
theorem aw_invokespecial {M : MI} {G : AG} {pc kc ks n : Nat} {lv : List (Option Value)} {h : Hp} {rest : List Value} {M2 : MI} {idx k mc ms : Nat} {Q2 : Option Value → Nat → Hp → Prop} {b : Nat} {As : List Value} {st0 : List Value} (F : MLi M.1.cls idx M2 k) (hdg : decode M.2.1 pc = .ok (.invokespecial idx, 3)) (hct : CT M2 mc ms n h (.ref b :: As) Q2) (hn : As.length = k) (hst : st0 = As.reverse ++ .ref b :: rest) (hW : (rest.map fun v => v.category).sum ≤ 8) (hR : M2.2.2.2.2.1 + 1 ≤ M.2.2.2.2.1 ∧ 8 + (M2.2.2.1 + 11) + M2.2.2.2.2.2 ≤ M.2.2.2.2.2) (hf : kc + mc ≤ G.1.1 ∧ ks + ms ≤ G.1.2) (kk : ∀ (r : Option Value) (n' : Nat) (h' : Hp), Q2 r n' h' → AW M G (pc + 3) lv (r.toList ++ rest) (kc + mc) (ks + ms) n' h') : AW M G pc lv st0 kc ks n h := by
  subst hst
  refine aw_go (M2 := M2) (h2 := h) (av := .ref b :: As) (mc := mc) (ms := ms) ?_ kk
  intro l D B p e s m args below meth c H locs ls C L R S
  obtain ⟨f0, f00, f1, f2, f3, f4, f5⟩ := F
  have hts := C.2.2.2.2.2.1
  have hct' := hct l D B
  rw [f00] at hct' f4
  exact va_runI (Ts := lw_good) ⟨C.1, C.2.1, C.2.2.2.1, C.2.2.2.2.1, hts⟩ hct' ⟨callB_of k hts (lw_goodIn f4) rfl rfl rfl (hts _ f3) (hts _ f1) f5 hR, f0, hts _ f2⟩ ⟨aP_blind, fun U hU hW => ⟨rfl, aP_of C.2.2.2.2.2.2.2.2.1 C.2.2.2.2.2.2.2.2.2.1 R S hU hW⟩⟩ rfl hn L.1 rfl (lv_room hW) hdg hf
def MLn (own : String) (idx : Nat) (M2 : MI) (k : Nat) (host : String) : Prop := M2.1.name = "<init>" ∧ M2.2.2.2.1 = none ∧ (∀ s : State, aX s → va_Nw (.methodLinkNest own idx M2.1 host) s) ∧ Cond.instanceMethod M2.1 ∈ lw_good ∧ Cond.initialized M2.1.cls ∈ lw_good ∧ Cond.code M2.1 M2.2.1 M2.2.2.1 M2.2.2.2.1 ∈ lw_good ∧ (M2.1.cls ≠ "java/lang/invoke/MethodHandle" ∧ M2.1.cls ≠ "java/lang/invoke/VarHandle" ∧ (parseMethodDescriptor M2.1.desc).map (fun d => d.parameters.length) = some k)
theorem aw_invokenest {M : MI} {G : AG} {pc kc ks n : Nat} {lv : List (Option Value)} {h : Hp} {rest : List Value} {M2 : MI} {idx k mc ms : Nat} {host : String} {Q2 : Option Value → Nat → Hp → Prop} {b : Nat} {As : List Value} {st0 : List Value} (F : MLn M.1.cls idx M2 k host) (hdg : decode M.2.1 pc = .ok (.invokespecial idx, 3)) (hct : CT M2 mc ms n h (.ref b :: As) Q2) (hn : As.length = k) (hst : st0 = As.reverse ++ .ref b :: rest) (hW : (rest.map fun v => v.category).sum ≤ 8) (hR : M2.2.2.2.2.1 + 1 ≤ M.2.2.2.2.1 ∧ 8 + (M2.2.2.1 + 11) + M2.2.2.2.2.2 ≤ M.2.2.2.2.2) (hf : kc + mc ≤ G.1.1 ∧ ks + ms ≤ G.1.2) (kk : ∀ (r : Option Value) (n' : Nat) (h' : Hp), Q2 r n' h' → AW M G (pc + 3) lv (r.toList ++ rest) (kc + mc) (ks + ms) n' h') : AW M G pc lv st0 kc ks n h := by
  subst hst
  refine aw_go (M2 := M2) (h2 := h) (av := .ref b :: As) (mc := mc) (ms := ms) ?_ kk
  intro l D B p e s m args below meth c H locs ls C L R S
  obtain ⟨f0, f00, f1, f2, f3, f4, f5⟩ := F
  have hts := C.2.2.2.2.2.1
  have hct' := hct l D B
  rw [f00] at hct' f4
  exact va_runIN (Ts := lw_good) (host := host) ⟨C.1, C.2.1, C.2.2.2.1, C.2.2.2.2.1, hts⟩ hct' ⟨va_cnB k hts (lw_goodIn f4) rfl rfl rfl (f1 s C.2.2.2.2.2.2.2.2.2.1) (hts _ f3) f5 hR, f0, hts _ f2⟩ ⟨aP_blind, fun U hU hW => ⟨rfl, aP_of C.2.2.2.2.2.2.2.2.1 C.2.2.2.2.2.2.2.2.2.1 R S hU hW⟩⟩ rfl hn L.1 rfl (lv_room hW) hdg hf
theorem aw_objinit {M : MI} {G : AG} {pc kc ks n : Nat} {lv : List (Option Value)} {h : Hp} {rest : List Value} {idx a : Nat} (f1 : Cond.methodLink M.1.cls idx objectInit ∈ lw_good) (f2 : Cond.instanceMethod objectInit ∈ lw_good) (f3 : Cond.code objectInit ⟨#[0xb1]⟩ 1 none ∈ lw_good) (hdg : decode M.2.1 pc = .ok (.invokespecial idx, 3)) (hfr : 1 ≤ M.2.2.2.2.1) (hlo : (rest.map fun v => v.category).sum + 12 ≤ M.2.2.2.2.2) (kk : AW M G (pc + 3) lv rest kc ks n h) : AW M G pc lv (.ref a :: rest) kc ks n h :=
  fun l D B p e s m args below meth c H locs ls C L R S => W.objInit C.1 C.2.1 C.2.2.2.2.1 (C.2.2.2.2.2.1 _ f1) (C.2.2.2.2.2.1 _ f2) (C.2.2.2.2.2.1 _ f3) rfl (L.1.trans C.2.2.2.1.symm) rfl hdg hfr (by show 2 * 0 + _ + _ ≤ _; simpa using hlo) (kk l D B p e s m args below meth c H locs ls C L R S)
theorem aw_mmax {M : MI} {G : AG} {pc kc ks n : Nat} {lv : List (Option Value)} {h : Hp} {rest : List Value} {idx : Nat} {x y : Int32} (f1 : Cond.methodLink M.1.cls idx Lib.Math.max.name ∈ lw_good) (f2 : Cond.static Lib.Math.max.name ∈ lw_good) (f3 : Cond.initialized "java/lang/Math" ∈ lw_good) (f4 : Cond.code Lib.Math.max.name Lib.Math.max.code 2 (some .int) ∈ lw_good) (hdg : decode M.2.1 pc = .ok (.invokestatic idx, 3)) (hfr : 1 ≤ M.2.2.2.2.1) (hlo : (rest.map fun v => v.category).sum + 13 ≤ M.2.2.2.2.2) (hc : kc ≤ G.1.1) (hs : ks ≤ G.1.2) (kk : AW M G (pc + 3) lv (.int (if x < y then y else x) :: rest) kc ks n h) : AW M G pc lv (.int y :: .int x :: rest) kc ks n h :=
  fun l D B p e s m args below meth c H locs ls C L R S => va_mmax C.1 C.2.1 (C.2.2.2.1.trans L.1.symm) C.2.2.2.2.1 (C.2.2.2.2.2.1 _ f1) (C.2.2.2.2.2.1 _ f2) (C.2.2.2.2.2.1 _ f3) (C.2.2.2.2.2.1 _ f4) hfr hlo hc hs hdg (kk l D B p e s m args below meth c H locs ls C L R S)
theorem aw_mmin {M : MI} {G : AG} {pc kc ks n : Nat} {lv : List (Option Value)} {h : Hp} {rest : List Value} {idx : Nat} {x y : Int32} (f1 : Cond.methodLink M.1.cls idx Lib.Math.min.name ∈ lw_good) (f2 : Cond.static Lib.Math.min.name ∈ lw_good) (f3 : Cond.initialized "java/lang/Math" ∈ lw_good) (f4 : Cond.code Lib.Math.min.name Lib.Math.min.code 2 (some .int) ∈ lw_good) (hdg : decode M.2.1 pc = .ok (.invokestatic idx, 3)) (hfr : 1 ≤ M.2.2.2.2.1) (hlo : (rest.map fun v => v.category).sum + 13 ≤ M.2.2.2.2.2) (hc : kc ≤ G.1.1) (hs : ks ≤ G.1.2) (kk : AW M G (pc + 3) lv (.int (if y < x then y else x) :: rest) kc ks n h) : AW M G pc lv (.int y :: .int x :: rest) kc ks n h :=
  fun l D B p e s m args below meth c H locs ls C L R S => va_mmin C.1 C.2.1 (C.2.2.2.1.trans L.1.symm) C.2.2.2.2.1 (C.2.2.2.2.2.1 _ f1) (C.2.2.2.2.2.1 _ f2) (C.2.2.2.2.2.1 _ f3) (C.2.2.2.2.2.1 _ f4) hfr hlo hc hs hdg (kk l D B p e s m args below meth c H locs ls C L R S)
theorem aw_mabs {M : MI} {G : AG} {pc kc ks n : Nat} {lv : List (Option Value)} {h : Hp} {rest : List Value} {idx : Nat} {x : Int32} (f1 : Cond.methodLink M.1.cls idx Lib.Math.abs.name ∈ lw_good) (f2 : Cond.static Lib.Math.abs.name ∈ lw_good) (f3 : Cond.initialized "java/lang/Math" ∈ lw_good) (f4 : Cond.code Lib.Math.abs.name Lib.Math.abs.code 1 (some .int) ∈ lw_good) (hdg : decode M.2.1 pc = .ok (.invokestatic idx, 3)) (hfr : 1 ≤ M.2.2.2.2.1) (hlo : (rest.map fun v => v.category).sum + 13 ≤ M.2.2.2.2.2) (hc : kc ≤ G.1.1) (hs : ks ≤ G.1.2) (kk : AW M G (pc + 3) lv (.int (if 0 ≤ x then x else 0 - x) :: rest) kc ks n h) : AW M G pc lv (.int x :: rest) kc ks n h :=
  fun l D B p e s m args below meth c H locs ls C L R S => va_mabs C.1 C.2.1 (C.2.2.2.1.trans L.1.symm) C.2.2.2.2.1 (C.2.2.2.2.2.1 _ f1) (C.2.2.2.2.2.1 _ f2) (C.2.2.2.2.2.1 _ f3) (C.2.2.2.2.2.1 _ f4) hfr hlo hc hs hdg (kk l D B p e s m args below meth c H locs ls C L R S)
end
section

theorem aw_arraycopy {M : MI} {G : AG} {pc kc ks n : Nat} {lv : List (Option Value)} {h : Hp} {rest : List Value} {idx : Nat} {a0 a n0 n1 j0 j1 k : Nat} {f g : Nat → Int32} {sp dp nn : Int32} (f1 : Cond.methodLink M.1.cls idx arraycopyName ∈ lw_good) (f2 : Cond.native arraycopyName ∈ lw_good) (f3 : Cond.static arraycopyName ∈ lw_good) (f4 : Cond.initialized "java/lang/System" ∈ lw_good) (hdg : decode M.2.1 pc = .ok (.invokestatic idx, 3)) (ha0 : h a0 = some (.inl (.int, n0, .inl f))) (ha1 : h a = some (.inl (.int, n1, .inl g))) (hsp : sp.toInt = (j0 : Int)) (hdp : dp.toInt = (j1 : Int)) (hnn : nn.toInt = (k : Int)) (h4 : j0 + k ≤ n0) (h5 : j1 + k ≤ n1) (hfr : 1 ≤ M.2.2.2.2.1) (hlo : (rest.map fun v => v.category).sum + (nativeFrameWords "java/lang/System" "arraycopy" 5 + 11) ≤ M.2.2.2.2.2) (kk : AW M G (pc + 3) lv rest kc ks n (hup h a (.inl (.int, n1, .inl (va_cpy f g j0 j1 k))))) : AW M G pc lv (.int nn :: .int dp :: .ref a :: .int sp :: .ref a0 :: rest) kc ks n h := by
  intro l D B p e s m args below meth c H locs ls C L R S
  obtain ⟨z, ws, tys, hK, hP, hD, hV⟩ := id R
  obtain ⟨q0, t0, c0, he0, ht0⟩ := hV a0 _ ha0
  obtain ⟨q1, t1, c1, he1, ht1⟩ := hV a _ ha1
  have hts := C.2.2.2.2.2.1
  have ng : ∀ (y : Int32) (i : Nat), y.toInt = (i : Int) → ¬ y < 0 := fun y i hy q => by have := Int32.lt_iff_toInt_lt.mp q; rw [hy] at this; simp at this; omega
  intro T hT X
  have hc0 : H[a0]? = some (vp_cell c0 (n0, .inl f)) := hP q0 _ he0
  have hc1 : H[a]? = some (vp_cell c1 (n1, .inl g)) := hP q1 _ he1
  obtain ⟨-, k0, hk0, cm0, hkk0⟩ := (hK.2 t0 _ ht0).1 n0 (fun j => .int (f j))
  obtain ⟨-, k1, hk1, cm1, hkk1⟩ := (hK.2 t1 _ ht1).1 n1 (fun j => .int (g j))
  obtain ⟨vm', X', step⟩ := X.arraycopy C.1 C.2.2.2.2.1 (hts _ f1) (hts _ f2) (hts _ f3) (hts _ f4) (src := a0) (dst := a) (cs := vp_cell c0 (n0, .inl f)) (cd := vp_cell c1 (n1, .inl g)) (srcPos := sp) (destPos := dp) (n := nn) (by rw [hT]; exact hc0) (by rw [hT]; exact hc1)
    (fun _ h => by cases h) (fun _ h => by cases h) (fun h => by cases h) (fun h => by cases h) hk0 hk1 hkk0 hkk1 (by simp [refKind]) (ng _ _ hsp) (ng _ _ hdp) (ng _ _ hnn)
    (by rw [hsp, hnn]; show ¬ _ > ((arrV c0 n0 (fun j => .int (f j))).slots.size : Int); rw [arrV_size]; omega)
    (by rw [hdp, hnn]; show ¬ _ > ((arrV c1 n1 (fun j => .int (g j))).slots.size : Int); rw [arrV_size]; omega)
    (fun vm₁ _ i hi => by
      rw [ix_cl hnn] at hi
      have e0 : (vp_cell c0 (n0, .inl f)).slots.getD (sp.toNatClampNeg + i) .null = .int (f (sp.toNatClampNeg + i)) := by
        show (arrV c0 n0 (fun j => .int (f j))).slots.getD _ _ = _
        rw [Array.getD_eq_getD_getElem?, arrV_read _ _ (by rw [ix_cl hsp]; omega)]
        rfl
      refine ⟨?_, ?_⟩
      · rw [e0]; rfl
      · rw [e0]; exact trivial)
    (g := F0 m pc ls (.int nn :: .int dp :: .ref a :: .int sp :: .ref a0 :: rest)) rfl (L.1.trans C.2.2.2.1.symm) (rest := rest) rfl (by rw [C.2.1]; exact hdg) hfr (by show 2 * 0 + _ + _ ≤ _; show 2 * 0 + _ + _ ≤ M.2.2.2.2.2; omega)
  have e1 : copied (vp_cell c0 (n0, .inl f)) (vp_cell c1 (n1, .inl g)) sp dp nn = vp_cell c1 (n1, .inl (va_cpy f g j0 j1 k)) := by
    have e2 : copied (vp_cell c0 (n0, .inl f)) (vp_cell c1 (n1, .inl g)) sp dp nn = vp_cell c1 (n1, .inl (va_cpy f g sp.toNatClampNeg dp.toNatClampNeg nn.toNatClampNeg)) := va_copied (fun z => .int z) c0 c1 f g (by rw [ix_cl hsp, ix_cl hnn]; exact h4)
    rw [ix_cl hsp, ix_cl hdp, ix_cl hnn] at e2
    exact e2
  rw [e1] at X' step
  have hl : a < H.size := (Array.getElem?_eq_some_iff.mp hc1).1
  have hheap : ((T.setVm vm').setCell a (vp_cell c1 (n1, .inl (va_cpy f g j0 j1 k)))).heap = H.setIfInBounds a (vp_cell c1 (n1, .inl (va_cpy f g j0 j1 k))) := by rw [← hT]; rfl
  have oq : ∀ q : Nat, q ≠ a → (H.setIfInBounds a (vp_cell c1 (n1, .inl (va_cpy f g j0 j1 k))))[q]? = H[q]? := fun q hq => by simp [Array.getElem?_setIfInBounds, Ne.symm hq]
  obtain ⟨t, a1, b1⟩ := kk l D B p e s m args below meth c _ _ ls C L (aR_set z hK hP hD hV he1 (e' := .inl (c1, n1, .inl (va_cpy f g j0 j1 k))) (show (H.setIfInBounds a _)[a]? = some _ by simp [Array.getElem?_setIfInBounds, hl]) (by simp) oq (fun ws' q => ⟨q1, t1, c1, q, ht1⟩)) ⟨by simp; exact S.1, fun q g1 g2 => by
      rw [oq q (fun e => g2 (by rw [e]; exact hD.2 q1 _ he1))]
      exact S.2.1 q g1 g2, fun q hq => by
      rcases List.mem_append.mp hq with h | h
      · exact S.2.2 q h
      · obtain ⟨z, -, hz⟩ := List.mem_map.mp h
        rw [← hz]
        exact hD.2 q1 _ he1⟩ _ hheap X'
  exact ⟨t, step t a1, b1⟩
theorem aw_mabs_long {M : MI} {G : AG} {pc kc ks n : Nat} {lv : List (Option Value)} {h : Hp} {rest : List Value} {idx : Nat} {x : Int64} (f1 : Cond.methodLink M.1.cls idx Lib.MathLoose.abs_long.x ∈ lw_good) (f2 : Cond.static Lib.MathLoose.abs_long.x ∈ lw_good) (f3 : Cond.initialized "java/lang/Math" ∈ lw_good) (f4 : Cond.code Lib.MathLoose.abs_long.x Lib.MathLoose.abs_long.code 2 (some .long) ∈ lw_good) (hdg : decode M.2.1 pc = .ok (.invokestatic idx, 3)) (hfr : 1 ≤ M.2.2.2.2.1) (hlo : (rest.map fun v => v.category).sum + 13 ≤ M.2.2.2.2.2) (hc : kc ≤ G.1.1) (hs : ks ≤ G.1.2) (kk : AW M G (pc + 3) lv (.long (if 0 < x then x else -x) :: rest) kc ks n h) : AW M G pc lv (.long x :: rest) kc ks n h :=
  fun l D B p e s m args below meth c H locs ls C L R S => va_mabs_long C.1 C.2.1 (C.2.2.2.1.trans L.1.symm) C.2.2.2.2.1 (C.2.2.2.2.2.1 _ f1) (C.2.2.2.2.2.1 _ f2) (C.2.2.2.2.2.1 _ f3) (C.2.2.2.2.2.1 _ f4) hfr hlo hc hs hdg (kk l D B p e s m args below meth c H locs ls C L R S)
end
