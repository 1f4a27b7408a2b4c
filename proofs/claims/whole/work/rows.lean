section
-- ===== PART A: goes FIRST, ahead of the names: the tables' words, and 'selects' of the private methods out of them =====
/-- a private method of a class that the tables say can be made, by its rows of tables_1 -/
def lw_okq (q : MethodName × Nat) : Prop := (q.1.cls ≠ "java/lang/invoke/MethodHandle" ∧ q.1.cls ≠ "java/lang/invoke/VarHandle") ∧ Cond.instantiable q.1.cls q.2 ∈ tables_1 ∧ Cond.privateMethod q.1 ∈ tables_1 ∧ Cond.instanceMethod q.1 ∈ tables_1
theorem lw_p0 : lw_okq (⟨"TailBounds", "isFull", "()Z"⟩, 17) := ⟨⟨by decide +kernel, by decide +kernel⟩, List.mem_of_getElem? (i := 14) (by decide +kernel), List.mem_of_getElem? (i := 254) (by decide +kernel), List.mem_of_getElem? (i := 255) (by decide +kernel)⟩
theorem lw_p1 : lw_okq (⟨"TailBounds", "makeRounds", "(I[II)LTailBounds$Row;"⟩, 17) := ⟨⟨by decide +kernel, by decide +kernel⟩, List.mem_of_getElem? (i := 14) (by decide +kernel), List.mem_of_getElem? (i := 258) (by decide +kernel), List.mem_of_getElem? (i := 259) (by decide +kernel)⟩
theorem lw_p2 : lw_okq (⟨"TailBounds$Row", "lacks", "(I)Z"⟩, 3) := ⟨⟨by decide +kernel, by decide +kernel⟩, List.mem_of_getElem? (i := 141) (by decide +kernel), List.mem_of_getElem? (i := 288) (by decide +kernel), List.mem_of_getElem? (i := 289) (by decide +kernel)⟩
theorem lw_p3 : lw_okq (⟨"TailBounds", "keep", "(ILTailBounds$Row;)I"⟩, 17) := ⟨⟨by decide +kernel, by decide +kernel⟩, List.mem_of_getElem? (i := 14) (by decide +kernel), List.mem_of_getElem? (i := 297) (by decide +kernel), List.mem_of_getElem? (i := 298) (by decide +kernel)⟩
theorem lw_p4 : lw_okq (⟨"TailBounds$Divider", "findCommon", "(LTailBounds$Num;LTailBounds$Num;)V"⟩, 9) := ⟨⟨by decide +kernel, by decide +kernel⟩, List.mem_of_getElem? (i := 70) (by decide +kernel), List.mem_of_getElem? (i := 358) (by decide +kernel), List.mem_of_getElem? (i := 359) (by decide +kernel)⟩
theorem lw_p5 : lw_okq (⟨"TailBounds$Divider", "finish", "()V"⟩, 9) := ⟨⟨by decide +kernel, by decide +kernel⟩, List.mem_of_getElem? (i := 70) (by decide +kernel), List.mem_of_getElem? (i := 372) (by decide +kernel), List.mem_of_getElem? (i := 373) (by decide +kernel)⟩
theorem lw_p6 : lw_okq (⟨"TailBounds$Divider", "findLeap", "()Z"⟩, 9) := ⟨⟨by decide +kernel, by decide +kernel⟩, List.mem_of_getElem? (i := 70) (by decide +kernel), List.mem_of_getElem? (i := 386) (by decide +kernel), List.mem_of_getElem? (i := 387) (by decide +kernel)⟩
theorem lw_p7 : lw_okq (⟨"TailBounds$Divider", "leap", "()V"⟩, 9) := ⟨⟨by decide +kernel, by decide +kernel⟩, List.mem_of_getElem? (i := 70) (by decide +kernel), List.mem_of_getElem? (i := 398) (by decide +kernel), List.mem_of_getElem? (i := 399) (by decide +kernel)⟩
theorem lw_p8 : lw_okq (⟨"TailBounds$Divider", "guessAt", "(I)J"⟩, 9) := ⟨⟨by decide +kernel, by decide +kernel⟩, List.mem_of_getElem? (i := 70) (by decide +kernel), List.mem_of_getElem? (i := 413) (by decide +kernel), List.mem_of_getElem? (i := 414) (by decide +kernel)⟩
theorem lw_p9 : lw_okq (⟨"TailBounds$Divider", "takeAway", "(IJ)Z"⟩, 9) := ⟨⟨by decide +kernel, by decide +kernel⟩, List.mem_of_getElem? (i := 70) (by decide +kernel), List.mem_of_getElem? (i := 422) (by decide +kernel), List.mem_of_getElem? (i := 423) (by decide +kernel)⟩
theorem lw_p10 : lw_okq (⟨"TailBounds$Divider", "giveBack", "(I)V"⟩, 9) := ⟨⟨by decide +kernel, by decide +kernel⟩, List.mem_of_getElem? (i := 70) (by decide +kernel), List.mem_of_getElem? (i := 426) (by decide +kernel), List.mem_of_getElem? (i := 427) (by decide +kernel)⟩
theorem lw_p11 : lw_okq (⟨"TailBounds$Divider", "moveOn", "()V"⟩, 9) := ⟨⟨by decide +kernel, by decide +kernel⟩, List.mem_of_getElem? (i := 70) (by decide +kernel), List.mem_of_getElem? (i := 434) (by decide +kernel), List.mem_of_getElem? (i := 435) (by decide +kernel)⟩
theorem lw_p12 : lw_okq (⟨"TailBounds", "sourceAt", "(I)LTailBounds$Source;"⟩, 17) := ⟨⟨by decide +kernel, by decide +kernel⟩, List.mem_of_getElem? (i := 14) (by decide +kernel), List.mem_of_getElem? (i := 463) (by decide +kernel), List.mem_of_getElem? (i := 464) (by decide +kernel)⟩
theorem lw_p13 : lw_okq (⟨"TailBounds$Row", "addPair", "(LTailBounds$Row;ILTailBounds$Row;I)V"⟩, 3) := ⟨⟨by decide +kernel, by decide +kernel⟩, List.mem_of_getElem? (i := 141) (by decide +kernel), List.mem_of_getElem? (i := 484) (by decide +kernel), List.mem_of_getElem? (i := 485) (by decide +kernel)⟩
theorem lw_p14 : lw_okq (⟨"TailBounds", "placeAt", "(I)LTailBounds$Fraction;"⟩, 17) := ⟨⟨by decide +kernel, by decide +kernel⟩, List.mem_of_getElem? (i := 14) (by decide +kernel), List.mem_of_getElem? (i := 517) (by decide +kernel), List.mem_of_getElem? (i := 518) (by decide +kernel)⟩
theorem lw_p15 : lw_okq (⟨"TailBounds", "settle", "(LTailBounds$Fraction;)I"⟩, 17) := ⟨⟨by decide +kernel, by decide +kernel⟩, List.mem_of_getElem? (i := 14) (by decide +kernel), List.mem_of_getElem? (i := 526) (by decide +kernel), List.mem_of_getElem? (i := 527) (by decide +kernel)⟩
def lw_privs_1 : List (MethodName × Nat) := [(⟨"TailBounds", "isFull", "()Z"⟩, 17), (⟨"TailBounds", "makeRounds", "(I[II)LTailBounds$Row;"⟩, 17), (⟨"TailBounds$Row", "lacks", "(I)Z"⟩, 3), (⟨"TailBounds", "keep", "(ILTailBounds$Row;)I"⟩, 17), (⟨"TailBounds$Divider", "findCommon", "(LTailBounds$Num;LTailBounds$Num;)V"⟩, 9), (⟨"TailBounds$Divider", "finish", "()V"⟩, 9), (⟨"TailBounds$Divider", "findLeap", "()Z"⟩, 9), (⟨"TailBounds$Divider", "leap", "()V"⟩, 9), (⟨"TailBounds$Divider", "guessAt", "(I)J"⟩, 9), (⟨"TailBounds$Divider", "takeAway", "(IJ)Z"⟩, 9), (⟨"TailBounds$Divider", "giveBack", "(I)V"⟩, 9), (⟨"TailBounds$Divider", "moveOn", "()V"⟩, 9), (⟨"TailBounds", "sourceAt", "(I)LTailBounds$Source;"⟩, 17), (⟨"TailBounds$Row", "addPair", "(LTailBounds$Row;ILTailBounds$Row;I)V"⟩, 3), (⟨"TailBounds", "placeAt", "(I)LTailBounds$Fraction;"⟩, 17), (⟨"TailBounds", "settle", "(LTailBounds$Fraction;)I"⟩, 17)]
theorem lw_r1 : ∀ q ∈ lw_privs_1, lw_okq q := List.forall_mem_cons.mpr ⟨lw_p0, List.forall_mem_cons.mpr ⟨lw_p1, List.forall_mem_cons.mpr ⟨lw_p2, List.forall_mem_cons.mpr ⟨lw_p3, List.forall_mem_cons.mpr ⟨lw_p4, List.forall_mem_cons.mpr ⟨lw_p5, List.forall_mem_cons.mpr ⟨lw_p6, List.forall_mem_cons.mpr ⟨lw_p7, List.forall_mem_cons.mpr ⟨lw_p8, List.forall_mem_cons.mpr ⟨lw_p9, List.forall_mem_cons.mpr ⟨lw_p10, List.forall_mem_cons.mpr ⟨lw_p11, List.forall_mem_cons.mpr ⟨lw_p12, List.forall_mem_cons.mpr ⟨lw_p13, List.forall_mem_cons.mpr ⟨lw_p14, List.forall_mem_cons.mpr ⟨lw_p15, fun _ h => absurd h List.not_mem_nil⟩⟩⟩⟩⟩⟩⟩⟩⟩⟩⟩⟩⟩⟩⟩⟩
theorem lw_p16 : lw_okq (⟨"TailBounds", "store", "(LTailBounds$Fraction;)I"⟩, 17) := ⟨⟨by decide +kernel, by decide +kernel⟩, List.mem_of_getElem? (i := 14) (by decide +kernel), List.mem_of_getElem? (i := 530) (by decide +kernel), List.mem_of_getElem? (i := 531) (by decide +kernel)⟩
theorem lw_p17 : lw_okq (⟨"TailBounds$Measurer", "spreadOfTwo", "(LTailBounds$Source;LTailBounds$Num;)V"⟩, 6) := ⟨⟨by decide +kernel, by decide +kernel⟩, List.mem_of_getElem? (i := 106) (by decide +kernel), List.mem_of_getElem? (i := 546) (by decide +kernel), List.mem_of_getElem? (i := 547) (by decide +kernel)⟩
theorem lw_p18 : lw_okq (⟨"TailBounds$Measurer", "sumOfPowers", "(LTailBounds$Source;ILTailBounds$Num;)V"⟩, 6) := ⟨⟨by decide +kernel, by decide +kernel⟩, List.mem_of_getElem? (i := 106) (by decide +kernel), List.mem_of_getElem? (i := 551) (by decide +kernel), List.mem_of_getElem? (i := 552) (by decide +kernel)⟩
theorem lw_p19 : lw_okq (⟨"TailBounds$Measurer", "spreadOfFour", "(LTailBounds$Source;LTailBounds$Num;)V"⟩, 6) := ⟨⟨by decide +kernel, by decide +kernel⟩, List.mem_of_getElem? (i := 106) (by decide +kernel), List.mem_of_getElem? (i := 561) (by decide +kernel), List.mem_of_getElem? (i := 562) (by decide +kernel)⟩
theorem lw_p20 : lw_okq (⟨"TailBounds$Measurer", "raise", "(LTailBounds$Num;I)V"⟩, 6) := ⟨⟨by decide +kernel, by decide +kernel⟩, List.mem_of_getElem? (i := 106) (by decide +kernel), List.mem_of_getElem? (i := 575) (by decide +kernel), List.mem_of_getElem? (i := 576) (by decide +kernel)⟩
theorem lw_p21 : lw_okq (⟨"TailBounds$Measurer", "isInTail", "(LTailBounds$Source;III)Z"⟩, 6) := ⟨⟨by decide +kernel, by decide +kernel⟩, List.mem_of_getElem? (i := 106) (by decide +kernel), List.mem_of_getElem? (i := 588) (by decide +kernel), List.mem_of_getElem? (i := 589) (by decide +kernel)⟩
theorem lw_p22 : lw_okq (⟨"TailBounds$Measurer", "weigh", "(LTailBounds$Source;ILTailBounds$Num;)V"⟩, 6) := ⟨⟨by decide +kernel, by decide +kernel⟩, List.mem_of_getElem? (i := 106) (by decide +kernel), List.mem_of_getElem? (i := 610) (by decide +kernel), List.mem_of_getElem? (i := 611) (by decide +kernel)⟩
theorem lw_p23 : lw_okq (⟨"TailBounds", "compare", "(LTailBounds$Fraction;LTailBounds$Fraction;)I"⟩, 17) := ⟨⟨by decide +kernel, by decide +kernel⟩, List.mem_of_getElem? (i := 14) (by decide +kernel), List.mem_of_getElem? (i := 648) (by decide +kernel), List.mem_of_getElem? (i := 649) (by decide +kernel)⟩
theorem lw_p24 : lw_okq (⟨"TailBounds", "isNarrow", "(IIII)Z"⟩, 17) := ⟨⟨by decide +kernel, by decide +kernel⟩, List.mem_of_getElem? (i := 14) (by decide +kernel), List.mem_of_getElem? (i := 729) (by decide +kernel), List.mem_of_getElem? (i := 730) (by decide +kernel)⟩
theorem lw_p25 : lw_okq (⟨"TailBounds", "filledPlaces", "()I"⟩, 17) := ⟨⟨by decide +kernel, by decide +kernel⟩, List.mem_of_getElem? (i := 14) (by decide +kernel), List.mem_of_getElem? (i := 756) (by decide +kernel), List.mem_of_getElem? (i := 757) (by decide +kernel)⟩
theorem lw_p26 : lw_okq (⟨"TailBoundsModel", "power", "([JJI)V"⟩, 39) := ⟨⟨by decide +kernel, by decide +kernel⟩, List.mem_of_getElem? (i := 760) (by decide +kernel), List.mem_of_getElem? (i := 908) (by decide +kernel), List.mem_of_getElem? (i := 909) (by decide +kernel)⟩
theorem lw_p27 : lw_okq (⟨"TailBoundsModel", "comes", "(II)I"⟩, 39) := ⟨⟨by decide +kernel, by decide +kernel⟩, List.mem_of_getElem? (i := 760) (by decide +kernel), List.mem_of_getElem? (i := 921) (by decide +kernel), List.mem_of_getElem? (i := 922) (by decide +kernel)⟩
theorem lw_p28 : lw_okq (⟨"TailBoundsModel", "isSource", "(I)Z"⟩, 39) := ⟨⟨by decide +kernel, by decide +kernel⟩, List.mem_of_getElem? (i := 760) (by decide +kernel), List.mem_of_getElem? (i := 949) (by decide +kernel), List.mem_of_getElem? (i := 950) (by decide +kernel)⟩
theorem lw_p29 : lw_okq (⟨"TailBoundsModel", "give", "(I)I"⟩, 39) := ⟨⟨by decide +kernel, by decide +kernel⟩, List.mem_of_getElem? (i := 760) (by decide +kernel), List.mem_of_getElem? (i := 979) (by decide +kernel), List.mem_of_getElem? (i := 980) (by decide +kernel)⟩
theorem lw_p30 : lw_okq (⟨"TailBoundsModel", "lowest", "()V"⟩, 39) := ⟨⟨by decide +kernel, by decide +kernel⟩, List.mem_of_getElem? (i := 760) (by decide +kernel), List.mem_of_getElem? (i := 983) (by decide +kernel), List.mem_of_getElem? (i := 984) (by decide +kernel)⟩
theorem lw_p31 : lw_okq (⟨"TailBoundsModel", "findDivisor", "([J[J)V"⟩, 39) := ⟨⟨by decide +kernel, by decide +kernel⟩, List.mem_of_getElem? (i := 760) (by decide +kernel), List.mem_of_getElem? (i := 987) (by decide +kernel), List.mem_of_getElem? (i := 988) (by decide +kernel)⟩
def lw_privs_2 : List (MethodName × Nat) := [(⟨"TailBounds", "store", "(LTailBounds$Fraction;)I"⟩, 17), (⟨"TailBounds$Measurer", "spreadOfTwo", "(LTailBounds$Source;LTailBounds$Num;)V"⟩, 6), (⟨"TailBounds$Measurer", "sumOfPowers", "(LTailBounds$Source;ILTailBounds$Num;)V"⟩, 6), (⟨"TailBounds$Measurer", "spreadOfFour", "(LTailBounds$Source;LTailBounds$Num;)V"⟩, 6), (⟨"TailBounds$Measurer", "raise", "(LTailBounds$Num;I)V"⟩, 6), (⟨"TailBounds$Measurer", "isInTail", "(LTailBounds$Source;III)Z"⟩, 6), (⟨"TailBounds$Measurer", "weigh", "(LTailBounds$Source;ILTailBounds$Num;)V"⟩, 6), (⟨"TailBounds", "compare", "(LTailBounds$Fraction;LTailBounds$Fraction;)I"⟩, 17), (⟨"TailBounds", "isNarrow", "(IIII)Z"⟩, 17), (⟨"TailBounds", "filledPlaces", "()I"⟩, 17), (⟨"TailBoundsModel", "power", "([JJI)V"⟩, 39), (⟨"TailBoundsModel", "comes", "(II)I"⟩, 39), (⟨"TailBoundsModel", "isSource", "(I)Z"⟩, 39), (⟨"TailBoundsModel", "give", "(I)I"⟩, 39), (⟨"TailBoundsModel", "lowest", "()V"⟩, 39), (⟨"TailBoundsModel", "findDivisor", "([J[J)V"⟩, 39)]
theorem lw_r2 : ∀ q ∈ lw_privs_2, lw_okq q := List.forall_mem_cons.mpr ⟨lw_p16, List.forall_mem_cons.mpr ⟨lw_p17, List.forall_mem_cons.mpr ⟨lw_p18, List.forall_mem_cons.mpr ⟨lw_p19, List.forall_mem_cons.mpr ⟨lw_p20, List.forall_mem_cons.mpr ⟨lw_p21, List.forall_mem_cons.mpr ⟨lw_p22, List.forall_mem_cons.mpr ⟨lw_p23, List.forall_mem_cons.mpr ⟨lw_p24, List.forall_mem_cons.mpr ⟨lw_p25, List.forall_mem_cons.mpr ⟨lw_p26, List.forall_mem_cons.mpr ⟨lw_p27, List.forall_mem_cons.mpr ⟨lw_p28, List.forall_mem_cons.mpr ⟨lw_p29, List.forall_mem_cons.mpr ⟨lw_p30, List.forall_mem_cons.mpr ⟨lw_p31, fun _ h => absurd h List.not_mem_nil⟩⟩⟩⟩⟩⟩⟩⟩⟩⟩⟩⟩⟩⟩⟩⟩
theorem lw_p32 : lw_okq (⟨"TailBoundsModel", "divide", "([J[J)V"⟩, 39) := ⟨⟨by decide +kernel, by decide +kernel⟩, List.mem_of_getElem? (i := 760) (by decide +kernel), List.mem_of_getElem? (i := 1003) (by decide +kernel), List.mem_of_getElem? (i := 1004) (by decide +kernel)⟩
theorem lw_p33 : lw_okq (⟨"TailBoundsModel", "weighs", "(I)V"⟩, 39) := ⟨⟨by decide +kernel, by decide +kernel⟩, List.mem_of_getElem? (i := 760) (by decide +kernel), List.mem_of_getElem? (i := 1014) (by decide +kernel), List.mem_of_getElem? (i := 1015) (by decide +kernel)⟩
theorem lw_p34 : lw_okq (⟨"TailBoundsModel", "moments", "(II)V"⟩, 39) := ⟨⟨by decide +kernel, by decide +kernel⟩, List.mem_of_getElem? (i := 760) (by decide +kernel), List.mem_of_getElem? (i := 1022) (by decide +kernel), List.mem_of_getElem? (i := 1023) (by decide +kernel)⟩
theorem lw_p35 : lw_okq (⟨"TailBoundsModel", "away", "([JI)Z"⟩, 39) := ⟨⟨by decide +kernel, by decide +kernel⟩, List.mem_of_getElem? (i := 760) (by decide +kernel), List.mem_of_getElem? (i := 1026) (by decide +kernel), List.mem_of_getElem? (i := 1027) (by decide +kernel)⟩
theorem lw_p36 : lw_okq (⟨"TailBoundsModel", "bounded", "(III)I"⟩, 39) := ⟨⟨by decide +kernel, by decide +kernel⟩, List.mem_of_getElem? (i := 760) (by decide +kernel), List.mem_of_getElem? (i := 1038) (by decide +kernel), List.mem_of_getElem? (i := 1039) (by decide +kernel)⟩
theorem lw_p37 : lw_okq (⟨"TailBoundsModel", "leastRaised", "(II)I"⟩, 39) := ⟨⟨by decide +kernel, by decide +kernel⟩, List.mem_of_getElem? (i := 760) (by decide +kernel), List.mem_of_getElem? (i := 1042) (by decide +kernel), List.mem_of_getElem? (i := 1043) (by decide +kernel)⟩
theorem lw_p38 : lw_okq (⟨"TailBoundsModel", "raised", "(III)V"⟩, 39) := ⟨⟨by decide +kernel, by decide +kernel⟩, List.mem_of_getElem? (i := 760) (by decide +kernel), List.mem_of_getElem? (i := 1046) (by decide +kernel), List.mem_of_getElem? (i := 1047) (by decide +kernel)⟩
theorem lw_p39 : lw_okq (⟨"TailBoundsModel", "takeLeft", "(I)V"⟩, 39) := ⟨⟨by decide +kernel, by decide +kernel⟩, List.mem_of_getElem? (i := 760) (by decide +kernel), List.mem_of_getElem? (i := 1059) (by decide +kernel), List.mem_of_getElem? (i := 1060) (by decide +kernel)⟩
theorem lw_p40 : lw_okq (⟨"TailBoundsModel", "takeRight", "(I)V"⟩, 39) := ⟨⟨by decide +kernel, by decide +kernel⟩, List.mem_of_getElem? (i := 760) (by decide +kernel), List.mem_of_getElem? (i := 1063) (by decide +kernel), List.mem_of_getElem? (i := 1064) (by decide +kernel)⟩
theorem lw_p41 : lw_okq (⟨"TailBoundsModel", "ordered", "()I"⟩, 39) := ⟨⟨by decide +kernel, by decide +kernel⟩, List.mem_of_getElem? (i := 760) (by decide +kernel), List.mem_of_getElem? (i := 1067) (by decide +kernel), List.mem_of_getElem? (i := 1068) (by decide +kernel)⟩
theorem lw_p42 : lw_okq (⟨"TailBoundsModel", "asks", "(II)I"⟩, 39) := ⟨⟨by decide +kernel, by decide +kernel⟩, List.mem_of_getElem? (i := 760) (by decide +kernel), List.mem_of_getElem? (i := 1079) (by decide +kernel), List.mem_of_getElem? (i := 1080) (by decide +kernel)⟩
theorem lw_p43 : lw_okq (⟨"TailBoundsModel", "isGood", "(IIIII)Z"⟩, 39) := ⟨⟨by decide +kernel, by decide +kernel⟩, List.mem_of_getElem? (i := 760) (by decide +kernel), List.mem_of_getElem? (i := 1109) (by decide +kernel), List.mem_of_getElem? (i := 1110) (by decide +kernel)⟩
theorem lw_p44 : lw_okq (⟨"TailBoundsModel", "isCrossed", "(II)Z"⟩, 39) := ⟨⟨by decide +kernel, by decide +kernel⟩, List.mem_of_getElem? (i := 760) (by decide +kernel), List.mem_of_getElem? (i := 1122) (by decide +kernel), List.mem_of_getElem? (i := 1123) (by decide +kernel)⟩
def lw_privs_3 : List (MethodName × Nat) := [(⟨"TailBoundsModel", "divide", "([J[J)V"⟩, 39), (⟨"TailBoundsModel", "weighs", "(I)V"⟩, 39), (⟨"TailBoundsModel", "moments", "(II)V"⟩, 39), (⟨"TailBoundsModel", "away", "([JI)Z"⟩, 39), (⟨"TailBoundsModel", "bounded", "(III)I"⟩, 39), (⟨"TailBoundsModel", "leastRaised", "(II)I"⟩, 39), (⟨"TailBoundsModel", "raised", "(III)V"⟩, 39), (⟨"TailBoundsModel", "takeLeft", "(I)V"⟩, 39), (⟨"TailBoundsModel", "takeRight", "(I)V"⟩, 39), (⟨"TailBoundsModel", "ordered", "()I"⟩, 39), (⟨"TailBoundsModel", "asks", "(II)I"⟩, 39), (⟨"TailBoundsModel", "isGood", "(IIIII)Z"⟩, 39), (⟨"TailBoundsModel", "isCrossed", "(II)Z"⟩, 39)]
theorem lw_r3 : ∀ q ∈ lw_privs_3, lw_okq q := List.forall_mem_cons.mpr ⟨lw_p32, List.forall_mem_cons.mpr ⟨lw_p33, List.forall_mem_cons.mpr ⟨lw_p34, List.forall_mem_cons.mpr ⟨lw_p35, List.forall_mem_cons.mpr ⟨lw_p36, List.forall_mem_cons.mpr ⟨lw_p37, List.forall_mem_cons.mpr ⟨lw_p38, List.forall_mem_cons.mpr ⟨lw_p39, List.forall_mem_cons.mpr ⟨lw_p40, List.forall_mem_cons.mpr ⟨lw_p41, List.forall_mem_cons.mpr ⟨lw_p42, List.forall_mem_cons.mpr ⟨lw_p43, List.forall_mem_cons.mpr ⟨lw_p44, fun _ h => absurd h List.not_mem_nil⟩⟩⟩⟩⟩⟩⟩⟩⟩⟩⟩⟩⟩
def lw_privs : List (MethodName × Nat) := lw_privs_1 ++ (lw_privs_2 ++ (lw_privs_3))
def lw_tbl : List Cond := k2_sels lw_privs ++ tables_1
theorem lw_privs_ok : ∀ q ∈ lw_privs, lw_okq q := by
  show ∀ q ∈ lw_privs_1 ++ (lw_privs_2 ++ (lw_privs_3)), lw_okq q
  exact List.forall_mem_append.mpr ⟨lw_r1, List.forall_mem_append.mpr ⟨lw_r2, lw_r3⟩⟩
def RX0 : String := "TailBounds$Divider"
def TX0 : u_T := fun k => match k with
  | 0 => ("TailBounds$Divider", "quotient", "LTailBounds$Num;", true)
  | 1 => ("TailBounds$Divider", "divisor", "LTailBounds$Num;", true)
  | 2 => ("TailBounds$Divider", "rest", "LTailBounds$Num;", false)
  | 3 => ("TailBounds$Divider", "high", "LTailBounds$Num;", false)
  | 4 => ("TailBounds$Divider", "low", "LTailBounds$Num;", false)
  | 5 => ("TailBounds$Divider", "a", "J", false)
  | 6 => ("TailBounds$Divider", "b", "J", false)
  | 7 => ("TailBounds$Divider", "c", "J", false)
  | _ => ("TailBounds$Divider", "d", "J", false)
def tyX0 : Nat → FieldType := fun k => match k with
  | 0 => .object "TailBounds$Num"
  | 1 => .object "TailBounds$Num"
  | 2 => .object "TailBounds$Num"
  | 3 => .object "TailBounds$Num"
  | 4 => .object "TailBounds$Num"
  | 5 => .long
  | 6 => .long
  | 7 => .long
  | _ => .long
abbrev wsX00 : List Cond := u_ws RX0 TX0 9
theorem nmX0 : ∀ a, a < 9 → ∀ b, b < 9 → a ≠ b → (TX0 a).2.1 ≠ (TX0 b).2.1 := by decide +kernel
theorem tyX0_ok : ∀ k, k < 9 → parseFieldDescriptor (TX0 k).2.2.1 = some (tyX0 k) := by decide +kernel
abbrev cX0_init : ByteArray := prog_2_method_1_code
def yX0_init : MethodName := ⟨RX0, "<init>", "()V"⟩
abbrev cX0_toLowestTerms : ByteArray := prog_2_method_2_code
def yX0_toLowestTerms : MethodName := ⟨RX0, "toLowestTerms", "(LTailBounds$Fraction;)V"⟩
abbrev cX0_divide : ByteArray := prog_2_method_3_code
def yX0_divide : MethodName := ⟨RX0, "divide", "(LTailBounds$Num;LTailBounds$Num;)LTailBounds$Num;"⟩
abbrev cX0_guessAt : ByteArray := prog_2_method_4_code
def yX0_guessAt : MethodName := ⟨RX0, "guessAt", "(I)J"⟩
abbrev cX0_unsignedQuotient : ByteArray := prog_2_method_5_code
def yX0_unsignedQuotient : MethodName := ⟨RX0, "unsignedQuotient", "(JJ)J"⟩
abbrev cX0_takeAway : ByteArray := prog_2_method_6_code
def yX0_takeAway : MethodName := ⟨RX0, "takeAway", "(IJ)Z"⟩
abbrev cX0_giveBack : ByteArray := prog_2_method_7_code
def yX0_giveBack : MethodName := ⟨RX0, "giveBack", "(I)V"⟩
abbrev cX0_findCommon : ByteArray := prog_2_method_8_code
def yX0_findCommon : MethodName := ⟨RX0, "findCommon", "(LTailBounds$Num;LTailBounds$Num;)V"⟩
abbrev cX0_finish : ByteArray := prog_2_method_9_code
def yX0_finish : MethodName := ⟨RX0, "finish", "()V"⟩
abbrev cX0_moveOn : ByteArray := prog_2_method_10_code
def yX0_moveOn : MethodName := ⟨RX0, "moveOn", "()V"⟩
abbrev cX0_findLeap : ByteArray := prog_2_method_11_code
def yX0_findLeap : MethodName := ⟨RX0, "findLeap", "()Z"⟩
abbrev cX0_leap : ByteArray := prog_2_method_12_code
def yX0_leap : MethodName := ⟨RX0, "leap", "()V"⟩
def RX1 : String := "TailBounds$Fraction"
def TX1 : u_T := fun k => match k with
  | 0 => ("TailBounds$Fraction", "above", "LTailBounds$Num;", true)
  | 1 => ("TailBounds$Fraction", "below", "LTailBounds$Num;", true)
  | _ => ("TailBounds$Fraction", "filled", "Z", false)
def tyX1 : Nat → FieldType := fun k => match k with
  | 0 => .object "TailBounds$Num"
  | 1 => .object "TailBounds$Num"
  | _ => .boolean
abbrev wsX10 : List Cond := u_ws RX1 TX1 3
theorem nmX1 : ∀ a, a < 3 → ∀ b, b < 3 → a ≠ b → (TX1 a).2.1 ≠ (TX1 b).2.1 := by decide +kernel
theorem tyX1_ok : ∀ k, k < 3 → parseFieldDescriptor (TX1 k).2.2.1 = some (tyX1 k) := by decide +kernel
abbrev cX1_init : ByteArray := prog_3_method_1_code
def yX1_init : MethodName := ⟨RX1, "<init>", "(I)V"⟩
abbrev cX1_half : ByteArray := prog_3_method_2_code
def yX1_half : MethodName := ⟨RX1, "half", "(I)LTailBounds$Num;"⟩
abbrev cX1_put : ByteArray := prog_3_method_3_code
def yX1_put : MethodName := ⟨RX1, "put", "(II)V"⟩
abbrev cX1_copy : ByteArray := prog_3_method_4_code
def yX1_copy : MethodName := ⟨RX1, "copy", "(LTailBounds$Fraction;)V"⟩
abbrev cX1_capAtOne : ByteArray := prog_3_method_5_code
def yX1_capAtOne : MethodName := ⟨RX1, "capAtOne", "()V"⟩
abbrev cX1_addUp : ByteArray := prog_3_method_6_code
def yX1_addUp : MethodName := ⟨RX1, "addUp", "(LTailBounds$Fraction;LTailBounds$Fraction;LTailBounds$Num;)V"⟩
abbrev cX1_multiply : ByteArray := prog_3_method_7_code
def yX1_multiply : MethodName := ⟨RX1, "multiply", "(LTailBounds$Fraction;LTailBounds$Fraction;)V"⟩
abbrev cX1_lessThanOne : ByteArray := prog_3_method_8_code
def yX1_lessThanOne : MethodName := ⟨RX1, "lessThanOne", "(LTailBounds$Fraction;)V"⟩
def RX2 : String := "TailBounds$Measurer"
def TX2 : u_T := fun k => match k with
  | 0 => ("TailBounds$Measurer", "first", "LTailBounds$Num;", true)
  | 1 => ("TailBounds$Measurer", "second", "LTailBounds$Num;", true)
  | 2 => ("TailBounds$Measurer", "third", "LTailBounds$Num;", true)
  | 3 => ("TailBounds$Measurer", "fourth", "LTailBounds$Num;", true)
  | 4 => ("TailBounds$Measurer", "bestSum", "LTailBounds$Num;", true)
  | _ => ("TailBounds$Measurer", "bestPower", "LTailBounds$Num;", true)
def tyX2 : Nat → FieldType := fun k => match k with
  | 0 => .object "TailBounds$Num"
  | 1 => .object "TailBounds$Num"
  | 2 => .object "TailBounds$Num"
  | 3 => .object "TailBounds$Num"
  | 4 => .object "TailBounds$Num"
  | _ => .object "TailBounds$Num"
abbrev wsX20 : List Cond := u_ws RX2 TX2 6
theorem nmX2 : ∀ a, a < 6 → ∀ b, b < 6 → a ≠ b → (TX2 a).2.1 ≠ (TX2 b).2.1 := by decide +kernel
theorem tyX2_ok : ∀ k, k < 6 → parseFieldDescriptor (TX2 k).2.2.1 = some (tyX2 k) := by decide +kernel
abbrev cX2_init : ByteArray := prog_4_method_1_code
def yX2_init : MethodName := ⟨RX2, "<init>", "()V"⟩
abbrev cX2_findTail : ByteArray := prog_4_method_2_code
def yX2_findTail : MethodName := ⟨RX2, "findTail", "(LTailBounds$Source;IILTailBounds$Fraction;)V"⟩
abbrev cX2_isInTail : ByteArray := prog_4_method_3_code
def yX2_isInTail : MethodName := ⟨RX2, "isInTail", "(LTailBounds$Source;III)Z"⟩
abbrev cX2_findMoment : ByteArray := prog_4_method_4_code
def yX2_findMoment : MethodName := ⟨RX2, "findMoment", "(LTailBounds$Source;ILTailBounds$Fraction;)V"⟩
abbrev cX2_isAboveMean : ByteArray := prog_4_method_5_code
def yX2_isAboveMean : MethodName := ⟨RX2, "isAboveMean", "(LTailBounds$Source;I)Z"⟩
abbrev cX2_boundByMean : ByteArray := prog_4_method_6_code
def yX2_boundByMean : MethodName := ⟨RX2, "boundByMean", "(LTailBounds$Source;ILTailBounds$Fraction;)V"⟩
abbrev cX2_boundByMoment : ByteArray := prog_4_method_7_code
def yX2_boundByMoment : MethodName := ⟨RX2, "boundByMoment", "(LTailBounds$Source;IILTailBounds$Fraction;)V"⟩
abbrev cX2_raise : ByteArray := prog_4_method_8_code
def yX2_raise : MethodName := ⟨RX2, "raise", "(LTailBounds$Num;I)V"⟩
abbrev cX2_sumOfPowers : ByteArray := prog_4_method_9_code
def yX2_sumOfPowers : MethodName := ⟨RX2, "sumOfPowers", "(LTailBounds$Source;ILTailBounds$Num;)V"⟩
abbrev cX2_spreadOfTwo : ByteArray := prog_4_method_10_code
def yX2_spreadOfTwo : MethodName := ⟨RX2, "spreadOfTwo", "(LTailBounds$Source;LTailBounds$Num;)V"⟩
abbrev cX2_spreadOfFour : ByteArray := prog_4_method_11_code
def yX2_spreadOfFour : MethodName := ⟨RX2, "spreadOfFour", "(LTailBounds$Source;LTailBounds$Num;)V"⟩
abbrev cX2_boundByPowers : ByteArray := prog_4_method_12_code
def yX2_boundByPowers : MethodName := ⟨RX2, "boundByPowers", "(LTailBounds$Source;ILTailBounds$Fraction;)I"⟩
abbrev cX2_weigh : ByteArray := prog_4_method_13_code
def yX2_weigh : MethodName := ⟨RX2, "weigh", "(LTailBounds$Source;ILTailBounds$Num;)V"⟩
def RX3 : String := "TailBounds$Num"
def TX3 : u_T := fun k => match k with
  | 0 => ("TailBounds$Num", "part", "[I", true)
  | _ => ("TailBounds$Num", "size", "I", false)
def tyX3 : Nat → FieldType := fun k => match k with
  | 0 => .array .int
  | _ => .int
abbrev wsX30 : List Cond := u_ws RX3 TX3 2
theorem nmX3 : ∀ a, a < 2 → ∀ b, b < 2 → a ≠ b → (TX3 a).2.1 ≠ (TX3 b).2.1 := by decide +kernel
theorem tyX3_ok : ∀ k, k < 2 → parseFieldDescriptor (TX3 k).2.2.1 = some (tyX3 k) := by decide +kernel
abbrev cX3_init : ByteArray := prog_5_method_1_code
def yX3_init : MethodName := ⟨RX3, "<init>", "(I)V"⟩
abbrev cX3_clear : ByteArray := prog_5_method_2_code
def yX3_clear : MethodName := ⟨RX3, "clear", "()V"⟩
abbrev cX3_put : ByteArray := prog_5_method_3_code
def yX3_put : MethodName := ⟨RX3, "put", "(J)V"⟩
abbrev cX3_copy : ByteArray := prog_5_method_4_code
def yX3_copy : MethodName := ⟨RX3, "copy", "(LTailBounds$Num;)V"⟩
abbrev cX3_trim : ByteArray := prog_5_method_5_code
def yX3_trim : MethodName := ⟨RX3, "trim", "()V"⟩
abbrev cX3_word : ByteArray := prog_5_method_6_code
def yX3_word : MethodName := ⟨RX3, "word", "(I)J"⟩
abbrev cX3_isOne : ByteArray := prog_5_method_7_code
def yX3_isOne : MethodName := ⟨RX3, "isOne", "()Z"⟩
abbrev cX3_toLong : ByteArray := prog_5_method_8_code
def yX3_toLong : MethodName := ⟨RX3, "toLong", "()J"⟩
abbrev cX3_bits : ByteArray := prog_5_method_9_code
def yX3_bits : MethodName := ⟨RX3, "bits", "()I"⟩
abbrev cX3_window : ByteArray := prog_5_method_10_code
def yX3_window : MethodName := ⟨RX3, "window", "(I)J"⟩
abbrev cX3_against : ByteArray := prog_5_method_11_code
def yX3_against : MethodName := ⟨RX3, "against", "(LTailBounds$Num;)I"⟩
abbrev cX3_widenTo : ByteArray := prog_5_method_12_code
def yX3_widenTo : MethodName := ⟨RX3, "widenTo", "(I)V"⟩
abbrev cX3_copyShifted : ByteArray := prog_5_method_13_code
def yX3_copyShifted : MethodName := ⟨RX3, "copyShifted", "(LTailBounds$Num;I)V"⟩
abbrev cX3_add : ByteArray := prog_5_method_14_code
def yX3_add : MethodName := ⟨RX3, "add", "(LTailBounds$Num;)V"⟩
abbrev cX3_addScaled : ByteArray := prog_5_method_15_code
def yX3_addScaled : MethodName := ⟨RX3, "addScaled", "(I[IIIJ)V"⟩
abbrev cX3_subtract : ByteArray := prog_5_method_16_code
def yX3_subtract : MethodName := ⟨RX3, "subtract", "(LTailBounds$Num;)V"⟩
abbrev cX3_scale : ByteArray := prog_5_method_17_code
def yX3_scale : MethodName := ⟨RX3, "scale", "(J)V"⟩
abbrev cX3_power : ByteArray := prog_5_method_18_code
def yX3_power : MethodName := ⟨RX3, "power", "(II)V"⟩
abbrev cX3_product : ByteArray := prog_5_method_19_code
def yX3_product : MethodName := ⟨RX3, "product", "(LTailBounds$Num;LTailBounds$Num;)V"⟩
abbrev cX3_shiftDown : ByteArray := prog_5_method_20_code
def yX3_shiftDown : MethodName := ⟨RX3, "shiftDown", "(I)V"⟩
def RX4 : String := "TailBounds$Row"
def TX4 : u_T := fun k => match k with
  | 0 => ("TailBounds$Row", "top", "I", true)
  | 1 => ("TailBounds$Row", "wide", "I", true)
  | _ => ("TailBounds$Row", "cells", "[I", true)
def tyX4 : Nat → FieldType := fun k => match k with
  | 0 => .int
  | 1 => .int
  | _ => .array .int
abbrev wsX40 : List Cond := u_ws RX4 TX4 3
theorem nmX4 : ∀ a, a < 3 → ∀ b, b < 3 → a ≠ b → (TX4 a).2.1 ≠ (TX4 b).2.1 := by decide +kernel
theorem tyX4_ok : ∀ k, k < 3 → parseFieldDescriptor (TX4 k).2.2.1 = some (tyX4 k) := by decide +kernel
abbrev cX4_init : ByteArray := prog_6_method_1_code
def yX4_init : MethodName := ⟨RX4, "<init>", "(II)V"⟩
abbrev cX4_lacks : ByteArray := prog_6_method_2_code
def yX4_lacks : MethodName := ⟨RX4, "lacks", "(I)Z"⟩
abbrev cX4_word : ByteArray := prog_6_method_3_code
def yX4_word : MethodName := ⟨RX4, "word", "(II)J"⟩
abbrev cX4_write : ByteArray := prog_6_method_4_code
def yX4_write : MethodName := ⟨RX4, "write", "(IJ)V"⟩
abbrev cX4_erase : ByteArray := prog_6_method_5_code
def yX4_erase : MethodName := ⟨RX4, "erase", "(I)V"⟩
abbrev cX4_startAnew : ByteArray := prog_6_method_6_code
def yX4_startAnew : MethodName := ⟨RX4, "startAnew", "()V"⟩
abbrev cX4_isZero : ByteArray := prog_6_method_7_code
def yX4_isZero : MethodName := ⟨RX4, "isZero", "(I)Z"⟩
abbrev cX4_zeros : ByteArray := prog_6_method_8_code
def yX4_zeros : MethodName := ⟨RX4, "zeros", "()I"⟩
abbrev cX4_addTo : ByteArray := prog_6_method_9_code
def yX4_addTo : MethodName := ⟨RX4, "addTo", "(LTailBounds$Num;II)V"⟩
abbrev cX4_addShiftedTo : ByteArray := prog_6_method_10_code
def yX4_addShiftedTo : MethodName := ⟨RX4, "addShiftedTo", "(LTailBounds$Num;II)V"⟩
abbrev cX4_addRound : ByteArray := prog_6_method_11_code
def yX4_addRound : MethodName := ⟨RX4, "addRound", "([III)V"⟩
abbrev cX4_addFrom : ByteArray := prog_6_method_12_code
def yX4_addFrom : MethodName := ⟨RX4, "addFrom", "(LTailBounds$Row;II)V"⟩
abbrev cX4_addAllPairs : ByteArray := prog_6_method_13_code
def yX4_addAllPairs : MethodName := ⟨RX4, "addAllPairs", "(LTailBounds$Row;LTailBounds$Row;)V"⟩
abbrev cX4_addPair : ByteArray := prog_6_method_14_code
def yX4_addPair : MethodName := ⟨RX4, "addPair", "(LTailBounds$Row;ILTailBounds$Row;I)V"⟩
def RX5 : String := "TailBounds$Source"
def TX5 : u_T := fun k => match k with
  | 0 => ("TailBounds$Source", "kind", "I", true)
  | 1 => ("TailBounds$Source", "row", "LTailBounds$Row;", true)
  | 2 => ("TailBounds$Source", "total", "LTailBounds$Num;", true)
  | _ => ("TailBounds$Source", "mean", "LTailBounds$Fraction;", true)
def tyX5 : Nat → FieldType := fun k => match k with
  | 0 => .int
  | 1 => .object "TailBounds$Row"
  | 2 => .object "TailBounds$Num"
  | _ => .object "TailBounds$Fraction"
abbrev wsX50 : List Cond := u_ws RX5 TX5 4
theorem nmX5 : ∀ a, a < 4 → ∀ b, b < 4 → a ≠ b → (TX5 a).2.1 ≠ (TX5 b).2.1 := by decide +kernel
theorem tyX5_ok : ∀ k, k < 4 → parseFieldDescriptor (TX5 k).2.2.1 = some (tyX5 k) := by decide +kernel
abbrev cX5_init : ByteArray := prog_7_method_1_code
def yX5_init : MethodName := ⟨RX5, "<init>", "(ILTailBounds$Row;)V"⟩
def RX6 : String := "TailBounds$Tosser"
def TX6 : u_T := fun k => match k with
  | 0 => ("TailBounds$Tosser", "all", "LTailBounds$Num;", true)
  | 1 => ("TailBounds$Tosser", "row", "LTailBounds$Row;", true)
  | 2 => ("TailBounds$Tosser", "left", "LTailBounds$Num;", true)
  | 3 => ("TailBounds$Tosser", "right", "LTailBounds$Num;", true)
  | 4 => ("TailBounds$Tosser", "shares", "[I", true)
  | _ => ("TailBounds$Tosser", "tossed", "I", false)
def tyX6 : Nat → FieldType := fun k => match k with
  | 0 => .object "TailBounds$Num"
  | 1 => .object "TailBounds$Row"
  | 2 => .object "TailBounds$Num"
  | 3 => .object "TailBounds$Num"
  | 4 => .array .int
  | _ => .int
abbrev wsX60 : List Cond := u_ws RX6 TX6 6
theorem nmX6 : ∀ a, a < 6 → ∀ b, b < 6 → a ≠ b → (TX6 a).2.1 ≠ (TX6 b).2.1 := by decide +kernel
theorem tyX6_ok : ∀ k, k < 6 → parseFieldDescriptor (TX6 k).2.2.1 = some (tyX6 k) := by decide +kernel
abbrev cX6_init : ByteArray := prog_8_method_1_code
def yX6_init : MethodName := ⟨RX6, "<init>", "()V"⟩
abbrev cX6_start : ByteArray := prog_8_method_2_code
def yX6_start : MethodName := ⟨RX6, "start", "(II)V"⟩
abbrev cX6_tossNext : ByteArray := prog_8_method_3_code
def yX6_tossNext : MethodName := ⟨RX6, "tossNext", "()V"⟩
abbrev cX6_addFrom : ByteArray := prog_8_method_4_code
def yX6_addFrom : MethodName := ⟨RX6, "addFrom", "(IZLTailBounds$Num;)V"⟩
abbrev cX6_isRareNext : ByteArray := prog_8_method_5_code
def yX6_isRareNext : MethodName := ⟨RX6, "isRareNext", "(III)Z"⟩
def RX7 : String := "TailBounds"
def TX7 : u_T := fun k => match k with
  | 0 => ("TailBounds", "weights", "[I", true)
  | 1 => ("TailBounds", "sources", "[LTailBounds$Source;", true)
  | 2 => ("TailBounds", "places", "[LTailBounds$Fraction;", true)
  | 3 => ("TailBounds", "odds", "[I", true)
  | 4 => ("TailBounds", "outcome", "LTailBounds$Fraction;", true)
  | 5 => ("TailBounds", "spare", "LTailBounds$Num;", true)
  | 6 => ("TailBounds", "divider", "LTailBounds$Divider;", true)
  | 7 => ("TailBounds", "measurer", "LTailBounds$Measurer;", true)
  | 8 => ("TailBounds", "tosser", "LTailBounds$Tosser;", true)
  | 9 => ("TailBounds", "weightCount", "I", false)
  | 10 => ("TailBounds", "sourceCount", "I", false)
  | 11 => ("TailBounds", "latestBase", "I", false)
  | 12 => ("TailBounds", "coinA", "I", false)
  | 13 => ("TailBounds", "coinB", "I", false)
  | 14 => ("TailBounds", "lineC", "I", false)
  | 15 => ("TailBounds", "lineD", "I", false)
  | _ => ("TailBounds", "lineE", "I", false)
def tyX7 : Nat → FieldType := fun k => match k with
  | 0 => .array .int
  | 1 => .array (.object "TailBounds$Source")
  | 2 => .array (.object "TailBounds$Fraction")
  | 3 => .array .int
  | 4 => .object "TailBounds$Fraction"
  | 5 => .object "TailBounds$Num"
  | 6 => .object "TailBounds$Divider"
  | 7 => .object "TailBounds$Measurer"
  | 8 => .object "TailBounds$Tosser"
  | 9 => .int
  | 10 => .int
  | 11 => .int
  | 12 => .int
  | 13 => .int
  | 14 => .int
  | 15 => .int
  | _ => .int
abbrev wsX70 : List Cond := u_ws RX7 TX7 17
theorem nmX7 : ∀ a, a < 17 → ∀ b, b < 17 → a ≠ b → (TX7 a).2.1 ≠ (TX7 b).2.1 := by decide +kernel
theorem tyX7_ok : ∀ k, k < 17 → parseFieldDescriptor (TX7 k).2.2.1 = some (tyX7 k) := by decide +kernel
abbrev cX7_init : ByteArray := prog_1_method_1_code
def yX7_init : MethodName := ⟨RX7, "<init>", "()V"⟩
abbrev cX7_weight : ByteArray := prog_1_method_2_code
def yX7_weight : MethodName := ⟨RX7, "weight", "(I)I"⟩
abbrev cX7_wipe : ByteArray := prog_1_method_3_code
def yX7_wipe : MethodName := ⟨RX7, "wipe", "()I"⟩
abbrev cX7_coins : ByteArray := prog_1_method_4_code
def yX7_coins : MethodName := ⟨RX7, "coins", "(III)I"⟩
abbrev cX7_drawn : ByteArray := prog_1_method_5_code
def yX7_drawn : MethodName := ⟨RX7, "drawn", "(III)I"⟩
abbrev cX7_sums : ByteArray := prog_1_method_6_code
def yX7_sums : MethodName := ⟨RX7, "sums", "(I)I"⟩
abbrev cX7_both : ByteArray := prog_1_method_7_code
def yX7_both : MethodName := ⟨RX7, "both", "(II)I"⟩
abbrev cX7_held : ByteArray := prog_1_method_8_code
def yX7_held : MethodName := ⟨RX7, "held", "(III)I"⟩
abbrev cX7_source : ByteArray := prog_1_method_9_code
def yX7_source : MethodName := ⟨RX7, "source", "(II)I"⟩
abbrev cX7_counted : ByteArray := prog_1_method_10_code
def yX7_counted : MethodName := ⟨RX7, "counted", "(II)I"⟩
abbrev cX7_set : ByteArray := prog_1_method_11_code
def yX7_set : MethodName := ⟨RX7, "set", "(III)I"⟩
abbrev cX7_mean : ByteArray := prog_1_method_12_code
def yX7_mean : MethodName := ⟨RX7, "mean", "(II)I"⟩
abbrev cX7_moment : ByteArray := prog_1_method_13_code
def yX7_moment : MethodName := ⟨RX7, "moment", "(III)I"⟩
abbrev cX7_tail : ByteArray := prog_1_method_14_code
def yX7_tail : MethodName := ⟨RX7, "tail", "(IIII)I"⟩
abbrev cX7_bound : ByteArray := prog_1_method_15_code
def yX7_bound : MethodName := ⟨RX7, "bound", "(IIII)I"⟩
abbrev cX7_base : ByteArray := prog_1_method_16_code
def yX7_base : MethodName := ⟨RX7, "base", "()I"⟩
abbrev cX7_work : ByteArray := prog_1_method_17_code
def yX7_work : MethodName := ⟨RX7, "work", "(IIII)I"⟩
abbrev cX7_order : ByteArray := prog_1_method_18_code
def yX7_order : MethodName := ⟨RX7, "order", "(II)I"⟩
abbrev cX7_limbs : ByteArray := prog_1_method_19_code
def yX7_limbs : MethodName := ⟨RX7, "limbs", "(II)I"⟩
abbrev cX7_limb : ByteArray := prog_1_method_20_code
def yX7_limb : MethodName := ⟨RX7, "limb", "(III)J"⟩
abbrev cX7_digits : ByteArray := prog_1_method_21_code
def yX7_digits : MethodName := ⟨RX7, "digits", "(II)J"⟩
abbrev cX7_free : ByteArray := prog_1_method_22_code
def yX7_free : MethodName := ⟨RX7, "free", "(I)I"⟩
abbrev cX7_coin : ByteArray := prog_1_method_23_code
def yX7_coin : MethodName := ⟨RX7, "coin", "(II)I"⟩
abbrev cX7_needed : ByteArray := prog_1_method_24_code
def yX7_needed : MethodName := ⟨RX7, "needed", "(IIIII)I"⟩
abbrev cX7_line : ByteArray := prog_1_method_25_code
def yX7_line : MethodName := ⟨RX7, "line", "(III)I"⟩
abbrev cX7_crossed : ByteArray := prog_1_method_26_code
def yX7_crossed : MethodName := ⟨RX7, "crossed", "(III)I"⟩
abbrev cX7_count : ByteArray := prog_1_method_27_code
def yX7_count : MethodName := ⟨RX7, "count", "(I)I"⟩
abbrev cX7_outside : ByteArray := prog_1_method_28_code
def yX7_outside : MethodName := ⟨RX7, "outside", "(III)Z"⟩
abbrev cX7_notOdds : ByteArray := prog_1_method_29_code
def yX7_notOdds : MethodName := ⟨RX7, "notOdds", "(II)Z"⟩
abbrev cX7_isFull : ByteArray := prog_1_method_30_code
def yX7_isFull : MethodName := ⟨RX7, "isFull", "()Z"⟩
abbrev cX7_sourceAt : ByteArray := prog_1_method_31_code
def yX7_sourceAt : MethodName := ⟨RX7, "sourceAt", "(I)LTailBounds$Source;"⟩
abbrev cX7_placeAt : ByteArray := prog_1_method_32_code
def yX7_placeAt : MethodName := ⟨RX7, "placeAt", "(I)LTailBounds$Fraction;"⟩
abbrev cX7_filledPlaces : ByteArray := prog_1_method_33_code
def yX7_filledPlaces : MethodName := ⟨RX7, "filledPlaces", "()I"⟩
abbrev cX7_together : ByteArray := prog_1_method_34_code
def yX7_together : MethodName := ⟨RX7, "together", "([II)I"⟩
abbrev cX7_ways : ByteArray := prog_1_method_35_code
def yX7_ways : MethodName := ⟨RX7, "ways", "(II)J"⟩
abbrev cX7_isNarrow : ByteArray := prog_1_method_36_code
def yX7_isNarrow : MethodName := ⟨RX7, "isNarrow", "(IIII)Z"⟩
abbrev cX7_makeRounds : ByteArray := prog_1_method_37_code
def yX7_makeRounds : MethodName := ⟨RX7, "makeRounds", "(I[II)LTailBounds$Row;"⟩
abbrev cX7_keep : ByteArray := prog_1_method_38_code
def yX7_keep : MethodName := ⟨RX7, "keep", "(ILTailBounds$Row;)I"⟩
abbrev cX7_settle : ByteArray := prog_1_method_39_code
def yX7_settle : MethodName := ⟨RX7, "settle", "(LTailBounds$Fraction;)I"⟩
abbrev cX7_store : ByteArray := prog_1_method_40_code
def yX7_store : MethodName := ⟨RX7, "store", "(LTailBounds$Fraction;)I"⟩
abbrev cX7_compare : ByteArray := prog_1_method_41_code
def yX7_compare : MethodName := ⟨RX7, "compare", "(LTailBounds$Fraction;LTailBounds$Fraction;)I"⟩
def RX8 : String := "TailBoundsModel"
def TX8 : u_T := fun k => match k with
  | 0 => ("TailBoundsModel", "first", "[J", true)
  | 1 => ("TailBoundsModel", "second", "[J", true)
  | 2 => ("TailBoundsModel", "divisor", "[J", true)
  | 3 => ("TailBoundsModel", "quotient", "[J", true)
  | 4 => ("TailBoundsModel", "rest", "[J", true)
  | 5 => ("TailBoundsModel", "aboves", "[J", true)
  | 6 => ("TailBoundsModel", "belows", "[J", true)
  | 7 => ("TailBoundsModel", "holds", "[Z", true)
  | 8 => ("TailBoundsModel", "above", "[J", true)
  | 9 => ("TailBoundsModel", "below", "[J", true)
  | 10 => ("TailBoundsModel", "leftAbove", "[J", true)
  | 11 => ("TailBoundsModel", "leftBelow", "[J", true)
  | 12 => ("TailBoundsModel", "rightAbove", "[J", true)
  | 13 => ("TailBoundsModel", "rightBelow", "[J", true)
  | 14 => ("TailBoundsModel", "cross", "[J", true)
  | 15 => ("TailBoundsModel", "other", "[J", true)
  | 16 => ("TailBoundsModel", "sources", "I", false)
  | 17 => ("TailBoundsModel", "kinds", "[I", true)
  | 18 => ("TailBoundsModel", "mosts", "[I", true)
  | 19 => ("TailBoundsModel", "counts", "[J", true)
  | 20 => ("TailBoundsModel", "totals", "[J", true)
  | 21 => ("TailBoundsModel", "weights", "I", false)
  | 22 => ("TailBoundsModel", "weight", "[I", true)
  | 23 => ("TailBoundsModel", "x", "[J", true)
  | 24 => ("TailBoundsModel", "y", "[J", true)
  | 25 => ("TailBoundsModel", "z", "[J", true)
  | 26 => ("TailBoundsModel", "sum", "[J", true)
  | 27 => ("TailBoundsModel", "row", "[J", true)
  | 28 => ("TailBoundsModel", "next", "[J", true)
  | 29 => ("TailBoundsModel", "total", "[J", true)
  | 30 => ("TailBoundsModel", "mean", "[J", true)
  | 31 => ("TailBoundsModel", "base", "I", false)
  | 32 => ("TailBoundsModel", "bestAbove", "[J", true)
  | 33 => ("TailBoundsModel", "bestBelow", "[J", true)
  | 34 => ("TailBoundsModel", "coinA", "I", false)
  | 35 => ("TailBoundsModel", "coinB", "I", false)
  | 36 => ("TailBoundsModel", "lineC", "I", false)
  | 37 => ("TailBoundsModel", "lineD", "I", false)
  | _ => ("TailBoundsModel", "lineE", "I", false)
def tyX8 : Nat → FieldType := fun k => match k with
  | 0 => .array .long
  | 1 => .array .long
  | 2 => .array .long
  | 3 => .array .long
  | 4 => .array .long
  | 5 => .array .long
  | 6 => .array .long
  | 7 => .array .boolean
  | 8 => .array .long
  | 9 => .array .long
  | 10 => .array .long
  | 11 => .array .long
  | 12 => .array .long
  | 13 => .array .long
  | 14 => .array .long
  | 15 => .array .long
  | 16 => .int
  | 17 => .array .int
  | 18 => .array .int
  | 19 => .array .long
  | 20 => .array .long
  | 21 => .int
  | 22 => .array .int
  | 23 => .array .long
  | 24 => .array .long
  | 25 => .array .long
  | 26 => .array .long
  | 27 => .array .long
  | 28 => .array .long
  | 29 => .array .long
  | 30 => .array .long
  | 31 => .int
  | 32 => .array .long
  | 33 => .array .long
  | 34 => .int
  | 35 => .int
  | 36 => .int
  | 37 => .int
  | _ => .int
abbrev wsX80 : List Cond := u_ws RX8 TX8 39
theorem nmX8 : ∀ a, a < 39 → ∀ b, b < 39 → a ≠ b → (TX8 a).2.1 ≠ (TX8 b).2.1 := by decide +kernel
theorem tyX8_ok : ∀ k, k < 39 → parseFieldDescriptor (TX8 k).2.2.1 = some (tyX8 k) := by decide +kernel
abbrev cX8_init : ByteArray := prog_10_method_1_code
def yX8_init : MethodName := ⟨RX8, "<init>", "()V"⟩
abbrev cX8_in : ByteArray := prog_10_method_3_code
def yX8_in : MethodName := ⟨RX8, "in", "(III)Z"⟩
abbrev cX8_become : ByteArray := prog_10_method_4_code
def yX8_become : MethodName := ⟨RX8, "become", "([JJ)V"⟩
abbrev cX8_copy : ByteArray := prog_10_method_5_code
def yX8_copy : MethodName := ⟨RX8, "copy", "([J[J)V"⟩
abbrev cX8_load : ByteArray := prog_10_method_6_code
def yX8_load : MethodName := ⟨RX8, "load", "([J[JII)V"⟩
abbrev cX8_store : ByteArray := prog_10_method_7_code
def yX8_store : MethodName := ⟨RX8, "store", "([JII[J)V"⟩
abbrev cX8_top : ByteArray := prog_10_method_8_code
def yX8_top : MethodName := ⟨RX8, "top", "([J)I"⟩
abbrev cX8_bits : ByteArray := prog_10_method_9_code
def yX8_bits : MethodName := ⟨RX8, "bits", "([J)I"⟩
abbrev cX8_compare : ByteArray := prog_10_method_10_code
def yX8_compare : MethodName := ⟨RX8, "compare", "([J[J)I"⟩
abbrev cX8_plus : ByteArray := prog_10_method_11_code
def yX8_plus : MethodName := ⟨RX8, "plus", "([J[J)V"⟩
abbrev cX8_minus : ByteArray := prog_10_method_12_code
def yX8_minus : MethodName := ⟨RX8, "minus", "([J[J)V"⟩
abbrev cX8_times : ByteArray := prog_10_method_13_code
def yX8_times : MethodName := ⟨RX8, "times", "([J[J[J)V"⟩
abbrev cX8_by : ByteArray := prog_10_method_14_code
def yX8_by : MethodName := ⟨RX8, "by", "([JJ)V"⟩
abbrev cX8_half : ByteArray := prog_10_method_15_code
def yX8_half : MethodName := ⟨RX8, "half", "([JI)V"⟩
abbrev cX8_twice : ByteArray := prog_10_method_16_code
def yX8_twice : MethodName := ⟨RX8, "twice", "([JJ)V"⟩
abbrev cX8_bitOf : ByteArray := prog_10_method_17_code
def yX8_bitOf : MethodName := ⟨RX8, "bitOf", "([JI)J"⟩
abbrev cX8_findDivisor : ByteArray := prog_10_method_18_code
def yX8_findDivisor : MethodName := ⟨RX8, "findDivisor", "([J[J)V"⟩
abbrev cX8_divide : ByteArray := prog_10_method_19_code
def yX8_divide : MethodName := ⟨RX8, "divide", "([J[J)V"⟩
abbrev cX8_isPlace : ByteArray := prog_10_method_20_code
def yX8_isPlace : MethodName := ⟨RX8, "isPlace", "(I)Z"⟩
abbrev cX8_lowest : ByteArray := prog_10_method_21_code
def yX8_lowest : MethodName := ⟨RX8, "lowest", "()V"⟩
abbrev cX8_give : ByteArray := prog_10_method_22_code
def yX8_give : MethodName := ⟨RX8, "give", "(I)I"⟩
abbrev cX8_takeLeft : ByteArray := prog_10_method_23_code
def yX8_takeLeft : MethodName := ⟨RX8, "takeLeft", "(I)V"⟩
abbrev cX8_takeRight : ByteArray := prog_10_method_24_code
def yX8_takeRight : MethodName := ⟨RX8, "takeRight", "(I)V"⟩
abbrev cX8_ordered : ByteArray := prog_10_method_25_code
def yX8_ordered : MethodName := ⟨RX8, "ordered", "()I"⟩
abbrev cX8_at : ByteArray := prog_10_method_26_code
def yX8_at : MethodName := ⟨RX8, "at", "(II)I"⟩
abbrev cX8_isSource : ByteArray := prog_10_method_27_code
def yX8_isSource : MethodName := ⟨RX8, "isSource", "(I)Z"⟩
abbrev cX8_weight : ByteArray := prog_10_method_28_code
def yX8_weight : MethodName := ⟨RX8, "weight", "(I)I"⟩
abbrev cX8_wipe : ByteArray := prog_10_method_29_code
def yX8_wipe : MethodName := ⟨RX8, "wipe", "()I"⟩
abbrev cX8_choose : ByteArray := prog_10_method_30_code
def yX8_choose : MethodName := ⟨RX8, "choose", "(II)J"⟩
abbrev cX8_power : ByteArray := prog_10_method_31_code
def yX8_power : MethodName := ⟨RX8, "power", "([JJI)V"⟩
abbrev cX8_comes : ByteArray := prog_10_method_32_code
def yX8_comes : MethodName := ⟨RX8, "comes", "(II)I"⟩
abbrev cX8_coins : ByteArray := prog_10_method_33_code
def yX8_coins : MethodName := ⟨RX8, "coins", "(III)I"⟩
abbrev cX8_drawn : ByteArray := prog_10_method_34_code
def yX8_drawn : MethodName := ⟨RX8, "drawn", "(III)I"⟩
abbrev cX8_sums : ByteArray := prog_10_method_35_code
def yX8_sums : MethodName := ⟨RX8, "sums", "(I)I"⟩
abbrev cX8_both : ByteArray := prog_10_method_36_code
def yX8_both : MethodName := ⟨RX8, "both", "(II)I"⟩
abbrev cX8_held : ByteArray := prog_10_method_37_code
def yX8_held : MethodName := ⟨RX8, "held", "(III)I"⟩
abbrev cX8_source : ByteArray := prog_10_method_38_code
def yX8_source : MethodName := ⟨RX8, "source", "(II)I"⟩
abbrev cX8_counted : ByteArray := prog_10_method_39_code
def yX8_counted : MethodName := ⟨RX8, "counted", "(II)I"⟩
abbrev cX8_set : ByteArray := prog_10_method_40_code
def yX8_set : MethodName := ⟨RX8, "set", "(III)I"⟩
abbrev cX8_weighs : ByteArray := prog_10_method_41_code
def yX8_weighs : MethodName := ⟨RX8, "weighs", "(I)V"⟩
abbrev cX8_mean : ByteArray := prog_10_method_42_code
def yX8_mean : MethodName := ⟨RX8, "mean", "(II)I"⟩
abbrev cX8_away : ByteArray := prog_10_method_43_code
def yX8_away : MethodName := ⟨RX8, "away", "([JI)Z"⟩
abbrev cX8_moments : ByteArray := prog_10_method_44_code
def yX8_moments : MethodName := ⟨RX8, "moments", "(II)V"⟩
abbrev cX8_moment : ByteArray := prog_10_method_45_code
def yX8_moment : MethodName := ⟨RX8, "moment", "(III)I"⟩
abbrev cX8_tail : ByteArray := prog_10_method_46_code
def yX8_tail : MethodName := ⟨RX8, "tail", "(IIII)I"⟩
abbrev cX8_raised : ByteArray := prog_10_method_47_code
def yX8_raised : MethodName := ⟨RX8, "raised", "(III)V"⟩
abbrev cX8_leastRaised : ByteArray := prog_10_method_48_code
def yX8_leastRaised : MethodName := ⟨RX8, "leastRaised", "(II)I"⟩
abbrev cX8_bounded : ByteArray := prog_10_method_49_code
def yX8_bounded : MethodName := ⟨RX8, "bounded", "(III)I"⟩
abbrev cX8_bound : ByteArray := prog_10_method_50_code
def yX8_bound : MethodName := ⟨RX8, "bound", "(IIII)I"⟩
abbrev cX8_base : ByteArray := prog_10_method_51_code
def yX8_base : MethodName := ⟨RX8, "base", "()I"⟩
abbrev cX8_work : ByteArray := prog_10_method_52_code
def yX8_work : MethodName := ⟨RX8, "work", "(IIII)I"⟩
abbrev cX8_order : ByteArray := prog_10_method_53_code
def yX8_order : MethodName := ⟨RX8, "order", "(II)I"⟩
abbrev cX8_asks : ByteArray := prog_10_method_54_code
def yX8_asks : MethodName := ⟨RX8, "asks", "(II)I"⟩
abbrev cX8_limbs : ByteArray := prog_10_method_55_code
def yX8_limbs : MethodName := ⟨RX8, "limbs", "(II)I"⟩
abbrev cX8_limb : ByteArray := prog_10_method_56_code
def yX8_limb : MethodName := ⟨RX8, "limb", "(III)J"⟩
abbrev cX8_digits : ByteArray := prog_10_method_57_code
def yX8_digits : MethodName := ⟨RX8, "digits", "(II)J"⟩
abbrev cX8_free : ByteArray := prog_10_method_58_code
def yX8_free : MethodName := ⟨RX8, "free", "(I)I"⟩
abbrev cX8_coin : ByteArray := prog_10_method_59_code
def yX8_coin : MethodName := ⟨RX8, "coin", "(II)I"⟩
abbrev cX8_isGood : ByteArray := prog_10_method_60_code
def yX8_isGood : MethodName := ⟨RX8, "isGood", "(IIIII)Z"⟩
abbrev cX8_needed : ByteArray := prog_10_method_61_code
def yX8_needed : MethodName := ⟨RX8, "needed", "(IIIII)I"⟩
abbrev cX8_line : ByteArray := prog_10_method_62_code
def yX8_line : MethodName := ⟨RX8, "line", "(III)I"⟩
abbrev cX8_isCrossed : ByteArray := prog_10_method_63_code
def yX8_isCrossed : MethodName := ⟨RX8, "isCrossed", "(II)Z"⟩
abbrev cX8_crossed : ByteArray := prog_10_method_64_code
def yX8_crossed : MethodName := ⟨RX8, "crossed", "(III)I"⟩
abbrev cX8_count : ByteArray := prog_10_method_65_code
def yX8_count : MethodName := ⟨RX8, "count", "(I)I"⟩
def RJ9 : String := "java/lang/Math"
def TJ9 : u_T := fun k => match k with
  | _ => ("", "", "", false)
def tyJ9 : Nat → FieldType := fun k => match k with
  | _ => .int
abbrev wsJ90 : List Cond := u_ws RJ9 TJ9 0
theorem nmJ9 : ∀ a, a < 0 → ∀ b, b < 0 → a ≠ b → (TJ9 a).2.1 ≠ (TJ9 b).2.1 := by decide +kernel
theorem tyJ9_ok : ∀ k, k < 0 → parseFieldDescriptor (TJ9 k).2.2.1 = some (tyJ9 k) := by decide +kernel
abbrev cJ9_abs_0f7a4 : ByteArray := prog_11_method_59_code
def yJ9_abs_0f7a4 : MethodName := ⟨RJ9, "abs", "(I)I"⟩
abbrev cJ9_abs_067f4 : ByteArray := prog_11_method_61_code
def yJ9_abs_067f4 : MethodName := ⟨RJ9, "abs", "(J)J"⟩
abbrev cJ9_max_7cf53 : ByteArray := prog_11_method_65_code
def yJ9_max_7cf53 : MethodName := ⟨RJ9, "max", "(II)I"⟩
abbrev cJ9_min_7cf53 : ByteArray := prog_11_method_69_code
def yJ9_min_7cf53 : MethodName := ⟨RJ9, "min", "(II)I"⟩
def RJ10 : String := "java/lang/System"
def TJ10 : u_T := fun k => match k with
  | _ => ("", "", "", false)
def tyJ10 : Nat → FieldType := fun k => match k with
  | _ => .int
abbrev wsJ100 : List Cond := u_ws RJ10 TJ10 0
theorem nmJ10 : ∀ a, a < 0 → ∀ b, b < 0 → a ≠ b → (TJ10 a).2.1 ≠ (TJ10 b).2.1 := by decide +kernel
theorem tyJ10_ok : ∀ k, k < 0 → parseFieldDescriptor (TJ10 k).2.2.1 = some (tyJ10 k) := by decide +kernel
def RJ7 : String := "java/util/Arrays"
def TJ7 : u_T := fun k => match k with
  | _ => ("", "", "", false)
def tyJ7 : Nat → FieldType := fun k => match k with
  | _ => .int
abbrev wsJ70 : List Cond := u_ws RJ7 TJ7 0
theorem nmJ7 : ∀ a, a < 0 → ∀ b, b < 0 → a ≠ b → (TJ7 a).2.1 ≠ (TJ7 b).2.1 := by decide +kernel
theorem tyJ7_ok : ∀ k, k < 0 → parseFieldDescriptor (TJ7 k).2.2.1 = some (tyJ7 k) := by decide +kernel
abbrev cJ7_fill_53178 : ByteArray := prog_13_method_103_code
def yJ7_fill_53178 : MethodName := ⟨RJ7, "fill", "([II)V"⟩
def RL : String := "TailBoundsLaw"
abbrev cL_law : ByteArray := code
def yL_law : MethodName := ⟨RL, "law", "([I)Z"⟩
abbrev vwCl : List vw_C := [(RX0, TX0, 9), (RX1, TX1, 3), (RX2, TX2, 6), (RX3, TX3, 2), (RX4, TX4, 3), (RX5, TX5, 4), (RX6, TX6, 6), (RX7, TX7, 17), (RX8, TX8, 39)]
def lw_good : List Cond := lw_tbl.filter goodWord
theorem gd_of {w : Cond} (h : w ∈ lw_tbl) (g : goodWord w = true) : w ∈ lw_good := List.mem_filter.mpr ⟨h, g⟩
theorem tb_1 {w : Cond} (i : Nat) (h0 : tables_1_1[i]? = some w) : w ∈ lw_tbl := List.mem_append_right _ (by have h := List.mem_of_getElem? h0; exact List.mem_append_left _ h)
theorem gd_1 {w : Cond} (i : Nat) (h0 : tables_1_1[i]? = some w) (g : goodWord w = true) : w ∈ lw_good := gd_of (tb_1 i h0) g
theorem tb_2 {w : Cond} (i : Nat) (h0 : tables_1_2[i]? = some w) : w ∈ lw_tbl := List.mem_append_right _ (by have h := List.mem_of_getElem? h0; exact List.mem_append_right _ (List.mem_append_left _ h))
theorem gd_2 {w : Cond} (i : Nat) (h0 : tables_1_2[i]? = some w) (g : goodWord w = true) : w ∈ lw_good := gd_of (tb_2 i h0) g
theorem tb_3 {w : Cond} (i : Nat) (h0 : tables_1_3[i]? = some w) : w ∈ lw_tbl := List.mem_append_right _ (by have h := List.mem_of_getElem? h0; exact List.mem_append_right _ (List.mem_append_right _ (List.mem_append_left _ h)))
theorem gd_3 {w : Cond} (i : Nat) (h0 : tables_1_3[i]? = some w) (g : goodWord w = true) : w ∈ lw_good := gd_of (tb_3 i h0) g
theorem tb_4 {w : Cond} (i : Nat) (h0 : tables_1_4[i]? = some w) : w ∈ lw_tbl := List.mem_append_right _ (by have h := List.mem_of_getElem? h0; exact List.mem_append_right _ (List.mem_append_right _ (List.mem_append_right _ (List.mem_append_left _ h))))
theorem gd_4 {w : Cond} (i : Nat) (h0 : tables_1_4[i]? = some w) (g : goodWord w = true) : w ∈ lw_good := gd_of (tb_4 i h0) g
theorem tb_5 {w : Cond} (i : Nat) (h0 : tables_1_5[i]? = some w) : w ∈ lw_tbl := List.mem_append_right _ (by have h := List.mem_of_getElem? h0; exact List.mem_append_right _ (List.mem_append_right _ (List.mem_append_right _ (List.mem_append_right _ h))))
theorem gd_5 {w : Cond} (i : Nat) (h0 : tables_1_5[i]? = some w) (g : goodWord w = true) : w ∈ lw_good := gd_of (tb_5 i h0) g
theorem gd_s {w : Cond} (i : Nat) (h0 : (k2_sels lw_privs)[i]? = some w) (g : goodWord w = true) : w ∈ lw_good := gd_of (List.mem_append_left _ (List.mem_of_getElem? h0)) g
end
section

/-! an abstract heap: a cell is an array (its component type, length, contents) or an object (its class's number, its fields) -/
abbrev AC : Type := (FieldType × vp_A) ⊕ (Nat × List Value)
abbrev Hp : Type := Nat → Option AC
def hup (h : Hp) (a : Nat) (c : AC) : Hp := fun x => if x = a then some c else h x
theorem hup_self (h : Hp) (a : Nat) (c : AC) : hup h a c a = some c := by simp [hup]
theorem hup_ne {h : Hp} {a b : Nat} {c : AC} (n : b ≠ a) : hup h a c b = h b := by simp [hup, n]
theorem hup_hup (h : Hp) (a : Nat) (c d : AC) : hup (hup h a c) a d = hup h a d := by funext x; simp only [hup]; split <;> rfl
theorem hup_comm {h : Hp} {a b : Nat} {c d : AC} (n : a ≠ b) : hup (hup h a c) b d = hup (hup h b d) a c := by
  funext x; simp only [hup]
  by_cases h1 : x = a
  · subst h1; simp [n]
  · by_cases h2 : x = b <;> simp [h1]
theorem hup_id {h : Hp} {a : Nat} {c : AC} (e : h a = some c) : hup h a c = h := by
  funext x; simp only [hup]; split
  · rename_i q; rw [q, e]
  · rfl
/-- a method: its name, bytes, locals, answer, and the frames and locals of its room -/
abbrev MI : Type := MethodName × ByteArray × Nat × Option FieldType × Nat × Nat
abbrev aA (B : Nat) : Nat → Prop := fun q => B ≤ q
def aV (ws : va_W) (tys : List (ClassId × FieldType)) (a : Nat) (c : AC) : Prop := match c with
  | .inl x => ∃ (q0 t0 : Nat) (cA : ClassId), ws[q0]? = some (a, .inl (cA, x.2)) ∧ tys[t0]? = some (cA, x.1)
  | .inr o => ∃ q0 : Nat, ws[q0]? = some (a, .inr o)
def aR (D : va_G) (B n : Nat) (h : Hp) (s : State) (H : Heap) : Prop := H.size = n ∧ ∃ (ws : va_W) (tys : List (ClassId × FieldType)), va_K D vwCl tys s ∧ va_P D vwCl ws H ∧ va_D (aA B) ws ∧ ∀ (a : Nat) (c : AC), h a = some c → aV ws tys a c
def aX (s : State) : Prop := va_Nw (.methodLinkNest "TailBounds" 44 ⟨"TailBounds$Divider", "<init>", "()V"⟩ "TailBounds") s ∧ va_Nw (.methodLinkNest "TailBounds" 51 ⟨"TailBounds$Measurer", "<init>", "()V"⟩ "TailBounds") s ∧ va_Nw (.methodLinkNest "TailBounds" 58 ⟨"TailBounds$Tosser", "<init>", "()V"⟩ "TailBounds") s ∧ va_AO "TailBounds$Source" s ∧ va_AO "TailBounds$Fraction" s
theorem aX.warm {s U : State} (hW : s.WarmedH U.vm) (h : aX s) : aX U := ⟨h.1.warmM hW, h.2.1.warmM hW, h.2.2.1.warmM hW, h.2.2.2.1.moved hW.alike, h.2.2.2.2.moved hW.alike⟩
theorem aX.same {s U : State} (e : s.vm = U.vm) (h : aX s) : aX U := ⟨h.1.same rfl e, h.2.1.same rfl e, h.2.2.1.same rfl e, h.2.2.2.1.moved (e ▸ Vm.Alike.refl s.vm), h.2.2.2.2.moved (e ▸ Vm.Alike.refl s.vm)⟩
theorem aR.moved {D : va_G} {B n : Nat} {h : Hp} {u U : State} {H : Heap} (hvm : u.vm.Alike U.vm) (r : aR D B n h u H) : aR D B n h U H := by
  obtain ⟨z, ws, tys, hK, r⟩ := r
  exact ⟨z, ws, tys, va_K.moved hvm hK, r⟩
def aL (ls : Array Slot) (nL : Nat) (lv : List (Option Value)) : Prop := ls.size = nL ∧ lv_wf ls ∧ ∀ (i : Nat) (v : Value), lv[i]? = some (some v) → ls[i]? = some (.val v)
/-- room for cells and slots; what is known of the start beside; the end -/
abbrev AG : Type := (Nat × Nat) × (Nat → Array Value → State → Prop) × (va_G → Nat → List Frame → Array Value → State → State → Prop)
def aC (M : MI) (G : AG) (B : Nat) (p : Program) (s : State) (m : MethodId) (args : Array Value) (meth : Method) (c : Code) : Prop :=
  p.tables.exec = Jvm.exec ∧ c.code = M.2.1 ∧ meth.sig.returnType = M.2.2.2.1 ∧ c.maxLocals = M.2.2.1 ∧ s.vm.findClass M.1.cls = some m.cls ∧ (∀ w ∈ lw_good, w.before args s = true) ∧ meth.locks = false ∧ meth.name = M.1.name ∧ B ≤ s.heap.size ∧ aX s ∧ G.2.1 B args s
def AW (M : MI) (G : AG) (pc : Nat) (lv : List (Option Value)) (st : List Value) (kc ks n : Nat) (h : Hp) : Prop :=
  ∀ (l : Launch) (D : va_G) (B : Nat) (p : Program) (e : Env) (s : State) (m : MethodId) (args : Array Value) (below : List Frame) (meth : Method) (c : Code) (H : Heap) (locs : List Loc) (ls : Array Slot),
    aC M G B p s m args meth c → aL ls M.2.2.1 lv → aR D B n h s H → va_S (aA B) s.heap H locs →
    W p l e { frames := M.2.2.2.2.1, cells := G.1.1, slots := G.1.2, locals := M.2.2.2.2.2 } s m args below meth c H locs kc ks (G.2.2 D B below args s) (F0 m pc ls st)
def aQ (D : va_G) (B : Nat) (Q : Option Value → Nat → Hp → Prop) : Array Value → State → Outcome → State → Prop := fun _ st oc t => (∃ (r : Option Value) (n : Nat) (h : Hp), oc = .returned r ∧ Q r n h ∧ aR D B n h t t.heap) ∧ va_F (aA B) st t
def aP (D : va_G) (B n : Nat) (h : Hp) : State → Prop := fun U => B ≤ U.heap.size ∧ aX U ∧ aR D B n h U U.heap
def gq (mc ms : Nat) (Q : Option Value → Nat → Hp → Prop) : AG := ((mc, ms), (fun _ _ _ => True), (fun D B below args s => MQ below (aQ D B Q) args s mc ms (aA B)))
/-- a method's contract: called with these arguments in this heap it returns, and Q of its answer and the heap behind it -/
def CT (M : MI) (mc ms n : Nat) (h : Hp) (av : List Value) (Q : Option Value → Nat → Hp → Prop) : Prop :=
  ∀ (l : Launch) (D : va_G) (B : Nat), Met l M.1 (Cond.code M.1 M.2.1 M.2.2.1 M.2.2.2.1 :: lw_good) { frames := M.2.2.2.2.1, cells := mc, slots := ms, locals := M.2.2.2.2.2 } (va_Pc av (aP D B n h)) (aQ D B Q) mc ms (aA B)
theorem AW.widen {M : MI} {G : AG} {pc : Nat} {lv : List (Option Value)} {st : List Value} {kc ks n : Nat} {h : Hp} {k2 s2 : Nat} (h1 : kc ≤ k2) (h2 : ks ≤ s2) (k : AW M G pc lv st k2 s2 n h) : AW M G pc lv st kc ks n h :=
  fun l D B p e s m args below meth c H locs ls C L R S => W.widen h1 h2 (k l D B p e s m args below meth c H locs ls C L R S)
theorem aL.fewer {ls : Array Slot} {nL : Nat} {lv lv' : List (Option Value)} (h : aL ls nL lv) (hs : ∀ (i : Nat) (v : Value), lv'[i]? = some (some v) → lv[i]? = some (some v)) : aL ls nL lv' := ⟨h.1, h.2.1, fun i v q => h.2.2 i v (hs i v q)⟩
theorem AW.fewer {M : MI} {G : AG} {pc : Nat} {lv lv' : List (Option Value)} {st : List Value} {kc ks n : Nat} {h : Hp} (hs : ∀ (i : Nat) (v : Value), lv'[i]? = some (some v) → lv[i]? = some (some v)) (k : AW M G pc lv' st kc ks n h) : AW M G pc lv st kc ks n h :=
  fun l D B p e s m args below meth c H locs ls C L R S => k l D B p e s m args below meth c H locs ls C (L.fewer hs) R S
/-- lv' is lv with some places forgotten -/
def lvle : List (Option Value) → List (Option Value) → Prop
  | [], _ => True
  | none :: t, _ :: u => lvle t u
  | some a :: t, some b :: u => a = b ∧ lvle t u
  | none :: t, [] => lvle t []
  | some _ :: _, _ => False
theorem lvle_get : ∀ (a b : List (Option Value)), lvle a b → ∀ (i : Nat) (v : Value), a[i]? = some (some v) → b[i]? = some (some v)
  | [], _, _, i, v, q => by simp at q
  | none :: t, [], h, i, v, q => by
    cases i with
    | zero => simp at q
    | succ i => have := lvle_get t [] h i v (by simpa using q); simp at this
  | none :: t, x :: u, h, i, v, q => by
    cases i with
    | zero => simp at q
    | succ i => simpa using lvle_get t u h i v (by simpa using q)
  | some a :: t, some b :: u, h, i, v, q => by
    obtain ⟨rfl, h⟩ := h
    cases i with
    | zero => simpa using q
    | succ i => simpa using lvle_get t u h i v (by simpa using q)
  | some _ :: _, none :: _, h, _, _, _ => h.elim
  | some _ :: _, [], h, _, _, _ => h.elim
theorem AW.forget {M : MI} {G : AG} {pc : Nat} {lv : List (Option Value)} (lv' : List (Option Value)) {st : List Value} {kc ks n : Nat} {h : Hp} (hs : lvle lv' lv) (k : AW M G pc lv' st kc ks n h) : AW M G pc lv st kc ks n h := AW.fewer (lvle_get lv' lv hs) k
def enu : Nat → List (Option Value) → List (Nat × Value)
  | _, [] => []
  | k, none :: t => enu (k + 1) t
  | k, some v :: t => (k, v) :: enu (k + 1) t
theorem enu_mem : ∀ (lv : List (Option Value)) (k : Nat) (q : Nat × Value), q ∈ enu k lv → ∃ i, q.1 = k + i ∧ lv[i]? = some (some q.2)
  | [], _, _, h => by simp [enu] at h
  | none :: t, k, q, h => by
    obtain ⟨i, h1, h2⟩ := enu_mem t (k + 1) q h
    exact ⟨i + 1, by omega, by simpa using h2⟩
  | some v :: t, k, q, h => by
    rcases List.mem_cons.mp h with rfl | h
    · exact ⟨0, by simp, by simp⟩
    · obtain ⟨i, h1, h2⟩ := enu_mem t (k + 1) q h
      exact ⟨i + 1, by omega, by simpa using h2⟩
theorem enu_in : ∀ (lv : List (Option Value)) (k i : Nat) (v : Value), lv[i]? = some (some v) → (k + i, v) ∈ enu k lv
  | [], _, _, _, h => by simp at h
  | none :: t, k, i, v, h => by
    cases i with
    | zero => simp at h
    | succ i => have := enu_in t (k + 1) i v (by simpa using h); rw [show k + (i + 1) = k + 1 + i by omega]; simpa [enu] using this
  | some w :: t, k, i, v, h => by
    cases i with
    | zero => simp at h; simp [enu, h]
    | succ i => have := enu_in t (k + 1) i v (by simpa using h); rw [show k + (i + 1) = k + 1 + i by omega]; simp [enu]; exact Or.inr this
theorem aL.has {ls : Array Slot} {nL : Nat} {lv : List (Option Value)} (h : aL ls nL lv) : lv_has ls nL (enu 0 lv) := ⟨h.1, h.2.1, fun q hq => by
  obtain ⟨i, h1, h2⟩ := enu_mem lv 0 q hq
  rw [h1, Nat.zero_add]
  exact h.2.2 i q.2 h2⟩
/-- what a store may leave -/
def aSt (lv lv' : List (Option Value)) (i : Nat) (v : Value) (two : Bool) : Prop := ∀ (j : Nat) (w : Value), lv'[j]? = some (some w) → (j = i ∧ w = v) ∨ (lv[j]? = some (some w) ∧ j ≠ i ∧ ¬ (j + 1 = i ∧ w.category = 2) ∧ (two = true → j ≠ i + 1))
theorem aL.st1 {ls ls' : Array Slot} {nL i : Nat} {v : Value} {lv lv' : List (Option Value)} (h : lv_has ls' nL ((i, v) :: (enu 0 lv).filter (fun q => !(q.1 == i) && !(q.1 + 1 == i && q.2.category == 2)))) (hs : aSt lv lv' i v false) : aL ls' nL lv' := ⟨h.1, h.2.1, fun j w q => by
  rcases hs j w q with ⟨rfl, rfl⟩ | ⟨h1, h2, h3, -⟩
  · exact h.2.2 _ List.mem_cons_self
  · refine h.2.2 (j, w) (List.mem_cons_of_mem _ (List.mem_filter.mpr ⟨by simpa using enu_in lv 0 j w h1, ?_⟩))
    simp [h2]; omega⟩
theorem aL.st2 {ls ls' : Array Slot} {nL i : Nat} {v : Value} {lv lv' : List (Option Value)} (h : lv_has ls' nL ((i, v) :: (enu 0 lv).filter (fun q => !(q.1 == i) && (!(q.1 == i + 1) && !(q.1 + 1 == i && q.2.category == 2))))) (hs : aSt lv lv' i v true) : aL ls' nL lv' := ⟨h.1, h.2.1, fun j w q => by
  rcases hs j w q with ⟨rfl, rfl⟩ | ⟨h1, h2, h3, h4⟩
  · exact h.2.2 _ List.mem_cons_self
  · refine h.2.2 (j, w) (List.mem_cons_of_mem _ (List.mem_filter.mpr ⟨by simpa using enu_in lv 0 j w h1, ?_⟩))
    simp [h2, h4 rfl]; omega⟩
def nl2 (o : Option Value) : Bool := match o with
  | some v => !(v.category == 2)
  | none => true
theorem aSt_1 : ∀ (pre : List (Option Value)) (o : Option Value) (r : List (Option Value)) (v : Value), (∀ x, pre.getLast? = some x → nl2 x = true) → aSt (pre ++ o :: r) (pre ++ some v :: r) pre.length v false := by
  intro pre o r v hl j w q
  by_cases hj : j < pre.length
  · rw [List.getElem?_append_left hj] at q
    refine Or.inr ⟨by rw [List.getElem?_append_left hj]; exact q, by omega, ?_, by simp⟩
    rintro ⟨e, c⟩
    have : pre.getLast? = some (some w) := by rw [List.getLast?_eq_getElem?, ← e]; simpa using q
    have := hl _ this
    simp [nl2, c] at this
  · by_cases hj2 : j = pre.length
    · subst hj2
      simp at q
      exact Or.inl ⟨rfl, q.symm⟩
    · obtain ⟨d, rfl⟩ : ∃ d, j = pre.length + (d + 1) := ⟨j - pre.length - 1, by omega⟩
      rw [List.getElem?_append_right (by omega)] at q
      refine Or.inr ⟨by rw [List.getElem?_append_right (by omega)]; simpa using q, by omega, by omega, by simp⟩
theorem aSt_2 : ∀ (pre : List (Option Value)) (o o2 : Option Value) (r : List (Option Value)) (v : Value), (∀ x, pre.getLast? = some x → nl2 x = true) → aSt (pre ++ o :: o2 :: r) (pre ++ some v :: none :: r) pre.length v true := by
  intro pre o o2 r v hl j w q
  by_cases hj : j < pre.length
  · rw [List.getElem?_append_left hj] at q
    refine Or.inr ⟨by rw [List.getElem?_append_left hj]; exact q, by omega, ?_, by omega⟩
    rintro ⟨e, c⟩
    have : pre.getLast? = some (some w) := by rw [List.getLast?_eq_getElem?, ← e]; simpa using q
    have := hl _ this
    simp [nl2, c] at this
  · by_cases hj2 : j = pre.length
    · subst hj2
      simp at q
      exact Or.inl ⟨rfl, q.symm⟩
    · obtain ⟨d, rfl⟩ : ∃ d, j = pre.length + (d + 1) := ⟨j - pre.length - 1, by omega⟩
      rw [List.getElem?_append_right (by omega)] at q
      have q' : (none :: r)[d]? = some (some w) := by simpa using q
      cases d with
      | zero => simp at q'
      | succ d =>
        refine Or.inr ⟨by rw [List.getElem?_append_right (by omega)]; simpa using q', by omega, by omega, by omega⟩
theorem aw_iconst {M : MI} {G : AG} {pc kc ks n : Nat} {lv : List (Option Value)} {h : Hp} {rest : List Value} {n0 : Int} {v : Int32} (hdg : decode M.2.1 pc = .ok (.iconst n0, 1)) (hv : Int32.ofInt n0 = v)
    (k :  AW M G (pc + 1) lv (.int v :: rest) kc ks n h) :  AW M G pc lv (rest) kc ks n h := fun l D B p e s m args below meth c H locs ls C L R S => lv_iconst C.1 C.2.1 hdg hv (k l D B p e s m args below meth c H locs ls C L R S)
theorem aw_bipush {M : MI} {G : AG} {pc kc ks n : Nat} {lv : List (Option Value)} {h : Hp} {rest : List Value} {n0 : Int} {v : Int32} (hdg : decode M.2.1 pc = .ok (.bipush n0, 2)) (hv : (Int8.ofInt n0).toInt32 = v)
    (k :  AW M G (pc + 2) lv (.int v :: rest) kc ks n h) :  AW M G pc lv (rest) kc ks n h := fun l D B p e s m args below meth c H locs ls C L R S => lv_bipush C.1 C.2.1 hdg hv (k l D B p e s m args below meth c H locs ls C L R S)
theorem aw_sipush {M : MI} {G : AG} {pc kc ks n : Nat} {lv : List (Option Value)} {h : Hp} {rest : List Value} {n0 : Int} {v : Int32} (hdg : decode M.2.1 pc = .ok (.sipush n0, 3)) (hv : (Int16.ofInt n0).toInt32 = v)
    (k :  AW M G (pc + 3) lv (.int v :: rest) kc ks n h) :  AW M G pc lv (rest) kc ks n h := fun l D B p e s m args below meth c H locs ls C L R S => lv_sipush C.1 C.2.1 hdg hv (k l D B p e s m args below meth c H locs ls C L R S)
theorem aw_lconst {M : MI} {G : AG} {pc kc ks n : Nat} {lv : List (Option Value)} {h : Hp} {rest : List Value} {n0 : Fin 2} {v : Int64} (hdg : decode M.2.1 pc = .ok (.lconst n0, 1)) (hv : Int64.ofNat (n0 : Nat) = v)
    (k :  AW M G (pc + 1) lv (.long v :: rest) kc ks n h) :  AW M G pc lv (rest) kc ks n h := fun l D B p e s m args below meth c H locs ls C L R S => lv_lconst C.1 C.2.1 hdg hv (k l D B p e s m args below meth c H locs ls C L R S)
theorem aw_iadd {M : MI} {G : AG} {pc kc ks n : Nat} {lv : List (Option Value)} {h : Hp} {rest : List Value} {x y : Int32} (hdg : decode M.2.1 pc = .ok (.iadd, 1)) 
    (k :  AW M G (pc + 1) lv (.int (x + y) :: rest) kc ks n h) :  AW M G pc lv (.int y :: .int x :: rest) kc ks n h := fun l D B p e s m args below meth c H locs ls C L R S => lv_iadd C.1 C.2.1 hdg (k l D B p e s m args below meth c H locs ls C L R S)
theorem aw_isub {M : MI} {G : AG} {pc kc ks n : Nat} {lv : List (Option Value)} {h : Hp} {rest : List Value} {x y : Int32} (hdg : decode M.2.1 pc = .ok (.isub, 1)) 
    (k :  AW M G (pc + 1) lv (.int (x - y) :: rest) kc ks n h) :  AW M G pc lv (.int y :: .int x :: rest) kc ks n h := fun l D B p e s m args below meth c H locs ls C L R S => lv_isub C.1 C.2.1 hdg (k l D B p e s m args below meth c H locs ls C L R S)
theorem aw_imul {M : MI} {G : AG} {pc kc ks n : Nat} {lv : List (Option Value)} {h : Hp} {rest : List Value} {x y : Int32} (hdg : decode M.2.1 pc = .ok (.imul, 1)) 
    (k :  AW M G (pc + 1) lv (.int (x * y) :: rest) kc ks n h) :  AW M G pc lv (.int y :: .int x :: rest) kc ks n h := fun l D B p e s m args below meth c H locs ls C L R S => lv_imul C.1 C.2.1 hdg (k l D B p e s m args below meth c H locs ls C L R S)
theorem aw_iand {M : MI} {G : AG} {pc kc ks n : Nat} {lv : List (Option Value)} {h : Hp} {rest : List Value} {x y : Int32} (hdg : decode M.2.1 pc = .ok (.iand, 1)) 
    (k :  AW M G (pc + 1) lv (.int (x &&& y) :: rest) kc ks n h) :  AW M G pc lv (.int y :: .int x :: rest) kc ks n h := fun l D B p e s m args below meth c H locs ls C L R S => lv_iand C.1 C.2.1 hdg (k l D B p e s m args below meth c H locs ls C L R S)
theorem aw_idiv {M : MI} {G : AG} {pc kc ks n : Nat} {lv : List (Option Value)} {h : Hp} {rest : List Value} {x y : Int32} (hdg : decode M.2.1 pc = .ok (.idiv, 1)) (hne : ¬ y = 0)
    (k :  AW M G (pc + 1) lv (.int (x / y) :: rest) kc ks n h) :  AW M G pc lv (.int y :: .int x :: rest) kc ks n h := fun l D B p e s m args below meth c H locs ls C L R S => lv_idiv C.1 C.2.1 hdg hne (k l D B p e s m args below meth c H locs ls C L R S)
theorem aw_irem {M : MI} {G : AG} {pc kc ks n : Nat} {lv : List (Option Value)} {h : Hp} {rest : List Value} {x y : Int32} (hdg : decode M.2.1 pc = .ok (.irem, 1)) (hne : ¬ y = 0)
    (k :  AW M G (pc + 1) lv (.int (x - x / y * y) :: rest) kc ks n h) :  AW M G pc lv (.int y :: .int x :: rest) kc ks n h := fun l D B p e s m args below meth c H locs ls C L R S => lv_irem C.1 C.2.1 hdg hne (k l D B p e s m args below meth c H locs ls C L R S)
theorem aw_ineg {M : MI} {G : AG} {pc kc ks n : Nat} {lv : List (Option Value)} {h : Hp} {rest : List Value} {x : Int32} (hdg : decode M.2.1 pc = .ok (.ineg, 1)) 
    (k :  AW M G (pc + 1) lv (.int (-x) :: rest) kc ks n h) :  AW M G pc lv (.int x :: rest) kc ks n h := fun l D B p e s m args below meth c H locs ls C L R S => lv_ineg C.1 C.2.1 hdg (k l D B p e s m args below meth c H locs ls C L R S)
theorem aw_ladd {M : MI} {G : AG} {pc kc ks n : Nat} {lv : List (Option Value)} {h : Hp} {rest : List Value} {x y : Int64} (hdg : decode M.2.1 pc = .ok (.ladd, 1)) 
    (k :  AW M G (pc + 1) lv (.long (x + y) :: rest) kc ks n h) :  AW M G pc lv (.long y :: .long x :: rest) kc ks n h := fun l D B p e s m args below meth c H locs ls C L R S => lv_ladd C.1 C.2.1 hdg (k l D B p e s m args below meth c H locs ls C L R S)
theorem aw_lsub {M : MI} {G : AG} {pc kc ks n : Nat} {lv : List (Option Value)} {h : Hp} {rest : List Value} {x y : Int64} (hdg : decode M.2.1 pc = .ok (.lsub, 1)) 
    (k :  AW M G (pc + 1) lv (.long (x - y) :: rest) kc ks n h) :  AW M G pc lv (.long y :: .long x :: rest) kc ks n h := fun l D B p e s m args below meth c H locs ls C L R S => lv_lsub C.1 C.2.1 hdg (k l D B p e s m args below meth c H locs ls C L R S)
theorem aw_lmul {M : MI} {G : AG} {pc kc ks n : Nat} {lv : List (Option Value)} {h : Hp} {rest : List Value} {x y : Int64} (hdg : decode M.2.1 pc = .ok (.lmul, 1)) 
    (k :  AW M G (pc + 1) lv (.long (x * y) :: rest) kc ks n h) :  AW M G pc lv (.long y :: .long x :: rest) kc ks n h := fun l D B p e s m args below meth c H locs ls C L R S => lv_lmul C.1 C.2.1 hdg (k l D B p e s m args below meth c H locs ls C L R S)
theorem aw_land {M : MI} {G : AG} {pc kc ks n : Nat} {lv : List (Option Value)} {h : Hp} {rest : List Value} {x y : Int64} (hdg : decode M.2.1 pc = .ok (.land, 1)) 
    (k :  AW M G (pc + 1) lv (.long (x &&& y) :: rest) kc ks n h) :  AW M G pc lv (.long y :: .long x :: rest) kc ks n h := fun l D B p e s m args below meth c H locs ls C L R S => lv_land C.1 C.2.1 hdg (k l D B p e s m args below meth c H locs ls C L R S)
theorem aw_lor {M : MI} {G : AG} {pc kc ks n : Nat} {lv : List (Option Value)} {h : Hp} {rest : List Value} {x y : Int64} (hdg : decode M.2.1 pc = .ok (.lor, 1)) 
    (k :  AW M G (pc + 1) lv (.long (x ||| y) :: rest) kc ks n h) :  AW M G pc lv (.long y :: .long x :: rest) kc ks n h := fun l D B p e s m args below meth c H locs ls C L R S => lv_lor C.1 C.2.1 hdg (k l D B p e s m args below meth c H locs ls C L R S)
theorem aw_ldiv {M : MI} {G : AG} {pc kc ks n : Nat} {lv : List (Option Value)} {h : Hp} {rest : List Value} {x y : Int64} (hdg : decode M.2.1 pc = .ok (.ldiv, 1)) (hne : ¬ y = 0)
    (k :  AW M G (pc + 1) lv (.long (x / y) :: rest) kc ks n h) :  AW M G pc lv (.long y :: .long x :: rest) kc ks n h := fun l D B p e s m args below meth c H locs ls C L R S => lv_ldiv C.1 C.2.1 hdg hne (k l D B p e s m args below meth c H locs ls C L R S)
theorem aw_lrem {M : MI} {G : AG} {pc kc ks n : Nat} {lv : List (Option Value)} {h : Hp} {rest : List Value} {x y : Int64} (hdg : decode M.2.1 pc = .ok (.lrem, 1)) (hne : ¬ y = 0)
    (k :  AW M G (pc + 1) lv (.long (x - x / y * y) :: rest) kc ks n h) :  AW M G pc lv (.long y :: .long x :: rest) kc ks n h := fun l D B p e s m args below meth c H locs ls C L R S => lv_lrem C.1 C.2.1 hdg hne (k l D B p e s m args below meth c H locs ls C L R S)
theorem aw_lneg {M : MI} {G : AG} {pc kc ks n : Nat} {lv : List (Option Value)} {h : Hp} {rest : List Value} {x : Int64} (hdg : decode M.2.1 pc = .ok (.lneg, 1)) 
    (k :  AW M G (pc + 1) lv (.long (-x) :: rest) kc ks n h) :  AW M G pc lv (.long x :: rest) kc ks n h := fun l D B p e s m args below meth c H locs ls C L R S => lv_lneg C.1 C.2.1 hdg (k l D B p e s m args below meth c H locs ls C L R S)
theorem aw_ishl {M : MI} {G : AG} {pc kc ks n : Nat} {lv : List (Option Value)} {h : Hp} {rest : List Value} {x y : Int32} (hdg : decode M.2.1 pc = .ok (.ishl, 1)) 
    (k :  AW M G (pc + 1) lv (.int (x <<< (y &&& 31)) :: rest) kc ks n h) :  AW M G pc lv (.int y :: .int x :: rest) kc ks n h := fun l D B p e s m args below meth c H locs ls C L R S => lv_ishl C.1 C.2.1 hdg (k l D B p e s m args below meth c H locs ls C L R S)
theorem aw_ishr {M : MI} {G : AG} {pc kc ks n : Nat} {lv : List (Option Value)} {h : Hp} {rest : List Value} {x y : Int32} (hdg : decode M.2.1 pc = .ok (.ishr, 1)) 
    (k :  AW M G (pc + 1) lv (.int (x >>> (y &&& 31)) :: rest) kc ks n h) :  AW M G pc lv (.int y :: .int x :: rest) kc ks n h := fun l D B p e s m args below meth c H locs ls C L R S => lv_ishr C.1 C.2.1 hdg (k l D B p e s m args below meth c H locs ls C L R S)
theorem aw_i2l {M : MI} {G : AG} {pc kc ks n : Nat} {lv : List (Option Value)} {h : Hp} {rest : List Value} {x : Int32} {v : Int64} (hdg : decode M.2.1 pc = .ok (.i2l, 1)) (hv : x.toInt64 = v)
    (k :  AW M G (pc + 1) lv (.long v :: rest) kc ks n h) :  AW M G pc lv (.int x :: rest) kc ks n h := fun l D B p e s m args below meth c H locs ls C L R S => lv_i2l C.1 C.2.1 hdg hv (k l D B p e s m args below meth c H locs ls C L R S)
theorem aw_l2i {M : MI} {G : AG} {pc kc ks n : Nat} {lv : List (Option Value)} {h : Hp} {rest : List Value} {x : Int64} {v : Int32} (hdg : decode M.2.1 pc = .ok (.l2i, 1)) (hv : x.toInt32 = v)
    (k :  AW M G (pc + 1) lv (.int v :: rest) kc ks n h) :  AW M G pc lv (.long x :: rest) kc ks n h := fun l D B p e s m args below meth c H locs ls C L R S => lv_l2i C.1 C.2.1 hdg hv (k l D B p e s m args below meth c H locs ls C L R S)
theorem aw_lushr {M : MI} {G : AG} {pc kc ks n : Nat} {lv : List (Option Value)} {h : Hp} {rest : List Value} {x v : Int64} {y : Int32} (hdg : decode M.2.1 pc = .ok (.lushr, 1)) (hv : (x.toUInt64 >>> (y.toInt64.toUInt64 &&& Int64.toUInt64 63)).toInt64 = v)
    (k :  AW M G (pc + 1) lv (.long v :: rest) kc ks n h) :  AW M G pc lv (.int y :: .long x :: rest) kc ks n h := fun l D B p e s m args below meth c H locs ls C L R S => lv_lushr C.1 C.2.1 hdg hv (k l D B p e s m args below meth c H locs ls C L R S)
theorem aw_lshl {M : MI} {G : AG} {pc kc ks n : Nat} {lv : List (Option Value)} {h : Hp} {rest : List Value} {x v : Int64} {y : Int32} (hdg : decode M.2.1 pc = .ok (.lshl, 1)) (hv : x <<< (y.toInt64 &&& 63) = v)
    (k :  AW M G (pc + 1) lv (.long v :: rest) kc ks n h) :  AW M G pc lv (.int y :: .long x :: rest) kc ks n h := fun l D B p e s m args below meth c H locs ls C L R S => lv_lshl C.1 C.2.1 hdg hv (k l D B p e s m args below meth c H locs ls C L R S)
theorem aw_lshr {M : MI} {G : AG} {pc kc ks n : Nat} {lv : List (Option Value)} {h : Hp} {rest : List Value} {x v : Int64} {y : Int32} (hdg : decode M.2.1 pc = .ok (.lshr, 1)) (hv : x >>> (y.toInt64 &&& 63) = v)
    (k :  AW M G (pc + 1) lv (.long v :: rest) kc ks n h) :  AW M G pc lv (.int y :: .long x :: rest) kc ks n h := fun l D B p e s m args below meth c H locs ls C L R S => lv_lshr C.1 C.2.1 hdg hv (k l D B p e s m args below meth c H locs ls C L R S)
theorem aw_dup {M : MI} {G : AG} {pc kc ks n : Nat} {lv : List (Option Value)} {h : Hp} {rest : List Value} {va : Value} (hdg : decode M.2.1 pc = .ok (.dup, 1)) (hva : va.category = 1)
    (k :  AW M G (pc + 1) lv (va :: va :: rest) kc ks n h) :  AW M G pc lv (va :: rest) kc ks n h := fun l D B p e s m args below meth c H locs ls C L R S => lv_dup C.1 C.2.1 hdg hva (k l D B p e s m args below meth c H locs ls C L R S)
theorem aw_pop {M : MI} {G : AG} {pc kc ks n : Nat} {lv : List (Option Value)} {h : Hp} {rest : List Value} {va : Value} (hdg : decode M.2.1 pc = .ok (.pop, 1)) (hva : va.category = 1)
    (k :  AW M G (pc + 1) lv (rest) kc ks n h) :  AW M G pc lv (va :: rest) kc ks n h := fun l D B p e s m args below meth c H locs ls C L R S => lv_pop C.1 C.2.1 hdg hva (k l D B p e s m args below meth c H locs ls C L R S)
theorem aw_dup2_11 {M : MI} {G : AG} {pc kc ks n : Nat} {lv : List (Option Value)} {h : Hp} {rest : List Value} {va vb : Value} (hdg : decode M.2.1 pc = .ok (.dup2, 1)) (hva : va.category = 1) (hvb : vb.category = 1)
    (k :  AW M G (pc + 1) lv (va :: vb :: va :: vb :: rest) kc ks n h) :  AW M G pc lv (va :: vb :: rest) kc ks n h := fun l D B p e s m args below meth c H locs ls C L R S => lv_dup2_11 C.1 C.2.1 hdg hva hvb (k l D B p e s m args below meth c H locs ls C L R S)
theorem aw_null {M : MI} {G : AG} {pc kc ks n : Nat} {lv : List (Option Value)} {h : Hp} {rest : List Value} (hdg : decode M.2.1 pc = .ok (.aconst_null, 1)) (k :  AW M G (pc + 1) lv (.null :: rest) kc ks n h) :  AW M G pc lv rest kc ks n h := fun l D B p e s m args below meth c H locs ls C L R S => lv_null C.1 C.2.1 hdg (k l D B p e s m args below meth c H locs ls C L R S)
theorem aw_goto {M : MI} {G : AG} {pc kc ks n : Nat} {lv : List (Option Value)} {h : Hp} {rest : List Value} {off : Int} {tgt : Nat} (hdg : decode M.2.1 pc = .ok (.goto off, 3)) (ht : (pc : Int) + off = (tgt : Int)) (k :  AW M G tgt lv rest kc ks n h) :  AW M G pc lv rest kc ks n h := fun l D B p e s m args below meth c H locs ls C L R S => lv_goto C.1 C.2.1 hdg ht (k l D B p e s m args below meth c H locs ls C L R S)
theorem aw_ifnull {M : MI} {G : AG} {pc kc ks n : Nat} {lv : List (Option Value)} {h : Hp} {rest : List Value} {x : Nat} {off : Int} (hdg : decode M.2.1 pc = .ok (.ifnull off, 3)) (k :  AW M G (pc + 3) lv rest kc ks n h) :  AW M G pc lv (.ref x :: rest) kc ks n h := fun l D B p e s m args below meth c H locs ls C L R S => lv_ifnull C.1 C.2.1 hdg (k l D B p e s m args below meth c H locs ls C L R S)
theorem aw_ifnonnull {M : MI} {G : AG} {pc kc ks n : Nat} {lv : List (Option Value)} {h : Hp} {rest : List Value} {x : Nat} {off : Int} {tgt : Nat} (hdg : decode M.2.1 pc = .ok (.ifnonnull off, 3)) (ht : (pc : Int) + off = (tgt : Int)) (k :  AW M G tgt lv rest kc ks n h) :  AW M G pc lv (.ref x :: rest) kc ks n h := fun l D B p e s m args below meth c H locs ls C L R S => lv_ifnonnull C.1 C.2.1 hdg ht (k l D B p e s m args below meth c H locs ls C L R S)
theorem aw_ifnullN {M : MI} {G : AG} {pc kc ks n : Nat} {lv : List (Option Value)} {h : Hp} {rest : List Value} {off : Int} {tgt : Nat} (hdg : decode M.2.1 pc = .ok (.ifnull off, 3)) (ht : (pc : Int) + off = (tgt : Int)) (k :  AW M G tgt lv rest kc ks n h) :  AW M G pc lv (.null :: rest) kc ks n h := fun l D B p e s m args below meth c H locs ls C L R S => lv_ifnullN C.1 C.2.1 hdg ht (k l D B p e s m args below meth c H locs ls C L R S)
theorem aw_ifnonnullN {M : MI} {G : AG} {pc kc ks n : Nat} {lv : List (Option Value)} {h : Hp} {rest : List Value} {off : Int} (hdg : decode M.2.1 pc = .ok (.ifnonnull off, 3)) (k :  AW M G (pc + 3) lv rest kc ks n h) :  AW M G pc lv (.null :: rest) kc ks n h := fun l D B p e s m args below meth c H locs ls C L R S => lv_ifnonnullN C.1 C.2.1 hdg (k l D B p e s m args below meth c H locs ls C L R S)
theorem aw_tableIn {M : MI} {G : AG} {pc kc ks n : Nat} {lv : List (Option Value)} {h : Hp} {rest : List Value} {dflt lo hi : Int} {offs : Array Int} {len : Nat} {x : Int32} {off : Int} {tgt : Nat} (hdg : decode M.2.1 pc = .ok (.tableswitch dflt lo hi offs, len)) (h1 : ¬ x.toInt < lo) (h2 : ¬ hi < x.toInt) (ho : offs[(x.toInt - lo).toNat]? = some off) (ht : (pc : Int) + off = (tgt : Int))
    (k :  AW M G tgt lv rest kc ks n h) :  AW M G pc lv (.int x :: rest) kc ks n h := fun l D B p e s m args below meth c H locs ls C L R S => lv_tableIn C.1 C.2.1 hdg h1 h2 ho ht (k l D B p e s m args below meth c H locs ls C L R S)
theorem aw_tableOut {M : MI} {G : AG} {pc kc ks n : Nat} {lv : List (Option Value)} {h : Hp} {rest : List Value} {dflt lo hi : Int} {offs : Array Int} {len : Nat} {x : Int32} {tgt : Nat} (hdg : decode M.2.1 pc = .ok (.tableswitch dflt lo hi offs, len)) (ho : x.toInt < lo ∨ hi < x.toInt) (ht : (pc : Int) + dflt = (tgt : Int))
    (k :  AW M G tgt lv rest kc ks n h) :  AW M G pc lv (.int x :: rest) kc ks n h := fun l D B p e s m args below meth c H locs ls C L R S => lv_tableOut C.1 C.2.1 hdg ho ht (k l D B p e s m args below meth c H locs ls C L R S)
theorem aw_iload_n {M : MI} {G : AG} {pc kc ks n : Nat} {lv : List (Option Value)} {h : Hp} {rest : List Value} {k : Fin 4} {i : Nat} {x : Int32} (hdg : decode M.2.1 pc = .ok (.iload_n k, 1)) (hi : (k : Nat) = i) (hl : lv[i]? = some (some (.int x)))
    (kk :  AW M G (pc + 1) lv (.int x :: rest) kc ks n h) :  AW M G pc lv (rest) kc ks n h := fun l D B p e s m args below meth c H locs ls C L R S => lv_iload_n C.1 C.2.1 hdg hi (L.2.2 _ _ hl) (kk l D B p e s m args below meth c H locs ls C L R S)
theorem aw_iload {M : MI} {G : AG} {pc kc ks n : Nat} {lv : List (Option Value)} {h : Hp} {rest : List Value} {i : Nat} {x : Int32} (hdg : decode M.2.1 pc = .ok (.iload i, 2)) (hl : lv[i]? = some (some (.int x)))
    (k :  AW M G (pc + 2) lv (.int x :: rest) kc ks n h) :  AW M G pc lv (rest) kc ks n h := fun l D B p e s m args below meth c H locs ls C L R S => lv_iload C.1 C.2.1 hdg (L.2.2 _ _ hl) (k l D B p e s m args below meth c H locs ls C L R S)
theorem aw_lload_n {M : MI} {G : AG} {pc kc ks n : Nat} {lv : List (Option Value)} {h : Hp} {rest : List Value} {k : Fin 4} {i : Nat} {x : Int64} (hdg : decode M.2.1 pc = .ok (.lload_n k, 1)) (hi : (k : Nat) = i) (hl : lv[i]? = some (some (.long x)))
    (kk :  AW M G (pc + 1) lv (.long x :: rest) kc ks n h) :  AW M G pc lv (rest) kc ks n h := fun l D B p e s m args below meth c H locs ls C L R S => lv_lload_n C.1 C.2.1 hdg hi (L.2.2 _ _ hl) (kk l D B p e s m args below meth c H locs ls C L R S)
theorem aw_lload {M : MI} {G : AG} {pc kc ks n : Nat} {lv : List (Option Value)} {h : Hp} {rest : List Value} {i : Nat} {x : Int64} (hdg : decode M.2.1 pc = .ok (.lload i, 2)) (hl : lv[i]? = some (some (.long x)))
    (k :  AW M G (pc + 2) lv (.long x :: rest) kc ks n h) :  AW M G pc lv (rest) kc ks n h := fun l D B p e s m args below meth c H locs ls C L R S => lv_lload C.1 C.2.1 hdg (L.2.2 _ _ hl) (k l D B p e s m args below meth c H locs ls C L R S)
theorem aw_aload_n {M : MI} {G : AG} {pc kc ks n : Nat} {lv : List (Option Value)} {h : Hp} {rest : List Value} {k : Fin 4} {i : Nat} {x : Nat} (hdg : decode M.2.1 pc = .ok (.aload_n k, 1)) (hi : (k : Nat) = i) (hl : lv[i]? = some (some (.ref x)))
    (kk :  AW M G (pc + 1) lv (.ref x :: rest) kc ks n h) :  AW M G pc lv (rest) kc ks n h := fun l D B p e s m args below meth c H locs ls C L R S => lv_aload_n C.1 C.2.1 hdg hi (L.2.2 _ _ hl) (kk l D B p e s m args below meth c H locs ls C L R S)
theorem aw_aload {M : MI} {G : AG} {pc kc ks n : Nat} {lv : List (Option Value)} {h : Hp} {rest : List Value} {i : Nat} {x : Nat} (hdg : decode M.2.1 pc = .ok (.aload i, 2)) (hl : lv[i]? = some (some (.ref x)))
    (k :  AW M G (pc + 2) lv (.ref x :: rest) kc ks n h) :  AW M G pc lv (rest) kc ks n h := fun l D B p e s m args below meth c H locs ls C L R S => lv_aload C.1 C.2.1 hdg (L.2.2 _ _ hl) (k l D B p e s m args below meth c H locs ls C L R S)
theorem aw_aload_nN {M : MI} {G : AG} {pc kc ks n : Nat} {lv : List (Option Value)} {h : Hp} {rest : List Value} {k : Fin 4} {i : Nat} (hdg : decode M.2.1 pc = .ok (.aload_n k, 1)) (hi : (k : Nat) = i) (hl : lv[i]? = some (some (.null)))
    (kk :  AW M G (pc + 1) lv (.null :: rest) kc ks n h) :  AW M G pc lv (rest) kc ks n h := fun l D B p e s m args below meth c H locs ls C L R S => lv_aload_nN C.1 C.2.1 hdg hi (L.2.2 _ _ hl) (kk l D B p e s m args below meth c H locs ls C L R S)
theorem aw_aloadN {M : MI} {G : AG} {pc kc ks n : Nat} {lv : List (Option Value)} {h : Hp} {rest : List Value} {i : Nat} (hdg : decode M.2.1 pc = .ok (.aload i, 2)) (hl : lv[i]? = some (some (.null)))
    (k :  AW M G (pc + 2) lv (.null :: rest) kc ks n h) :  AW M G pc lv (rest) kc ks n h := fun l D B p e s m args below meth c H locs ls C L R S => lv_aloadN C.1 C.2.1 hdg (L.2.2 _ _ hl) (k l D B p e s m args below meth c H locs ls C L R S)
theorem aw_if_eq {M : MI} {G : AG} {pc kc ks n : Nat} {lv : List (Option Value)} {h : Hp} {rest : List Value} {x : Int32} {off : Int} {tgt : Nat} (hdg : decode M.2.1 pc = .ok (.ifCond .eq off, 3)) (ht : (pc : Int) + off = (tgt : Int))
    (kt : x = 0 →  AW M G tgt lv rest kc ks n h) (kf : ¬ x = 0 →  AW M G (pc + 3) lv rest kc ks n h) :  AW M G pc lv (.int x :: rest) kc ks n h := fun l D B p e s m args below meth c H locs ls C L R S => lv_if_eq C.1 C.2.1 hdg ht (fun q => kt q l D B p e s m args below meth c H locs ls C L R S) (fun q => kf q l D B p e s m args below meth c H locs ls C L R S)
theorem aw_if_ne {M : MI} {G : AG} {pc kc ks n : Nat} {lv : List (Option Value)} {h : Hp} {rest : List Value} {x : Int32} {off : Int} {tgt : Nat} (hdg : decode M.2.1 pc = .ok (.ifCond .ne off, 3)) (ht : (pc : Int) + off = (tgt : Int))
    (kt : ¬ x = 0 →  AW M G tgt lv rest kc ks n h) (kf : x = 0 →  AW M G (pc + 3) lv rest kc ks n h) :  AW M G pc lv (.int x :: rest) kc ks n h := fun l D B p e s m args below meth c H locs ls C L R S => lv_if_ne C.1 C.2.1 hdg ht (fun q => kt q l D B p e s m args below meth c H locs ls C L R S) (fun q => kf q l D B p e s m args below meth c H locs ls C L R S)
theorem aw_if_lt {M : MI} {G : AG} {pc kc ks n : Nat} {lv : List (Option Value)} {h : Hp} {rest : List Value} {x : Int32} {off : Int} {tgt : Nat} (hdg : decode M.2.1 pc = .ok (.ifCond .lt off, 3)) (ht : (pc : Int) + off = (tgt : Int))
    (kt : x < 0 →  AW M G tgt lv rest kc ks n h) (kf : ¬ x < 0 →  AW M G (pc + 3) lv rest kc ks n h) :  AW M G pc lv (.int x :: rest) kc ks n h := fun l D B p e s m args below meth c H locs ls C L R S => lv_if_lt C.1 C.2.1 hdg ht (fun q => kt q l D B p e s m args below meth c H locs ls C L R S) (fun q => kf q l D B p e s m args below meth c H locs ls C L R S)
theorem aw_if_ge {M : MI} {G : AG} {pc kc ks n : Nat} {lv : List (Option Value)} {h : Hp} {rest : List Value} {x : Int32} {off : Int} {tgt : Nat} (hdg : decode M.2.1 pc = .ok (.ifCond .ge off, 3)) (ht : (pc : Int) + off = (tgt : Int))
    (kt : 0 ≤ x →  AW M G tgt lv rest kc ks n h) (kf : ¬ 0 ≤ x →  AW M G (pc + 3) lv rest kc ks n h) :  AW M G pc lv (.int x :: rest) kc ks n h := fun l D B p e s m args below meth c H locs ls C L R S => lv_if_ge C.1 C.2.1 hdg ht (fun q => kt q l D B p e s m args below meth c H locs ls C L R S) (fun q => kf q l D B p e s m args below meth c H locs ls C L R S)
theorem aw_if_gt {M : MI} {G : AG} {pc kc ks n : Nat} {lv : List (Option Value)} {h : Hp} {rest : List Value} {x : Int32} {off : Int} {tgt : Nat} (hdg : decode M.2.1 pc = .ok (.ifCond .gt off, 3)) (ht : (pc : Int) + off = (tgt : Int))
    (kt : 0 < x →  AW M G tgt lv rest kc ks n h) (kf : ¬ 0 < x →  AW M G (pc + 3) lv rest kc ks n h) :  AW M G pc lv (.int x :: rest) kc ks n h := fun l D B p e s m args below meth c H locs ls C L R S => lv_if_gt C.1 C.2.1 hdg ht (fun q => kt q l D B p e s m args below meth c H locs ls C L R S) (fun q => kf q l D B p e s m args below meth c H locs ls C L R S)
theorem aw_if_le {M : MI} {G : AG} {pc kc ks n : Nat} {lv : List (Option Value)} {h : Hp} {rest : List Value} {x : Int32} {off : Int} {tgt : Nat} (hdg : decode M.2.1 pc = .ok (.ifCond .le off, 3)) (ht : (pc : Int) + off = (tgt : Int))
    (kt : x ≤ 0 →  AW M G tgt lv rest kc ks n h) (kf : ¬ x ≤ 0 →  AW M G (pc + 3) lv rest kc ks n h) :  AW M G pc lv (.int x :: rest) kc ks n h := fun l D B p e s m args below meth c H locs ls C L R S => lv_if_le C.1 C.2.1 hdg ht (fun q => kt q l D B p e s m args below meth c H locs ls C L R S) (fun q => kf q l D B p e s m args below meth c H locs ls C L R S)
theorem aw_icmp_eq {M : MI} {G : AG} {pc kc ks n : Nat} {lv : List (Option Value)} {h : Hp} {rest : List Value} {x y : Int32} {off : Int} {tgt : Nat} (hdg : decode M.2.1 pc = .ok (.if_icmp .eq off, 3)) (ht : (pc : Int) + off = (tgt : Int))
    (kt : x = y →  AW M G tgt lv rest kc ks n h) (kf : ¬ x = y →  AW M G (pc + 3) lv rest kc ks n h) :  AW M G pc lv (.int y :: .int x :: rest) kc ks n h := fun l D B p e s m args below meth c H locs ls C L R S => lv_icmp_eq C.1 C.2.1 hdg ht (fun q => kt q l D B p e s m args below meth c H locs ls C L R S) (fun q => kf q l D B p e s m args below meth c H locs ls C L R S)
theorem aw_icmp_ne {M : MI} {G : AG} {pc kc ks n : Nat} {lv : List (Option Value)} {h : Hp} {rest : List Value} {x y : Int32} {off : Int} {tgt : Nat} (hdg : decode M.2.1 pc = .ok (.if_icmp .ne off, 3)) (ht : (pc : Int) + off = (tgt : Int))
    (kt : ¬ x = y →  AW M G tgt lv rest kc ks n h) (kf : x = y →  AW M G (pc + 3) lv rest kc ks n h) :  AW M G pc lv (.int y :: .int x :: rest) kc ks n h := fun l D B p e s m args below meth c H locs ls C L R S => lv_icmp_ne C.1 C.2.1 hdg ht (fun q => kt q l D B p e s m args below meth c H locs ls C L R S) (fun q => kf q l D B p e s m args below meth c H locs ls C L R S)
theorem aw_icmp_lt {M : MI} {G : AG} {pc kc ks n : Nat} {lv : List (Option Value)} {h : Hp} {rest : List Value} {x y : Int32} {off : Int} {tgt : Nat} (hdg : decode M.2.1 pc = .ok (.if_icmp .lt off, 3)) (ht : (pc : Int) + off = (tgt : Int))
    (kt : x < y →  AW M G tgt lv rest kc ks n h) (kf : ¬ x < y →  AW M G (pc + 3) lv rest kc ks n h) :  AW M G pc lv (.int y :: .int x :: rest) kc ks n h := fun l D B p e s m args below meth c H locs ls C L R S => lv_icmp_lt C.1 C.2.1 hdg ht (fun q => kt q l D B p e s m args below meth c H locs ls C L R S) (fun q => kf q l D B p e s m args below meth c H locs ls C L R S)
theorem aw_icmp_ge {M : MI} {G : AG} {pc kc ks n : Nat} {lv : List (Option Value)} {h : Hp} {rest : List Value} {x y : Int32} {off : Int} {tgt : Nat} (hdg : decode M.2.1 pc = .ok (.if_icmp .ge off, 3)) (ht : (pc : Int) + off = (tgt : Int))
    (kt : y ≤ x →  AW M G tgt lv rest kc ks n h) (kf : ¬ y ≤ x →  AW M G (pc + 3) lv rest kc ks n h) :  AW M G pc lv (.int y :: .int x :: rest) kc ks n h := fun l D B p e s m args below meth c H locs ls C L R S => lv_icmp_ge C.1 C.2.1 hdg ht (fun q => kt q l D B p e s m args below meth c H locs ls C L R S) (fun q => kf q l D B p e s m args below meth c H locs ls C L R S)
theorem aw_icmp_gt {M : MI} {G : AG} {pc kc ks n : Nat} {lv : List (Option Value)} {h : Hp} {rest : List Value} {x y : Int32} {off : Int} {tgt : Nat} (hdg : decode M.2.1 pc = .ok (.if_icmp .gt off, 3)) (ht : (pc : Int) + off = (tgt : Int))
    (kt : y < x →  AW M G tgt lv rest kc ks n h) (kf : ¬ y < x →  AW M G (pc + 3) lv rest kc ks n h) :  AW M G pc lv (.int y :: .int x :: rest) kc ks n h := fun l D B p e s m args below meth c H locs ls C L R S => lv_icmp_gt C.1 C.2.1 hdg ht (fun q => kt q l D B p e s m args below meth c H locs ls C L R S) (fun q => kf q l D B p e s m args below meth c H locs ls C L R S)
theorem aw_icmp_le {M : MI} {G : AG} {pc kc ks n : Nat} {lv : List (Option Value)} {h : Hp} {rest : List Value} {x y : Int32} {off : Int} {tgt : Nat} (hdg : decode M.2.1 pc = .ok (.if_icmp .le off, 3)) (ht : (pc : Int) + off = (tgt : Int))
    (kt : x ≤ y →  AW M G tgt lv rest kc ks n h) (kf : ¬ x ≤ y →  AW M G (pc + 3) lv rest kc ks n h) :  AW M G pc lv (.int y :: .int x :: rest) kc ks n h := fun l D B p e s m args below meth c H locs ls C L R S => lv_icmp_le C.1 C.2.1 hdg ht (fun q => kt q l D B p e s m args below meth c H locs ls C L R S) (fun q => kf q l D B p e s m args below meth c H locs ls C L R S)

theorem aw_lcmp {M : MI} {G : AG} {pc kc ks n : Nat} {lv : List (Option Value)} {h : Hp} {rest : List Value} {x y : Int64} (hdg : decode M.2.1 pc = .ok (.lcmp, 1)) (k : AW M G (pc + 1) lv (.int (lg_cmp x y) :: rest) kc ks n h) : AW M G pc lv (.long y :: .long x :: rest) kc ks n h := fun l D B p e s m args below meth c H locs ls C L R S => W.lcmp C.1 C.2.1 hdg (k l D B p e s m args below meth c H locs ls C L R S)
theorem aw_ldc {M : MI} {G : AG} {pc kc ks n : Nat} {lv : List (Option Value)} {h : Hp} {rest : List Value} {index : Nat} {v : Int32} (hc : Cond.constant M.1.cls index v ∈ lw_good) (hdg : decode M.2.1 pc = .ok (.ldc index, 2)) (k : AW M G (pc + 2) lv (.int v :: rest) kc ks n h) : AW M G pc lv rest kc ks n h := fun l D B p e s m args below meth c H locs ls C L R S => lv_ldc C.1 C.2.1 C.2.2.2.2.1 (C.2.2.2.2.2.1 _ hc) hdg (k l D B p e s m args below meth c H locs ls C L R S)
theorem aw_ldc_w {M : MI} {G : AG} {pc kc ks n : Nat} {lv : List (Option Value)} {h : Hp} {rest : List Value} {index : Nat} {v : Int32} (hc : Cond.constant M.1.cls index v ∈ lw_good) (hdg : decode M.2.1 pc = .ok (.ldc_w index, 3)) (k : AW M G (pc + 3) lv (.int v :: rest) kc ks n h) : AW M G pc lv rest kc ks n h := fun l D B p e s m args below meth c H locs ls C L R S => lv_ldcw C.1 C.2.1 C.2.2.2.2.1 (C.2.2.2.2.2.1 _ hc) hdg (k l D B p e s m args below meth c H locs ls C L R S)
theorem aw_ldc2_w {M : MI} {G : AG} {pc kc ks n : Nat} {lv : List (Option Value)} {h : Hp} {rest : List Value} {index : Nat} {v : Int64} (hc : Cond.constantLong M.1.cls index v ∈ lw_good) (hdg : decode M.2.1 pc = .ok (.ldc2_w index, 3)) (k : AW M G (pc + 3) lv (.long v :: rest) kc ks n h) : AW M G pc lv rest kc ks n h := fun l D B p e s m args below meth c H locs ls C L R S => lv_ldc2 C.1 C.2.1 C.2.2.2.2.1 (C.2.2.2.2.2.1 _ hc) hdg (k l D B p e s m args below meth c H locs ls C L R S)
theorem awG_istore_n {M : MI} {G : AG} {pc kc ks n : Nat} {lv : List (Option Value)} {h : Hp} {rest : List Value} {k : Fin 4} {i : Nat} {x : Int32} {lv' : List (Option Value)} (hdg : decode M.2.1 pc = .ok (.istore_n k, 1)) (hi : (k : Nat) = i) (hn : i < M.2.2.1) (hs : aSt lv lv' i (.int x) false) (kk : AW M G (pc + 1) lv' rest kc ks n h) : AW M G pc lv (.int x :: rest) kc ks n h := fun l D B p e s m args below meth c H locs ls C L R S => lv_istore_n C.1 C.2.1 hdg hi L.has hn rfl fun ls' hl => kk l D B p e s m args below meth c H locs ls' C (aL.st1 (ls := ls) hl hs) R S
theorem awG_istore {M : MI} {G : AG} {pc kc ks n : Nat} {lv : List (Option Value)} {h : Hp} {rest : List Value} {i : Nat} {x : Int32} {lv' : List (Option Value)} (hdg : decode M.2.1 pc = .ok (.istore i, 2)) (hn : i < M.2.2.1) (hs : aSt lv lv' i (.int x) false) (kk : AW M G (pc + 2) lv' rest kc ks n h) : AW M G pc lv (.int x :: rest) kc ks n h := fun l D B p e s m args below meth c H locs ls C L R S => lv_istore C.1 C.2.1 hdg L.has hn rfl fun ls' hl => kk l D B p e s m args below meth c H locs ls' C (aL.st1 (ls := ls) hl hs) R S
theorem awG_lstore_n {M : MI} {G : AG} {pc kc ks n : Nat} {lv : List (Option Value)} {h : Hp} {rest : List Value} {k : Fin 4} {i : Nat} {x : Int64} {lv' : List (Option Value)} (hdg : decode M.2.1 pc = .ok (.lstore_n k, 1)) (hi : (k : Nat) = i) (hn : i + 1 < M.2.2.1) (hs : aSt lv lv' i (.long x) true) (kk : AW M G (pc + 1) lv' rest kc ks n h) : AW M G pc lv (.long x :: rest) kc ks n h := fun l D B p e s m args below meth c H locs ls C L R S => lv_lstore_n C.1 C.2.1 hdg hi L.has hn rfl fun ls' hl => kk l D B p e s m args below meth c H locs ls' C (aL.st2 (ls := ls) hl hs) R S
theorem awG_lstore {M : MI} {G : AG} {pc kc ks n : Nat} {lv : List (Option Value)} {h : Hp} {rest : List Value} {i : Nat} {x : Int64} {lv' : List (Option Value)} (hdg : decode M.2.1 pc = .ok (.lstore i, 2)) (hn : i + 1 < M.2.2.1) (hs : aSt lv lv' i (.long x) true) (kk : AW M G (pc + 2) lv' rest kc ks n h) : AW M G pc lv (.long x :: rest) kc ks n h := fun l D B p e s m args below meth c H locs ls C L R S => lv_lstore C.1 C.2.1 hdg L.has hn rfl fun ls' hl => kk l D B p e s m args below meth c H locs ls' C (aL.st2 (ls := ls) hl hs) R S
theorem awG_astore_n {M : MI} {G : AG} {pc kc ks n : Nat} {lv : List (Option Value)} {h : Hp} {rest : List Value} {k : Fin 4} {i : Nat} {x : Nat} {lv' : List (Option Value)} (hdg : decode M.2.1 pc = .ok (.astore_n k, 1)) (hi : (k : Nat) = i) (hn : i < M.2.2.1) (hs : aSt lv lv' i (.ref x) false) (kk : AW M G (pc + 1) lv' rest kc ks n h) : AW M G pc lv (.ref x :: rest) kc ks n h := fun l D B p e s m args below meth c H locs ls C L R S => lv_astore_n C.1 C.2.1 hdg hi L.has hn rfl fun ls' hl => kk l D B p e s m args below meth c H locs ls' C (aL.st1 (ls := ls) hl hs) R S
theorem awG_astore {M : MI} {G : AG} {pc kc ks n : Nat} {lv : List (Option Value)} {h : Hp} {rest : List Value} {i : Nat} {x : Nat} {lv' : List (Option Value)} (hdg : decode M.2.1 pc = .ok (.astore i, 2)) (hn : i < M.2.2.1) (hs : aSt lv lv' i (.ref x) false) (kk : AW M G (pc + 2) lv' rest kc ks n h) : AW M G pc lv (.ref x :: rest) kc ks n h := fun l D B p e s m args below meth c H locs ls C L R S => lv_astore C.1 C.2.1 hdg L.has hn rfl fun ls' hl => kk l D B p e s m args below meth c H locs ls' C (aL.st1 (ls := ls) hl hs) R S
theorem awG_astore_nN {M : MI} {G : AG} {pc kc ks n : Nat} {lv : List (Option Value)} {h : Hp} {rest : List Value} {k : Fin 4} {i : Nat} {lv' : List (Option Value)} (hdg : decode M.2.1 pc = .ok (.astore_n k, 1)) (hi : (k : Nat) = i) (hn : i < M.2.2.1) (hs : aSt lv lv' i .null false) (kk : AW M G (pc + 1) lv' rest kc ks n h) : AW M G pc lv (.null :: rest) kc ks n h := fun l D B p e s m args below meth c H locs ls C L R S => lv_astore_nN C.1 C.2.1 hdg hi L.has hn rfl fun ls' hl => kk l D B p e s m args below meth c H locs ls' C (aL.st1 (ls := ls) hl hs) R S
theorem awG_astoreN {M : MI} {G : AG} {pc kc ks n : Nat} {lv : List (Option Value)} {h : Hp} {rest : List Value} {i : Nat} {lv' : List (Option Value)} (hdg : decode M.2.1 pc = .ok (.astore i, 2)) (hn : i < M.2.2.1) (hs : aSt lv lv' i .null false) (kk : AW M G (pc + 2) lv' rest kc ks n h) : AW M G pc lv (.null :: rest) kc ks n h := fun l D B p e s m args below meth c H locs ls C L R S => lv_astoreN C.1 C.2.1 hdg L.has hn rfl fun ls' hl => kk l D B p e s m args below meth c H locs ls' C (aL.st1 (ls := ls) hl hs) R S
theorem awG_iinc {M : MI} {G : AG} {pc kc ks n : Nat} {lv : List (Option Value)} {h : Hp} {rest : List Value} {i : Nat} {n0 : Int} {x c0 : Int32} {lv' : List (Option Value)} (hdg : decode M.2.1 pc = .ok (.iinc i n0, 3)) (hk : lv[i]? = some (some (.int x))) (hv : Int32.ofInt n0 = c0) (hn : i < M.2.2.1) (hs : aSt lv lv' i (.int (x + c0)) false) (kk : AW M G (pc + 3) lv' rest kc ks n h) : AW M G pc lv rest kc ks n h := by
  intro l D B p e s m args below meth c H locs ls C L R S
  obtain ⟨k, hk2⟩ := List.getElem?_of_mem (by simpa using enu_in lv 0 i _ hk)
  exact lv_iinc (v := x + c0) C.1 C.2.1 hdg L.has (k := k) hk2 (by rw [hv]) hn rfl fun ls' hl => kk l D B p e s m args below meth c H locs ls' C (aL.st1 (ls := ls) hl hs) R S
theorem aw_istore_0 {M : MI} {G : AG} {pc kc ks n : Nat} {h : Hp} {rest : List Value} {a0 : Option Value} {r : List (Option Value)} {x : Int32} (hdg : decode M.2.1 pc = .ok (.istore_n 0, 1)) (hn : 0 < M.2.2.1) (kk : AW M G (pc + 1) (some (.int x) :: r) rest kc ks n h) : AW M G pc (a0 :: r) (.int x :: rest) kc ks n h := awG_istore_n hdg rfl hn (aSt_1 [] a0 r _ (fun x q => by simp at q)) kk
theorem aw_astore_0 {M : MI} {G : AG} {pc kc ks n : Nat} {h : Hp} {rest : List Value} {a0 : Option Value} {r : List (Option Value)} {x : Nat} (hdg : decode M.2.1 pc = .ok (.astore_n 0, 1)) (hn : 0 < M.2.2.1) (kk : AW M G (pc + 1) (some (.ref x) :: r) rest kc ks n h) : AW M G pc (a0 :: r) (.ref x :: rest) kc ks n h := awG_astore_n hdg rfl hn (aSt_1 [] a0 r _ (fun x q => by simp at q)) kk
theorem aw_astore_0N {M : MI} {G : AG} {pc kc ks n : Nat} {h : Hp} {rest : List Value} {a0 : Option Value} {r : List (Option Value)} (hdg : decode M.2.1 pc = .ok (.astore_n 0, 1)) (hn : 0 < M.2.2.1) (kk : AW M G (pc + 1) (some (.null) :: r) rest kc ks n h) : AW M G pc (a0 :: r) (.null :: rest) kc ks n h := awG_astore_nN hdg rfl hn (aSt_1 [] a0 r _ (fun x q => by simp at q)) kk
theorem aw_lstore_0 {M : MI} {G : AG} {pc kc ks n : Nat} {h : Hp} {rest : List Value} {a0 a1 : Option Value} {r : List (Option Value)} {x : Int64} (hdg : decode M.2.1 pc = .ok (.lstore_n 0, 1)) (hn : 1 < M.2.2.1) (kk : AW M G (pc + 1) (some (.long x) :: none :: r) rest kc ks n h) : AW M G pc (a0 :: a1 :: r) (.long x :: rest) kc ks n h := awG_lstore_n hdg rfl hn (aSt_2 [] a0 a1 r _ (fun x q => by simp at q)) kk
theorem aw_iinc_0 {M : MI} {G : AG} {pc kc ks n : Nat} {h : Hp} {rest : List Value} {r : List (Option Value)} {n0 : Int} {x c0 : Int32} (hdg : decode M.2.1 pc = .ok (.iinc 0 n0, 3)) (hv : Int32.ofInt n0 = c0) (hn : 0 < M.2.2.1) (kk : AW M G (pc + 3) (some (.int (x + c0)) :: r) rest kc ks n h) : AW M G pc (some (.int x) :: r) rest kc ks n h := awG_iinc hdg rfl hv hn (aSt_1 [] (some (.int x)) r _ (fun x q => by simp at q)) kk
theorem aw_istore_1 {M : MI} {G : AG} {pc kc ks n : Nat} {h : Hp} {rest : List Value} {a0 a1 : Option Value} {r : List (Option Value)} {x : Int32} (hdg : decode M.2.1 pc = .ok (.istore_n 1, 1)) (hn : 1 < M.2.2.1) (h2 : nl2 a0 = true) (kk : AW M G (pc + 1) (a0 :: some (.int x) :: r) rest kc ks n h) : AW M G pc (a0 :: a1 :: r) (.int x :: rest) kc ks n h := awG_istore_n hdg rfl hn (aSt_1 [a0] a1 r _ (fun x q => by simp at q; rw [← q]; exact h2)) kk
theorem aw_astore_1 {M : MI} {G : AG} {pc kc ks n : Nat} {h : Hp} {rest : List Value} {a0 a1 : Option Value} {r : List (Option Value)} {x : Nat} (hdg : decode M.2.1 pc = .ok (.astore_n 1, 1)) (hn : 1 < M.2.2.1) (h2 : nl2 a0 = true) (kk : AW M G (pc + 1) (a0 :: some (.ref x) :: r) rest kc ks n h) : AW M G pc (a0 :: a1 :: r) (.ref x :: rest) kc ks n h := awG_astore_n hdg rfl hn (aSt_1 [a0] a1 r _ (fun x q => by simp at q; rw [← q]; exact h2)) kk
theorem aw_astore_1N {M : MI} {G : AG} {pc kc ks n : Nat} {h : Hp} {rest : List Value} {a0 a1 : Option Value} {r : List (Option Value)} (hdg : decode M.2.1 pc = .ok (.astore_n 1, 1)) (hn : 1 < M.2.2.1) (h2 : nl2 a0 = true) (kk : AW M G (pc + 1) (a0 :: some (.null) :: r) rest kc ks n h) : AW M G pc (a0 :: a1 :: r) (.null :: rest) kc ks n h := awG_astore_nN hdg rfl hn (aSt_1 [a0] a1 r _ (fun x q => by simp at q; rw [← q]; exact h2)) kk
theorem aw_lstore_1 {M : MI} {G : AG} {pc kc ks n : Nat} {h : Hp} {rest : List Value} {a0 a1 a2 : Option Value} {r : List (Option Value)} {x : Int64} (hdg : decode M.2.1 pc = .ok (.lstore_n 1, 1)) (hn : 2 < M.2.2.1) (h2 : nl2 a0 = true) (kk : AW M G (pc + 1) (a0 :: some (.long x) :: none :: r) rest kc ks n h) : AW M G pc (a0 :: a1 :: a2 :: r) (.long x :: rest) kc ks n h := awG_lstore_n hdg rfl hn (aSt_2 [a0] a1 a2 r _ (fun x q => by simp at q; rw [← q]; exact h2)) kk
theorem aw_iinc_1 {M : MI} {G : AG} {pc kc ks n : Nat} {h : Hp} {rest : List Value} {a0 : Option Value} {r : List (Option Value)} {n0 : Int} {x c0 : Int32} (hdg : decode M.2.1 pc = .ok (.iinc 1 n0, 3)) (hv : Int32.ofInt n0 = c0) (hn : 1 < M.2.2.1) (h2 : nl2 a0 = true) (kk : AW M G (pc + 3) (a0 :: some (.int (x + c0)) :: r) rest kc ks n h) : AW M G pc (a0 :: some (.int x) :: r) rest kc ks n h := awG_iinc hdg rfl hv hn (aSt_1 [a0] (some (.int x)) r _ (fun x q => by simp at q; rw [← q]; exact h2)) kk
theorem aw_istore_2 {M : MI} {G : AG} {pc kc ks n : Nat} {h : Hp} {rest : List Value} {a0 a1 a2 : Option Value} {r : List (Option Value)} {x : Int32} (hdg : decode M.2.1 pc = .ok (.istore_n 2, 1)) (hn : 2 < M.2.2.1) (h2 : nl2 a1 = true) (kk : AW M G (pc + 1) (a0 :: a1 :: some (.int x) :: r) rest kc ks n h) : AW M G pc (a0 :: a1 :: a2 :: r) (.int x :: rest) kc ks n h := awG_istore_n hdg rfl hn (aSt_1 [a0, a1] a2 r _ (fun x q => by simp at q; rw [← q]; exact h2)) kk
theorem aw_astore_2 {M : MI} {G : AG} {pc kc ks n : Nat} {h : Hp} {rest : List Value} {a0 a1 a2 : Option Value} {r : List (Option Value)} {x : Nat} (hdg : decode M.2.1 pc = .ok (.astore_n 2, 1)) (hn : 2 < M.2.2.1) (h2 : nl2 a1 = true) (kk : AW M G (pc + 1) (a0 :: a1 :: some (.ref x) :: r) rest kc ks n h) : AW M G pc (a0 :: a1 :: a2 :: r) (.ref x :: rest) kc ks n h := awG_astore_n hdg rfl hn (aSt_1 [a0, a1] a2 r _ (fun x q => by simp at q; rw [← q]; exact h2)) kk
theorem aw_astore_2N {M : MI} {G : AG} {pc kc ks n : Nat} {h : Hp} {rest : List Value} {a0 a1 a2 : Option Value} {r : List (Option Value)} (hdg : decode M.2.1 pc = .ok (.astore_n 2, 1)) (hn : 2 < M.2.2.1) (h2 : nl2 a1 = true) (kk : AW M G (pc + 1) (a0 :: a1 :: some (.null) :: r) rest kc ks n h) : AW M G pc (a0 :: a1 :: a2 :: r) (.null :: rest) kc ks n h := awG_astore_nN hdg rfl hn (aSt_1 [a0, a1] a2 r _ (fun x q => by simp at q; rw [← q]; exact h2)) kk
theorem aw_lstore_2 {M : MI} {G : AG} {pc kc ks n : Nat} {h : Hp} {rest : List Value} {a0 a1 a2 a3 : Option Value} {r : List (Option Value)} {x : Int64} (hdg : decode M.2.1 pc = .ok (.lstore_n 2, 1)) (hn : 3 < M.2.2.1) (h2 : nl2 a1 = true) (kk : AW M G (pc + 1) (a0 :: a1 :: some (.long x) :: none :: r) rest kc ks n h) : AW M G pc (a0 :: a1 :: a2 :: a3 :: r) (.long x :: rest) kc ks n h := awG_lstore_n hdg rfl hn (aSt_2 [a0, a1] a2 a3 r _ (fun x q => by simp at q; rw [← q]; exact h2)) kk
theorem aw_iinc_2 {M : MI} {G : AG} {pc kc ks n : Nat} {h : Hp} {rest : List Value} {a0 a1 : Option Value} {r : List (Option Value)} {n0 : Int} {x c0 : Int32} (hdg : decode M.2.1 pc = .ok (.iinc 2 n0, 3)) (hv : Int32.ofInt n0 = c0) (hn : 2 < M.2.2.1) (h2 : nl2 a1 = true) (kk : AW M G (pc + 3) (a0 :: a1 :: some (.int (x + c0)) :: r) rest kc ks n h) : AW M G pc (a0 :: a1 :: some (.int x) :: r) rest kc ks n h := awG_iinc hdg rfl hv hn (aSt_1 [a0, a1] (some (.int x)) r _ (fun x q => by simp at q; rw [← q]; exact h2)) kk
theorem aw_istore_3 {M : MI} {G : AG} {pc kc ks n : Nat} {h : Hp} {rest : List Value} {a0 a1 a2 a3 : Option Value} {r : List (Option Value)} {x : Int32} (hdg : decode M.2.1 pc = .ok (.istore_n 3, 1)) (hn : 3 < M.2.2.1) (h2 : nl2 a2 = true) (kk : AW M G (pc + 1) (a0 :: a1 :: a2 :: some (.int x) :: r) rest kc ks n h) : AW M G pc (a0 :: a1 :: a2 :: a3 :: r) (.int x :: rest) kc ks n h := awG_istore_n hdg rfl hn (aSt_1 [a0, a1, a2] a3 r _ (fun x q => by simp at q; rw [← q]; exact h2)) kk
theorem aw_astore_3 {M : MI} {G : AG} {pc kc ks n : Nat} {h : Hp} {rest : List Value} {a0 a1 a2 a3 : Option Value} {r : List (Option Value)} {x : Nat} (hdg : decode M.2.1 pc = .ok (.astore_n 3, 1)) (hn : 3 < M.2.2.1) (h2 : nl2 a2 = true) (kk : AW M G (pc + 1) (a0 :: a1 :: a2 :: some (.ref x) :: r) rest kc ks n h) : AW M G pc (a0 :: a1 :: a2 :: a3 :: r) (.ref x :: rest) kc ks n h := awG_astore_n hdg rfl hn (aSt_1 [a0, a1, a2] a3 r _ (fun x q => by simp at q; rw [← q]; exact h2)) kk
theorem aw_astore_3N {M : MI} {G : AG} {pc kc ks n : Nat} {h : Hp} {rest : List Value} {a0 a1 a2 a3 : Option Value} {r : List (Option Value)} (hdg : decode M.2.1 pc = .ok (.astore_n 3, 1)) (hn : 3 < M.2.2.1) (h2 : nl2 a2 = true) (kk : AW M G (pc + 1) (a0 :: a1 :: a2 :: some (.null) :: r) rest kc ks n h) : AW M G pc (a0 :: a1 :: a2 :: a3 :: r) (.null :: rest) kc ks n h := awG_astore_nN hdg rfl hn (aSt_1 [a0, a1, a2] a3 r _ (fun x q => by simp at q; rw [← q]; exact h2)) kk
theorem aw_lstore_3 {M : MI} {G : AG} {pc kc ks n : Nat} {h : Hp} {rest : List Value} {a0 a1 a2 a3 a4 : Option Value} {r : List (Option Value)} {x : Int64} (hdg : decode M.2.1 pc = .ok (.lstore_n 3, 1)) (hn : 4 < M.2.2.1) (h2 : nl2 a2 = true) (kk : AW M G (pc + 1) (a0 :: a1 :: a2 :: some (.long x) :: none :: r) rest kc ks n h) : AW M G pc (a0 :: a1 :: a2 :: a3 :: a4 :: r) (.long x :: rest) kc ks n h := awG_lstore_n hdg rfl hn (aSt_2 [a0, a1, a2] a3 a4 r _ (fun x q => by simp at q; rw [← q]; exact h2)) kk
theorem aw_iinc_3 {M : MI} {G : AG} {pc kc ks n : Nat} {h : Hp} {rest : List Value} {a0 a1 a2 : Option Value} {r : List (Option Value)} {n0 : Int} {x c0 : Int32} (hdg : decode M.2.1 pc = .ok (.iinc 3 n0, 3)) (hv : Int32.ofInt n0 = c0) (hn : 3 < M.2.2.1) (h2 : nl2 a2 = true) (kk : AW M G (pc + 3) (a0 :: a1 :: a2 :: some (.int (x + c0)) :: r) rest kc ks n h) : AW M G pc (a0 :: a1 :: a2 :: some (.int x) :: r) rest kc ks n h := awG_iinc hdg rfl hv hn (aSt_1 [a0, a1, a2] (some (.int x)) r _ (fun x q => by simp at q; rw [← q]; exact h2)) kk
theorem aw_istore_4 {M : MI} {G : AG} {pc kc ks n : Nat} {h : Hp} {rest : List Value} {a0 a1 a2 a3 a4 : Option Value} {r : List (Option Value)} {x : Int32} (hdg : decode M.2.1 pc = .ok (.istore 4, 2)) (hn : 4 < M.2.2.1) (h2 : nl2 a3 = true) (kk : AW M G (pc + 2) (a0 :: a1 :: a2 :: a3 :: some (.int x) :: r) rest kc ks n h) : AW M G pc (a0 :: a1 :: a2 :: a3 :: a4 :: r) (.int x :: rest) kc ks n h := awG_istore hdg hn (aSt_1 [a0, a1, a2, a3] a4 r _ (fun x q => by simp at q; rw [← q]; exact h2)) kk
theorem aw_astore_4 {M : MI} {G : AG} {pc kc ks n : Nat} {h : Hp} {rest : List Value} {a0 a1 a2 a3 a4 : Option Value} {r : List (Option Value)} {x : Nat} (hdg : decode M.2.1 pc = .ok (.astore 4, 2)) (hn : 4 < M.2.2.1) (h2 : nl2 a3 = true) (kk : AW M G (pc + 2) (a0 :: a1 :: a2 :: a3 :: some (.ref x) :: r) rest kc ks n h) : AW M G pc (a0 :: a1 :: a2 :: a3 :: a4 :: r) (.ref x :: rest) kc ks n h := awG_astore hdg hn (aSt_1 [a0, a1, a2, a3] a4 r _ (fun x q => by simp at q; rw [← q]; exact h2)) kk
theorem aw_astore_4N {M : MI} {G : AG} {pc kc ks n : Nat} {h : Hp} {rest : List Value} {a0 a1 a2 a3 a4 : Option Value} {r : List (Option Value)} (hdg : decode M.2.1 pc = .ok (.astore 4, 2)) (hn : 4 < M.2.2.1) (h2 : nl2 a3 = true) (kk : AW M G (pc + 2) (a0 :: a1 :: a2 :: a3 :: some (.null) :: r) rest kc ks n h) : AW M G pc (a0 :: a1 :: a2 :: a3 :: a4 :: r) (.null :: rest) kc ks n h := awG_astoreN hdg hn (aSt_1 [a0, a1, a2, a3] a4 r _ (fun x q => by simp at q; rw [← q]; exact h2)) kk
theorem aw_lstore_4 {M : MI} {G : AG} {pc kc ks n : Nat} {h : Hp} {rest : List Value} {a0 a1 a2 a3 a4 a5 : Option Value} {r : List (Option Value)} {x : Int64} (hdg : decode M.2.1 pc = .ok (.lstore 4, 2)) (hn : 5 < M.2.2.1) (h2 : nl2 a3 = true) (kk : AW M G (pc + 2) (a0 :: a1 :: a2 :: a3 :: some (.long x) :: none :: r) rest kc ks n h) : AW M G pc (a0 :: a1 :: a2 :: a3 :: a4 :: a5 :: r) (.long x :: rest) kc ks n h := awG_lstore hdg hn (aSt_2 [a0, a1, a2, a3] a4 a5 r _ (fun x q => by simp at q; rw [← q]; exact h2)) kk
theorem aw_iinc_4 {M : MI} {G : AG} {pc kc ks n : Nat} {h : Hp} {rest : List Value} {a0 a1 a2 a3 : Option Value} {r : List (Option Value)} {n0 : Int} {x c0 : Int32} (hdg : decode M.2.1 pc = .ok (.iinc 4 n0, 3)) (hv : Int32.ofInt n0 = c0) (hn : 4 < M.2.2.1) (h2 : nl2 a3 = true) (kk : AW M G (pc + 3) (a0 :: a1 :: a2 :: a3 :: some (.int (x + c0)) :: r) rest kc ks n h) : AW M G pc (a0 :: a1 :: a2 :: a3 :: some (.int x) :: r) rest kc ks n h := awG_iinc hdg rfl hv hn (aSt_1 [a0, a1, a2, a3] (some (.int x)) r _ (fun x q => by simp at q; rw [← q]; exact h2)) kk
theorem aw_istore_5 {M : MI} {G : AG} {pc kc ks n : Nat} {h : Hp} {rest : List Value} {a0 a1 a2 a3 a4 a5 : Option Value} {r : List (Option Value)} {x : Int32} (hdg : decode M.2.1 pc = .ok (.istore 5, 2)) (hn : 5 < M.2.2.1) (h2 : nl2 a4 = true) (kk : AW M G (pc + 2) (a0 :: a1 :: a2 :: a3 :: a4 :: some (.int x) :: r) rest kc ks n h) : AW M G pc (a0 :: a1 :: a2 :: a3 :: a4 :: a5 :: r) (.int x :: rest) kc ks n h := awG_istore hdg hn (aSt_1 [a0, a1, a2, a3, a4] a5 r _ (fun x q => by simp at q; rw [← q]; exact h2)) kk
theorem aw_astore_5 {M : MI} {G : AG} {pc kc ks n : Nat} {h : Hp} {rest : List Value} {a0 a1 a2 a3 a4 a5 : Option Value} {r : List (Option Value)} {x : Nat} (hdg : decode M.2.1 pc = .ok (.astore 5, 2)) (hn : 5 < M.2.2.1) (h2 : nl2 a4 = true) (kk : AW M G (pc + 2) (a0 :: a1 :: a2 :: a3 :: a4 :: some (.ref x) :: r) rest kc ks n h) : AW M G pc (a0 :: a1 :: a2 :: a3 :: a4 :: a5 :: r) (.ref x :: rest) kc ks n h := awG_astore hdg hn (aSt_1 [a0, a1, a2, a3, a4] a5 r _ (fun x q => by simp at q; rw [← q]; exact h2)) kk
theorem aw_astore_5N {M : MI} {G : AG} {pc kc ks n : Nat} {h : Hp} {rest : List Value} {a0 a1 a2 a3 a4 a5 : Option Value} {r : List (Option Value)} (hdg : decode M.2.1 pc = .ok (.astore 5, 2)) (hn : 5 < M.2.2.1) (h2 : nl2 a4 = true) (kk : AW M G (pc + 2) (a0 :: a1 :: a2 :: a3 :: a4 :: some (.null) :: r) rest kc ks n h) : AW M G pc (a0 :: a1 :: a2 :: a3 :: a4 :: a5 :: r) (.null :: rest) kc ks n h := awG_astoreN hdg hn (aSt_1 [a0, a1, a2, a3, a4] a5 r _ (fun x q => by simp at q; rw [← q]; exact h2)) kk
theorem aw_lstore_5 {M : MI} {G : AG} {pc kc ks n : Nat} {h : Hp} {rest : List Value} {a0 a1 a2 a3 a4 a5 a6 : Option Value} {r : List (Option Value)} {x : Int64} (hdg : decode M.2.1 pc = .ok (.lstore 5, 2)) (hn : 6 < M.2.2.1) (h2 : nl2 a4 = true) (kk : AW M G (pc + 2) (a0 :: a1 :: a2 :: a3 :: a4 :: some (.long x) :: none :: r) rest kc ks n h) : AW M G pc (a0 :: a1 :: a2 :: a3 :: a4 :: a5 :: a6 :: r) (.long x :: rest) kc ks n h := awG_lstore hdg hn (aSt_2 [a0, a1, a2, a3, a4] a5 a6 r _ (fun x q => by simp at q; rw [← q]; exact h2)) kk
theorem aw_iinc_5 {M : MI} {G : AG} {pc kc ks n : Nat} {h : Hp} {rest : List Value} {a0 a1 a2 a3 a4 : Option Value} {r : List (Option Value)} {n0 : Int} {x c0 : Int32} (hdg : decode M.2.1 pc = .ok (.iinc 5 n0, 3)) (hv : Int32.ofInt n0 = c0) (hn : 5 < M.2.2.1) (h2 : nl2 a4 = true) (kk : AW M G (pc + 3) (a0 :: a1 :: a2 :: a3 :: a4 :: some (.int (x + c0)) :: r) rest kc ks n h) : AW M G pc (a0 :: a1 :: a2 :: a3 :: a4 :: some (.int x) :: r) rest kc ks n h := awG_iinc hdg rfl hv hn (aSt_1 [a0, a1, a2, a3, a4] (some (.int x)) r _ (fun x q => by simp at q; rw [← q]; exact h2)) kk
theorem aw_istore_6 {M : MI} {G : AG} {pc kc ks n : Nat} {h : Hp} {rest : List Value} {a0 a1 a2 a3 a4 a5 a6 : Option Value} {r : List (Option Value)} {x : Int32} (hdg : decode M.2.1 pc = .ok (.istore 6, 2)) (hn : 6 < M.2.2.1) (h2 : nl2 a5 = true) (kk : AW M G (pc + 2) (a0 :: a1 :: a2 :: a3 :: a4 :: a5 :: some (.int x) :: r) rest kc ks n h) : AW M G pc (a0 :: a1 :: a2 :: a3 :: a4 :: a5 :: a6 :: r) (.int x :: rest) kc ks n h := awG_istore hdg hn (aSt_1 [a0, a1, a2, a3, a4, a5] a6 r _ (fun x q => by simp at q; rw [← q]; exact h2)) kk
theorem aw_astore_6 {M : MI} {G : AG} {pc kc ks n : Nat} {h : Hp} {rest : List Value} {a0 a1 a2 a3 a4 a5 a6 : Option Value} {r : List (Option Value)} {x : Nat} (hdg : decode M.2.1 pc = .ok (.astore 6, 2)) (hn : 6 < M.2.2.1) (h2 : nl2 a5 = true) (kk : AW M G (pc + 2) (a0 :: a1 :: a2 :: a3 :: a4 :: a5 :: some (.ref x) :: r) rest kc ks n h) : AW M G pc (a0 :: a1 :: a2 :: a3 :: a4 :: a5 :: a6 :: r) (.ref x :: rest) kc ks n h := awG_astore hdg hn (aSt_1 [a0, a1, a2, a3, a4, a5] a6 r _ (fun x q => by simp at q; rw [← q]; exact h2)) kk
theorem aw_astore_6N {M : MI} {G : AG} {pc kc ks n : Nat} {h : Hp} {rest : List Value} {a0 a1 a2 a3 a4 a5 a6 : Option Value} {r : List (Option Value)} (hdg : decode M.2.1 pc = .ok (.astore 6, 2)) (hn : 6 < M.2.2.1) (h2 : nl2 a5 = true) (kk : AW M G (pc + 2) (a0 :: a1 :: a2 :: a3 :: a4 :: a5 :: some (.null) :: r) rest kc ks n h) : AW M G pc (a0 :: a1 :: a2 :: a3 :: a4 :: a5 :: a6 :: r) (.null :: rest) kc ks n h := awG_astoreN hdg hn (aSt_1 [a0, a1, a2, a3, a4, a5] a6 r _ (fun x q => by simp at q; rw [← q]; exact h2)) kk
theorem aw_lstore_6 {M : MI} {G : AG} {pc kc ks n : Nat} {h : Hp} {rest : List Value} {a0 a1 a2 a3 a4 a5 a6 a7 : Option Value} {r : List (Option Value)} {x : Int64} (hdg : decode M.2.1 pc = .ok (.lstore 6, 2)) (hn : 7 < M.2.2.1) (h2 : nl2 a5 = true) (kk : AW M G (pc + 2) (a0 :: a1 :: a2 :: a3 :: a4 :: a5 :: some (.long x) :: none :: r) rest kc ks n h) : AW M G pc (a0 :: a1 :: a2 :: a3 :: a4 :: a5 :: a6 :: a7 :: r) (.long x :: rest) kc ks n h := awG_lstore hdg hn (aSt_2 [a0, a1, a2, a3, a4, a5] a6 a7 r _ (fun x q => by simp at q; rw [← q]; exact h2)) kk
theorem aw_iinc_6 {M : MI} {G : AG} {pc kc ks n : Nat} {h : Hp} {rest : List Value} {a0 a1 a2 a3 a4 a5 : Option Value} {r : List (Option Value)} {n0 : Int} {x c0 : Int32} (hdg : decode M.2.1 pc = .ok (.iinc 6 n0, 3)) (hv : Int32.ofInt n0 = c0) (hn : 6 < M.2.2.1) (h2 : nl2 a5 = true) (kk : AW M G (pc + 3) (a0 :: a1 :: a2 :: a3 :: a4 :: a5 :: some (.int (x + c0)) :: r) rest kc ks n h) : AW M G pc (a0 :: a1 :: a2 :: a3 :: a4 :: a5 :: some (.int x) :: r) rest kc ks n h := awG_iinc hdg rfl hv hn (aSt_1 [a0, a1, a2, a3, a4, a5] (some (.int x)) r _ (fun x q => by simp at q; rw [← q]; exact h2)) kk
theorem aw_istore_7 {M : MI} {G : AG} {pc kc ks n : Nat} {h : Hp} {rest : List Value} {a0 a1 a2 a3 a4 a5 a6 a7 : Option Value} {r : List (Option Value)} {x : Int32} (hdg : decode M.2.1 pc = .ok (.istore 7, 2)) (hn : 7 < M.2.2.1) (h2 : nl2 a6 = true) (kk : AW M G (pc + 2) (a0 :: a1 :: a2 :: a3 :: a4 :: a5 :: a6 :: some (.int x) :: r) rest kc ks n h) : AW M G pc (a0 :: a1 :: a2 :: a3 :: a4 :: a5 :: a6 :: a7 :: r) (.int x :: rest) kc ks n h := awG_istore hdg hn (aSt_1 [a0, a1, a2, a3, a4, a5, a6] a7 r _ (fun x q => by simp at q; rw [← q]; exact h2)) kk
theorem aw_astore_7 {M : MI} {G : AG} {pc kc ks n : Nat} {h : Hp} {rest : List Value} {a0 a1 a2 a3 a4 a5 a6 a7 : Option Value} {r : List (Option Value)} {x : Nat} (hdg : decode M.2.1 pc = .ok (.astore 7, 2)) (hn : 7 < M.2.2.1) (h2 : nl2 a6 = true) (kk : AW M G (pc + 2) (a0 :: a1 :: a2 :: a3 :: a4 :: a5 :: a6 :: some (.ref x) :: r) rest kc ks n h) : AW M G pc (a0 :: a1 :: a2 :: a3 :: a4 :: a5 :: a6 :: a7 :: r) (.ref x :: rest) kc ks n h := awG_astore hdg hn (aSt_1 [a0, a1, a2, a3, a4, a5, a6] a7 r _ (fun x q => by simp at q; rw [← q]; exact h2)) kk
theorem aw_astore_7N {M : MI} {G : AG} {pc kc ks n : Nat} {h : Hp} {rest : List Value} {a0 a1 a2 a3 a4 a5 a6 a7 : Option Value} {r : List (Option Value)} (hdg : decode M.2.1 pc = .ok (.astore 7, 2)) (hn : 7 < M.2.2.1) (h2 : nl2 a6 = true) (kk : AW M G (pc + 2) (a0 :: a1 :: a2 :: a3 :: a4 :: a5 :: a6 :: some (.null) :: r) rest kc ks n h) : AW M G pc (a0 :: a1 :: a2 :: a3 :: a4 :: a5 :: a6 :: a7 :: r) (.null :: rest) kc ks n h := awG_astoreN hdg hn (aSt_1 [a0, a1, a2, a3, a4, a5, a6] a7 r _ (fun x q => by simp at q; rw [← q]; exact h2)) kk
theorem aw_lstore_7 {M : MI} {G : AG} {pc kc ks n : Nat} {h : Hp} {rest : List Value} {a0 a1 a2 a3 a4 a5 a6 a7 a8 : Option Value} {r : List (Option Value)} {x : Int64} (hdg : decode M.2.1 pc = .ok (.lstore 7, 2)) (hn : 8 < M.2.2.1) (h2 : nl2 a6 = true) (kk : AW M G (pc + 2) (a0 :: a1 :: a2 :: a3 :: a4 :: a5 :: a6 :: some (.long x) :: none :: r) rest kc ks n h) : AW M G pc (a0 :: a1 :: a2 :: a3 :: a4 :: a5 :: a6 :: a7 :: a8 :: r) (.long x :: rest) kc ks n h := awG_lstore hdg hn (aSt_2 [a0, a1, a2, a3, a4, a5, a6] a7 a8 r _ (fun x q => by simp at q; rw [← q]; exact h2)) kk
theorem aw_iinc_7 {M : MI} {G : AG} {pc kc ks n : Nat} {h : Hp} {rest : List Value} {a0 a1 a2 a3 a4 a5 a6 : Option Value} {r : List (Option Value)} {n0 : Int} {x c0 : Int32} (hdg : decode M.2.1 pc = .ok (.iinc 7 n0, 3)) (hv : Int32.ofInt n0 = c0) (hn : 7 < M.2.2.1) (h2 : nl2 a6 = true) (kk : AW M G (pc + 3) (a0 :: a1 :: a2 :: a3 :: a4 :: a5 :: a6 :: some (.int (x + c0)) :: r) rest kc ks n h) : AW M G pc (a0 :: a1 :: a2 :: a3 :: a4 :: a5 :: a6 :: some (.int x) :: r) rest kc ks n h := awG_iinc hdg rfl hv hn (aSt_1 [a0, a1, a2, a3, a4, a5, a6] (some (.int x)) r _ (fun x q => by simp at q; rw [← q]; exact h2)) kk
theorem aw_istore_8 {M : MI} {G : AG} {pc kc ks n : Nat} {h : Hp} {rest : List Value} {a0 a1 a2 a3 a4 a5 a6 a7 a8 : Option Value} {r : List (Option Value)} {x : Int32} (hdg : decode M.2.1 pc = .ok (.istore 8, 2)) (hn : 8 < M.2.2.1) (h2 : nl2 a7 = true) (kk : AW M G (pc + 2) (a0 :: a1 :: a2 :: a3 :: a4 :: a5 :: a6 :: a7 :: some (.int x) :: r) rest kc ks n h) : AW M G pc (a0 :: a1 :: a2 :: a3 :: a4 :: a5 :: a6 :: a7 :: a8 :: r) (.int x :: rest) kc ks n h := awG_istore hdg hn (aSt_1 [a0, a1, a2, a3, a4, a5, a6, a7] a8 r _ (fun x q => by simp at q; rw [← q]; exact h2)) kk
theorem aw_astore_8 {M : MI} {G : AG} {pc kc ks n : Nat} {h : Hp} {rest : List Value} {a0 a1 a2 a3 a4 a5 a6 a7 a8 : Option Value} {r : List (Option Value)} {x : Nat} (hdg : decode M.2.1 pc = .ok (.astore 8, 2)) (hn : 8 < M.2.2.1) (h2 : nl2 a7 = true) (kk : AW M G (pc + 2) (a0 :: a1 :: a2 :: a3 :: a4 :: a5 :: a6 :: a7 :: some (.ref x) :: r) rest kc ks n h) : AW M G pc (a0 :: a1 :: a2 :: a3 :: a4 :: a5 :: a6 :: a7 :: a8 :: r) (.ref x :: rest) kc ks n h := awG_astore hdg hn (aSt_1 [a0, a1, a2, a3, a4, a5, a6, a7] a8 r _ (fun x q => by simp at q; rw [← q]; exact h2)) kk
theorem aw_astore_8N {M : MI} {G : AG} {pc kc ks n : Nat} {h : Hp} {rest : List Value} {a0 a1 a2 a3 a4 a5 a6 a7 a8 : Option Value} {r : List (Option Value)} (hdg : decode M.2.1 pc = .ok (.astore 8, 2)) (hn : 8 < M.2.2.1) (h2 : nl2 a7 = true) (kk : AW M G (pc + 2) (a0 :: a1 :: a2 :: a3 :: a4 :: a5 :: a6 :: a7 :: some (.null) :: r) rest kc ks n h) : AW M G pc (a0 :: a1 :: a2 :: a3 :: a4 :: a5 :: a6 :: a7 :: a8 :: r) (.null :: rest) kc ks n h := awG_astoreN hdg hn (aSt_1 [a0, a1, a2, a3, a4, a5, a6, a7] a8 r _ (fun x q => by simp at q; rw [← q]; exact h2)) kk
theorem aw_lstore_8 {M : MI} {G : AG} {pc kc ks n : Nat} {h : Hp} {rest : List Value} {a0 a1 a2 a3 a4 a5 a6 a7 a8 a9 : Option Value} {r : List (Option Value)} {x : Int64} (hdg : decode M.2.1 pc = .ok (.lstore 8, 2)) (hn : 9 < M.2.2.1) (h2 : nl2 a7 = true) (kk : AW M G (pc + 2) (a0 :: a1 :: a2 :: a3 :: a4 :: a5 :: a6 :: a7 :: some (.long x) :: none :: r) rest kc ks n h) : AW M G pc (a0 :: a1 :: a2 :: a3 :: a4 :: a5 :: a6 :: a7 :: a8 :: a9 :: r) (.long x :: rest) kc ks n h := awG_lstore hdg hn (aSt_2 [a0, a1, a2, a3, a4, a5, a6, a7] a8 a9 r _ (fun x q => by simp at q; rw [← q]; exact h2)) kk
theorem aw_iinc_8 {M : MI} {G : AG} {pc kc ks n : Nat} {h : Hp} {rest : List Value} {a0 a1 a2 a3 a4 a5 a6 a7 : Option Value} {r : List (Option Value)} {n0 : Int} {x c0 : Int32} (hdg : decode M.2.1 pc = .ok (.iinc 8 n0, 3)) (hv : Int32.ofInt n0 = c0) (hn : 8 < M.2.2.1) (h2 : nl2 a7 = true) (kk : AW M G (pc + 3) (a0 :: a1 :: a2 :: a3 :: a4 :: a5 :: a6 :: a7 :: some (.int (x + c0)) :: r) rest kc ks n h) : AW M G pc (a0 :: a1 :: a2 :: a3 :: a4 :: a5 :: a6 :: a7 :: some (.int x) :: r) rest kc ks n h := awG_iinc hdg rfl hv hn (aSt_1 [a0, a1, a2, a3, a4, a5, a6, a7] (some (.int x)) r _ (fun x q => by simp at q; rw [← q]; exact h2)) kk
theorem aw_istore_9 {M : MI} {G : AG} {pc kc ks n : Nat} {h : Hp} {rest : List Value} {a0 a1 a2 a3 a4 a5 a6 a7 a8 a9 : Option Value} {r : List (Option Value)} {x : Int32} (hdg : decode M.2.1 pc = .ok (.istore 9, 2)) (hn : 9 < M.2.2.1) (h2 : nl2 a8 = true) (kk : AW M G (pc + 2) (a0 :: a1 :: a2 :: a3 :: a4 :: a5 :: a6 :: a7 :: a8 :: some (.int x) :: r) rest kc ks n h) : AW M G pc (a0 :: a1 :: a2 :: a3 :: a4 :: a5 :: a6 :: a7 :: a8 :: a9 :: r) (.int x :: rest) kc ks n h := awG_istore hdg hn (aSt_1 [a0, a1, a2, a3, a4, a5, a6, a7, a8] a9 r _ (fun x q => by simp at q; rw [← q]; exact h2)) kk
theorem aw_astore_9 {M : MI} {G : AG} {pc kc ks n : Nat} {h : Hp} {rest : List Value} {a0 a1 a2 a3 a4 a5 a6 a7 a8 a9 : Option Value} {r : List (Option Value)} {x : Nat} (hdg : decode M.2.1 pc = .ok (.astore 9, 2)) (hn : 9 < M.2.2.1) (h2 : nl2 a8 = true) (kk : AW M G (pc + 2) (a0 :: a1 :: a2 :: a3 :: a4 :: a5 :: a6 :: a7 :: a8 :: some (.ref x) :: r) rest kc ks n h) : AW M G pc (a0 :: a1 :: a2 :: a3 :: a4 :: a5 :: a6 :: a7 :: a8 :: a9 :: r) (.ref x :: rest) kc ks n h := awG_astore hdg hn (aSt_1 [a0, a1, a2, a3, a4, a5, a6, a7, a8] a9 r _ (fun x q => by simp at q; rw [← q]; exact h2)) kk
theorem aw_astore_9N {M : MI} {G : AG} {pc kc ks n : Nat} {h : Hp} {rest : List Value} {a0 a1 a2 a3 a4 a5 a6 a7 a8 a9 : Option Value} {r : List (Option Value)} (hdg : decode M.2.1 pc = .ok (.astore 9, 2)) (hn : 9 < M.2.2.1) (h2 : nl2 a8 = true) (kk : AW M G (pc + 2) (a0 :: a1 :: a2 :: a3 :: a4 :: a5 :: a6 :: a7 :: a8 :: some (.null) :: r) rest kc ks n h) : AW M G pc (a0 :: a1 :: a2 :: a3 :: a4 :: a5 :: a6 :: a7 :: a8 :: a9 :: r) (.null :: rest) kc ks n h := awG_astoreN hdg hn (aSt_1 [a0, a1, a2, a3, a4, a5, a6, a7, a8] a9 r _ (fun x q => by simp at q; rw [← q]; exact h2)) kk
theorem aw_lstore_9 {M : MI} {G : AG} {pc kc ks n : Nat} {h : Hp} {rest : List Value} {a0 a1 a2 a3 a4 a5 a6 a7 a8 a9 a10 : Option Value} {r : List (Option Value)} {x : Int64} (hdg : decode M.2.1 pc = .ok (.lstore 9, 2)) (hn : 10 < M.2.2.1) (h2 : nl2 a8 = true) (kk : AW M G (pc + 2) (a0 :: a1 :: a2 :: a3 :: a4 :: a5 :: a6 :: a7 :: a8 :: some (.long x) :: none :: r) rest kc ks n h) : AW M G pc (a0 :: a1 :: a2 :: a3 :: a4 :: a5 :: a6 :: a7 :: a8 :: a9 :: a10 :: r) (.long x :: rest) kc ks n h := awG_lstore hdg hn (aSt_2 [a0, a1, a2, a3, a4, a5, a6, a7, a8] a9 a10 r _ (fun x q => by simp at q; rw [← q]; exact h2)) kk
theorem aw_iinc_9 {M : MI} {G : AG} {pc kc ks n : Nat} {h : Hp} {rest : List Value} {a0 a1 a2 a3 a4 a5 a6 a7 a8 : Option Value} {r : List (Option Value)} {n0 : Int} {x c0 : Int32} (hdg : decode M.2.1 pc = .ok (.iinc 9 n0, 3)) (hv : Int32.ofInt n0 = c0) (hn : 9 < M.2.2.1) (h2 : nl2 a8 = true) (kk : AW M G (pc + 3) (a0 :: a1 :: a2 :: a3 :: a4 :: a5 :: a6 :: a7 :: a8 :: some (.int (x + c0)) :: r) rest kc ks n h) : AW M G pc (a0 :: a1 :: a2 :: a3 :: a4 :: a5 :: a6 :: a7 :: a8 :: some (.int x) :: r) rest kc ks n h := awG_iinc hdg rfl hv hn (aSt_1 [a0, a1, a2, a3, a4, a5, a6, a7, a8] (some (.int x)) r _ (fun x q => by simp at q; rw [← q]; exact h2)) kk
theorem aw_istore_10 {M : MI} {G : AG} {pc kc ks n : Nat} {h : Hp} {rest : List Value} {a0 a1 a2 a3 a4 a5 a6 a7 a8 a9 a10 : Option Value} {r : List (Option Value)} {x : Int32} (hdg : decode M.2.1 pc = .ok (.istore 10, 2)) (hn : 10 < M.2.2.1) (h2 : nl2 a9 = true) (kk : AW M G (pc + 2) (a0 :: a1 :: a2 :: a3 :: a4 :: a5 :: a6 :: a7 :: a8 :: a9 :: some (.int x) :: r) rest kc ks n h) : AW M G pc (a0 :: a1 :: a2 :: a3 :: a4 :: a5 :: a6 :: a7 :: a8 :: a9 :: a10 :: r) (.int x :: rest) kc ks n h := awG_istore hdg hn (aSt_1 [a0, a1, a2, a3, a4, a5, a6, a7, a8, a9] a10 r _ (fun x q => by simp at q; rw [← q]; exact h2)) kk
theorem aw_astore_10 {M : MI} {G : AG} {pc kc ks n : Nat} {h : Hp} {rest : List Value} {a0 a1 a2 a3 a4 a5 a6 a7 a8 a9 a10 : Option Value} {r : List (Option Value)} {x : Nat} (hdg : decode M.2.1 pc = .ok (.astore 10, 2)) (hn : 10 < M.2.2.1) (h2 : nl2 a9 = true) (kk : AW M G (pc + 2) (a0 :: a1 :: a2 :: a3 :: a4 :: a5 :: a6 :: a7 :: a8 :: a9 :: some (.ref x) :: r) rest kc ks n h) : AW M G pc (a0 :: a1 :: a2 :: a3 :: a4 :: a5 :: a6 :: a7 :: a8 :: a9 :: a10 :: r) (.ref x :: rest) kc ks n h := awG_astore hdg hn (aSt_1 [a0, a1, a2, a3, a4, a5, a6, a7, a8, a9] a10 r _ (fun x q => by simp at q; rw [← q]; exact h2)) kk
theorem aw_astore_10N {M : MI} {G : AG} {pc kc ks n : Nat} {h : Hp} {rest : List Value} {a0 a1 a2 a3 a4 a5 a6 a7 a8 a9 a10 : Option Value} {r : List (Option Value)} (hdg : decode M.2.1 pc = .ok (.astore 10, 2)) (hn : 10 < M.2.2.1) (h2 : nl2 a9 = true) (kk : AW M G (pc + 2) (a0 :: a1 :: a2 :: a3 :: a4 :: a5 :: a6 :: a7 :: a8 :: a9 :: some (.null) :: r) rest kc ks n h) : AW M G pc (a0 :: a1 :: a2 :: a3 :: a4 :: a5 :: a6 :: a7 :: a8 :: a9 :: a10 :: r) (.null :: rest) kc ks n h := awG_astoreN hdg hn (aSt_1 [a0, a1, a2, a3, a4, a5, a6, a7, a8, a9] a10 r _ (fun x q => by simp at q; rw [← q]; exact h2)) kk
theorem aw_lstore_10 {M : MI} {G : AG} {pc kc ks n : Nat} {h : Hp} {rest : List Value} {a0 a1 a2 a3 a4 a5 a6 a7 a8 a9 a10 a11 : Option Value} {r : List (Option Value)} {x : Int64} (hdg : decode M.2.1 pc = .ok (.lstore 10, 2)) (hn : 11 < M.2.2.1) (h2 : nl2 a9 = true) (kk : AW M G (pc + 2) (a0 :: a1 :: a2 :: a3 :: a4 :: a5 :: a6 :: a7 :: a8 :: a9 :: some (.long x) :: none :: r) rest kc ks n h) : AW M G pc (a0 :: a1 :: a2 :: a3 :: a4 :: a5 :: a6 :: a7 :: a8 :: a9 :: a10 :: a11 :: r) (.long x :: rest) kc ks n h := awG_lstore hdg hn (aSt_2 [a0, a1, a2, a3, a4, a5, a6, a7, a8, a9] a10 a11 r _ (fun x q => by simp at q; rw [← q]; exact h2)) kk
theorem aw_iinc_10 {M : MI} {G : AG} {pc kc ks n : Nat} {h : Hp} {rest : List Value} {a0 a1 a2 a3 a4 a5 a6 a7 a8 a9 : Option Value} {r : List (Option Value)} {n0 : Int} {x c0 : Int32} (hdg : decode M.2.1 pc = .ok (.iinc 10 n0, 3)) (hv : Int32.ofInt n0 = c0) (hn : 10 < M.2.2.1) (h2 : nl2 a9 = true) (kk : AW M G (pc + 3) (a0 :: a1 :: a2 :: a3 :: a4 :: a5 :: a6 :: a7 :: a8 :: a9 :: some (.int (x + c0)) :: r) rest kc ks n h) : AW M G pc (a0 :: a1 :: a2 :: a3 :: a4 :: a5 :: a6 :: a7 :: a8 :: a9 :: some (.int x) :: r) rest kc ks n h := awG_iinc hdg rfl hv hn (aSt_1 [a0, a1, a2, a3, a4, a5, a6, a7, a8, a9] (some (.int x)) r _ (fun x q => by simp at q; rw [← q]; exact h2)) kk
theorem aw_istore_11 {M : MI} {G : AG} {pc kc ks n : Nat} {h : Hp} {rest : List Value} {a0 a1 a2 a3 a4 a5 a6 a7 a8 a9 a10 a11 : Option Value} {r : List (Option Value)} {x : Int32} (hdg : decode M.2.1 pc = .ok (.istore 11, 2)) (hn : 11 < M.2.2.1) (h2 : nl2 a10 = true) (kk : AW M G (pc + 2) (a0 :: a1 :: a2 :: a3 :: a4 :: a5 :: a6 :: a7 :: a8 :: a9 :: a10 :: some (.int x) :: r) rest kc ks n h) : AW M G pc (a0 :: a1 :: a2 :: a3 :: a4 :: a5 :: a6 :: a7 :: a8 :: a9 :: a10 :: a11 :: r) (.int x :: rest) kc ks n h := awG_istore hdg hn (aSt_1 [a0, a1, a2, a3, a4, a5, a6, a7, a8, a9, a10] a11 r _ (fun x q => by simp at q; rw [← q]; exact h2)) kk
theorem aw_astore_11 {M : MI} {G : AG} {pc kc ks n : Nat} {h : Hp} {rest : List Value} {a0 a1 a2 a3 a4 a5 a6 a7 a8 a9 a10 a11 : Option Value} {r : List (Option Value)} {x : Nat} (hdg : decode M.2.1 pc = .ok (.astore 11, 2)) (hn : 11 < M.2.2.1) (h2 : nl2 a10 = true) (kk : AW M G (pc + 2) (a0 :: a1 :: a2 :: a3 :: a4 :: a5 :: a6 :: a7 :: a8 :: a9 :: a10 :: some (.ref x) :: r) rest kc ks n h) : AW M G pc (a0 :: a1 :: a2 :: a3 :: a4 :: a5 :: a6 :: a7 :: a8 :: a9 :: a10 :: a11 :: r) (.ref x :: rest) kc ks n h := awG_astore hdg hn (aSt_1 [a0, a1, a2, a3, a4, a5, a6, a7, a8, a9, a10] a11 r _ (fun x q => by simp at q; rw [← q]; exact h2)) kk
theorem aw_astore_11N {M : MI} {G : AG} {pc kc ks n : Nat} {h : Hp} {rest : List Value} {a0 a1 a2 a3 a4 a5 a6 a7 a8 a9 a10 a11 : Option Value} {r : List (Option Value)} (hdg : decode M.2.1 pc = .ok (.astore 11, 2)) (hn : 11 < M.2.2.1) (h2 : nl2 a10 = true) (kk : AW M G (pc + 2) (a0 :: a1 :: a2 :: a3 :: a4 :: a5 :: a6 :: a7 :: a8 :: a9 :: a10 :: some (.null) :: r) rest kc ks n h) : AW M G pc (a0 :: a1 :: a2 :: a3 :: a4 :: a5 :: a6 :: a7 :: a8 :: a9 :: a10 :: a11 :: r) (.null :: rest) kc ks n h := awG_astoreN hdg hn (aSt_1 [a0, a1, a2, a3, a4, a5, a6, a7, a8, a9, a10] a11 r _ (fun x q => by simp at q; rw [← q]; exact h2)) kk
theorem aw_lstore_11 {M : MI} {G : AG} {pc kc ks n : Nat} {h : Hp} {rest : List Value} {a0 a1 a2 a3 a4 a5 a6 a7 a8 a9 a10 a11 a12 : Option Value} {r : List (Option Value)} {x : Int64} (hdg : decode M.2.1 pc = .ok (.lstore 11, 2)) (hn : 12 < M.2.2.1) (h2 : nl2 a10 = true) (kk : AW M G (pc + 2) (a0 :: a1 :: a2 :: a3 :: a4 :: a5 :: a6 :: a7 :: a8 :: a9 :: a10 :: some (.long x) :: none :: r) rest kc ks n h) : AW M G pc (a0 :: a1 :: a2 :: a3 :: a4 :: a5 :: a6 :: a7 :: a8 :: a9 :: a10 :: a11 :: a12 :: r) (.long x :: rest) kc ks n h := awG_lstore hdg hn (aSt_2 [a0, a1, a2, a3, a4, a5, a6, a7, a8, a9, a10] a11 a12 r _ (fun x q => by simp at q; rw [← q]; exact h2)) kk
theorem aw_iinc_11 {M : MI} {G : AG} {pc kc ks n : Nat} {h : Hp} {rest : List Value} {a0 a1 a2 a3 a4 a5 a6 a7 a8 a9 a10 : Option Value} {r : List (Option Value)} {n0 : Int} {x c0 : Int32} (hdg : decode M.2.1 pc = .ok (.iinc 11 n0, 3)) (hv : Int32.ofInt n0 = c0) (hn : 11 < M.2.2.1) (h2 : nl2 a10 = true) (kk : AW M G (pc + 3) (a0 :: a1 :: a2 :: a3 :: a4 :: a5 :: a6 :: a7 :: a8 :: a9 :: a10 :: some (.int (x + c0)) :: r) rest kc ks n h) : AW M G pc (a0 :: a1 :: a2 :: a3 :: a4 :: a5 :: a6 :: a7 :: a8 :: a9 :: a10 :: some (.int x) :: r) rest kc ks n h := awG_iinc hdg rfl hv hn (aSt_1 [a0, a1, a2, a3, a4, a5, a6, a7, a8, a9, a10] (some (.int x)) r _ (fun x q => by simp at q; rw [← q]; exact h2)) kk
theorem aw_istore_12 {M : MI} {G : AG} {pc kc ks n : Nat} {h : Hp} {rest : List Value} {a0 a1 a2 a3 a4 a5 a6 a7 a8 a9 a10 a11 a12 : Option Value} {r : List (Option Value)} {x : Int32} (hdg : decode M.2.1 pc = .ok (.istore 12, 2)) (hn : 12 < M.2.2.1) (h2 : nl2 a11 = true) (kk : AW M G (pc + 2) (a0 :: a1 :: a2 :: a3 :: a4 :: a5 :: a6 :: a7 :: a8 :: a9 :: a10 :: a11 :: some (.int x) :: r) rest kc ks n h) : AW M G pc (a0 :: a1 :: a2 :: a3 :: a4 :: a5 :: a6 :: a7 :: a8 :: a9 :: a10 :: a11 :: a12 :: r) (.int x :: rest) kc ks n h := awG_istore hdg hn (aSt_1 [a0, a1, a2, a3, a4, a5, a6, a7, a8, a9, a10, a11] a12 r _ (fun x q => by simp at q; rw [← q]; exact h2)) kk
theorem aw_astore_12 {M : MI} {G : AG} {pc kc ks n : Nat} {h : Hp} {rest : List Value} {a0 a1 a2 a3 a4 a5 a6 a7 a8 a9 a10 a11 a12 : Option Value} {r : List (Option Value)} {x : Nat} (hdg : decode M.2.1 pc = .ok (.astore 12, 2)) (hn : 12 < M.2.2.1) (h2 : nl2 a11 = true) (kk : AW M G (pc + 2) (a0 :: a1 :: a2 :: a3 :: a4 :: a5 :: a6 :: a7 :: a8 :: a9 :: a10 :: a11 :: some (.ref x) :: r) rest kc ks n h) : AW M G pc (a0 :: a1 :: a2 :: a3 :: a4 :: a5 :: a6 :: a7 :: a8 :: a9 :: a10 :: a11 :: a12 :: r) (.ref x :: rest) kc ks n h := awG_astore hdg hn (aSt_1 [a0, a1, a2, a3, a4, a5, a6, a7, a8, a9, a10, a11] a12 r _ (fun x q => by simp at q; rw [← q]; exact h2)) kk
theorem aw_astore_12N {M : MI} {G : AG} {pc kc ks n : Nat} {h : Hp} {rest : List Value} {a0 a1 a2 a3 a4 a5 a6 a7 a8 a9 a10 a11 a12 : Option Value} {r : List (Option Value)} (hdg : decode M.2.1 pc = .ok (.astore 12, 2)) (hn : 12 < M.2.2.1) (h2 : nl2 a11 = true) (kk : AW M G (pc + 2) (a0 :: a1 :: a2 :: a3 :: a4 :: a5 :: a6 :: a7 :: a8 :: a9 :: a10 :: a11 :: some (.null) :: r) rest kc ks n h) : AW M G pc (a0 :: a1 :: a2 :: a3 :: a4 :: a5 :: a6 :: a7 :: a8 :: a9 :: a10 :: a11 :: a12 :: r) (.null :: rest) kc ks n h := awG_astoreN hdg hn (aSt_1 [a0, a1, a2, a3, a4, a5, a6, a7, a8, a9, a10, a11] a12 r _ (fun x q => by simp at q; rw [← q]; exact h2)) kk
theorem aw_lstore_12 {M : MI} {G : AG} {pc kc ks n : Nat} {h : Hp} {rest : List Value} {a0 a1 a2 a3 a4 a5 a6 a7 a8 a9 a10 a11 a12 a13 : Option Value} {r : List (Option Value)} {x : Int64} (hdg : decode M.2.1 pc = .ok (.lstore 12, 2)) (hn : 13 < M.2.2.1) (h2 : nl2 a11 = true) (kk : AW M G (pc + 2) (a0 :: a1 :: a2 :: a3 :: a4 :: a5 :: a6 :: a7 :: a8 :: a9 :: a10 :: a11 :: some (.long x) :: none :: r) rest kc ks n h) : AW M G pc (a0 :: a1 :: a2 :: a3 :: a4 :: a5 :: a6 :: a7 :: a8 :: a9 :: a10 :: a11 :: a12 :: a13 :: r) (.long x :: rest) kc ks n h := awG_lstore hdg hn (aSt_2 [a0, a1, a2, a3, a4, a5, a6, a7, a8, a9, a10, a11] a12 a13 r _ (fun x q => by simp at q; rw [← q]; exact h2)) kk
theorem aw_iinc_12 {M : MI} {G : AG} {pc kc ks n : Nat} {h : Hp} {rest : List Value} {a0 a1 a2 a3 a4 a5 a6 a7 a8 a9 a10 a11 : Option Value} {r : List (Option Value)} {n0 : Int} {x c0 : Int32} (hdg : decode M.2.1 pc = .ok (.iinc 12 n0, 3)) (hv : Int32.ofInt n0 = c0) (hn : 12 < M.2.2.1) (h2 : nl2 a11 = true) (kk : AW M G (pc + 3) (a0 :: a1 :: a2 :: a3 :: a4 :: a5 :: a6 :: a7 :: a8 :: a9 :: a10 :: a11 :: some (.int (x + c0)) :: r) rest kc ks n h) : AW M G pc (a0 :: a1 :: a2 :: a3 :: a4 :: a5 :: a6 :: a7 :: a8 :: a9 :: a10 :: a11 :: some (.int x) :: r) rest kc ks n h := awG_iinc hdg rfl hv hn (aSt_1 [a0, a1, a2, a3, a4, a5, a6, a7, a8, a9, a10, a11] (some (.int x)) r _ (fun x q => by simp at q; rw [← q]; exact h2)) kk
theorem aw_istore_13 {M : MI} {G : AG} {pc kc ks n : Nat} {h : Hp} {rest : List Value} {a0 a1 a2 a3 a4 a5 a6 a7 a8 a9 a10 a11 a12 a13 : Option Value} {r : List (Option Value)} {x : Int32} (hdg : decode M.2.1 pc = .ok (.istore 13, 2)) (hn : 13 < M.2.2.1) (h2 : nl2 a12 = true) (kk : AW M G (pc + 2) (a0 :: a1 :: a2 :: a3 :: a4 :: a5 :: a6 :: a7 :: a8 :: a9 :: a10 :: a11 :: a12 :: some (.int x) :: r) rest kc ks n h) : AW M G pc (a0 :: a1 :: a2 :: a3 :: a4 :: a5 :: a6 :: a7 :: a8 :: a9 :: a10 :: a11 :: a12 :: a13 :: r) (.int x :: rest) kc ks n h := awG_istore hdg hn (aSt_1 [a0, a1, a2, a3, a4, a5, a6, a7, a8, a9, a10, a11, a12] a13 r _ (fun x q => by simp at q; rw [← q]; exact h2)) kk
theorem aw_astore_13 {M : MI} {G : AG} {pc kc ks n : Nat} {h : Hp} {rest : List Value} {a0 a1 a2 a3 a4 a5 a6 a7 a8 a9 a10 a11 a12 a13 : Option Value} {r : List (Option Value)} {x : Nat} (hdg : decode M.2.1 pc = .ok (.astore 13, 2)) (hn : 13 < M.2.2.1) (h2 : nl2 a12 = true) (kk : AW M G (pc + 2) (a0 :: a1 :: a2 :: a3 :: a4 :: a5 :: a6 :: a7 :: a8 :: a9 :: a10 :: a11 :: a12 :: some (.ref x) :: r) rest kc ks n h) : AW M G pc (a0 :: a1 :: a2 :: a3 :: a4 :: a5 :: a6 :: a7 :: a8 :: a9 :: a10 :: a11 :: a12 :: a13 :: r) (.ref x :: rest) kc ks n h := awG_astore hdg hn (aSt_1 [a0, a1, a2, a3, a4, a5, a6, a7, a8, a9, a10, a11, a12] a13 r _ (fun x q => by simp at q; rw [← q]; exact h2)) kk
theorem aw_astore_13N {M : MI} {G : AG} {pc kc ks n : Nat} {h : Hp} {rest : List Value} {a0 a1 a2 a3 a4 a5 a6 a7 a8 a9 a10 a11 a12 a13 : Option Value} {r : List (Option Value)} (hdg : decode M.2.1 pc = .ok (.astore 13, 2)) (hn : 13 < M.2.2.1) (h2 : nl2 a12 = true) (kk : AW M G (pc + 2) (a0 :: a1 :: a2 :: a3 :: a4 :: a5 :: a6 :: a7 :: a8 :: a9 :: a10 :: a11 :: a12 :: some (.null) :: r) rest kc ks n h) : AW M G pc (a0 :: a1 :: a2 :: a3 :: a4 :: a5 :: a6 :: a7 :: a8 :: a9 :: a10 :: a11 :: a12 :: a13 :: r) (.null :: rest) kc ks n h := awG_astoreN hdg hn (aSt_1 [a0, a1, a2, a3, a4, a5, a6, a7, a8, a9, a10, a11, a12] a13 r _ (fun x q => by simp at q; rw [← q]; exact h2)) kk
theorem aw_lstore_13 {M : MI} {G : AG} {pc kc ks n : Nat} {h : Hp} {rest : List Value} {a0 a1 a2 a3 a4 a5 a6 a7 a8 a9 a10 a11 a12 a13 a14 : Option Value} {r : List (Option Value)} {x : Int64} (hdg : decode M.2.1 pc = .ok (.lstore 13, 2)) (hn : 14 < M.2.2.1) (h2 : nl2 a12 = true) (kk : AW M G (pc + 2) (a0 :: a1 :: a2 :: a3 :: a4 :: a5 :: a6 :: a7 :: a8 :: a9 :: a10 :: a11 :: a12 :: some (.long x) :: none :: r) rest kc ks n h) : AW M G pc (a0 :: a1 :: a2 :: a3 :: a4 :: a5 :: a6 :: a7 :: a8 :: a9 :: a10 :: a11 :: a12 :: a13 :: a14 :: r) (.long x :: rest) kc ks n h := awG_lstore hdg hn (aSt_2 [a0, a1, a2, a3, a4, a5, a6, a7, a8, a9, a10, a11, a12] a13 a14 r _ (fun x q => by simp at q; rw [← q]; exact h2)) kk
theorem aw_iinc_13 {M : MI} {G : AG} {pc kc ks n : Nat} {h : Hp} {rest : List Value} {a0 a1 a2 a3 a4 a5 a6 a7 a8 a9 a10 a11 a12 : Option Value} {r : List (Option Value)} {n0 : Int} {x c0 : Int32} (hdg : decode M.2.1 pc = .ok (.iinc 13 n0, 3)) (hv : Int32.ofInt n0 = c0) (hn : 13 < M.2.2.1) (h2 : nl2 a12 = true) (kk : AW M G (pc + 3) (a0 :: a1 :: a2 :: a3 :: a4 :: a5 :: a6 :: a7 :: a8 :: a9 :: a10 :: a11 :: a12 :: some (.int (x + c0)) :: r) rest kc ks n h) : AW M G pc (a0 :: a1 :: a2 :: a3 :: a4 :: a5 :: a6 :: a7 :: a8 :: a9 :: a10 :: a11 :: a12 :: some (.int x) :: r) rest kc ks n h := awG_iinc hdg rfl hv hn (aSt_1 [a0, a1, a2, a3, a4, a5, a6, a7, a8, a9, a10, a11, a12] (some (.int x)) r _ (fun x q => by simp at q; rw [← q]; exact h2)) kk
theorem aw_istore_14 {M : MI} {G : AG} {pc kc ks n : Nat} {h : Hp} {rest : List Value} {a0 a1 a2 a3 a4 a5 a6 a7 a8 a9 a10 a11 a12 a13 a14 : Option Value} {r : List (Option Value)} {x : Int32} (hdg : decode M.2.1 pc = .ok (.istore 14, 2)) (hn : 14 < M.2.2.1) (h2 : nl2 a13 = true) (kk : AW M G (pc + 2) (a0 :: a1 :: a2 :: a3 :: a4 :: a5 :: a6 :: a7 :: a8 :: a9 :: a10 :: a11 :: a12 :: a13 :: some (.int x) :: r) rest kc ks n h) : AW M G pc (a0 :: a1 :: a2 :: a3 :: a4 :: a5 :: a6 :: a7 :: a8 :: a9 :: a10 :: a11 :: a12 :: a13 :: a14 :: r) (.int x :: rest) kc ks n h := awG_istore hdg hn (aSt_1 [a0, a1, a2, a3, a4, a5, a6, a7, a8, a9, a10, a11, a12, a13] a14 r _ (fun x q => by simp at q; rw [← q]; exact h2)) kk
theorem aw_astore_14 {M : MI} {G : AG} {pc kc ks n : Nat} {h : Hp} {rest : List Value} {a0 a1 a2 a3 a4 a5 a6 a7 a8 a9 a10 a11 a12 a13 a14 : Option Value} {r : List (Option Value)} {x : Nat} (hdg : decode M.2.1 pc = .ok (.astore 14, 2)) (hn : 14 < M.2.2.1) (h2 : nl2 a13 = true) (kk : AW M G (pc + 2) (a0 :: a1 :: a2 :: a3 :: a4 :: a5 :: a6 :: a7 :: a8 :: a9 :: a10 :: a11 :: a12 :: a13 :: some (.ref x) :: r) rest kc ks n h) : AW M G pc (a0 :: a1 :: a2 :: a3 :: a4 :: a5 :: a6 :: a7 :: a8 :: a9 :: a10 :: a11 :: a12 :: a13 :: a14 :: r) (.ref x :: rest) kc ks n h := awG_astore hdg hn (aSt_1 [a0, a1, a2, a3, a4, a5, a6, a7, a8, a9, a10, a11, a12, a13] a14 r _ (fun x q => by simp at q; rw [← q]; exact h2)) kk
theorem aw_astore_14N {M : MI} {G : AG} {pc kc ks n : Nat} {h : Hp} {rest : List Value} {a0 a1 a2 a3 a4 a5 a6 a7 a8 a9 a10 a11 a12 a13 a14 : Option Value} {r : List (Option Value)} (hdg : decode M.2.1 pc = .ok (.astore 14, 2)) (hn : 14 < M.2.2.1) (h2 : nl2 a13 = true) (kk : AW M G (pc + 2) (a0 :: a1 :: a2 :: a3 :: a4 :: a5 :: a6 :: a7 :: a8 :: a9 :: a10 :: a11 :: a12 :: a13 :: some (.null) :: r) rest kc ks n h) : AW M G pc (a0 :: a1 :: a2 :: a3 :: a4 :: a5 :: a6 :: a7 :: a8 :: a9 :: a10 :: a11 :: a12 :: a13 :: a14 :: r) (.null :: rest) kc ks n h := awG_astoreN hdg hn (aSt_1 [a0, a1, a2, a3, a4, a5, a6, a7, a8, a9, a10, a11, a12, a13] a14 r _ (fun x q => by simp at q; rw [← q]; exact h2)) kk
theorem aw_lstore_14 {M : MI} {G : AG} {pc kc ks n : Nat} {h : Hp} {rest : List Value} {a0 a1 a2 a3 a4 a5 a6 a7 a8 a9 a10 a11 a12 a13 a14 a15 : Option Value} {r : List (Option Value)} {x : Int64} (hdg : decode M.2.1 pc = .ok (.lstore 14, 2)) (hn : 15 < M.2.2.1) (h2 : nl2 a13 = true) (kk : AW M G (pc + 2) (a0 :: a1 :: a2 :: a3 :: a4 :: a5 :: a6 :: a7 :: a8 :: a9 :: a10 :: a11 :: a12 :: a13 :: some (.long x) :: none :: r) rest kc ks n h) : AW M G pc (a0 :: a1 :: a2 :: a3 :: a4 :: a5 :: a6 :: a7 :: a8 :: a9 :: a10 :: a11 :: a12 :: a13 :: a14 :: a15 :: r) (.long x :: rest) kc ks n h := awG_lstore hdg hn (aSt_2 [a0, a1, a2, a3, a4, a5, a6, a7, a8, a9, a10, a11, a12, a13] a14 a15 r _ (fun x q => by simp at q; rw [← q]; exact h2)) kk
theorem aw_iinc_14 {M : MI} {G : AG} {pc kc ks n : Nat} {h : Hp} {rest : List Value} {a0 a1 a2 a3 a4 a5 a6 a7 a8 a9 a10 a11 a12 a13 : Option Value} {r : List (Option Value)} {n0 : Int} {x c0 : Int32} (hdg : decode M.2.1 pc = .ok (.iinc 14 n0, 3)) (hv : Int32.ofInt n0 = c0) (hn : 14 < M.2.2.1) (h2 : nl2 a13 = true) (kk : AW M G (pc + 3) (a0 :: a1 :: a2 :: a3 :: a4 :: a5 :: a6 :: a7 :: a8 :: a9 :: a10 :: a11 :: a12 :: a13 :: some (.int (x + c0)) :: r) rest kc ks n h) : AW M G pc (a0 :: a1 :: a2 :: a3 :: a4 :: a5 :: a6 :: a7 :: a8 :: a9 :: a10 :: a11 :: a12 :: a13 :: some (.int x) :: r) rest kc ks n h := awG_iinc hdg rfl hv hn (aSt_1 [a0, a1, a2, a3, a4, a5, a6, a7, a8, a9, a10, a11, a12, a13] (some (.int x)) r _ (fun x q => by simp at q; rw [← q]; exact h2)) kk
theorem aw_istore_15 {M : MI} {G : AG} {pc kc ks n : Nat} {h : Hp} {rest : List Value} {a0 a1 a2 a3 a4 a5 a6 a7 a8 a9 a10 a11 a12 a13 a14 a15 : Option Value} {r : List (Option Value)} {x : Int32} (hdg : decode M.2.1 pc = .ok (.istore 15, 2)) (hn : 15 < M.2.2.1) (h2 : nl2 a14 = true) (kk : AW M G (pc + 2) (a0 :: a1 :: a2 :: a3 :: a4 :: a5 :: a6 :: a7 :: a8 :: a9 :: a10 :: a11 :: a12 :: a13 :: a14 :: some (.int x) :: r) rest kc ks n h) : AW M G pc (a0 :: a1 :: a2 :: a3 :: a4 :: a5 :: a6 :: a7 :: a8 :: a9 :: a10 :: a11 :: a12 :: a13 :: a14 :: a15 :: r) (.int x :: rest) kc ks n h := awG_istore hdg hn (aSt_1 [a0, a1, a2, a3, a4, a5, a6, a7, a8, a9, a10, a11, a12, a13, a14] a15 r _ (fun x q => by simp at q; rw [← q]; exact h2)) kk
theorem aw_astore_15 {M : MI} {G : AG} {pc kc ks n : Nat} {h : Hp} {rest : List Value} {a0 a1 a2 a3 a4 a5 a6 a7 a8 a9 a10 a11 a12 a13 a14 a15 : Option Value} {r : List (Option Value)} {x : Nat} (hdg : decode M.2.1 pc = .ok (.astore 15, 2)) (hn : 15 < M.2.2.1) (h2 : nl2 a14 = true) (kk : AW M G (pc + 2) (a0 :: a1 :: a2 :: a3 :: a4 :: a5 :: a6 :: a7 :: a8 :: a9 :: a10 :: a11 :: a12 :: a13 :: a14 :: some (.ref x) :: r) rest kc ks n h) : AW M G pc (a0 :: a1 :: a2 :: a3 :: a4 :: a5 :: a6 :: a7 :: a8 :: a9 :: a10 :: a11 :: a12 :: a13 :: a14 :: a15 :: r) (.ref x :: rest) kc ks n h := awG_astore hdg hn (aSt_1 [a0, a1, a2, a3, a4, a5, a6, a7, a8, a9, a10, a11, a12, a13, a14] a15 r _ (fun x q => by simp at q; rw [← q]; exact h2)) kk
theorem aw_astore_15N {M : MI} {G : AG} {pc kc ks n : Nat} {h : Hp} {rest : List Value} {a0 a1 a2 a3 a4 a5 a6 a7 a8 a9 a10 a11 a12 a13 a14 a15 : Option Value} {r : List (Option Value)} (hdg : decode M.2.1 pc = .ok (.astore 15, 2)) (hn : 15 < M.2.2.1) (h2 : nl2 a14 = true) (kk : AW M G (pc + 2) (a0 :: a1 :: a2 :: a3 :: a4 :: a5 :: a6 :: a7 :: a8 :: a9 :: a10 :: a11 :: a12 :: a13 :: a14 :: some (.null) :: r) rest kc ks n h) : AW M G pc (a0 :: a1 :: a2 :: a3 :: a4 :: a5 :: a6 :: a7 :: a8 :: a9 :: a10 :: a11 :: a12 :: a13 :: a14 :: a15 :: r) (.null :: rest) kc ks n h := awG_astoreN hdg hn (aSt_1 [a0, a1, a2, a3, a4, a5, a6, a7, a8, a9, a10, a11, a12, a13, a14] a15 r _ (fun x q => by simp at q; rw [← q]; exact h2)) kk
theorem aw_lstore_15 {M : MI} {G : AG} {pc kc ks n : Nat} {h : Hp} {rest : List Value} {a0 a1 a2 a3 a4 a5 a6 a7 a8 a9 a10 a11 a12 a13 a14 a15 a16 : Option Value} {r : List (Option Value)} {x : Int64} (hdg : decode M.2.1 pc = .ok (.lstore 15, 2)) (hn : 16 < M.2.2.1) (h2 : nl2 a14 = true) (kk : AW M G (pc + 2) (a0 :: a1 :: a2 :: a3 :: a4 :: a5 :: a6 :: a7 :: a8 :: a9 :: a10 :: a11 :: a12 :: a13 :: a14 :: some (.long x) :: none :: r) rest kc ks n h) : AW M G pc (a0 :: a1 :: a2 :: a3 :: a4 :: a5 :: a6 :: a7 :: a8 :: a9 :: a10 :: a11 :: a12 :: a13 :: a14 :: a15 :: a16 :: r) (.long x :: rest) kc ks n h := awG_lstore hdg hn (aSt_2 [a0, a1, a2, a3, a4, a5, a6, a7, a8, a9, a10, a11, a12, a13, a14] a15 a16 r _ (fun x q => by simp at q; rw [← q]; exact h2)) kk
theorem aw_iinc_15 {M : MI} {G : AG} {pc kc ks n : Nat} {h : Hp} {rest : List Value} {a0 a1 a2 a3 a4 a5 a6 a7 a8 a9 a10 a11 a12 a13 a14 : Option Value} {r : List (Option Value)} {n0 : Int} {x c0 : Int32} (hdg : decode M.2.1 pc = .ok (.iinc 15 n0, 3)) (hv : Int32.ofInt n0 = c0) (hn : 15 < M.2.2.1) (h2 : nl2 a14 = true) (kk : AW M G (pc + 3) (a0 :: a1 :: a2 :: a3 :: a4 :: a5 :: a6 :: a7 :: a8 :: a9 :: a10 :: a11 :: a12 :: a13 :: a14 :: some (.int (x + c0)) :: r) rest kc ks n h) : AW M G pc (a0 :: a1 :: a2 :: a3 :: a4 :: a5 :: a6 :: a7 :: a8 :: a9 :: a10 :: a11 :: a12 :: a13 :: a14 :: some (.int x) :: r) rest kc ks n h := awG_iinc hdg rfl hv hn (aSt_1 [a0, a1, a2, a3, a4, a5, a6, a7, a8, a9, a10, a11, a12, a13, a14] (some (.int x)) r _ (fun x q => by simp at q; rw [← q]; exact h2)) kk
theorem aw_istore_16 {M : MI} {G : AG} {pc kc ks n : Nat} {h : Hp} {rest : List Value} {a0 a1 a2 a3 a4 a5 a6 a7 a8 a9 a10 a11 a12 a13 a14 a15 a16 : Option Value} {r : List (Option Value)} {x : Int32} (hdg : decode M.2.1 pc = .ok (.istore 16, 2)) (hn : 16 < M.2.2.1) (h2 : nl2 a15 = true) (kk : AW M G (pc + 2) (a0 :: a1 :: a2 :: a3 :: a4 :: a5 :: a6 :: a7 :: a8 :: a9 :: a10 :: a11 :: a12 :: a13 :: a14 :: a15 :: some (.int x) :: r) rest kc ks n h) : AW M G pc (a0 :: a1 :: a2 :: a3 :: a4 :: a5 :: a6 :: a7 :: a8 :: a9 :: a10 :: a11 :: a12 :: a13 :: a14 :: a15 :: a16 :: r) (.int x :: rest) kc ks n h := awG_istore hdg hn (aSt_1 [a0, a1, a2, a3, a4, a5, a6, a7, a8, a9, a10, a11, a12, a13, a14, a15] a16 r _ (fun x q => by simp at q; rw [← q]; exact h2)) kk
theorem aw_astore_16 {M : MI} {G : AG} {pc kc ks n : Nat} {h : Hp} {rest : List Value} {a0 a1 a2 a3 a4 a5 a6 a7 a8 a9 a10 a11 a12 a13 a14 a15 a16 : Option Value} {r : List (Option Value)} {x : Nat} (hdg : decode M.2.1 pc = .ok (.astore 16, 2)) (hn : 16 < M.2.2.1) (h2 : nl2 a15 = true) (kk : AW M G (pc + 2) (a0 :: a1 :: a2 :: a3 :: a4 :: a5 :: a6 :: a7 :: a8 :: a9 :: a10 :: a11 :: a12 :: a13 :: a14 :: a15 :: some (.ref x) :: r) rest kc ks n h) : AW M G pc (a0 :: a1 :: a2 :: a3 :: a4 :: a5 :: a6 :: a7 :: a8 :: a9 :: a10 :: a11 :: a12 :: a13 :: a14 :: a15 :: a16 :: r) (.ref x :: rest) kc ks n h := awG_astore hdg hn (aSt_1 [a0, a1, a2, a3, a4, a5, a6, a7, a8, a9, a10, a11, a12, a13, a14, a15] a16 r _ (fun x q => by simp at q; rw [← q]; exact h2)) kk
theorem aw_astore_16N {M : MI} {G : AG} {pc kc ks n : Nat} {h : Hp} {rest : List Value} {a0 a1 a2 a3 a4 a5 a6 a7 a8 a9 a10 a11 a12 a13 a14 a15 a16 : Option Value} {r : List (Option Value)} (hdg : decode M.2.1 pc = .ok (.astore 16, 2)) (hn : 16 < M.2.2.1) (h2 : nl2 a15 = true) (kk : AW M G (pc + 2) (a0 :: a1 :: a2 :: a3 :: a4 :: a5 :: a6 :: a7 :: a8 :: a9 :: a10 :: a11 :: a12 :: a13 :: a14 :: a15 :: some (.null) :: r) rest kc ks n h) : AW M G pc (a0 :: a1 :: a2 :: a3 :: a4 :: a5 :: a6 :: a7 :: a8 :: a9 :: a10 :: a11 :: a12 :: a13 :: a14 :: a15 :: a16 :: r) (.null :: rest) kc ks n h := awG_astoreN hdg hn (aSt_1 [a0, a1, a2, a3, a4, a5, a6, a7, a8, a9, a10, a11, a12, a13, a14, a15] a16 r _ (fun x q => by simp at q; rw [← q]; exact h2)) kk
theorem aw_lstore_16 {M : MI} {G : AG} {pc kc ks n : Nat} {h : Hp} {rest : List Value} {a0 a1 a2 a3 a4 a5 a6 a7 a8 a9 a10 a11 a12 a13 a14 a15 a16 a17 : Option Value} {r : List (Option Value)} {x : Int64} (hdg : decode M.2.1 pc = .ok (.lstore 16, 2)) (hn : 17 < M.2.2.1) (h2 : nl2 a15 = true) (kk : AW M G (pc + 2) (a0 :: a1 :: a2 :: a3 :: a4 :: a5 :: a6 :: a7 :: a8 :: a9 :: a10 :: a11 :: a12 :: a13 :: a14 :: a15 :: some (.long x) :: none :: r) rest kc ks n h) : AW M G pc (a0 :: a1 :: a2 :: a3 :: a4 :: a5 :: a6 :: a7 :: a8 :: a9 :: a10 :: a11 :: a12 :: a13 :: a14 :: a15 :: a16 :: a17 :: r) (.long x :: rest) kc ks n h := awG_lstore hdg hn (aSt_2 [a0, a1, a2, a3, a4, a5, a6, a7, a8, a9, a10, a11, a12, a13, a14, a15] a16 a17 r _ (fun x q => by simp at q; rw [← q]; exact h2)) kk
theorem aw_iinc_16 {M : MI} {G : AG} {pc kc ks n : Nat} {h : Hp} {rest : List Value} {a0 a1 a2 a3 a4 a5 a6 a7 a8 a9 a10 a11 a12 a13 a14 a15 : Option Value} {r : List (Option Value)} {n0 : Int} {x c0 : Int32} (hdg : decode M.2.1 pc = .ok (.iinc 16 n0, 3)) (hv : Int32.ofInt n0 = c0) (hn : 16 < M.2.2.1) (h2 : nl2 a15 = true) (kk : AW M G (pc + 3) (a0 :: a1 :: a2 :: a3 :: a4 :: a5 :: a6 :: a7 :: a8 :: a9 :: a10 :: a11 :: a12 :: a13 :: a14 :: a15 :: some (.int (x + c0)) :: r) rest kc ks n h) : AW M G pc (a0 :: a1 :: a2 :: a3 :: a4 :: a5 :: a6 :: a7 :: a8 :: a9 :: a10 :: a11 :: a12 :: a13 :: a14 :: a15 :: some (.int x) :: r) rest kc ks n h := awG_iinc hdg rfl hv hn (aSt_1 [a0, a1, a2, a3, a4, a5, a6, a7, a8, a9, a10, a11, a12, a13, a14, a15] (some (.int x)) r _ (fun x q => by simp at q; rw [← q]; exact h2)) kk
theorem aw_istore_17 {M : MI} {G : AG} {pc kc ks n : Nat} {h : Hp} {rest : List Value} {a0 a1 a2 a3 a4 a5 a6 a7 a8 a9 a10 a11 a12 a13 a14 a15 a16 a17 : Option Value} {r : List (Option Value)} {x : Int32} (hdg : decode M.2.1 pc = .ok (.istore 17, 2)) (hn : 17 < M.2.2.1) (h2 : nl2 a16 = true) (kk : AW M G (pc + 2) (a0 :: a1 :: a2 :: a3 :: a4 :: a5 :: a6 :: a7 :: a8 :: a9 :: a10 :: a11 :: a12 :: a13 :: a14 :: a15 :: a16 :: some (.int x) :: r) rest kc ks n h) : AW M G pc (a0 :: a1 :: a2 :: a3 :: a4 :: a5 :: a6 :: a7 :: a8 :: a9 :: a10 :: a11 :: a12 :: a13 :: a14 :: a15 :: a16 :: a17 :: r) (.int x :: rest) kc ks n h := awG_istore hdg hn (aSt_1 [a0, a1, a2, a3, a4, a5, a6, a7, a8, a9, a10, a11, a12, a13, a14, a15, a16] a17 r _ (fun x q => by simp at q; rw [← q]; exact h2)) kk
theorem aw_astore_17 {M : MI} {G : AG} {pc kc ks n : Nat} {h : Hp} {rest : List Value} {a0 a1 a2 a3 a4 a5 a6 a7 a8 a9 a10 a11 a12 a13 a14 a15 a16 a17 : Option Value} {r : List (Option Value)} {x : Nat} (hdg : decode M.2.1 pc = .ok (.astore 17, 2)) (hn : 17 < M.2.2.1) (h2 : nl2 a16 = true) (kk : AW M G (pc + 2) (a0 :: a1 :: a2 :: a3 :: a4 :: a5 :: a6 :: a7 :: a8 :: a9 :: a10 :: a11 :: a12 :: a13 :: a14 :: a15 :: a16 :: some (.ref x) :: r) rest kc ks n h) : AW M G pc (a0 :: a1 :: a2 :: a3 :: a4 :: a5 :: a6 :: a7 :: a8 :: a9 :: a10 :: a11 :: a12 :: a13 :: a14 :: a15 :: a16 :: a17 :: r) (.ref x :: rest) kc ks n h := awG_astore hdg hn (aSt_1 [a0, a1, a2, a3, a4, a5, a6, a7, a8, a9, a10, a11, a12, a13, a14, a15, a16] a17 r _ (fun x q => by simp at q; rw [← q]; exact h2)) kk
theorem aw_astore_17N {M : MI} {G : AG} {pc kc ks n : Nat} {h : Hp} {rest : List Value} {a0 a1 a2 a3 a4 a5 a6 a7 a8 a9 a10 a11 a12 a13 a14 a15 a16 a17 : Option Value} {r : List (Option Value)} (hdg : decode M.2.1 pc = .ok (.astore 17, 2)) (hn : 17 < M.2.2.1) (h2 : nl2 a16 = true) (kk : AW M G (pc + 2) (a0 :: a1 :: a2 :: a3 :: a4 :: a5 :: a6 :: a7 :: a8 :: a9 :: a10 :: a11 :: a12 :: a13 :: a14 :: a15 :: a16 :: some (.null) :: r) rest kc ks n h) : AW M G pc (a0 :: a1 :: a2 :: a3 :: a4 :: a5 :: a6 :: a7 :: a8 :: a9 :: a10 :: a11 :: a12 :: a13 :: a14 :: a15 :: a16 :: a17 :: r) (.null :: rest) kc ks n h := awG_astoreN hdg hn (aSt_1 [a0, a1, a2, a3, a4, a5, a6, a7, a8, a9, a10, a11, a12, a13, a14, a15, a16] a17 r _ (fun x q => by simp at q; rw [← q]; exact h2)) kk
theorem aw_lstore_17 {M : MI} {G : AG} {pc kc ks n : Nat} {h : Hp} {rest : List Value} {a0 a1 a2 a3 a4 a5 a6 a7 a8 a9 a10 a11 a12 a13 a14 a15 a16 a17 a18 : Option Value} {r : List (Option Value)} {x : Int64} (hdg : decode M.2.1 pc = .ok (.lstore 17, 2)) (hn : 18 < M.2.2.1) (h2 : nl2 a16 = true) (kk : AW M G (pc + 2) (a0 :: a1 :: a2 :: a3 :: a4 :: a5 :: a6 :: a7 :: a8 :: a9 :: a10 :: a11 :: a12 :: a13 :: a14 :: a15 :: a16 :: some (.long x) :: none :: r) rest kc ks n h) : AW M G pc (a0 :: a1 :: a2 :: a3 :: a4 :: a5 :: a6 :: a7 :: a8 :: a9 :: a10 :: a11 :: a12 :: a13 :: a14 :: a15 :: a16 :: a17 :: a18 :: r) (.long x :: rest) kc ks n h := awG_lstore hdg hn (aSt_2 [a0, a1, a2, a3, a4, a5, a6, a7, a8, a9, a10, a11, a12, a13, a14, a15, a16] a17 a18 r _ (fun x q => by simp at q; rw [← q]; exact h2)) kk
theorem aw_iinc_17 {M : MI} {G : AG} {pc kc ks n : Nat} {h : Hp} {rest : List Value} {a0 a1 a2 a3 a4 a5 a6 a7 a8 a9 a10 a11 a12 a13 a14 a15 a16 : Option Value} {r : List (Option Value)} {n0 : Int} {x c0 : Int32} (hdg : decode M.2.1 pc = .ok (.iinc 17 n0, 3)) (hv : Int32.ofInt n0 = c0) (hn : 17 < M.2.2.1) (h2 : nl2 a16 = true) (kk : AW M G (pc + 3) (a0 :: a1 :: a2 :: a3 :: a4 :: a5 :: a6 :: a7 :: a8 :: a9 :: a10 :: a11 :: a12 :: a13 :: a14 :: a15 :: a16 :: some (.int (x + c0)) :: r) rest kc ks n h) : AW M G pc (a0 :: a1 :: a2 :: a3 :: a4 :: a5 :: a6 :: a7 :: a8 :: a9 :: a10 :: a11 :: a12 :: a13 :: a14 :: a15 :: a16 :: some (.int x) :: r) rest kc ks n h := awG_iinc hdg rfl hv hn (aSt_1 [a0, a1, a2, a3, a4, a5, a6, a7, a8, a9, a10, a11, a12, a13, a14, a15, a16] (some (.int x)) r _ (fun x q => by simp at q; rw [← q]; exact h2)) kk
end
section

theorem aR_set {D : va_G} {B n : Nat} {h : Hp} {s : State} {H H1 : Heap} {ws : va_W} {tys : List (ClassId × FieldType)} {a q0 : Nat} {e e' : va_E} {c' : AC} (z : H.size = n) (hK : va_K D vwCl tys s) (hP : va_P D vwCl ws H) (hD : va_D (aA B) ws) (hV : ∀ (a : Nat) (c : AC), h a = some c → aV ws tys a c)
    (he : ws[q0]? = some (a, e)) (hn : va_at D vwCl (a, e') H1) (z1 : H1.size = H.size) (oq : ∀ q : Nat, q ≠ a → H1[q]? = H[q]?) (hc : ∀ ws' : va_W, ws'[q0]? = some (a, e') → aV ws' tys a c') : aR D B n (hup h a c') s H1 := by
  have hl := (List.getElem?_eq_some_iff.mp he).1
  refine ⟨z1.trans z, ws.set q0 (a, e'), tys, hK, hP.set hD he hn oq, hD.set he, fun b c0 hb => ?_⟩
  by_cases hba : b = a
  · subst hba
    rw [hup_self] at hb
    cases hb
    exact hc _ (List.getElem?_set_self hl)
  · rw [hup_ne hba] at hb
    have h1 := hV b c0 hb
    have key : ∀ (q1 : Nat) (x : va_E), ws[q1]? = some (b, x) → (ws.set q0 (a, e'))[q1]? = some (b, x) := by
      intro q1 x hx
      rw [List.getElem?_set_ne]
      · exact hx
      · intro hq
        subst hq
        rw [hx] at he
        cases he
        exact hba rfl
    cases c0 with
    | inl x => obtain ⟨q1, t1, cA, g1, g2⟩ := h1; exact ⟨q1, t1, cA, key _ _ g1, g2⟩
    | inr o => obtain ⟨q1, g1⟩ := h1; exact ⟨q1, key _ _ g1⟩
theorem aR_push {D : va_G} {B n : Nat} {h : Hp} {s : State} {H H1 : Heap} {ws : va_W} {tys tys' : List (ClassId × FieldType)} {e' : va_E} {c' : AC} (z : H.size = n) (hK : va_K D vwCl (tys ++ tys') s) (hP : va_P D vwCl ws H) (hD : va_D (aA B) ws) (hV : ∀ (a : Nat) (c : AC), h a = some c → aV ws tys a c)
    (hB : B ≤ n) (hn : va_at D vwCl (n, e') H1) (z1 : H1.size = n + 1) (oq : ∀ q : Nat, q < n → H1[q]? = H[q]?) (hc : ∀ ws' : va_W, ws'[ws.length]? = some (n, e') → aV ws' (tys ++ tys') n c') : aR D B (n + 1) (hup h n c') s H1 := by
  refine ⟨z1, ws ++ [(n, e')], tys ++ tys', hK, ?_, hD.push hP z.symm hB, fun b c0 hb => ?_⟩
  · refine (hP.kept (fun k x hx => oq x.1 (by rw [← z]; exact (hP k x hx).lt))).app (fun k x hx => ?_)
    have hz : k < 1 := (List.getElem?_eq_some_iff.mp hx).1
    rw [show k = 0 by omega] at hx
    cases hx
    exact hn
  · by_cases hba : b = n
    · subst hba
      rw [hup_self] at hb
      cases hb
      exact hc _ (by simp)
    · rw [hup_ne hba] at hb
      have h1 := hV b c0 hb
      have ka : ∀ {α : Type} (l1 l2 : List α) (i : Nat) (x : α), l1[i]? = some x → (l1 ++ l2)[i]? = some x := by
        intro α l1 l2 i x hx
        rw [List.getElem?_append_left (List.getElem?_eq_some_iff.mp hx).1]; exact hx
      cases c0 with
      | inl x => obtain ⟨q1, t1, cA, g1, g2⟩ := h1; exact ⟨q1, t1, cA, ka _ _ _ _ g1, ka _ _ _ _ g2⟩
      | inr o => obtain ⟨q1, g1⟩ := h1; exact ⟨q1, ka _ _ _ _ g1⟩
theorem va_K.more {D : va_G} {cl : List vw_C} {tys : List (ClassId × FieldType)} {s : State} {cA : ClassId} {ty : FieldType} (hK : va_K D cl tys s) (h1 : ArrOfT s cA ty) (h2 : va_RA s cA ty) : va_K D cl (tys ++ [(cA, ty)]) s := by
  refine ⟨hK.1, fun k q hk => ?_⟩
  rcases List.mem_append.mp (List.mem_of_getElem? hk) with h | h
  · obtain ⟨i, hi⟩ := List.getElem?_of_mem h
    exact hK.2 i q hi
  · rw [List.mem_singleton] at h
    subst h
    exact ⟨h1, h2⟩
/-- a field's words: which class number, which place, of which type, final or not, declared where -/
def FL (own : String) (idx ci k : Nat) (ty : FieldType) (fin : Bool) (dc : String) : Prop := ∃ r : vw_C, vwCl[ci]? = some r ∧ k < r.2.2 ∧ (∀ w ∈ u_ws r.1 r.2.1 r.2.2, w ∈ lw_good) ∧ Cond.fieldLink own idx (r.2.1 k).1 (r.2.1 k).2.1 (r.2.1 k).2.2.1 ∈ lw_good ∧ (∀ a, a < r.2.2 → ∀ b, b < r.2.2 → a ≠ b → (r.2.1 a).2.1 ≠ (r.2.1 b).2.1) ∧ (∃ t0 : Nat → FieldType, ∀ k, k < r.2.2 → parseFieldDescriptor (r.2.1 k).2.2.1 = some (t0 k)) ∧ parseFieldDescriptor (r.2.1 k).2.2.1 = some ty ∧ (r.2.1 k).2.2.2 = fin ∧ (r.2.1 k).1 = dc
theorem aw_getfield {M : MI} {G : AG} {pc kc ks n : Nat} {lv : List (Option Value)} {h : Hp} {rest : List Value} {idx ci k : Nat} {ty : FieldType} {fin : Bool} {dc : String} (F : FL M.1.cls idx ci k ty fin dc) (hdg : decode M.2.1 pc = .ok (.getfield idx, 3)) {a : Nat} {fs : List Value} {v : Value} (ha : h a = some (.inr (ci, fs))) (hv : fs[k]? = some v) (kk : AW M G (pc + 3) lv (v :: rest) kc ks n h) : AW M G pc lv (.ref a :: rest) kc ks n h := by
  intro l D B p e s m args below meth c H locs ls C L R S
  obtain ⟨⟨C', T', N'⟩, hc, hk, hin, hlk, hnm, ⟨t0, ht0⟩, hty, hfin, hdc⟩ := F
  obtain ⟨z, ws, tys, hK, hP, hD, hV⟩ := id R
  obtain ⟨q0, he⟩ := hV a _ ha
  exact va_get C.1 C.2.1 C.2.2.2.2.2.1 hin C.2.2.2.2.1 hK hP q0 he hc k hk (C.2.2.2.2.2.1 _ hlk) (fun _ h9 => h9) hv hdg (kk l D B p e s m args below meth c H locs ls C L R S)
theorem aw_putfield {M : MI} {G : AG} {pc kc ks n : Nat} {lv : List (Option Value)} {h : Hp} {rest : List Value} {idx ci k : Nat} {ty : FieldType} {dc : String} (F : FL M.1.cls idx ci k ty false dc) (hdg : decode M.2.1 pc = .ok (.putfield idx, 3)) {a : Nat} {fs : List Value} {v : Value} (ha : h a = some (.inr (ci, fs))) (hn : narrow ty v = v) (hfit : fits ty v = true) (hl : k < fs.length) (kk : AW M G (pc + 3) lv rest kc ks n (hup h a (.inr (ci, fs.set k v)))) : AW M G pc lv (v :: .ref a :: rest) kc ks n h := by
  intro l D B p e s m args below meth c H locs ls C L R S
  obtain ⟨⟨C', T', N'⟩, hc, hk, hin, hlk, hnm, ⟨t0, ht0⟩, hty, hfin, hdc⟩ := F
  obtain ⟨z, ws, tys, hK, hP, hD, hV⟩ := id R
  obtain ⟨q0, he⟩ := hV a _ ha
  have hts := C.2.2.2.2.2.1
  have hap := va_apart (own := C') hts hin t0 ht0 hnm hK hc
  obtain ⟨r, h1, cell, q1, q2, q3, q4⟩ := hP q0 _ he
  have hr : r = (C', T', N') := Option.some.inj (h1.symm.trans hc)
  subst hr
  obtain ⟨hS, hfc, kC, hkC, hkind⟩ := hK.1 ci _ hc
  obtain ⟨cf, kf, fi, f, hi, hsl⟩ := hS k hk
  have hlay := hts _ (hin _ (u_in_lay hk))
  unfold u_lay at hlay
  rw [if_neg (by rw [hfin]; decide)] at hlay
  have hst := (u_facts hfc hkC (u_lays hts hin hk) hi).1
  have h6 := u_store hfc hkC hkind hlay hi hty hn hfit
  refine W.putK C.1 C.2.1 (f := f) ⟨C.2.2.2.2.1, C.2.2.2.2.2.1 _ hlk, ⟨_, _, _, hi⟩, hst⟩ (by rw [q2]; exact h6) q1 q3 (by rw [hsl]; exact k2_hasslot (q4 k hk)) rfl rfl hdg fun H' e1 e2 e3 => ?_
  rw [hsl] at e1 ⊢
  exact kk l D B p e s m args below meth c H' _ ls C L (aR_set z hK hP hD hV he (e' := .inr (ci, fs.set k v)) ⟨_, hc, t_OB.to (V := updV (vp_V fs) k v) ⟨_, e1, q2, q3, t_set q4 hap hk v⟩ (fun j _ => vp_updV_set hl v j)⟩ e2 e3 (fun ws' q => ⟨q0, q⟩)) (S.put e2 e3 (hD.2 q0 _ he))
theorem aw_putfinal {M : MI} {G : AG} {pc kc ks n : Nat} {lv : List (Option Value)} {h : Hp} {rest : List Value} {idx ci k : Nat} {ty : FieldType} (F : FL M.1.cls idx ci k ty true M.1.cls) (hin2 : M.1.name = "<init>") (hdg : decode M.2.1 pc = .ok (.putfield idx, 3)) {a : Nat} {fs : List Value} {v : Value} (ha : h a = some (.inr (ci, fs))) (hn : narrow ty v = v) (hfit : fits ty v = true) (hl : k < fs.length) (kk : AW M G (pc + 3) lv rest kc ks n (hup h a (.inr (ci, fs.set k v)))) : AW M G pc lv (v :: .ref a :: rest) kc ks n h := by
  intro l D B p e s m args below meth c H locs ls C L R S
  obtain ⟨⟨C', T', N'⟩, hc, hk, hin, hlk, hnm, ⟨t0, ht0⟩, hty, hfin, hdc⟩ := F
  obtain ⟨z, ws, tys, hK, hP, hD, hV⟩ := id R
  obtain ⟨q0, he⟩ := hV a _ ha
  have hts := C.2.2.2.2.2.1
  have hap := va_apart (own := C') hts hin t0 ht0 hnm hK hc
  obtain ⟨r, h1, cell, q1, q2, q3, q4⟩ := hP q0 _ he
  have hr : r = (C', T', N') := Option.some.inj (h1.symm.trans hc)
  subst hr
  obtain ⟨hS, hfc, kC, hkC, hkind⟩ := hK.1 ci _ hc
  obtain ⟨cf, kf, fi, f, hi, hsl⟩ := hS k hk
  have hlay := hts _ (hin _ (u_in_lay hk))
  unfold u_lay at hlay
  rw [if_pos hfin] at hlay
  have hst := (u_facts hfc hkC (u_lays hts hin hk) hi).1
  have hcf : m.cls = cf := by
    obtain ⟨_, _, c', _, _, _, -, -, hf', -, -, -, hown2, -⟩ := Cond.laysFinal_spec hlay
    have e1 : c' = cf := by have := hi.symm.trans hf'; simp at this; exact this.1.symm
    rw [hdc] at hown2
    rw [← e1]; exact Option.some.inj (C.2.2.2.2.1.symm.trans hown2)
  have h6 := u_fits hfc hkC hkind (Or.inr hlay) hi hty hn hfit
  refine W.putFinK C.1 C.2.1 C.2.2.2.2.1 (C.2.2.2.2.2.1 _ hlk) hi hst hcf (C.2.2.2.2.2.2.2.1.trans hin2) (by rw [q2]; exact h6) q1 q3 (by rw [hsl]; exact k2_hasslot (q4 k hk)) rfl rfl hdg fun H' e1 e2 e3 => ?_
  rw [hsl] at e1 ⊢
  exact kk l D B p e s m args below meth c H' _ ls C L (aR_set z hK hP hD hV he (e' := .inr (ci, fs.set k v)) ⟨_, hc, t_OB.to (V := updV (vp_V fs) k v) ⟨_, e1, q2, q3, t_set q4 hap hk v⟩ (fun j _ => vp_updV_set hl v j)⟩ e2 e3 (fun ws' q => ⟨q0, q⟩)) (S.put e2 e3 (hD.2 q0 _ he))
theorem ix_in {i : Int32} {j N : Nat} (hi : i.toInt = (j : Int)) (hj : j < N) : vp_in i N := vp_in_iff.mpr ⟨by omega, by omega⟩
theorem ix_cl {i : Int32} {j : Nat} (hi : i.toInt = (j : Int)) : i.toNatClampNeg = j := by
  have : i.toNatClampNeg = i.toInt.toNat := rfl
  rw [this, hi]; rfl
theorem aw_iaload {M : MI} {G : AG} {pc kc ks n : Nat} {lv : List (Option Value)} {h : Hp} {rest : List Value} (hdg : decode M.2.1 pc = .ok (.iaload, 1)) {a len j : Nat} {f : Nat → Int32} {i : Int32} (ha : h a = some (.inl (.int, len, .inl f))) (hi : i.toInt = (j : Int)) (hj : j < len) (kk : AW M G (pc + 1) lv (.int (f j) :: rest) kc ks n h) : AW M G pc lv (.int i :: .ref a :: rest) kc ks n h := by
  intro l D B p e s m args below meth c H locs ls C L R S
  obtain ⟨z, ws, tys, hK, hP, hD, hV⟩ := id R
  obtain ⟨q0, t0, cA, he, ht⟩ := hV a _ ha
  refine va_iald C.1 C.2.1 hK hP q0 t0 he ht (ix_in hi hj) hdg ?_
  rw [ix_cl hi]
  exact kk l D B p e s m args below meth c H locs ls C L R S
theorem aw_baload {M : MI} {G : AG} {pc kc ks n : Nat} {lv : List (Option Value)} {h : Hp} {rest : List Value} (hdg : decode M.2.1 pc = .ok (.baload, 1)) {a len j : Nat} {f : Nat → Int32} {i : Int32} (ha : h a = some (.inl (.boolean, len, .inl f))) (hi : i.toInt = (j : Int)) (hj : j < len) (kk : AW M G (pc + 1) lv (.int (f j) :: rest) kc ks n h) : AW M G pc lv (.int i :: .ref a :: rest) kc ks n h := by
  intro l D B p e s m args below meth c H locs ls C L R S
  obtain ⟨z, ws, tys, hK, hP, hD, hV⟩ := id R
  obtain ⟨q0, t0, cA, he, ht⟩ := hV a _ ha
  refine va_zald C.1 C.2.1 hK hP q0 t0 he ht (ix_in hi hj) hdg ?_
  rw [ix_cl hi]
  exact kk l D B p e s m args below meth c H locs ls C L R S
theorem aw_laload {M : MI} {G : AG} {pc kc ks n : Nat} {lv : List (Option Value)} {h : Hp} {rest : List Value} (hdg : decode M.2.1 pc = .ok (.laload, 1)) {a len j : Nat} {f : Nat → Int64} {i : Int32} (ha : h a = some (.inl (.long, len, .inr (.inl f)))) (hi : i.toInt = (j : Int)) (hj : j < len) (kk : AW M G (pc + 1) lv (.long (f j) :: rest) kc ks n h) : AW M G pc lv (.int i :: .ref a :: rest) kc ks n h := by
  intro l D B p e s m args below meth c H locs ls C L R S
  obtain ⟨z, ws, tys, hK, hP, hD, hV⟩ := id R
  obtain ⟨q0, t0, cA, he, ht⟩ := hV a _ ha
  refine va_lald C.1 C.2.1 hK hP q0 t0 he ht (ix_in hi hj) hdg ?_
  rw [ix_cl hi]
  exact kk l D B p e s m args below meth c H locs ls C L R S
theorem aw_aaload {M : MI} {G : AG} {pc kc ks n : Nat} {lv : List (Option Value)} {h : Hp} {rest : List Value} (hdg : decode M.2.1 pc = .ok (.aaload, 1)) {a len j : Nat} {f : Nat → Option Nat} {i : Int32} {Cn : String} (ha : h a = some (.inl (.object Cn, len, .inr (.inr (.inr (.inr f)))))) (hi : i.toInt = (j : Int)) (hj : j < len) (kk : AW M G (pc + 1) lv (va_rf (f j) :: rest) kc ks n h) : AW M G pc lv (.int i :: .ref a :: rest) kc ks n h := by
  intro l D B p e s m args below meth c H locs ls C L R S
  obtain ⟨z, ws, tys, hK, hP, hD, hV⟩ := id R
  obtain ⟨q0, t0, cA, he, ht⟩ := hV a _ ha
  refine va_aldq C.1 C.2.1 hK hP q0 t0 he ht (ix_in hi hj) hdg ?_
  rw [ix_cl hi]
  exact kk l D B p e s m args below meth c H locs ls C L R S
theorem aw_arraylength {M : MI} {G : AG} {pc kc ks n : Nat} {lv : List (Option Value)} {h : Hp} {rest : List Value} (hdg : decode M.2.1 pc = .ok (.arraylength, 1)) {a : Nat} {ty : FieldType} {x : vp_A} (ha : h a = some (.inl (ty, x))) (kk : AW M G (pc + 1) lv (.int (nI x.1) :: rest) kc ks n h) : AW M G pc lv (.ref a :: rest) kc ks n h := by
  intro l D B p e s m args below meth c H locs ls C L R S
  obtain ⟨z, ws, tys, hK, hP, hD, hV⟩ := id R
  obtain ⟨q0, t0, cA, he, ht⟩ := hV a _ ha
  exact va_alen C.1 C.2.1 hK hP q0 t0 he ht rfl hdg (kk l D B p e s m args below meth c H locs ls C L R S)
theorem aw_iastore {M : MI} {G : AG} {pc kc ks n : Nat} {lv : List (Option Value)} {h : Hp} {rest : List Value} (hdg : decode M.2.1 pc = .ok (.iastore, 1)) {a len j : Nat} {f : Nat → Int32} {i : Int32} {x : Int32} (ha : h a = some (.inl (.int, len, .inl f))) (hi : i.toInt = (j : Int)) (hj : j < len) (kk : AW M G (pc + 1) lv rest kc ks n (hup h a (.inl (.int, len, .inl (va_up f j x))))) : AW M G pc lv (.int x :: .int i :: .ref a :: rest) kc ks n h := by
  intro l D B p e s m args below meth c H locs ls C L R S
  obtain ⟨z, ws, tys, hK, hP, hD, hV⟩ := id R
  obtain ⟨q0, t0, cA, he, ht⟩ := hV a _ ha
  refine W.iast C.1 C.2.1 (hP q0 _ he) ((hK.2 t0 _ ht).1 len (fun j => .int (f j))) (fun q => by cases q) (by show ¬ (i < 0 ∨ (arrV _ _ _).slots.size ≤ _); rw [arrV_size]; exact ix_in hi hj) rfl rfl hdg fun H1 e1 z1 oq => ?_
  refine kk l D B p e s m args below meth c H1 _ ls C L (aR_set z hK hP hD hV he (e' := .inl (cA, len, .inl (va_up f j x))) ?_ z1 oq (fun ws' q => ⟨q0, t0, cA, q, ht⟩)) (S.put z1 oq (hD.2 q0 _ he))
  show H1[a]? = some (vp_cell _ _)
  rw [e1, ix_cl hi, vp_cell_i, vp_cell_i, arrV_store]
  congr 2
  funext q
  by_cases hq : q = j
  · subst hq; simp [updV, va_up]
  · simp [updV, va_up, hq]
theorem aw_lastore {M : MI} {G : AG} {pc kc ks n : Nat} {lv : List (Option Value)} {h : Hp} {rest : List Value} (hdg : decode M.2.1 pc = .ok (.lastore, 1)) {a len j : Nat} {f : Nat → Int64} {i : Int32} {x : Int64} (ha : h a = some (.inl (.long, len, .inr (.inl f)))) (hi : i.toInt = (j : Int)) (hj : j < len) (kk : AW M G (pc + 1) lv rest kc ks n (hup h a (.inl (.long, len, .inr (.inl (va_up f j x)))))) : AW M G pc lv (.long x :: .int i :: .ref a :: rest) kc ks n h := by
  intro l D B p e s m args below meth c H locs ls C L R S
  obtain ⟨z, ws, tys, hK, hP, hD, hV⟩ := id R
  obtain ⟨q0, t0, cA, he, ht⟩ := hV a _ ha
  refine W.last C.1 C.2.1 (hP q0 _ he) ((hK.2 t0 _ ht).1 len (fun j => .long (f j))) (fun q => by cases q) (by show ¬ (i < 0 ∨ (arrV _ _ _).slots.size ≤ _); rw [arrV_size]; exact ix_in hi hj) rfl rfl hdg fun H1 e1 z1 oq => ?_
  refine kk l D B p e s m args below meth c H1 _ ls C L (aR_set z hK hP hD hV he (e' := .inl (cA, len, .inr (.inl (va_up f j x)))) ?_ z1 oq (fun ws' q => ⟨q0, t0, cA, q, ht⟩)) (S.put z1 oq (hD.2 q0 _ he))
  show H1[a]? = some (vp_cell _ _)
  rw [e1, ix_cl hi, vp_cell_l, vp_cell_l, arrV_store]
  congr 2
  funext q
  by_cases hq : q = j
  · subst hq; simp [updV, va_up]
  · simp [updV, va_up, hq]
theorem aw_bastore {M : MI} {G : AG} {pc kc ks n : Nat} {lv : List (Option Value)} {h : Hp} {rest : List Value} (hdg : decode M.2.1 pc = .ok (.bastore, 1)) {a len j : Nat} {f : Nat → Int32} {i : Int32} {x : Int32} (ha : h a = some (.inl (.boolean, len, .inl f))) (hi : i.toInt = (j : Int)) (hj : j < len) (hx : narrow .boolean (.int x) = .int x) (kk : AW M G (pc + 1) lv rest kc ks n (hup h a (.inl (.boolean, len, .inl (va_up f j x))))) : AW M G pc lv (.int x :: .int i :: .ref a :: rest) kc ks n h := by
  intro l D B p e s m args below meth c H locs ls C L R S
  obtain ⟨z, ws, tys, hK, hP, hD, hV⟩ := id R
  obtain ⟨q0, t0, cA, he, ht⟩ := hV a _ ha
  refine W.zast C.1 C.2.1 (hP q0 _ he) ((hK.2 t0 _ ht).1 len (fun j => .int (f j))) (fun q => by cases q) (by show ¬ (i < 0 ∨ (arrV _ _ _).slots.size ≤ _); rw [arrV_size]; exact ix_in hi hj) rfl rfl hdg fun H1 e1 z1 oq => ?_
  refine kk l D B p e s m args below meth c H1 _ ls C L (aR_set z hK hP hD hV he (e' := .inl (cA, len, .inl (va_up f j x))) ?_ z1 oq (fun ws' q => ⟨q0, t0, cA, q, ht⟩)) (S.put z1 oq (hD.2 q0 _ he))
  show H1[a]? = some (vp_cell _ _)
  rw [e1, ix_cl hi, vp_cell_i, vp_cell_i, hx, arrV_store]
  congr 2
  funext q
  by_cases hq : q = j
  · subst hq; simp [updV, va_up]
  · simp [updV, va_up, hq]
theorem aw_aastore {M : MI} {G : AG} {pc kc ks n : Nat} {lv : List (Option Value)} {h : Hp} {rest : List Value} (hdg : decode M.2.1 pc = .ok (.aastore, 1)) {a len j : Nat} {f : Nat → Option Nat} {i : Int32} {v ci : Nat} {vs : List Value} {r : vw_C} (ha : h a = some (.inl (.object r.1, len, .inr (.inr (.inr (.inr f)))))) (hv : h v = some (.inr (ci, vs))) (hc : vwCl[ci]? = some r) (hi : i.toInt = (j : Int)) (hj : j < len) (kk : AW M G (pc + 1) lv rest kc ks n (hup h a (.inl (.object r.1, len, .inr (.inr (.inr (.inr (va_up f j (some v))))))))) : AW M G pc lv (.ref v :: .int i :: .ref a :: rest) kc ks n h := by
  intro l D B p e s m args below meth c H locs ls C L R S
  obtain ⟨z, ws, tys, hK, hP, hD, hV⟩ := id R
  obtain ⟨q0, t0, cA, he, ht⟩ := hV a _ ha
  obtain ⟨qk, hvk⟩ := hV v _ hv
  obtain ⟨r', hr', cellV, g1, g2, g3, -⟩ := hP qk _ hvk
  have hcls := (hK.1 ci r hc).2
  obtain ⟨kA, comp, k1, k2, k3, -⟩ := (hK.2 t0 _ ht).2
  have hcomp : comp = D.1 ci := Option.some.inj (k3.symm.trans hcls.1)
  subst hcomp
  obtain ⟨kC, hkC, -⟩ := hcls.2
  have hin := ix_in hi hj
  refine W.aast C.1 C.2.1 (hP q0 _ he) (fun q h => by cases h) (fun h => by cases h) k1 k2 rfl hkC ⟨fun q => hin (Or.inl q), by show _ < (arrV _ _ _).slots.size; rw [arrV_size, ix_cl hi]; exact hj⟩ g1 (fun q h => by rw [g3] at h; cases h) (by rw [g2]; exact hkC) (by rw [g2]; exact va_assign hcls) rfl rfl hdg fun H1 e1 z1 oq => ?_
  refine kk l D B p e s m args below meth c H1 _ ls C L (aR_set z hK hP hD hV he (e' := .inl (cA, len, .inr (.inr (.inr (.inr (va_up f j (some v))))))) ?_ z1 oq (fun ws' q => ⟨q0, t0, cA, q, ht⟩)) (S.put z1 oq (hD.2 q0 _ he))
  show H1[a]? = some (vp_cell _ _)
  rw [e1, ix_cl hi, vp_cell_q, vp_cell_q, arrV_store]
  congr 2
  funext q
  by_cases hq : q = j
  · subst hq; simp [updV, va_up, va_rf]
  · simp [updV, va_up, hq]
theorem aw_newarray {M : MI} {G : AG} {pc kc ks n : Nat} {lv : List (Option Value)} {h : Hp} {rest : List Value} {atype : ArrayType} {ty : FieldType} (hw : Cond.arrayClass (newarray.typeOf atype) ∈ lw_good) (hty : newarray.typeOf atype = ty) (hra : ∀ (s : State) (cA : ClassId), s.vm.findClass ("[" ++ ty.toString) = some cA → va_RA s cA ty) (hdg : decode M.2.1 pc = .ok (.newarray atype, 2)) {x : Int32} {N : Nat} {a0 : vp_A} (ha : ∀ cA : ClassId, vp_cell cA a0 = arrV cA N (fun _ => defaultValue ty)) (hx : x.toInt = (N : Int)) (hbytes : N * componentBytes ty ≤ 536870912) (hcells : kc + 1 ≤ G.1.1) (hslots : ks + N ≤ G.1.2) (kk : AW M G (pc + 2) lv (.ref n :: rest) (kc + 1) (ks + N) (n + 1) (hup h n (.inl (ty, a0)))) : AW M G pc lv (.int x :: rest) kc ks n h := by
  subst hty
  intro l D B p e s m args below meth c H locs ls C L R S
  obtain ⟨z, ws, tys, hK, hP, hD, hV⟩ := id R
  refine va_newaK C.1 C.2.1 (C.2.2.2.2.2.1 _ hw) rfl hdg rfl (fun q => by have := Int32.lt_iff_toInt_lt.mp q; rw [hx] at this; simp at this; omega) (ix_cl hx) hbytes hcells hslots z fun H1 cA e1 z1 o1 hAr hNm => ?_
  refine kk l D B p e s m args below meth c H1 _ ls C L (aR_push (tys' := [(cA, newarray.typeOf atype)]) z (hK.more hAr (hra s cA hNm)) hP hD hV (Nat.le_trans C.2.2.2.2.2.2.2.2.1 (by rw [← z]; exact S.1)) (e' := .inl (cA, a0)) ?_ z1 o1 (fun ws' q => ⟨ws.length, tys.length, cA, q, by simp⟩)) ⟨Nat.le_trans S.1 (by omega), fun x h1 h2 => (o1 x (by rw [← z]; exact Nat.lt_of_lt_of_le h1 S.1)).trans (S.2.1 x h1 h2), S.2.2⟩
  show H1[n]? = some (vp_cell _ _)
  rw [ha]
  exact e1
theorem aw_anewarray {M : MI} {G : AG} {pc kc ks n : Nat} {lv : List (Option Value)} {h : Hp} {rest : List Value} {idx : Nat} {Cn : String} (hw : Cond.classLink M.1.cls idx Cn ∈ lw_good) (hao : ∀ s : State, aX s → va_AO Cn s) (hdg : decode M.2.1 pc = .ok (.anewarray idx, 3)) {x : Int32} {N : Nat} (hx : x.toInt = (N : Int)) (hbytes : N * 4 ≤ 536870912) (hcells : kc + 1 ≤ G.1.1) (hslots : ks + N ≤ G.1.2) (kk : AW M G (pc + 3) lv (.ref n :: rest) (kc + 1) (ks + N) (n + 1) (hup h n (.inl (.object Cn, N, .inr (.inr (.inr (.inr (fun _ => none)))))))) : AW M G pc lv (.int x :: rest) kc ks n h := by
  intro l D B p e s m args below meth c H locs ls C L R S
  obtain ⟨z, ws, tys, hK, hP, hD, hV⟩ := id R
  refine W.anew C.1 C.2.1 C.2.2.2.2.1 (C.2.2.2.2.2.1 _ hw) (va_AO.use (hao s C.2.2.2.2.2.2.2.2.2.1)) rfl hdg rfl (fun q => by have := Int32.lt_iff_toInt_lt.mp q; rw [hx] at this; simp at this; omega) (by rw [ix_cl hx]; exact hbytes) hcells (by rw [ix_cl hx]; exact hslots) fun cA kA comp f1 f2 f3 f4 => ?_
  rw [ix_cl hx]
  generalize hH1 : H.push ({ cls := cA, slots := Array.replicate N .null, vm := .none } : Cell) = H1
  have z1 : H1.size = n + 1 := by rw [← hH1, Array.size_push, z]
  have e1 : H1[n]? = some (arrV cA N (fun _ => .null)) := by rw [← hH1, ← z, Array.getElem?_push_size, ← arrV_new]
  have o1 : ∀ q : Nat, q < n → H1[q]? = H[q]? := fun q hq => by rw [← hH1, Array.getElem?_push, if_neg (by omega)]
  have hAr : ArrOfT s cA (.object Cn) := fun N z => ⟨(fun k h => by cases h), kA, f2, comp, f3⟩
  rw [z]
  refine kk l D B p e s m args below meth c H1 _ ls C L (aR_push (tys' := [(cA, .object Cn)]) z (hK.more hAr ⟨kA, comp, f2, f3, f4, f1⟩) hP hD hV (Nat.le_trans C.2.2.2.2.2.2.2.2.1 (by rw [← z]; exact S.1)) (e' := .inl (cA, N, .inr (.inr (.inr (.inr (fun _ => none)))))) ?_ z1 o1 (fun ws' q => ⟨ws.length, tys.length, cA, q, by simp⟩)) ⟨Nat.le_trans S.1 (by omega), fun x h1 h2 => (o1 x (by rw [← z]; exact Nat.lt_of_lt_of_le h1 S.1)).trans (S.2.1 x h1 h2), S.2.2⟩
  show H1[n]? = some (vp_cell _ _)
  rw [vp_cell_q]
  exact e1
/-- a class that may be made: its number, its fields' first values -/
def NL (own : String) (idx ci N : Nat) (fs : List Value) : Prop := ∃ (C : String) (T : u_T), vwCl[ci]? = some (C, T, N) ∧ (∀ w ∈ u_ws C T N, w ∈ lw_good) ∧ Cond.classLink own idx C ∈ lw_good ∧ Cond.instantiable C N ∈ lw_good ∧ Cond.initialized C ∈ lw_good ∧ ∃ t0 : Nat → FieldType, (∀ k, k < N → parseFieldDescriptor (T k).2.2.1 = some (t0 k)) ∧ ∀ j, j < N → defaultValue (t0 j) = vp_V fs j
theorem aw_new {M : MI} {G : AG} {pc kc ks n : Nat} {lv : List (Option Value)} {h : Hp} {rest : List Value} {idx ci N : Nat} {fs : List Value} (F : NL M.1.cls idx ci N fs) (hdg : decode M.2.1 pc = .ok (.new idx, 3)) (hcells : kc + 1 ≤ G.1.1) (hslots : ks + N ≤ G.1.2) (kk : AW M G (pc + 3) lv (.ref n :: rest) (kc + 1) (ks + N) (n + 1) (hup h n (.inr (ci, fs)))) : AW M G pc lv rest kc ks n h := by
  intro l D B p e s m args below meth c H locs ls C L R S
  obtain ⟨z, ws, tys, hK, hP, hD, hV⟩ := id R
  obtain ⟨C', T', hc, hin, hcl, hinst, hini, t0, ht0, hfs⟩ := F
  have hts := C.2.2.2.2.2.1
  have hKn := hK.1 ci _ hc
  refine W.newcK C.1 C.2.1 C.2.2.2.2.1 (hts _ hcl) (hts _ hinst) (hts _ hini) rfl hdg hcells hslots hKn.2.1 z fun H1 kC hkC e1 z1 o1 => ?_
  have hK' : va_K D vwCl (tys ++ []) s := by rw [List.append_nil]; exact hK
  exact kk l D B p e s m args below meth c H1 _ ls C L (aR_push (tys' := []) z hK' hP hD hV (Nat.le_trans C.2.2.2.2.2.2.2.2.1 (by rw [← z]; exact S.1)) (e' := .inr (ci, fs)) ⟨_, hc, (u_born t0 hts hin hKn hkC e1 ht0).to hfs⟩ z1 o1 (fun ws' q => ⟨ws.length, q⟩)) ⟨Nat.le_trans S.1 (by omega), fun x h1 h2 => (o1 x (by rw [← z]; exact Nat.lt_of_lt_of_le h1 S.1)).trans (S.2.1 x h1 h2), S.2.2⟩
/-! ends -/
theorem aQ_at {D : va_G} {B n : Nat} {h : Hp} {s t : State} {H : Heap} {locs : List Loc} {args : Array Value} {Q : Option Value → Nat → Hp → Prop} {r : Option Value} (q : Q r n h) (R : aR D B n h s H) (S : va_S (aA B) s.heap H locs) (ht : t.heap = H) (hW : s.WarmedH t.vm) : aQ D B Q args s (.returned r) t := ⟨⟨r, n, h, rfl, q, by rw [ht]; exact R.moved hW.alike⟩, S.F ht⟩
theorem aw_ireturn {M : MI} {mc ms pc kc ks n : Nat} {lv : List (Option Value)} {h : Hp} {Q : Option Value → Nat → Hp → Prop} {v : Int32} {ty : FieldType} (hdg : decode M.2.1 pc = .ok (.ireturn, 1)) (hr : M.2.2.2.1 = some ty) (hn : narrow ty (.int v) = .int v) (h1 : kc ≤ mc) (h2 : ks ≤ ms) (q : Q (some (.int v)) n h) : AW M (gq mc ms Q) pc lv [.int v] kc ks n h :=
  fun l D B p e s m args below meth c H locs ls C L R S => W.widen h1 h2 (W.zret C.1 C.2.1 (C.2.2.1.trans hr) hn (fun t ht hW => aQ_at q R S ht hW) S.2.2 hdg C.2.2.2.2.2.2.1)
theorem aw_lreturn {M : MI} {mc ms pc kc ks n : Nat} {lv : List (Option Value)} {h : Hp} {Q : Option Value → Nat → Hp → Prop} {v : Int64} (hdg : decode M.2.1 pc = .ok (.lreturn, 1)) (hr : M.2.2.2.1 = some .long) (h1 : kc ≤ mc) (h2 : ks ≤ ms) (q : Q (some (.long v)) n h) : AW M (gq mc ms Q) pc lv [.long v] kc ks n h :=
  fun l D B p e s m args below meth c H locs ls C L R S => W.widen h1 h2 (W.lret C.1 C.2.1 (C.2.2.1.trans hr) (fun t ht hW => aQ_at q R S ht hW) S.2.2 hdg C.2.2.2.2.2.2.1)
theorem aw_return {M : MI} {mc ms pc kc ks n : Nat} {lv : List (Option Value)} {h : Hp} {Q : Option Value → Nat → Hp → Prop} (hdg : decode M.2.1 pc = .ok (.return_, 1)) (hr : M.2.2.2.1 = none) (h1 : kc ≤ mc) (h2 : ks ≤ ms) (q : Q none n h) : AW M (gq mc ms Q) pc lv [] kc ks n h :=
  fun l D B p e s m args below meth c H locs ls C L R S => W.widen h1 h2 (W.vret C.1 C.2.1 (C.2.2.1.trans hr) (fun t ht hW => aQ_at q R S ht hW) S.2.2 hdg C.2.2.2.2.2.2.1)
theorem aw_areturn {M : MI} {mc ms pc kc ks n : Nat} {lv : List (Option Value)} {h : Hp} {Q : Option Value → Nat → Hp → Prop} {v : Value} {C0 : String} (hdg : decode M.2.1 pc = .ok (.areturn, 1)) (hr : M.2.2.2.1 = some (.object C0)) (hv : v = .null ∨ ∃ a, v = .ref a) (h1 : kc ≤ mc) (h2 : ks ≤ ms) (q : Q (some v) n h) : AW M (gq mc ms Q) pc lv [v] kc ks n h :=
  fun l D B p e s m args below meth c H locs ls C L R S => W.widen h1 h2 (W.aret C.1 C.2.1 (C.2.2.1.trans hr) (Or.inl ⟨C0, rfl⟩) hv (fun t ht hW => aQ_at q R S ht hW) S.2.2 hdg C.2.2.2.2.2.2.1)
/-! a contract out of a walk -/
def elv : List Value → List (Option Value)
  | [] => []
  | v :: t => if v.category = 2 then some v :: none :: elv t else some v :: elv t
theorem elv_len : ∀ vs : List Value, (elv vs).length = (lg_sl vs).length
  | [] => rfl
  | v :: t => by
    have := elv_len t
    simp only [elv, lg_sl, List.flatMap_cons] at *
    split <;> simp_all <;> omega
theorem elv_get : ∀ (vs : List Value) (k i : Nat) (v : Value), (elv vs)[i]? = some (some v) → (k + i, v) ∈ lv_args k vs
  | [], _, _, _, h => by simp [elv] at h
  | w :: t, k, i, v, h => by
    simp only [elv] at h
    by_cases hc : w.category = 2
    · rw [if_pos hc] at h
      simp only [lv_args, if_pos hc]
      match i, h with
      | 0, h => simp at h; simp [h]
      | 1, h => simp at h
      | i + 2, h => exact List.mem_cons_of_mem _ (by have := elv_get t (k + 2) i v (by simpa using h); rwa [show k + (i + 2) = k + 2 + i by omega])
    · rw [if_neg hc] at h
      simp only [lv_args, if_neg hc]
      match i, h with
      | 0, h => simp at h; simp [h]
      | i + 1, h => exact List.mem_cons_of_mem _ (by have := elv_get t (k + 1) i v (by simpa using h); rwa [show k + (i + 1) = k + 1 + i by omega])
theorem CT.intro {M : MI} {mc ms n : Nat} {h : Hp} {av : List Value} {Sp : Option Value → Nat → Hp → Prop} (lv : List (Option Value)) (k : Nat) (hlv : lv = elv av ++ List.replicate k none) (hlen : lv.length = M.2.2.1) (hy : plainName M.1.cls = true)
    (body : ∀ Q : Option Value → Nat → Hp → Prop, (∀ r n' h', Sp r n' h' → Q r n' h') → AW M (gq mc ms Q) 0 lv [] 0 0 n h) : CT M mc ms n h av Sp := by
  intro l D B
  refine Met.ofW (cc := M.2.1) (maxL := M.2.2.1) (ret := M.2.2.2.1) hy rfl ?_
  intro p e s m args below meth c s₁ Bo hml hv
  obtain ⟨rfl, hB, hX, hR⟩ := hv
  have hts := atoms_spec (ws := Cond.code M.1 M.2.1 M.2.2.1 M.2.2.2.1 :: lw_good) Bo.pre
  have hown : s.vm.findClass M.1.cls = some m.cls := findClass_of_methodNamed Bo.named
  have hnm : meth.name = M.1.name := (name_of_methodNamed Bo.named Bo.method).1
  have hle : (lg_sl av).length ≤ M.2.2.1 := by rw [← elv_len, ← hlen, hlv]; simp
  have hl := lv_entry av (n := M.2.2.1) hle
  rw [lg_entry_eq]
  refine body Sp (fun _ _ _ q => q) l D B p e s m av.toArray below meth c s.heap [] _ ⟨Bo.exec, Bo.bytes, Bo.returns, hml, hown, fun w hw => hts w (List.mem_cons_of_mem _ hw), Bo.notSynchronized, hnm, hB, hX, trivial⟩ ⟨hl.1, hl.2.1, fun i v q => ?_⟩ hR va_S.rf
  have q2 : (elv av)[i]? = some (some v) := by
    rw [hlv] at q
    by_cases hi : i < (elv av).length
    · rwa [List.getElem?_append_left hi] at q
    · rw [List.getElem?_append_right (by omega)] at q
      rw [List.getElem?_replicate] at q
      split at q
      · cases q
      · cases q
  simpa using hl.2.2 _ (elv_get av 0 i v q2)
theorem CT.weaken {M : MI} {mc ms n : Nat} {h : Hp} {av : List Value} {Q Q' : Option Value → Nat → Hp → Prop} (hc : CT M mc ms n h av Q) (w : ∀ r n' h', Q r n' h' → Q' r n' h') : CT M mc ms n h av Q' := by
  intro l D B p e ha hcc hk s m args below hf happ hP hK
  obtain ⟨k, o, h1, h2, h3, ⟨⟨⟨r, n', h', e1, q, rr⟩, hF⟩, q2⟩⟩ := hc l D B p e ha hcc hk s m args below hf happ hP hK
  exact ⟨k, o, h1, h2, h3, ⟨⟨⟨r, n', h', e1, w _ _ _ q, rr⟩, hF⟩, q2⟩⟩
/-! calls -/
theorem aP_blind {D : va_G} {B n : Nat} {h : Hp} {av : List Value} : FrameBlind (va_Pc av (aP D B n h)) := fun a U g mk q => by
  obtain ⟨q0, q1, q2, q3⟩ := q
  exact ⟨q0, q1, q2.same rfl, q3.moved (u := U) (U := U.calling g mk a) (Vm.Alike.refl U.vm)⟩
theorem aP_of {D : va_G} {B n : Nat} {h : Hp} {s U : State} {H : Heap} {locs : List Loc} (hB : B ≤ s.heap.size) (hX : aX s) (R : aR D B n h s H) (S : va_S (aA B) s.heap H locs) (hU : U.heap = H) (hW : s.WarmedH U.vm) : aP D B n h U := ⟨by rw [hU]; exact Nat.le_trans hB S.1, hX.warm hW, by rw [hU]; exact R.moved hW.alike⟩
theorem lw_goodIn {w0 : Cond} (h : w0 ∈ lw_good) : GoodIn lw_good (w0 :: lw_good) := fun w hw => by
  have hm : w ∈ lw_good := (List.mem_cons.mp hw).elim (fun e => e ▸ h) id
  exact ⟨hm, good_of_word (List.mem_filter.mp hm).2⟩
theorem aw_go {M : MI} {G : AG} {pc kc ks n : Nat} {lv : List (Option Value)} {h : Hp} {rest : List Value} {M2 : MI} {mc ms : Nat} {h2 : Hp} {av : List Value} {Q2 : Option Value → Nat → Hp → Prop} {st0 : List Value}
    (run : ∀ (l : Launch) (D : va_G) (B : Nat) (p : Program) (e : Env) (s : State) (m : MethodId) (args : Array Value) (below : List Frame) (meth : Method) (c : Code) (H : Heap) (locs : List Loc) (ls : Array Slot), aC M G B p s m args meth c → aL ls M.2.2.1 lv → aR D B n h s H → va_S (aA B) s.heap H locs → va_Run p l e { frames := M.2.2.2.2.1, cells := G.1.1, slots := G.1.2, locals := M.2.2.2.2.2 } s m args below meth c H locs kc ks mc ms (F0 m pc ls st0) rest (aQ D B Q2 av.toArray) (aA B))
    (kk : ∀ (r : Option Value) (n' : Nat) (h' : Hp), Q2 r n' h' → AW M G (pc + 3) lv (r.toList ++ rest) (kc + mc) (ks + ms) n' h') : AW M G pc lv st0 kc ks n h := by
  intro l D B p e s m args below meth c H locs ls C L R S
  intro T hT X
  obtain ⟨v, st₀, t, T', L', h0, X', hL, e1, e2, ⟨⟨r, n', h', hv, q, hR'⟩, hz, hk⟩, st⟩ := run l D B p e s m args below meth c H locs ls C L R S T hT X
  have hv : v = r := by simpa using hv
  subst hv
  rw [h0] at hz hk
  have hvm : s.vm.Alike t.vm := by rw [← e2]; exact X'.warmed.alike
  obtain ⟨t2, a1, b1⟩ := kk v n' h' q l D B p e s m args below meth c T'.heap (locs ++ L') ls C L (by rw [e1]; exact hR'.moved hvm.symm)
    ⟨Nat.le_trans S.1 (by rw [e1]; exact hz), fun q h1 h2 => by rw [e1, hk q (Nat.lt_of_lt_of_le h1 S.1) h2]; exact S.2.1 q h1 h2, fun q hq => by
      rcases List.mem_append.mp hq with h | h
      · exact S.2.2 q h
      · exact hL q h⟩ T' rfl X'
  exact ⟨t2, st t2 a1, b1⟩
/-- a call's words: static, of an object, of a constructor -/
def MLs (own : String) (idx : Nat) (M2 : MI) (k : Nat) : Prop := Cond.methodLink own idx M2.1 ∈ lw_good ∧ Cond.static M2.1 ∈ lw_good ∧ Cond.initialized M2.1.cls ∈ lw_good ∧ Cond.code M2.1 M2.2.1 M2.2.2.1 M2.2.2.2.1 ∈ lw_good ∧ (M2.1.cls ≠ "java/lang/invoke/MethodHandle" ∧ M2.1.cls ≠ "java/lang/invoke/VarHandle" ∧ (parseMethodDescriptor M2.1.desc).map (fun d => d.parameters.length) = some k)
def MLv (own : String) (idx : Nat) (M2 : MI) (ci k : Nat) : Prop := (∃ r : vw_C, vwCl[ci]? = some r ∧ r.1 = M2.1.cls) ∧ Cond.methodLink own idx M2.1 ∈ lw_good ∧ Cond.instanceMethod M2.1 ∈ lw_good ∧ Cond.selects M2.1.cls M2.1 M2.1 ∈ lw_good ∧ Cond.initialized M2.1.cls ∈ lw_good ∧ Cond.code M2.1 M2.2.1 M2.2.2.1 M2.2.2.2.1 ∈ lw_good ∧ (M2.1.cls ≠ "java/lang/invoke/MethodHandle" ∧ M2.1.cls ≠ "java/lang/invoke/VarHandle" ∧ (parseMethodDescriptor M2.1.desc).map (fun d => d.parameters.length) = some k)
def MLi (own : String) (idx : Nat) (M2 : MI) (k : Nat) : Prop := M2.1.name = "<init>" ∧ M2.2.2.2.1 = none ∧ Cond.methodLink own idx M2.1 ∈ lw_good ∧ Cond.instanceMethod M2.1 ∈ lw_good ∧ Cond.initialized M2.1.cls ∈ lw_good ∧ Cond.code M2.1 M2.2.1 M2.2.2.1 M2.2.2.2.1 ∈ lw_good ∧ (M2.1.cls ≠ "java/lang/invoke/MethodHandle" ∧ M2.1.cls ≠ "java/lang/invoke/VarHandle" ∧ (parseMethodDescriptor M2.1.desc).map (fun d => d.parameters.length) = some k)
theorem aw_invokestatic {M : MI} {G : AG} {pc kc ks n : Nat} {lv : List (Option Value)} {h : Hp} {rest : List Value} {M2 : MI} {idx k mc ms : Nat} {Q2 : Option Value → Nat → Hp → Prop} (F : MLs M.1.cls idx M2 k) (hdg : decode M.2.1 pc = .ok (.invokestatic idx, 3)) {As : List Value} (hct : CT M2 mc ms n h As Q2) (hn : As.length = k) {st0 : List Value} (hst : st0 = As.reverse ++ rest) (hW : (rest.map fun v => v.category).sum ≤ 8) (hR : M2.2.2.2.2.1 + 1 ≤ M.2.2.2.2.1 ∧ 8 + (M2.2.2.1 + 11) + M2.2.2.2.2.2 ≤ M.2.2.2.2.2) (hf : kc + mc ≤ G.1.1 ∧ ks + ms ≤ G.1.2)
    (kk : ∀ (r : Option Value) (n' : Nat) (h' : Hp), Q2 r n' h' → AW M G (pc + 3) lv (r.toList ++ rest) (kc + mc) (ks + ms) n' h') : AW M G pc lv st0 kc ks n h := by
  subst hst
  refine aw_go (M2 := M2) (h2 := h) (av := As) (mc := mc) (ms := ms) ?_ kk
  intro l D B p e s m args below meth c H locs ls C L R S
  obtain ⟨f1, f2, f3, f4, f5⟩ := F
  have hts := C.2.2.2.2.2.1
  exact va_runS (Ts := lw_good) ⟨C.1, C.2.1, C.2.2.2.1, C.2.2.2.2.1, hts⟩ (hct l D B) ⟨callB_of k hts (lw_goodIn f4) rfl rfl rfl (hts _ f3) (hts _ f1) f5 hR, hts _ f2⟩ ⟨aP_blind, fun U hU hW => ⟨rfl, aP_of C.2.2.2.2.2.2.2.2.1 C.2.2.2.2.2.2.2.2.2.1 R S hU hW⟩⟩ rfl hn L.1 rfl (lv_room hW) hdg hf
theorem aw_invokevirtual {M : MI} {G : AG} {pc kc ks n : Nat} {lv : List (Option Value)} {h : Hp} {rest : List Value} {M2 : MI} {idx ci k mc ms : Nat} {Q2 : Option Value → Nat → Hp → Prop} (F : MLv M.1.cls idx M2 ci k) (hdg : decode M.2.1 pc = .ok (.invokevirtual idx, 3)) {b : Nat} {fs : List Value} (hb : h b = some (.inr (ci, fs))) {As : List Value} (hct : CT M2 mc ms n h (.ref b :: As) Q2) (hn : As.length = k) {st0 : List Value} (hst : st0 = As.reverse ++ .ref b :: rest) (hW : (rest.map fun v => v.category).sum ≤ 8) (hR : M2.2.2.2.2.1 + 1 ≤ M.2.2.2.2.1 ∧ 8 + (M2.2.2.1 + 11) + M2.2.2.2.2.2 ≤ M.2.2.2.2.2) (hf : kc + mc ≤ G.1.1 ∧ ks + ms ≤ G.1.2)
    (kk : ∀ (r : Option Value) (n' : Nat) (h' : Hp), Q2 r n' h' → AW M G (pc + 3) lv (r.toList ++ rest) (kc + mc) (ks + ms) n' h') : AW M G pc lv st0 kc ks n h := by
  subst hst
  refine aw_go (M2 := M2) (h2 := h) (av := .ref b :: As) (mc := mc) (ms := ms) ?_ kk
  intro l D B p e s m args below meth c H locs ls C L R S
  obtain ⟨⟨r, hc, hr⟩, f1, f2, f2b, f3, f4, f5⟩ := F
  have hts := C.2.2.2.2.2.1
  obtain ⟨z, ws, tys, hK, hP, hD, hV⟩ := id R
  obtain ⟨q0, he⟩ := hV b _ hb
  have hrecv := va_recv hK hP hc he
  rw [hr] at hrecv
  exact va_runV (Ts := lw_good) (C := M2.1.cls) ⟨C.1, C.2.1, C.2.2.2.1, C.2.2.2.2.1, hts⟩ (hct l D B) ⟨callB_of k hts (lw_goodIn f4) rfl rfl rfl (hts _ f3) (hts _ f1) f5 hR, hts _ f2, hts _ f2b⟩ ⟨aP_blind, hrecv, fun U hU hW => ⟨rfl, aP_of C.2.2.2.2.2.2.2.2.1 C.2.2.2.2.2.2.2.2.2.1 R S hU hW⟩⟩ rfl hn L.1 rfl (lv_room hW) hdg hf
theorem aw_invokespecial {M : MI} {G : AG} {pc kc ks n : Nat} {lv : List (Option Value)} {h : Hp} {rest : List Value} {M2 : MI} {idx k mc ms : Nat} {Q2 : Option Value → Nat → Hp → Prop} (F : MLi M.1.cls idx M2 k) (hdg : decode M.2.1 pc = .ok (.invokespecial idx, 3)) {b : Nat} {As : List Value} (hct : CT M2 mc ms n h (.ref b :: As) Q2) (hn : As.length = k) {st0 : List Value} (hst : st0 = As.reverse ++ .ref b :: rest) (hW : (rest.map fun v => v.category).sum ≤ 8) (hR : M2.2.2.2.2.1 + 1 ≤ M.2.2.2.2.1 ∧ 8 + (M2.2.2.1 + 11) + M2.2.2.2.2.2 ≤ M.2.2.2.2.2) (hf : kc + mc ≤ G.1.1 ∧ ks + ms ≤ G.1.2)
    (kk : ∀ (r : Option Value) (n' : Nat) (h' : Hp), Q2 r n' h' → AW M G (pc + 3) lv (r.toList ++ rest) (kc + mc) (ks + ms) n' h') : AW M G pc lv st0 kc ks n h := by
  subst hst
  refine aw_go (M2 := M2) (h2 := h) (av := .ref b :: As) (mc := mc) (ms := ms) ?_ kk
  intro l D B p e s m args below meth c H locs ls C L R S
  obtain ⟨f0, f00, f1, f2, f3, f4, f5⟩ := F
  have hts := C.2.2.2.2.2.1
  have hct' := hct l D B
  rw [f00] at hct' f4
  exact va_runI (Ts := lw_good) ⟨C.1, C.2.1, C.2.2.2.1, C.2.2.2.2.1, hts⟩ hct' ⟨callB_of k hts (lw_goodIn f4) rfl rfl rfl (hts _ f3) (hts _ f1) f5 hR, f0, hts _ f2⟩ ⟨aP_blind, fun U hU hW => ⟨rfl, aP_of C.2.2.2.2.2.2.2.2.1 C.2.2.2.2.2.2.2.2.2.1 R S hU hW⟩⟩ rfl hn L.1 rfl (lv_room hW) hdg hf
def MLn (own : String) (idx : Nat) (M2 : MI) (k : Nat) (host : String) : Prop := M2.1.name = "<init>" ∧ M2.2.2.2.1 = none ∧ (∀ s : State, aX s → va_Nw (.methodLinkNest own idx M2.1 host) s) ∧ Cond.instanceMethod M2.1 ∈ lw_good ∧ Cond.initialized M2.1.cls ∈ lw_good ∧ Cond.code M2.1 M2.2.1 M2.2.2.1 M2.2.2.2.1 ∈ lw_good ∧ (M2.1.cls ≠ "java/lang/invoke/MethodHandle" ∧ M2.1.cls ≠ "java/lang/invoke/VarHandle" ∧ (parseMethodDescriptor M2.1.desc).map (fun d => d.parameters.length) = some k)
theorem aw_invokenest {M : MI} {G : AG} {pc kc ks n : Nat} {lv : List (Option Value)} {h : Hp} {rest : List Value} {M2 : MI} {idx k mc ms : Nat} {host : String} {Q2 : Option Value → Nat → Hp → Prop} (F : MLn M.1.cls idx M2 k host) (hdg : decode M.2.1 pc = .ok (.invokespecial idx, 3)) {b : Nat} {As : List Value} (hct : CT M2 mc ms n h (.ref b :: As) Q2) (hn : As.length = k) {st0 : List Value} (hst : st0 = As.reverse ++ .ref b :: rest) (hW : (rest.map fun v => v.category).sum ≤ 8) (hR : M2.2.2.2.2.1 + 1 ≤ M.2.2.2.2.1 ∧ 8 + (M2.2.2.1 + 11) + M2.2.2.2.2.2 ≤ M.2.2.2.2.2) (hf : kc + mc ≤ G.1.1 ∧ ks + ms ≤ G.1.2)
    (kk : ∀ (r : Option Value) (n' : Nat) (h' : Hp), Q2 r n' h' → AW M G (pc + 3) lv (r.toList ++ rest) (kc + mc) (ks + ms) n' h') : AW M G pc lv st0 kc ks n h := by
  subst hst
  refine aw_go (M2 := M2) (h2 := h) (av := .ref b :: As) (mc := mc) (ms := ms) ?_ kk
  intro l D B p e s m args below meth c H locs ls C L R S
  obtain ⟨f0, f00, f1, f2, f3, f4, f5⟩ := F
  have hts := C.2.2.2.2.2.1
  have hct' := hct l D B
  rw [f00] at hct' f4
  exact va_runIN (Ts := lw_good) (host := host) ⟨C.1, C.2.1, C.2.2.2.1, C.2.2.2.2.1, hts⟩ hct' ⟨va_cnB k hts (lw_goodIn f4) rfl rfl rfl (f1 s C.2.2.2.2.2.2.2.2.2.1) (hts _ f3) f5 hR, f0, hts _ f2⟩ ⟨aP_blind, fun U hU hW => ⟨rfl, aP_of C.2.2.2.2.2.2.2.2.1 C.2.2.2.2.2.2.2.2.2.1 R S hU hW⟩⟩ rfl hn L.1 rfl (lv_room hW) hdg hf
theorem aw_objinit {M : MI} {G : AG} {pc kc ks n : Nat} {lv : List (Option Value)} {h : Hp} {rest : List Value} {idx a : Nat} (f1 : Cond.methodLink M.1.cls idx objectInit ∈ lw_good) (f2 : Cond.instanceMethod objectInit ∈ lw_good) (f3 : Cond.code objectInit ⟨#[0xb1]⟩ 1 none ∈ lw_good) (hdg : decode M.2.1 pc = .ok (.invokespecial idx, 3)) (hfr : 1 ≤ M.2.2.2.2.1) (hlo : (rest.map fun v => v.category).sum + 12 ≤ M.2.2.2.2.2) (kk : AW M G (pc + 3) lv rest kc ks n h) : AW M G pc lv (.ref a :: rest) kc ks n h :=
  fun l D B p e s m args below meth c H locs ls C L R S => W.objInit C.1 C.2.1 C.2.2.2.2.1 (C.2.2.2.2.2.1 _ f1) (C.2.2.2.2.2.1 _ f2) (C.2.2.2.2.2.1 _ f3) rfl (L.1.trans C.2.2.2.1.symm) rfl hdg hfr (by show 2 * 0 + _ + _ ≤ _; simpa using hlo) (kk l D B p e s m args below meth c H locs ls C L R S)
theorem aw_mmax {M : MI} {G : AG} {pc kc ks n : Nat} {lv : List (Option Value)} {h : Hp} {rest : List Value} {idx : Nat} {x y : Int32} (f1 : Cond.methodLink M.1.cls idx Lib.Math.max.name ∈ lw_good) (f2 : Cond.static Lib.Math.max.name ∈ lw_good) (f3 : Cond.initialized "java/lang/Math" ∈ lw_good) (f4 : Cond.code Lib.Math.max.name Lib.Math.max.code 2 (some .int) ∈ lw_good) (hdg : decode M.2.1 pc = .ok (.invokestatic idx, 3)) (hfr : 1 ≤ M.2.2.2.2.1) (hlo : (rest.map fun v => v.category).sum + 13 ≤ M.2.2.2.2.2) (hc : kc ≤ G.1.1) (hs : ks ≤ G.1.2) (kk : AW M G (pc + 3) lv (.int (if x < y then y else x) :: rest) kc ks n h) : AW M G pc lv (.int y :: .int x :: rest) kc ks n h :=
  fun l D B p e s m args below meth c H locs ls C L R S => va_mmax C.1 C.2.1 (C.2.2.2.1.trans L.1.symm) C.2.2.2.2.1 (C.2.2.2.2.2.1 _ f1) (C.2.2.2.2.2.1 _ f2) (C.2.2.2.2.2.1 _ f3) (C.2.2.2.2.2.1 _ f4) hfr hlo hc hs hdg (kk l D B p e s m args below meth c H locs ls C L R S)
theorem aw_mmin {M : MI} {G : AG} {pc kc ks n : Nat} {lv : List (Option Value)} {h : Hp} {rest : List Value} {idx : Nat} {x y : Int32} (f1 : Cond.methodLink M.1.cls idx Lib.Math.min.name ∈ lw_good) (f2 : Cond.static Lib.Math.min.name ∈ lw_good) (f3 : Cond.initialized "java/lang/Math" ∈ lw_good) (f4 : Cond.code Lib.Math.min.name Lib.Math.min.code 2 (some .int) ∈ lw_good) (hdg : decode M.2.1 pc = .ok (.invokestatic idx, 3)) (hfr : 1 ≤ M.2.2.2.2.1) (hlo : (rest.map fun v => v.category).sum + 13 ≤ M.2.2.2.2.2) (hc : kc ≤ G.1.1) (hs : ks ≤ G.1.2) (kk : AW M G (pc + 3) lv (.int (if y < x then y else x) :: rest) kc ks n h) : AW M G pc lv (.int y :: .int x :: rest) kc ks n h :=
  fun l D B p e s m args below meth c H locs ls C L R S => va_mmin C.1 C.2.1 (C.2.2.2.1.trans L.1.symm) C.2.2.2.2.1 (C.2.2.2.2.2.1 _ f1) (C.2.2.2.2.2.1 _ f2) (C.2.2.2.2.2.1 _ f3) (C.2.2.2.2.2.1 _ f4) hfr hlo hc hs hdg (kk l D B p e s m args below meth c H locs ls C L R S)
theorem aw_mabs {M : MI} {G : AG} {pc kc ks n : Nat} {lv : List (Option Value)} {h : Hp} {rest : List Value} {idx : Nat} {x : Int32} (f1 : Cond.methodLink M.1.cls idx Lib.Math.abs.name ∈ lw_good) (f2 : Cond.static Lib.Math.abs.name ∈ lw_good) (f3 : Cond.initialized "java/lang/Math" ∈ lw_good) (f4 : Cond.code Lib.Math.abs.name Lib.Math.abs.code 1 (some .int) ∈ lw_good) (hdg : decode M.2.1 pc = .ok (.invokestatic idx, 3)) (hfr : 1 ≤ M.2.2.2.2.1) (hlo : (rest.map fun v => v.category).sum + 13 ≤ M.2.2.2.2.2) (hc : kc ≤ G.1.1) (hs : ks ≤ G.1.2) (kk : AW M G (pc + 3) lv (.int (if 0 ≤ x then x else 0 - x) :: rest) kc ks n h) : AW M G pc lv (.int x :: rest) kc ks n h :=
  fun l D B p e s m args below meth c H locs ls C L R S => va_mabs C.1 C.2.1 (C.2.2.2.1.trans L.1.symm) C.2.2.2.2.1 (C.2.2.2.2.2.1 _ f1) (C.2.2.2.2.2.1 _ f2) (C.2.2.2.2.2.1 _ f3) (C.2.2.2.2.2.1 _ f4) hfr hlo hc hs hdg (kk l D B p e s m args below meth c H locs ls C L R S)
end
section

theorem aw_arraycopy {M : MI} {G : AG} {pc kc ks n : Nat} {lv : List (Option Value)} {h : Hp} {rest : List Value} {idx : Nat} (f1 : Cond.methodLink M.1.cls idx arraycopyName ∈ lw_good) (f2 : Cond.native arraycopyName ∈ lw_good) (f3 : Cond.static arraycopyName ∈ lw_good) (f4 : Cond.initialized "java/lang/System" ∈ lw_good) (hdg : decode M.2.1 pc = .ok (.invokestatic idx, 3))
    {a0 a n0 n1 j0 j1 k : Nat} {f g : Nat → Int32} {sp dp nn : Int32} (ha0 : h a0 = some (.inl (.int, n0, .inl f))) (ha1 : h a = some (.inl (.int, n1, .inl g))) (hsp : sp.toInt = (j0 : Int)) (hdp : dp.toInt = (j1 : Int)) (hnn : nn.toInt = (k : Int)) (h4 : j0 + k ≤ n0) (h5 : j1 + k ≤ n1) (hfr : 1 ≤ M.2.2.2.2.1) (hlo : (rest.map fun v => v.category).sum + (nativeFrameWords "java/lang/System" "arraycopy" 5 + 11) ≤ M.2.2.2.2.2)
    (kk : AW M G (pc + 3) lv rest kc ks n (hup h a (.inl (.int, n1, .inl (va_cpy f g j0 j1 k))))) : AW M G pc lv (.int nn :: .int dp :: .ref a :: .int sp :: .ref a0 :: rest) kc ks n h := by
  intro l D B p e s m args below meth c H locs ls C L R S
  obtain ⟨z, ws, tys, hK, hP, hD, hV⟩ := id R
  obtain ⟨q0, t0, c0, he0, ht0⟩ := hV a0 _ ha0
  obtain ⟨q1, t1, c1, he1, ht1⟩ := hV a _ ha1
  have hts := C.2.2.2.2.2.1
  have ng : ∀ (y : Int32) (i : Nat), y.toInt = (i : Int) → ¬ y < 0 := fun y i hy q => by have := Int32.lt_iff_toInt_lt.mp q; rw [hy] at this; simp at this; omega
  intro T hT X
  have hc0 : H[a0]? = some (vp_cell c0 (n0, .inl f)) := hP q0 _ he0
  have hc1 : H[a]? = some (vp_cell c1 (n1, .inl g)) := hP q1 _ he1
  obtain ⟨-, k0, hk0, cm0, hkk0⟩ := (hK.2 t0 _ ht0).1 n0 (fun j => .int (f j))
  obtain ⟨-, k1, hk1, cm1, hkk1⟩ := (hK.2 t1 _ ht1).1 n1 (fun j => .int (g j))
  obtain ⟨vm', X', step⟩ := X.arraycopy C.1 C.2.2.2.2.1 (hts _ f1) (hts _ f2) (hts _ f3) (hts _ f4) (src := a0) (dst := a) (cs := vp_cell c0 (n0, .inl f)) (cd := vp_cell c1 (n1, .inl g)) (srcPos := sp) (destPos := dp) (n := nn) (by rw [hT]; exact hc0) (by rw [hT]; exact hc1)
    (fun _ h => by cases h) (fun _ h => by cases h) (fun h => by cases h) (fun h => by cases h) hk0 hk1 hkk0 hkk1 (by simp [refKind]) (ng _ _ hsp) (ng _ _ hdp) (ng _ _ hnn)
    (by rw [hsp, hnn]; show ¬ _ > ((arrV c0 n0 (fun j => .int (f j))).slots.size : Int); rw [arrV_size]; omega)
    (by rw [hdp, hnn]; show ¬ _ > ((arrV c1 n1 (fun j => .int (g j))).slots.size : Int); rw [arrV_size]; omega)
    (fun vm₁ _ i hi => by
      rw [ix_cl hnn] at hi
      have e0 : (vp_cell c0 (n0, .inl f)).slots.getD (sp.toNatClampNeg + i) .null = .int (f (sp.toNatClampNeg + i)) := by
        show (arrV c0 n0 (fun j => .int (f j))).slots.getD _ _ = _
        rw [Array.getD_eq_getD_getElem?, arrV_read _ _ (by rw [ix_cl hsp]; omega)]
        rfl
      refine ⟨?_, ?_⟩
      · rw [e0]; rfl
      · rw [e0]; exact trivial)
    (g := F0 m pc ls (.int nn :: .int dp :: .ref a :: .int sp :: .ref a0 :: rest)) rfl (L.1.trans C.2.2.2.1.symm) (rest := rest) rfl (by rw [C.2.1]; exact hdg) hfr (by show 2 * 0 + _ + _ ≤ _; show 2 * 0 + _ + _ ≤ M.2.2.2.2.2; omega)
  have e1 : copied (vp_cell c0 (n0, .inl f)) (vp_cell c1 (n1, .inl g)) sp dp nn = vp_cell c1 (n1, .inl (va_cpy f g j0 j1 k)) := by
    have e2 : copied (vp_cell c0 (n0, .inl f)) (vp_cell c1 (n1, .inl g)) sp dp nn = vp_cell c1 (n1, .inl (va_cpy f g sp.toNatClampNeg dp.toNatClampNeg nn.toNatClampNeg)) := va_copied (fun z => .int z) c0 c1 f g (by rw [ix_cl hsp, ix_cl hnn]; exact h4)
    rw [ix_cl hsp, ix_cl hdp, ix_cl hnn] at e2
    exact e2
  rw [e1] at X' step
  have hl : a < H.size := (Array.getElem?_eq_some_iff.mp hc1).1
  have hheap : ((T.setVm vm').setCell a (vp_cell c1 (n1, .inl (va_cpy f g j0 j1 k)))).heap = H.setIfInBounds a (vp_cell c1 (n1, .inl (va_cpy f g j0 j1 k))) := by rw [← hT]; rfl
  have oq : ∀ q : Nat, q ≠ a → (H.setIfInBounds a (vp_cell c1 (n1, .inl (va_cpy f g j0 j1 k))))[q]? = H[q]? := fun q hq => by simp [Array.getElem?_setIfInBounds, Ne.symm hq]
  obtain ⟨t, a1, b1⟩ := kk l D B p e s m args below meth c _ _ ls C L (aR_set z hK hP hD hV he1 (e' := .inl (c1, n1, .inl (va_cpy f g j0 j1 k))) (show (H.setIfInBounds a _)[a]? = some _ by simp [Array.getElem?_setIfInBounds, hl]) (by simp) oq (fun ws' q => ⟨q1, t1, c1, q, ht1⟩)) ⟨by simp; exact S.1, fun q g1 g2 => by
      rw [oq q (fun e => g2 (by rw [e]; exact hD.2 q1 _ he1))]
      exact S.2.1 q g1 g2, fun q hq => by
      rcases List.mem_append.mp hq with h | h
      · exact S.2.2 q h
      · obtain ⟨z, -, hz⟩ := List.mem_map.mp h
        rw [← hz]
        exact hD.2 q1 _ he1⟩ _ hheap X'
  exact ⟨t, step t a1, b1⟩
theorem aw_mabs_long {M : MI} {G : AG} {pc kc ks n : Nat} {lv : List (Option Value)} {h : Hp} {rest : List Value} {idx : Nat} {x : Int64} (f1 : Cond.methodLink M.1.cls idx Lib.MathLoose.abs_long.x ∈ lw_good) (f2 : Cond.static Lib.MathLoose.abs_long.x ∈ lw_good) (f3 : Cond.initialized "java/lang/Math" ∈ lw_good) (f4 : Cond.code Lib.MathLoose.abs_long.x Lib.MathLoose.abs_long.code 2 (some .long) ∈ lw_good) (hdg : decode M.2.1 pc = .ok (.invokestatic idx, 3)) (hfr : 1 ≤ M.2.2.2.2.1) (hlo : (rest.map fun v => v.category).sum + 13 ≤ M.2.2.2.2.2) (hc : kc ≤ G.1.1) (hs : ks ≤ G.1.2) (kk : AW M G (pc + 3) lv (.long (if 0 < x then x else -x) :: rest) kc ks n h) : AW M G pc lv (.long x :: rest) kc ks n h :=
  fun l D B p e s m args below meth c H locs ls C L R S => va_mabs_long C.1 C.2.1 (C.2.2.2.1.trans L.1.symm) C.2.2.2.2.1 (C.2.2.2.2.2.1 _ f1) (C.2.2.2.2.2.1 _ f2) (C.2.2.2.2.2.1 _ f3) (C.2.2.2.2.2.1 _ f4) hfr hlo hc hs hdg (kk l D B p e s m args below meth c H locs ls C L R S)
end
section
theorem inX0 : ∀ w ∈ u_ws RX0 TX0 9, w ∈ lw_good := by decide +kernel
theorem inX1 : ∀ w ∈ u_ws RX1 TX1 3, w ∈ lw_good := by decide +kernel
theorem inX2 : ∀ w ∈ u_ws RX2 TX2 6, w ∈ lw_good := by decide +kernel
theorem inX3 : ∀ w ∈ u_ws RX3 TX3 2, w ∈ lw_good := by decide +kernel
theorem inX4 : ∀ w ∈ u_ws RX4 TX4 3, w ∈ lw_good := by decide +kernel
theorem inX5 : ∀ w ∈ u_ws RX5 TX5 4, w ∈ lw_good := by decide +kernel
theorem inX6 : ∀ w ∈ u_ws RX6 TX6 6, w ∈ lw_good := by decide +kernel
theorem inX7 : ∀ w ∈ u_ws RX7 TX7 17, w ∈ lw_good := by decide +kernel
theorem inX8 : ∀ w ∈ u_ws RX8 TX8 39, w ∈ lw_good := by decide +kernel
abbrev mX0_init : MI := (yX0_init, cX0_init, 1, none, 2, 42)
theorem wcX0_init : Cond.code mX0_init.1 mX0_init.2.1 mX0_init.2.2.1 mX0_init.2.2.2.1 ∈ lw_good := gd_1 73 rfl rfl
abbrev mX0_toLowestTerms : MI := (yX0_toLowestTerms, cX0_toLowestTerms, 2, none, 4, 111)
theorem wcX0_toLowestTerms : Cond.code mX0_toLowestTerms.1 mX0_toLowestTerms.2.1 mX0_toLowestTerms.2.2.1 mX0_toLowestTerms.2.2.2.1 ∈ lw_good := gd_2 116 rfl rfl
abbrev mX0_divide : MI := (yX0_divide, cX0_divide, 8, (some (.object "TailBounds$Num")), 2, 60)
theorem wcX0_divide : Cond.code mX0_divide.1 mX0_divide.2.1 mX0_divide.2.2.1 mX0_divide.2.2.2.1 ∈ lw_good := gd_2 167 rfl rfl
abbrev mX0_guessAt : MI := (yX0_guessAt, cX0_guessAt, 16, (some .long), 1, 25)
theorem wcX0_guessAt : Cond.code mX0_guessAt.1 mX0_guessAt.2.1 mX0_guessAt.2.2.1 mX0_guessAt.2.2.2.1 ∈ lw_good := gd_2 175 rfl rfl
abbrev mX0_unsignedQuotient : MI := (yX0_unsignedQuotient, cX0_unsignedQuotient, 6, (some .long), 0, 0)
theorem wcX0_unsignedQuotient : Cond.code mX0_unsignedQuotient.1 mX0_unsignedQuotient.2.1 mX0_unsignedQuotient.2.2.1 mX0_unsignedQuotient.2.2.2.1 ∈ lw_good := gd_2 179 rfl rfl
abbrev mX0_takeAway : MI := (yX0_takeAway, cX0_takeAway, 10, (some .boolean), 1, 21)
theorem wcX0_takeAway : Cond.code mX0_takeAway.1 mX0_takeAway.2.1 mX0_takeAway.2.2.1 mX0_takeAway.2.2.2.1 ∈ lw_good := gd_2 184 rfl rfl
abbrev mX0_giveBack : MI := (yX0_giveBack, cX0_giveBack, 6, none, 1, 21)
theorem wcX0_giveBack : Cond.code mX0_giveBack.1 mX0_giveBack.2.1 mX0_giveBack.2.2.1 mX0_giveBack.2.2.2.1 ∈ lw_good := gd_2 188 rfl rfl
abbrev mX0_findCommon : MI := (yX0_findCommon, cX0_findCommon, 5, none, 3, 87)
theorem wcX0_findCommon : Cond.code mX0_findCommon.1 mX0_findCommon.2.1 mX0_findCommon.2.2.1 mX0_findCommon.2.2.2.1 ∈ lw_good := gd_2 120 rfl rfl
abbrev mX0_finish : MI := (yX0_finish, cX0_finish, 8, none, 2, 42)
theorem wcX0_finish : Cond.code mX0_finish.1 mX0_finish.2.1 mX0_finish.2.2.1 mX0_finish.2.2.2.1 ∈ lw_good := gd_2 134 rfl rfl
abbrev mX0_moveOn : MI := (yX0_moveOn, cX0_moveOn, 2, none, 0, 0)
theorem wcX0_moveOn : Cond.code mX0_moveOn.1 mX0_moveOn.2.1 mX0_moveOn.2.2.1 mX0_moveOn.2.2.2.1 ∈ lw_good := gd_2 196 rfl rfl
abbrev mX0_findLeap : MI := (yX0_findLeap, cX0_findLeap, 15, (some .boolean), 2, 46)
theorem wcX0_findLeap : Cond.code mX0_findLeap.1 mX0_findLeap.2.1 mX0_findLeap.2.2.1 mX0_findLeap.2.2.2.1 ∈ lw_good := gd_2 148 rfl rfl
abbrev mX0_leap : MI := (yX0_leap, cX0_leap, 11, none, 1, 21)
theorem wcX0_leap : Cond.code mX0_leap.1 mX0_leap.2.1 mX0_leap.2.2.1 mX0_leap.2.2.2.1 ∈ lw_good := gd_2 160 rfl rfl
abbrev mX1_init : MI := (yX1_init, cX1_init, 2, none, 2, 42)
theorem wcX1_init : Cond.code mX1_init.1 mX1_init.2.1 mX1_init.2.2.1 mX1_init.2.2.2.1 ∈ lw_good := gd_1 28 rfl rfl
abbrev mX1_half : MI := (yX1_half, cX1_half, 2, (some (.object "TailBounds$Num")), 0, 0)
theorem wcX1_half : Cond.code mX1_half.1 mX1_half.2.1 mX1_half.2.2.1 mX1_half.2.2.2.1 ∈ lw_good := gd_3 189 rfl rfl
abbrev mX1_put : MI := (yX1_put, cX1_put, 3, none, 2, 42)
theorem wcX1_put : Cond.code mX1_put.1 mX1_put.2.1 mX1_put.2.2.1 mX1_put.2.2.2.1 ∈ lw_good := gd_3 43 rfl rfl
abbrev mX1_copy : MI := (yX1_copy, cX1_copy, 2, none, 2, 61)
theorem wcX1_copy : Cond.code mX1_copy.1 mX1_copy.2.1 mX1_copy.2.2.1 mX1_copy.2.2.2.1 ∈ lw_good := gd_2 204 rfl rfl
abbrev mX1_capAtOne : MI := (yX1_capAtOne, cX1_capAtOne, 1, none, 3, 64)
theorem wcX1_capAtOne : Cond.code mX1_capAtOne.1 mX1_capAtOne.2.1 mX1_capAtOne.2.2.1 mX1_capAtOne.2.2.2.1 ∈ lw_good := gd_3 146 rfl rfl
abbrev mX1_addUp : MI := (yX1_addUp, cX1_addUp, 4, none, 3, 72)
theorem wcX1_addUp : Cond.code mX1_addUp.1 mX1_addUp.2.1 mX1_addUp.2.2.1 mX1_addUp.2.2.2.1 ∈ lw_good := gd_3 160 rfl rfl
abbrev mX1_multiply : MI := (yX1_multiply, cX1_multiply, 3, none, 2, 49)
theorem wcX1_multiply : Cond.code mX1_multiply.1 mX1_multiply.2.1 mX1_multiply.2.2.1 mX1_multiply.2.2.2.1 ∈ lw_good := gd_3 166 rfl rfl
abbrev mX1_lessThanOne : MI := (yX1_lessThanOne, cX1_lessThanOne, 2, none, 2, 61)
theorem wcX1_lessThanOne : Cond.code mX1_lessThanOne.1 mX1_lessThanOne.2.1 mX1_lessThanOne.2.2.1 mX1_lessThanOne.2.2.2.1 ∈ lw_good := gd_3 175 rfl rfl
abbrev mX2_init : MI := (yX2_init, cX2_init, 1, none, 2, 42)
theorem wcX2_init : Cond.code mX2_init.1 mX2_init.2.1 mX2_init.2.2.1 mX2_init.2.2.2.1 ∈ lw_good := gd_1 109 rfl rfl
abbrev mX2_findTail : MI := (yX2_findTail, cX2_findTail, 6, none, 3, 86)
theorem wcX2_findTail : Cond.code mX2_findTail.1 mX2_findTail.2.1 mX2_findTail.2.2.1 mX2_findTail.2.2.2.1 ∈ lw_good := gd_3 105 rfl rfl
abbrev mX2_isInTail : MI := (yX2_isInTail, cX2_isInTail, 6, (some .boolean), 2, 61)
theorem wcX2_isInTail : Cond.code mX2_isInTail.1 mX2_isInTail.2.1 mX2_isInTail.2.2.1 mX2_isInTail.2.2.2.1 ∈ lw_good := gd_3 110 rfl rfl
abbrev mX2_findMoment : MI := (yX2_findMoment, cX2_findMoment, 4, none, 5, 124)
theorem wcX2_findMoment : Cond.code mX2_findMoment.1 mX2_findMoment.2.1 mX2_findMoment.2.2.1 mX2_findMoment.2.2.2.1 ∈ lw_good := gd_3 64 rfl rfl
abbrev mX2_isAboveMean : MI := (yX2_isAboveMean, cX2_isAboveMean, 3, (some .boolean), 2, 61)
theorem wcX2_isAboveMean : Cond.code mX2_isAboveMean.1 mX2_isAboveMean.2.1 mX2_isAboveMean.2.2.1 mX2_isAboveMean.2.2.2.1 ∈ lw_good := gd_3 119 rfl rfl
abbrev mX2_boundByMean : MI := (yX2_boundByMean, cX2_boundByMean, 4, none, 3, 82)
theorem wcX2_boundByMean : Cond.code mX2_boundByMean.1 mX2_boundByMean.2.1 mX2_boundByMean.2.2.1 mX2_boundByMean.2.2.2.1 ∈ lw_good := gd_3 123 rfl rfl
abbrev mX2_boundByMoment : MI := (yX2_boundByMoment, cX2_boundByMoment, 5, none, 5, 124)
theorem wcX2_boundByMoment : Cond.code mX2_boundByMoment.1 mX2_boundByMoment.2.1 mX2_boundByMoment.2.2.1 mX2_boundByMoment.2.2.2.1 ∈ lw_good := gd_3 142 rfl rfl
abbrev mX2_raise : MI := (yX2_raise, cX2_raise, 4, none, 2, 61)
theorem wcX2_raise : Cond.code mX2_raise.1 mX2_raise.2.1 mX2_raise.2.2.1 mX2_raise.2.2.2.1 ∈ lw_good := gd_3 97 rfl rfl
abbrev mX2_sumOfPowers : MI := (yX2_sumOfPowers, cX2_sumOfPowers, 7, none, 3, 74)
theorem wcX2_sumOfPowers : Cond.code mX2_sumOfPowers.1 mX2_sumOfPowers.2.1 mX2_sumOfPowers.2.2.1 mX2_sumOfPowers.2.2.2.1 ∈ lw_good := gd_3 73 rfl rfl
abbrev mX2_spreadOfTwo : MI := (yX2_spreadOfTwo, cX2_spreadOfTwo, 3, none, 4, 100)
theorem wcX2_spreadOfTwo : Cond.code mX2_spreadOfTwo.1 mX2_spreadOfTwo.2.1 mX2_spreadOfTwo.2.2.1 mX2_spreadOfTwo.2.2.2.1 ∈ lw_good := gd_3 68 rfl rfl
abbrev mX2_spreadOfFour : MI := (yX2_spreadOfFour, cX2_spreadOfFour, 5, none, 4, 100)
theorem wcX2_spreadOfFour : Cond.code mX2_spreadOfFour.1 mX2_spreadOfFour.2.1 mX2_spreadOfFour.2.2.1 mX2_spreadOfFour.2.2.2.1 ∈ lw_good := gd_3 83 rfl rfl
abbrev mX2_boundByPowers : MI := (yX2_boundByPowers, cX2_boundByPowers, 6, (some .int), 4, 98)
theorem wcX2_boundByPowers : Cond.code mX2_boundByPowers.1 mX2_boundByPowers.2.1 mX2_boundByPowers.2.2.1 mX2_boundByPowers.2.2.2.1 ∈ lw_good := gd_3 128 rfl rfl
abbrev mX2_weigh : MI := (yX2_weigh, cX2_weigh, 5, none, 3, 74)
theorem wcX2_weigh : Cond.code mX2_weigh.1 mX2_weigh.2.1 mX2_weigh.2.2.1 mX2_weigh.2.2.2.1 ∈ lw_good := gd_3 132 rfl rfl
abbrev mX3_init : MI := (yX3_init, cX3_init, 2, none, 1, 21)
theorem wcX3_init : Cond.code mX3_init.1 mX3_init.2.1 mX3_init.2.2.1 mX3_init.2.2.2.1 ∈ lw_good := gd_1 34 rfl rfl
abbrev mX3_clear : MI := (yX3_clear, cX3_clear, 1, none, 0, 0)
theorem wcX3_clear : Cond.code mX3_clear.1 mX3_clear.2.1 mX3_clear.2.2.1 mX3_clear.2.2.2.1 ∈ lw_good := gd_2 92 rfl rfl
abbrev mX3_put : MI := (yX3_put, cX3_put, 3, none, 1, 20)
theorem wcX3_put : Cond.code mX3_put.1 mX3_put.2.1 mX3_put.2.2.1 mX3_put.2.2.2.1 ∈ lw_good := gd_2 31 rfl rfl
abbrev mX3_copy : MI := (yX3_copy, cX3_copy, 2, none, 1, 40)
theorem wcX3_copy : Cond.code mX3_copy.1 mX3_copy.2.1 mX3_copy.2.2.1 mX3_copy.2.2.2.1 ∈ lw_good := gd_2 108 rfl rfl
abbrev mX3_trim : MI := (yX3_trim, cX3_trim, 1, none, 0, 0)
theorem wcX3_trim : Cond.code mX3_trim.1 mX3_trim.2.1 mX3_trim.2.2.1 mX3_trim.2.2.2.1 ∈ lw_good := gd_2 35 rfl rfl
abbrev mX3_word : MI := (yX3_word, cX3_word, 2, (some .long), 0, 0)
theorem wcX3_word : Cond.code mX3_word.1 mX3_word.2.1 mX3_word.2.2.1 mX3_word.2.2.2.1 ∈ lw_good := gd_2 142 rfl rfl
abbrev mX3_isOne : MI := (yX3_isOne, cX3_isOne, 1, (some .boolean), 0, 0)
theorem wcX3_isOne : Cond.code mX3_isOne.1 mX3_isOne.2.1 mX3_isOne.2.2.1 mX3_isOne.2.2.2.1 ∈ lw_good := gd_2 200 rfl rfl
abbrev mX3_toLong : MI := (yX3_toLong, cX3_toLong, 1, (some .long), 1, 21)
theorem wcX3_toLong : Cond.code mX3_toLong.1 mX3_toLong.2.1 mX3_toLong.2.2.1 mX3_toLong.2.2.2.1 ∈ lw_good := gd_2 138 rfl rfl
abbrev mX3_bits : MI := (yX3_bits, cX3_bits, 4, (some .int), 0, 0)
theorem wcX3_bits : Cond.code mX3_bits.1 mX3_bits.2.1 mX3_bits.2.2.1 mX3_bits.2.2.2.1 ∈ lw_good := gd_2 130 rfl rfl
abbrev mX3_window : MI := (yX3_window, cX3_window, 6, (some .long), 1, 21)
theorem wcX3_window : Cond.code mX3_window.1 mX3_window.2.1 mX3_window.2.2.1 mX3_window.2.2.2.1 ∈ lw_good := gd_2 152 rfl rfl
abbrev mX3_against : MI := (yX3_against, cX3_against, 3, (some .int), 0, 0)
theorem wcX3_against : Cond.code mX3_against.1 mX3_against.2.1 mX3_against.2.2.1 mX3_against.2.2.2.1 ∈ lw_good := gd_2 124 rfl rfl
abbrev mX3_widenTo : MI := (yX3_widenTo, cX3_widenTo, 2, none, 0, 0)
theorem wcX3_widenTo : Cond.code mX3_widenTo.1 mX3_widenTo.2.1 mX3_widenTo.2.2.1 mX3_widenTo.2.2.2.1 ∈ lw_good := gd_2 104 rfl rfl
abbrev mX3_copyShifted : MI := (yX3_copyShifted, cX3_copyShifted, 7, none, 1, 21)
theorem wcX3_copyShifted : Cond.code mX3_copyShifted.1 mX3_copyShifted.2.1 mX3_copyShifted.2.2.1 mX3_copyShifted.2.2.2.1 ∈ lw_good := gd_2 171 rfl rfl
abbrev mX3_add : MI := (yX3_add, cX3_add, 2, none, 2, 51)
theorem wcX3_add : Cond.code mX3_add.1 mX3_add.2.1 mX3_add.2.2.1 mX3_add.2.2.2.1 ∈ lw_good := gd_3 89 rfl rfl
abbrev mX3_addScaled : MI := (yX3_addScaled, cX3_addScaled, 11, none, 1, 21)
theorem wcX3_addScaled : Cond.code mX3_addScaled.1 mX3_addScaled.2.1 mX3_addScaled.2.2.1 mX3_addScaled.2.2.2.1 ∈ lw_good := gd_2 100 rfl rfl
abbrev mX3_subtract : MI := (yX3_subtract, cX3_subtract, 5, none, 1, 21)
theorem wcX3_subtract : Cond.code mX3_subtract.1 mX3_subtract.2.1 mX3_subtract.2.2.1 mX3_subtract.2.2.2.1 ∈ lw_good := gd_3 79 rfl rfl
abbrev mX3_scale : MI := (yX3_scale, cX3_scale, 6, none, 1, 20)
theorem wcX3_scale : Cond.code mX3_scale.1 mX3_scale.2.1 mX3_scale.2.2.1 mX3_scale.2.2.2.1 ∈ lw_good := gd_2 39 rfl rfl
abbrev mX3_power : MI := (yX3_power, cX3_power, 4, none, 2, 45)
theorem wcX3_power : Cond.code mX3_power.1 mX3_power.2.1 mX3_power.2.2.1 mX3_power.2.2.2.1 ∈ lw_good := gd_2 27 rfl rfl
abbrev mX3_product : MI := (yX3_product, cX3_product, 9, none, 1, 21)
theorem wcX3_product : Cond.code mX3_product.1 mX3_product.2.1 mX3_product.2.2.1 mX3_product.2.2.2.1 ∈ lw_good := gd_2 229 rfl rfl
abbrev mX3_shiftDown : MI := (yX3_shiftDown, cX3_shiftDown, 3, none, 1, 21)
theorem wcX3_shiftDown : Cond.code mX3_shiftDown.1 mX3_shiftDown.2.1 mX3_shiftDown.2.2.1 mX3_shiftDown.2.2.2.1 ∈ lw_good := gd_2 192 rfl rfl
abbrev mX4_init : MI := (yX4_init, cX4_init, 3, none, 1, 21)
theorem wcX4_init : Cond.code mX4_init.1 mX4_init.2.1 mX4_init.2.2.1 mX4_init.2.2.2.1 ∈ lw_good := gd_1 144 rfl rfl
abbrev mX4_lacks : MI := (yX4_lacks, cX4_lacks, 2, (some .boolean), 0, 0)
theorem wcX4_lacks : Cond.code mX4_lacks.1 mX4_lacks.2.1 mX4_lacks.2.2.1 mX4_lacks.2.2.2.1 ∈ lw_good := gd_2 50 rfl rfl
abbrev mX4_word : MI := (yX4_word, cX4_word, 3, (some .long), 1, 21)
theorem wcX4_word : Cond.code mX4_word.1 mX4_word.2.1 mX4_word.2.2.1 mX4_word.2.2.2.1 ∈ lw_good := gd_3 2 rfl rfl
abbrev mX4_write : MI := (yX4_write, cX4_write, 4, none, 1, 21)
theorem wcX4_write : Cond.code mX4_write.1 mX4_write.2.1 mX4_write.2.2.1 mX4_write.2.2.2.1 ∈ lw_good := gd_2 46 rfl rfl
abbrev mX4_erase : MI := (yX4_erase, cX4_erase, 3, none, 1, 21)
theorem wcX4_erase : Cond.code mX4_erase.1 mX4_erase.2.1 mX4_erase.2.2.1 mX4_erase.2.2.2.1 ∈ lw_good := gd_4 30 rfl rfl
abbrev mX4_startAnew : MI := (yX4_startAnew, cX4_startAnew, 1, none, 1, 23)
theorem wcX4_startAnew : Cond.code mX4_startAnew.1 mX4_startAnew.2.1 mX4_startAnew.2.2.1 mX4_startAnew.2.2.2.1 ∈ lw_good := gd_3 227 rfl rfl
abbrev mX4_isZero : MI := (yX4_isZero, cX4_isZero, 3, (some .boolean), 2, 43)
theorem wcX4_isZero : Cond.code mX4_isZero.1 mX4_isZero.2.1 mX4_isZero.2.2.1 mX4_isZero.2.2.2.1 ∈ lw_good := gd_2 238 rfl rfl
abbrev mX4_zeros : MI := (yX4_zeros, cX4_zeros, 3, (some .int), 3, 65)
theorem wcX4_zeros : Cond.code mX4_zeros.1 mX4_zeros.2.1 mX4_zeros.2.2.1 mX4_zeros.2.2.2.1 ∈ lw_good := gd_3 24 rfl rfl
abbrev mX4_addTo : MI := (yX4_addTo, cX4_addTo, 4, none, 2, 51)
theorem wcX4_addTo : Cond.code mX4_addTo.1 mX4_addTo.2.1 mX4_addTo.2.2.1 mX4_addTo.2.2.2.1 ∈ lw_good := gd_2 96 rfl rfl
abbrev mX4_addShiftedTo : MI := (yX4_addShiftedTo, cX4_addShiftedTo, 4, none, 2, 51)
theorem wcX4_addShiftedTo : Cond.code mX4_addShiftedTo.1 mX4_addShiftedTo.2.1 mX4_addShiftedTo.2.2.1 mX4_addShiftedTo.2.2.2.1 ∈ lw_good := gd_3 136 rfl rfl
abbrev mX4_addRound : MI := (yX4_addRound, cX4_addRound, 10, none, 1, 21)
theorem wcX4_addRound : Cond.code mX4_addRound.1 mX4_addRound.2.1 mX4_addRound.2.2.1 mX4_addRound.2.2.2.1 ∈ lw_good := gd_2 54 rfl rfl
abbrev mX4_addFrom : MI := (yX4_addFrom, cX4_addFrom, 7, none, 2, 43)
theorem wcX4_addFrom : Cond.code mX4_addFrom.1 mX4_addFrom.2.1 mX4_addFrom.2.2.1 mX4_addFrom.2.2.2.1 ∈ lw_good := gd_3 16 rfl rfl
abbrev mX4_addAllPairs : MI := (yX4_addAllPairs, cX4_addAllPairs, 5, none, 3, 74)
theorem wcX4_addAllPairs : Cond.code mX4_addAllPairs.1 mX4_addAllPairs.2.1 mX4_addAllPairs.2.2.1 mX4_addAllPairs.2.2.2.1 ∈ lw_good := gd_2 234 rfl rfl
abbrev mX4_addPair : MI := (yX4_addPair, cX4_addPair, 12, none, 2, 43)
theorem wcX4_addPair : Cond.code mX4_addPair.1 mX4_addPair.2.1 mX4_addPair.2.2.1 mX4_addPair.2.2.2.1 ∈ lw_good := gd_3 6 rfl rfl
abbrev mX5_init : MI := (yX5_init, cX5_init, 3, none, 3, 63)
theorem wcX5_init : Cond.code mX5_init.1 mX5_init.2.1 mX5_init.2.2.1 mX5_init.2.2.2.1 ∈ lw_good := gd_2 63 rfl rfl
abbrev mX6_init : MI := (yX6_init, cX6_init, 1, none, 2, 43)
theorem wcX6_init : Cond.code mX6_init.1 mX6_init.2.1 mX6_init.2.2.1 mX6_init.2.2.2.1 ∈ lw_good := gd_1 136 rfl rfl
abbrev mX6_start : MI := (yX6_start, cX6_start, 3, none, 2, 43)
theorem wcX6_start : Cond.code mX6_start.1 mX6_start.2.1 mX6_start.2.2.1 mX6_start.2.2.2.1 ∈ lw_good := gd_3 222 rfl rfl
abbrev mX6_tossNext : MI := (yX6_tossNext, cX6_tossNext, 1, none, 2, 50)
theorem wcX6_tossNext : Cond.code mX6_tossNext.1 mX6_tossNext.2.1 mX6_tossNext.2.2.1 mX6_tossNext.2.2.2.1 ∈ lw_good := gd_3 238 rfl rfl
abbrev mX6_addFrom : MI := (yX6_addFrom, cX6_addFrom, 5, none, 3, 74)
theorem wcX6_addFrom : Cond.code mX6_addFrom.1 mX6_addFrom.2.1 mX6_addFrom.2.2.1 mX6_addFrom.2.2.2.1 ∈ lw_good := gd_4 25 rfl rfl
abbrev mX6_isRareNext : MI := (yX6_isRareNext, cX6_isRareNext, 6, (some .boolean), 3, 74)
theorem wcX6_isRareNext : Cond.code mX6_isRareNext.1 mX6_isRareNext.2.1 mX6_isRareNext.2.2.1 mX6_isRareNext.2.2.2.1 ∈ lw_good := gd_3 234 rfl rfl
abbrev mX7_init : MI := (yX7_init, cX7_init, 2, none, 3, 63)
theorem wcX7_init : Cond.code mX7_init.1 mX7_init.2.1 mX7_init.2.2.1 mX7_init.2.2.2.1 ∈ lw_good := gd_1 17 rfl rfl
abbrev mX7_weight : MI := (yX7_weight, cX7_weight, 2, (some .int), 1, 22)
theorem wcX7_weight : Cond.code mX7_weight.1 mX7_weight.2.1 mX7_weight.2.2.1 mX7_weight.2.2.2.1 ∈ lw_good := gd_1 238 rfl rfl
abbrev mX7_wipe : MI := (yX7_wipe, cX7_wipe, 2, (some .int), 0, 0)
theorem wcX7_wipe : Cond.code mX7_wipe.1 mX7_wipe.2.1 mX7_wipe.2.2.1 mX7_wipe.2.2.2.1 ∈ lw_good := gd_2 5 rfl rfl
abbrev mX7_coins : MI := (yX7_coins, cX7_coins, 4, (some .int), 6, 156)
theorem wcX7_coins : Cond.code mX7_coins.1 mX7_coins.2.1 mX7_coins.2.2.1 mX7_coins.2.2.2.1 ∈ lw_good := gd_2 9 rfl rfl
abbrev mX7_drawn : MI := (yX7_drawn, cX7_drawn, 6, (some .int), 6, 156)
theorem wcX7_drawn : Cond.code mX7_drawn.1 mX7_drawn.2.1 mX7_drawn.2.2.1 mX7_drawn.2.2.2.1 ∈ lw_good := gd_2 209 rfl rfl
abbrev mX7_sums : MI := (yX7_sums, cX7_sums, 2, (some .int), 6, 156)
theorem wcX7_sums : Cond.code mX7_sums.1 mX7_sums.2.1 mX7_sums.2.2.1 mX7_sums.2.2.2.1 ∈ lw_good := gd_2 217 rfl rfl
abbrev mX7_both : MI := (yX7_both, cX7_both, 6, (some .int), 6, 156)
theorem wcX7_both : Cond.code mX7_both.1 mX7_both.2.1 mX7_both.2.2.1 mX7_both.2.2.2.1 ∈ lw_good := gd_2 221 rfl rfl
abbrev mX7_held : MI := (yX7_held, cX7_held, 7, (some .int), 6, 156)
theorem wcX7_held : Cond.code mX7_held.1 mX7_held.2.1 mX7_held.2.2.1 mX7_held.2.2.2.1 ∈ lw_good := gd_3 10 rfl rfl
abbrev mX7_source : MI := (yX7_source, cX7_source, 4, (some .int), 4, 87)
theorem wcX7_source : Cond.code mX7_source.1 mX7_source.2.1 mX7_source.2.2.1 mX7_source.2.2.2.1 ∈ lw_good := gd_3 20 rfl rfl
abbrev mX7_counted : MI := (yX7_counted, cX7_counted, 7, (some .int), 2, 43)
theorem wcX7_counted : Cond.code mX7_counted.1 mX7_counted.2.1 mX7_counted.2.2.1 mX7_counted.2.2.2.1 ∈ lw_good := gd_3 28 rfl rfl
abbrev mX7_set : MI := (yX7_set, cX7_set, 5, (some .int), 6, 153)
theorem wcX7_set : Cond.code mX7_set.1 mX7_set.2.1 mX7_set.2.2.1 mX7_set.2.2.2.1 ∈ lw_good := gd_3 35 rfl rfl
abbrev mX7_mean : MI := (yX7_mean, cX7_mean, 5, (some .int), 4, 103)
theorem wcX7_mean : Cond.code mX7_mean.1 mX7_mean.2.1 mX7_mean.2.2.1 mX7_mean.2.2.2.1 ∈ lw_good := gd_3 56 rfl rfl
abbrev mX7_moment : MI := (yX7_moment, cX7_moment, 6, (some .int), 6, 153)
theorem wcX7_moment : Cond.code mX7_moment.1 mX7_moment.2.1 mX7_moment.2.2.1 mX7_moment.2.2.2.1 ∈ lw_good := gd_3 60 rfl rfl
abbrev mX7_tail : MI := (yX7_tail, cX7_tail, 7, (some .int), 6, 153)
theorem wcX7_tail : Cond.code mX7_tail.1 mX7_tail.2.1 mX7_tail.2.2.1 mX7_tail.2.2.2.1 ∈ lw_good := gd_3 101 rfl rfl
abbrev mX7_bound : MI := (yX7_bound, cX7_bound, 9, (some .int), 6, 153)
theorem wcX7_bound : Cond.code mX7_bound.1 mX7_bound.2.1 mX7_bound.2.2.1 mX7_bound.2.2.2.1 ∈ lw_good := gd_3 115 rfl rfl
abbrev mX7_base : MI := (yX7_base, cX7_base, 1, (some .int), 0, 0)
theorem wcX7_base : Cond.code mX7_base.1 mX7_base.2.1 mX7_base.2.2.1 mX7_base.2.2.2.1 ∈ lw_good := gd_3 152 rfl rfl
abbrev mX7_work : MI := (yX7_work, cX7_work, 8, (some .int), 6, 153)
theorem wcX7_work : Cond.code mX7_work.1 mX7_work.2.1 mX7_work.2.2.1 mX7_work.2.2.2.1 ∈ lw_good := gd_3 156 rfl rfl
abbrev mX7_order : MI := (yX7_order, cX7_order, 5, (some .int), 3, 71)
theorem wcX7_order : Cond.code mX7_order.1 mX7_order.2.1 mX7_order.2.2.1 mX7_order.2.2.2.1 ∈ lw_good := gd_3 181 rfl rfl
abbrev mX7_limbs : MI := (yX7_limbs, cX7_limbs, 4, (some .int), 1, 22)
theorem wcX7_limbs : Cond.code mX7_limbs.1 mX7_limbs.2.1 mX7_limbs.2.2.1 mX7_limbs.2.2.2.1 ∈ lw_good := gd_3 185 rfl rfl
abbrev mX7_limb : MI := (yX7_limb, cX7_limb, 6, (some .long), 1, 22)
theorem wcX7_limb : Cond.code mX7_limb.1 mX7_limb.2.1 mX7_limb.2.2.1 mX7_limb.2.2.2.1 ∈ lw_good := gd_3 193 rfl rfl
abbrev mX7_digits : MI := (yX7_digits, cX7_digits, 5, (some .long), 3, 87)
theorem wcX7_digits : Cond.code mX7_digits.1 mX7_digits.2.1 mX7_digits.2.2.1 mX7_digits.2.2.2.1 ∈ lw_good := gd_3 200 rfl rfl
abbrev mX7_free : MI := (yX7_free, cX7_free, 4, (some .int), 1, 21)
theorem wcX7_free : Cond.code mX7_free.1 mX7_free.2.1 mX7_free.2.2.1 mX7_free.2.2.2.1 ∈ lw_good := gd_3 209 rfl rfl
abbrev mX7_coin : MI := (yX7_coin, cX7_coin, 3, (some .int), 2, 43)
theorem wcX7_coin : Cond.code mX7_coin.1 mX7_coin.2.1 mX7_coin.2.2.1 mX7_coin.2.2.2.1 ∈ lw_good := gd_3 213 rfl rfl
abbrev mX7_needed : MI := (yX7_needed, cX7_needed, 9, (some .int), 4, 99)
theorem wcX7_needed : Cond.code mX7_needed.1 mX7_needed.2.1 mX7_needed.2.2.1 mX7_needed.2.2.2.1 ∈ lw_good := gd_3 217 rfl rfl
abbrev mX7_line : MI := (yX7_line, cX7_line, 4, (some .int), 1, 22)
theorem wcX7_line : Cond.code mX7_line.1 mX7_line.2.1 mX7_line.2.2.1 mX7_line.2.2.2.1 ∈ lw_good := gd_4 16 rfl rfl
abbrev mX7_crossed : MI := (yX7_crossed, cX7_crossed, 7, (some .int), 6, 153)
theorem wcX7_crossed : Cond.code mX7_crossed.1 mX7_crossed.2.1 mX7_crossed.2.2.1 mX7_crossed.2.2.2.1 ∈ lw_good := gd_4 20 rfl rfl
abbrev mX7_count : MI := (yX7_count, cX7_count, 2, (some .int), 2, 44)
theorem wcX7_count : Cond.code mX7_count.1 mX7_count.2.1 mX7_count.2.2.1 mX7_count.2.2.2.1 ∈ lw_good := gd_4 34 rfl rfl
abbrev mX7_outside : MI := (yX7_outside, cX7_outside, 3, (some .boolean), 0, 0)
theorem wcX7_outside : Cond.code mX7_outside.1 mX7_outside.2.1 mX7_outside.2.2.1 mX7_outside.2.2.2.1 ∈ lw_good := gd_2 1 rfl rfl
abbrev mX7_notOdds : MI := (yX7_notOdds, cX7_notOdds, 2, (some .boolean), 1, 22)
theorem wcX7_notOdds : Cond.code mX7_notOdds.1 mX7_notOdds.2.1 mX7_notOdds.2.2.1 mX7_notOdds.2.2.2.1 ∈ lw_good := gd_2 12 rfl rfl
abbrev mX7_isFull : MI := (yX7_isFull, cX7_isFull, 1, (some .boolean), 0, 0)
theorem wcX7_isFull : Cond.code mX7_isFull.1 mX7_isFull.2.1 mX7_isFull.2.2.1 mX7_isFull.2.2.2.1 ∈ lw_good := gd_2 16 rfl rfl
abbrev mX7_sourceAt : MI := (yX7_sourceAt, cX7_sourceAt, 2, (some (.object "TailBounds$Source")), 0, 0)
theorem wcX7_sourceAt : Cond.code mX7_sourceAt.1 mX7_sourceAt.2.1 mX7_sourceAt.2.2.1 mX7_sourceAt.2.2.2.1 ∈ lw_good := gd_2 225 rfl rfl
abbrev mX7_placeAt : MI := (yX7_placeAt, cX7_placeAt, 2, (some (.object "TailBounds$Fraction")), 0, 0)
theorem wcX7_placeAt : Cond.code mX7_placeAt.1 mX7_placeAt.2.1 mX7_placeAt.2.2.1 mX7_placeAt.2.2.2.1 ∈ lw_good := gd_3 39 rfl rfl
abbrev mX7_filledPlaces : MI := (yX7_filledPlaces, cX7_filledPlaces, 4, (some .int), 1, 21)
theorem wcX7_filledPlaces : Cond.code mX7_filledPlaces.1 mX7_filledPlaces.2.1 mX7_filledPlaces.2.2.1 mX7_filledPlaces.2.2.2.1 ∈ lw_good := gd_4 38 rfl rfl
abbrev mX7_together : MI := (yX7_together, cX7_together, 4, (some .int), 0, 0)
theorem wcX7_together : Cond.code mX7_together.1 mX7_together.2.1 mX7_together.2.2.1 mX7_together.2.2.2.1 ∈ lw_good := gd_2 23 rfl rfl
abbrev mX7_ways : MI := (yX7_ways, cX7_ways, 5, (some .long), 0, 0)
theorem wcX7_ways : Cond.code mX7_ways.1 mX7_ways.2.1 mX7_ways.2.2.1 mX7_ways.2.2.2.1 ∈ lw_good := gd_2 212 rfl rfl
abbrev mX7_isNarrow : MI := (yX7_isNarrow, cX7_isNarrow, 9, (some .boolean), 0, 0)
theorem wcX7_isNarrow : Cond.code mX7_isNarrow.1 mX7_isNarrow.2.1 mX7_isNarrow.2.2.1 mX7_isNarrow.2.2.2.1 ∈ lw_good := gd_4 11 rfl rfl
abbrev mX7_makeRounds : MI := (yX7_makeRounds, cX7_makeRounds, 7, (some (.object "TailBounds$Row")), 3, 68)
theorem wcX7_makeRounds : Cond.code mX7_makeRounds.1 mX7_makeRounds.2.1 mX7_makeRounds.2.2.1 mX7_makeRounds.2.2.2.1 ∈ lw_good := gd_2 20 rfl rfl
abbrev mX7_keep : MI := (yX7_keep, cX7_keep, 5, (some .int), 5, 132)
theorem wcX7_keep : Cond.code mX7_keep.1 mX7_keep.2.1 mX7_keep.2.2.1 mX7_keep.2.2.2.1 ∈ lw_good := gd_2 59 rfl rfl
abbrev mX7_settle : MI := (yX7_settle, cX7_settle, 2, (some .int), 5, 132)
theorem wcX7_settle : Cond.code mX7_settle.1 mX7_settle.2.1 mX7_settle.2.2.1 mX7_settle.2.2.2.1 ∈ lw_good := gd_3 48 rfl rfl
abbrev mX7_store : MI := (yX7_store, cX7_store, 2, (some .int), 3, 82)
theorem wcX7_store : Cond.code mX7_store.1 mX7_store.2.1 mX7_store.2.2.1 mX7_store.2.2.2.1 ∈ lw_good := gd_3 52 rfl rfl
abbrev mX7_compare : MI := (yX7_compare, cX7_compare, 3, (some .int), 2, 49)
theorem wcX7_compare : Cond.code mX7_compare.1 mX7_compare.2.1 mX7_compare.2.2.1 mX7_compare.2.2.2.1 ∈ lw_good := gd_3 170 rfl rfl
abbrev mX8_init : MI := (yX8_init, cX8_init, 1, none, 1, 20)
theorem wcX8_init : Cond.code mX8_init.1 mX8_init.2.1 mX8_init.2.2.1 mX8_init.2.2.2.1 ∈ lw_good := gd_4 43 rfl rfl
abbrev mX8_in : MI := (yX8_in, cX8_in, 3, (some .boolean), 0, 0)
theorem wcX8_in : Cond.code mX8_in.1 mX8_in.2.1 mX8_in.2.2.1 mX8_in.2.2.2.1 ∈ lw_good := gd_4 171 rfl rfl
abbrev mX8_become : MI := (yX8_become, cX8_become, 4, none, 0, 0)
theorem wcX8_become : Cond.code mX8_become.1 mX8_become.2.1 mX8_become.2.2.1 mX8_become.2.2.2.1 ∈ lw_good := gd_4 185 rfl rfl
abbrev mX8_copy : MI := (yX8_copy, cX8_copy, 3, none, 0, 0)
theorem wcX8_copy : Cond.code mX8_copy.1 mX8_copy.2.1 mX8_copy.2.2.1 mX8_copy.2.2.2.1 ∈ lw_good := gd_5 32 rfl rfl
abbrev mX8_load : MI := (yX8_load, cX8_load, 5, none, 0, 0)
theorem wcX8_load : Cond.code mX8_load.1 mX8_load.2.1 mX8_load.2.2.1 mX8_load.2.2.2.1 ∈ lw_good := gd_4 206 rfl rfl
abbrev mX8_store : MI := (yX8_store, cX8_store, 5, none, 0, 0)
theorem wcX8_store : Cond.code mX8_store.1 mX8_store.2.1 mX8_store.2.2.1 mX8_store.2.2.2.1 ∈ lw_good := gd_4 199 rfl rfl
abbrev mX8_top : MI := (yX8_top, cX8_top, 2, (some .int), 0, 0)
theorem wcX8_top : Cond.code mX8_top.1 mX8_top.2.1 mX8_top.2.2.1 mX8_top.2.2.2.1 ∈ lw_good := gd_4 219 rfl rfl
abbrev mX8_bits : MI := (yX8_bits, cX8_bits, 5, (some .int), 1, 21)
theorem wcX8_bits : Cond.code mX8_bits.1 mX8_bits.2.1 mX8_bits.2.2.1 mX8_bits.2.2.2.1 ∈ lw_good := gd_4 234 rfl rfl
abbrev mX8_compare : MI := (yX8_compare, cX8_compare, 3, (some .int), 0, 0)
theorem wcX8_compare : Cond.code mX8_compare.1 mX8_compare.2.1 mX8_compare.2.2.1 mX8_compare.2.2.2.1 ∈ lw_good := gd_5 10 rfl rfl
abbrev mX8_plus : MI := (yX8_plus, cX8_plus, 7, none, 0, 0)
theorem wcX8_plus : Cond.code mX8_plus.1 mX8_plus.2.1 mX8_plus.2.2.1 mX8_plus.2.2.2.1 ∈ lw_good := gd_4 209 rfl rfl
abbrev mX8_minus : MI := (yX8_minus, cX8_minus, 7, none, 0, 0)
theorem wcX8_minus : Cond.code mX8_minus.1 mX8_minus.2.1 mX8_minus.2.2.1 mX8_minus.2.2.2.1 ∈ lw_good := gd_5 38 rfl rfl
abbrev mX8_times : MI := (yX8_times, cX8_times, 11, none, 1, 23)
theorem wcX8_times : Cond.code mX8_times.1 mX8_times.2.1 mX8_times.2.2.1 mX8_times.2.2.2.1 ∈ lw_good := gd_4 216 rfl rfl
abbrev mX8_by : MI := (yX8_by, cX8_by, 8, none, 0, 0)
theorem wcX8_by : Cond.code mX8_by.1 mX8_by.2.1 mX8_by.2.2.1 mX8_by.2.2.2.1 ∈ lw_good := gd_4 193 rfl rfl
abbrev mX8_half : MI := (yX8_half, cX8_half, 5, none, 0, 0)
theorem wcX8_half : Cond.code mX8_half.1 mX8_half.2.1 mX8_half.2.2.1 mX8_half.2.2.2.1 ∈ lw_good := gd_5 35 rfl rfl
abbrev mX8_twice : MI := (yX8_twice, cX8_twice, 8, none, 0, 0)
theorem wcX8_twice : Cond.code mX8_twice.1 mX8_twice.2.1 mX8_twice.2.2.1 mX8_twice.2.2.2.1 ∈ lw_good := gd_5 41 rfl rfl
abbrev mX8_bitOf : MI := (yX8_bitOf, cX8_bitOf, 2, (some .long), 0, 0)
theorem wcX8_bitOf : Cond.code mX8_bitOf.1 mX8_bitOf.2.1 mX8_bitOf.2.2.1 mX8_bitOf.2.2.2.1 ∈ lw_good := gd_5 48 rfl rfl
abbrev mX8_findDivisor : MI := (yX8_findDivisor, cX8_findDivisor, 6, none, 1, 27)
theorem wcX8_findDivisor : Cond.code mX8_findDivisor.1 mX8_findDivisor.2.1 mX8_findDivisor.2.2.1 mX8_findDivisor.2.2.2.1 ∈ lw_good := gd_5 29 rfl rfl
abbrev mX8_divide : MI := (yX8_divide, cX8_divide, 5, none, 2, 45)
theorem wcX8_divide : Cond.code mX8_divide.1 mX8_divide.2.1 mX8_divide.2.2.1 mX8_divide.2.2.2.1 ∈ lw_good := gd_5 45 rfl rfl
abbrev mX8_isPlace : MI := (yX8_isPlace, cX8_isPlace, 1, (some .boolean), 1, 22)
theorem wcX8_isPlace : Cond.code mX8_isPlace.1 mX8_isPlace.2.1 mX8_isPlace.2.2.1 mX8_isPlace.2.2.2.1 ∈ lw_good := gd_5 17 rfl rfl
abbrev mX8_lowest : MI := (yX8_lowest, cX8_lowest, 1, none, 3, 69)
theorem wcX8_lowest : Cond.code mX8_lowest.1 mX8_lowest.2.1 mX8_lowest.2.2.1 mX8_lowest.2.2.2.1 ∈ lw_good := gd_5 25 rfl rfl
abbrev mX8_give : MI := (yX8_give, cX8_give, 2, (some .int), 4, 89)
theorem wcX8_give : Cond.code mX8_give.1 mX8_give.2.1 mX8_give.2.2.1 mX8_give.2.2.2.1 ∈ lw_good := gd_5 21 rfl rfl
abbrev mX8_takeLeft : MI := (yX8_takeLeft, cX8_takeLeft, 2, none, 1, 24)
theorem wcX8_takeLeft : Cond.code mX8_takeLeft.1 mX8_takeLeft.2.1 mX8_takeLeft.2.2.1 mX8_takeLeft.2.2.2.1 ∈ lw_good := gd_5 101 rfl rfl
abbrev mX8_takeRight : MI := (yX8_takeRight, cX8_takeRight, 2, none, 1, 24)
theorem wcX8_takeRight : Cond.code mX8_takeRight.1 mX8_takeRight.2.1 mX8_takeRight.2.2.1 mX8_takeRight.2.2.2.1 ∈ lw_good := gd_5 105 rfl rfl
abbrev mX8_ordered : MI := (yX8_ordered, cX8_ordered, 1, (some .int), 2, 53)
theorem wcX8_ordered : Cond.code mX8_ordered.1 mX8_ordered.2.1 mX8_ordered.2.2.1 mX8_ordered.2.2.2.1 ∈ lw_good := gd_5 109 rfl rfl
abbrev mX8_at : MI := (yX8_at, cX8_at, 2, (some .int), 0, 0)
theorem wcX8_at : Cond.code mX8_at.1 mX8_at.2.1 mX8_at.2.2.1 mX8_at.2.2.2.1 ∈ lw_good := gd_4 196 rfl rfl
abbrev mX8_isSource : MI := (yX8_isSource, cX8_isSource, 2, (some .boolean), 1, 22)
theorem wcX8_isSource : Cond.code mX8_isSource.1 mX8_isSource.2.1 mX8_isSource.2.2.1 mX8_isSource.2.2.2.1 ∈ lw_good := gd_4 231 rfl rfl
abbrev mX8_weight : MI := (yX8_weight, cX8_weight, 2, (some .int), 1, 22)
theorem wcX8_weight : Cond.code mX8_weight.1 mX8_weight.2.1 mX8_weight.2.2.1 mX8_weight.2.2.2.1 ∈ lw_good := gd_4 168 rfl rfl
abbrev mX8_wipe : MI := (yX8_wipe, cX8_wipe, 2, (some .int), 0, 0)
theorem wcX8_wipe : Cond.code mX8_wipe.1 mX8_wipe.2.1 mX8_wipe.2.2.1 mX8_wipe.2.2.2.1 ∈ lw_good := gd_4 175 rfl rfl
abbrev mX8_choose : MI := (yX8_choose, cX8_choose, 5, (some .long), 0, 0)
theorem wcX8_choose : Cond.code mX8_choose.1 mX8_choose.2.1 mX8_choose.2.2.1 mX8_choose.2.2.2.1 ∈ lw_good := gd_4 182 rfl rfl
abbrev mX8_power : MI := (yX8_power, cX8_power, 6, none, 1, 27)
theorem wcX8_power : Cond.code mX8_power.1 mX8_power.2.1 mX8_power.2.2.1 mX8_power.2.2.2.1 ∈ lw_good := gd_4 190 rfl rfl
abbrev mX8_comes : MI := (yX8_comes, cX8_comes, 4, (some .int), 1, 26)
theorem wcX8_comes : Cond.code mX8_comes.1 mX8_comes.2.1 mX8_comes.2.2.1 mX8_comes.2.2.2.1 ∈ lw_good := gd_4 203 rfl rfl
abbrev mX8_coins : MI := (yX8_coins, cX8_coins, 5, (some .int), 2, 52)
theorem wcX8_coins : Cond.code mX8_coins.1 mX8_coins.2.1 mX8_coins.2.2.1 mX8_coins.2.2.2.1 ∈ lw_good := gd_4 179 rfl rfl
abbrev mX8_drawn : MI := (yX8_drawn, cX8_drawn, 5, (some .int), 2, 53)
theorem wcX8_drawn : Cond.code mX8_drawn.1 mX8_drawn.2.1 mX8_drawn.2.2.1 mX8_drawn.2.2.2.1 ∈ lw_good := gd_4 213 rfl rfl
abbrev mX8_sums : MI := (yX8_sums, cX8_sums, 8, (some .int), 2, 49)
theorem wcX8_sums : Cond.code mX8_sums.1 mX8_sums.2.1 mX8_sums.2.2.1 mX8_sums.2.2.2.1 ∈ lw_good := gd_4 223 rfl rfl
abbrev mX8_both : MI := (yX8_both, cX8_both, 6, (some .int), 2, 53)
theorem wcX8_both : Cond.code mX8_both.1 mX8_both.2.1 mX8_both.2.2.1 mX8_both.2.2.2.1 ∈ lw_good := gd_4 227 rfl rfl
abbrev mX8_held : MI := (yX8_held, cX8_held, 7, (some .int), 2, 49)
theorem wcX8_held : Cond.code mX8_held.1 mX8_held.2.1 mX8_held.2.2.1 mX8_held.2.2.2.1 ∈ lw_good := gd_4 238 rfl rfl
abbrev mX8_source : MI := (yX8_source, cX8_source, 5, (some .int), 2, 45)
theorem wcX8_source : Cond.code mX8_source.1 mX8_source.2.1 mX8_source.2.2.1 mX8_source.2.2.2.1 ∈ lw_good := gd_5 2 rfl rfl
abbrev mX8_counted : MI := (yX8_counted, cX8_counted, 5, (some .int), 2, 43)
theorem wcX8_counted : Cond.code mX8_counted.1 mX8_counted.2.1 mX8_counted.2.2.1 mX8_counted.2.2.2.1 ∈ lw_good := gd_5 6 rfl rfl
abbrev mX8_set : MI := (yX8_set, cX8_set, 4, (some .int), 5, 110)
theorem wcX8_set : Cond.code mX8_set.1 mX8_set.2.1 mX8_set.2.2.1 mX8_set.2.2.2.1 ∈ lw_good := gd_5 14 rfl rfl
abbrev mX8_weighs : MI := (yX8_weighs, cX8_weighs, 3, none, 1, 27)
theorem wcX8_weighs : Cond.code mX8_weighs.1 mX8_weighs.2.1 mX8_weighs.2.2.1 mX8_weighs.2.2.2.1 ∈ lw_good := gd_5 56 rfl rfl
abbrev mX8_mean : MI := (yX8_mean, cX8_mean, 3, (some .int), 5, 110)
theorem wcX8_mean : Cond.code mX8_mean.1 mX8_mean.2.1 mX8_mean.2.2.1 mX8_mean.2.2.2.1 ∈ lw_good := gd_5 52 rfl rfl
abbrev mX8_away : MI := (yX8_away, cX8_away, 3, (some .boolean), 1, 27)
theorem wcX8_away : Cond.code mX8_away.1 mX8_away.2.1 mX8_away.2.2.1 mX8_away.2.2.2.1 ∈ lw_good := gd_5 68 rfl rfl
abbrev mX8_moments : MI := (yX8_moments, cX8_moments, 5, none, 2, 53)
theorem wcX8_moments : Cond.code mX8_moments.1 mX8_moments.2.1 mX8_moments.2.2.1 mX8_moments.2.2.2.1 ∈ lw_good := gd_5 64 rfl rfl
abbrev mX8_moment : MI := (yX8_moment, cX8_moment, 5, (some .int), 5, 110)
theorem wcX8_moment : Cond.code mX8_moment.1 mX8_moment.2.1 mX8_moment.2.2.1 mX8_moment.2.2.2.1 ∈ lw_good := gd_5 60 rfl rfl
abbrev mX8_tail : MI := (yX8_tail, cX8_tail, 9, (some .int), 5, 110)
theorem wcX8_tail : Cond.code mX8_tail.1 mX8_tail.2.1 mX8_tail.2.2.1 mX8_tail.2.2.2.1 ∈ lw_good := gd_5 72 rfl rfl
abbrev mX8_raised : MI := (yX8_raised, cX8_raised, 5, none, 2, 52)
theorem wcX8_raised : Cond.code mX8_raised.1 mX8_raised.2.1 mX8_raised.2.2.1 mX8_raised.2.2.2.1 ∈ lw_good := gd_5 88 rfl rfl
abbrev mX8_leastRaised : MI := (yX8_leastRaised, cX8_leastRaised, 6, (some .int), 3, 76)
theorem wcX8_leastRaised : Cond.code mX8_leastRaised.1 mX8_leastRaised.2.1 mX8_leastRaised.2.2.1 mX8_leastRaised.2.2.2.1 ∈ lw_good := gd_5 84 rfl rfl
abbrev mX8_bounded : MI := (yX8_bounded, cX8_bounded, 4, (some .int), 4, 101)
theorem wcX8_bounded : Cond.code mX8_bounded.1 mX8_bounded.2.1 mX8_bounded.2.2.1 mX8_bounded.2.2.2.1 ∈ lw_good := gd_5 80 rfl rfl
abbrev mX8_bound : MI := (yX8_bound, cX8_bound, 7, (some .int), 5, 124)
theorem wcX8_bound : Cond.code mX8_bound.1 mX8_bound.2.1 mX8_bound.2.2.1 mX8_bound.2.2.2.1 ∈ lw_good := gd_5 76 rfl rfl
abbrev mX8_base : MI := (yX8_base, cX8_base, 1, (some .int), 0, 0)
theorem wcX8_base : Cond.code mX8_base.1 mX8_base.2.1 mX8_base.2.2.1 mX8_base.2.2.2.1 ∈ lw_good := gd_5 93 rfl rfl
abbrev mX8_work : MI := (yX8_work, cX8_work, 6, (some .int), 5, 110)
theorem wcX8_work : Cond.code mX8_work.1 mX8_work.2.1 mX8_work.2.2.1 mX8_work.2.2.2.1 ∈ lw_good := gd_5 97 rfl rfl
abbrev mX8_order : MI := (yX8_order, cX8_order, 3, (some .int), 3, 73)
theorem wcX8_order : Cond.code mX8_order.1 mX8_order.2.1 mX8_order.2.2.1 mX8_order.2.2.2.1 ∈ lw_good := gd_5 113 rfl rfl
abbrev mX8_asks : MI := (yX8_asks, cX8_asks, 3, (some .int), 2, 45)
theorem wcX8_asks : Cond.code mX8_asks.1 mX8_asks.2.1 mX8_asks.2.2.1 mX8_asks.2.2.2.1 ∈ lw_good := gd_5 121 rfl rfl
abbrev mX8_limbs : MI := (yX8_limbs, cX8_limbs, 3, (some .int), 3, 67)
theorem wcX8_limbs : Cond.code mX8_limbs.1 mX8_limbs.2.1 mX8_limbs.2.2.1 mX8_limbs.2.2.2.1 ∈ lw_good := gd_5 117 rfl rfl
abbrev mX8_limb : MI := (yX8_limb, cX8_limb, 8, (some .long), 3, 67)
theorem wcX8_limb : Cond.code mX8_limb.1 mX8_limb.2.1 mX8_limb.2.2.1 mX8_limb.2.2.2.1 ∈ lw_good := gd_5 125 rfl rfl
abbrev mX8_digits : MI := (yX8_digits, cX8_digits, 3, (some .long), 3, 69)
theorem wcX8_digits : Cond.code mX8_digits.1 mX8_digits.2.1 mX8_digits.2.2.1 mX8_digits.2.2.2.1 ∈ lw_good := gd_5 130 rfl rfl
abbrev mX8_free : MI := (yX8_free, cX8_free, 3, (some .int), 2, 42)
theorem wcX8_free : Cond.code mX8_free.1 mX8_free.2.1 mX8_free.2.2.1 mX8_free.2.2.2.1 ∈ lw_good := gd_5 138 rfl rfl
abbrev mX8_coin : MI := (yX8_coin, cX8_coin, 3, (some .int), 1, 22)
theorem wcX8_coin : Cond.code mX8_coin.1 mX8_coin.2.1 mX8_coin.2.2.1 mX8_coin.2.2.2.1 ∈ lw_good := gd_5 142 rfl rfl
abbrev mX8_isGood : MI := (yX8_isGood, cX8_isGood, 10, (some .boolean), 2, 52)
theorem wcX8_isGood : Cond.code mX8_isGood.1 mX8_isGood.2.1 mX8_isGood.2.2.1 mX8_isGood.2.2.2.1 ∈ lw_good := gd_5 151 rfl rfl
abbrev mX8_needed : MI := (yX8_needed, cX8_needed, 8, (some .int), 3, 81)
theorem wcX8_needed : Cond.code mX8_needed.1 mX8_needed.2.1 mX8_needed.2.2.1 mX8_needed.2.2.2.1 ∈ lw_good := gd_5 146 rfl rfl
abbrev mX8_line : MI := (yX8_line, cX8_line, 4, (some .int), 1, 22)
theorem wcX8_line : Cond.code mX8_line.1 mX8_line.2.1 mX8_line.2.2.1 mX8_line.2.2.2.1 ∈ lw_good := gd_5 156 rfl rfl
abbrev mX8_isCrossed : MI := (yX8_isCrossed, cX8_isCrossed, 3, (some .boolean), 0, 0)
theorem wcX8_isCrossed : Cond.code mX8_isCrossed.1 mX8_isCrossed.2.1 mX8_isCrossed.2.2.1 mX8_isCrossed.2.2.2.1 ∈ lw_good := gd_5 164 rfl rfl
abbrev mX8_crossed : MI := (yX8_crossed, cX8_crossed, 6, (some .int), 5, 110)
theorem wcX8_crossed : Cond.code mX8_crossed.1 mX8_crossed.2.1 mX8_crossed.2.2.1 mX8_crossed.2.2.2.1 ∈ lw_good := gd_5 160 rfl rfl
abbrev mX8_count : MI := (yX8_count, cX8_count, 4, (some .int), 1, 22)
theorem wcX8_count : Cond.code mX8_count.1 mX8_count.2.1 mX8_count.2.2.1 mX8_count.2.2.2.1 ∈ lw_good := gd_5 168 rfl rfl
abbrev mJ9_abs_0f7a4 : MI := (yJ9_abs_0f7a4, cJ9_abs_0f7a4, 1, (some .int), 0, 0)
theorem wcJ9_abs_0f7a4 : Cond.code mJ9_abs_0f7a4.1 mJ9_abs_0f7a4.2.1 mJ9_abs_0f7a4.2.2.1 mJ9_abs_0f7a4.2.2.2.1 ∈ lw_good := gd_4 4 rfl rfl
abbrev mJ9_abs_067f4 : MI := (yJ9_abs_067f4, cJ9_abs_067f4, 2, (some .long), 0, 0)
theorem wcJ9_abs_067f4 : Cond.code mJ9_abs_067f4.1 mJ9_abs_067f4.2.1 mJ9_abs_067f4.2.2.1 mJ9_abs_067f4.2.2.2.1 ∈ lw_good := gd_2 156 rfl rfl
abbrev mJ9_max_7cf53 : MI := (yJ9_max_7cf53, cJ9_max_7cf53, 2, (some .int), 0, 0)
theorem wcJ9_max_7cf53 : Cond.code mJ9_max_7cf53.1 mJ9_max_7cf53.2.1 mJ9_max_7cf53.2.2.1 mJ9_max_7cf53.2.2.2.1 ∈ lw_good := gd_1 38 rfl rfl
abbrev mJ9_min_7cf53 : MI := (yJ9_min_7cf53, cJ9_min_7cf53, 2, (some .int), 0, 0)
theorem wcJ9_min_7cf53 : Cond.code mJ9_min_7cf53.1 mJ9_min_7cf53.2.1 mJ9_min_7cf53.2.2.1 mJ9_min_7cf53.2.2.2.1 ∈ lw_good := gd_1 148 rfl rfl
abbrev mJ7_fill_53178 : MI := (yJ7_fill_53178, cJ7_fill_53178, 4, none, 0, 0)
theorem wcJ7_fill_53178 : Cond.code mJ7_fill_53178.1 mJ7_fill_53178.2.1 mJ7_fill_53178.2.2.1 mJ7_fill_53178.2.2.2.1 ∈ lw_good := gd_3 230 rfl rfl
theorem fX7_9 : FL RX7 9 7 0 (.array .int) true "TailBounds" := ⟨_, rfl, by decide, inX7, gd_1 183 rfl rfl, nmX7, ⟨_, tyX7_ok⟩, rfl, rfl, rfl⟩
theorem fX7_15 : FL RX7 15 7 1 (.array (.object "TailBounds$Source")) true "TailBounds" := ⟨_, rfl, by decide, inX7, gd_1 184 rfl rfl, nmX7, ⟨_, tyX7_ok⟩, rfl, rfl, rfl⟩
theorem fX7_21 : FL RX7 21 7 2 (.array (.object "TailBounds$Fraction")) true "TailBounds" := ⟨_, rfl, by decide, inX7, gd_1 185 rfl rfl, nmX7, ⟨_, tyX7_ok⟩, rfl, rfl, rfl⟩
theorem fX7_25 : FL RX7 25 7 3 (.array .int) true "TailBounds" := ⟨_, rfl, by decide, inX7, gd_1 186 rfl rfl, nmX7, ⟨_, tyX7_ok⟩, rfl, rfl, rfl⟩
theorem fX7_31 : FL RX7 31 7 4 (.object "TailBounds$Fraction") true "TailBounds" := ⟨_, rfl, by decide, inX7, gd_1 187 rfl rfl, nmX7, ⟨_, tyX7_ok⟩, rfl, rfl, rfl⟩
theorem fX7_38 : FL RX7 38 7 5 (.object "TailBounds$Num") true "TailBounds" := ⟨_, rfl, by decide, inX7, gd_1 188 rfl rfl, nmX7, ⟨_, tyX7_ok⟩, rfl, rfl, rfl⟩
theorem fX7_45 : FL RX7 45 7 6 (.object "TailBounds$Divider") true "TailBounds" := ⟨_, rfl, by decide, inX7, gd_1 189 rfl rfl, nmX7, ⟨_, tyX7_ok⟩, rfl, rfl, rfl⟩
theorem fX7_52 : FL RX7 52 7 7 (.object "TailBounds$Measurer") true "TailBounds" := ⟨_, rfl, by decide, inX7, gd_1 190 rfl rfl, nmX7, ⟨_, tyX7_ok⟩, rfl, rfl, rfl⟩
theorem fX7_59 : FL RX7 59 7 8 (.object "TailBounds$Tosser") true "TailBounds" := ⟨_, rfl, by decide, inX7, gd_1 191 rfl rfl, nmX7, ⟨_, tyX7_ok⟩, rfl, rfl, rfl⟩
theorem fX7_63 : FL RX7 63 7 9 .int false "TailBounds" := ⟨_, rfl, by decide, inX7, gd_1 192 rfl rfl, nmX7, ⟨_, tyX7_ok⟩, rfl, rfl, rfl⟩
theorem fX7_67 : FL RX7 67 7 10 .int false "TailBounds" := ⟨_, rfl, by decide, inX7, gd_1 193 rfl rfl, nmX7, ⟨_, tyX7_ok⟩, rfl, rfl, rfl⟩
theorem fX7_70 : FL RX7 70 7 11 .int false "TailBounds" := ⟨_, rfl, by decide, inX7, gd_1 194 rfl rfl, nmX7, ⟨_, tyX7_ok⟩, rfl, rfl, rfl⟩
theorem fX7_73 : FL RX7 73 7 12 .int false "TailBounds" := ⟨_, rfl, by decide, inX7, gd_1 195 rfl rfl, nmX7, ⟨_, tyX7_ok⟩, rfl, rfl, rfl⟩
theorem fX7_76 : FL RX7 76 7 13 .int false "TailBounds" := ⟨_, rfl, by decide, inX7, gd_1 196 rfl rfl, nmX7, ⟨_, tyX7_ok⟩, rfl, rfl, rfl⟩
theorem fX7_79 : FL RX7 79 7 14 .int false "TailBounds" := ⟨_, rfl, by decide, inX7, gd_1 197 rfl rfl, nmX7, ⟨_, tyX7_ok⟩, rfl, rfl, rfl⟩
theorem fX7_82 : FL RX7 82 7 15 .int false "TailBounds" := ⟨_, rfl, by decide, inX7, gd_1 198 rfl rfl, nmX7, ⟨_, tyX7_ok⟩, rfl, rfl, rfl⟩
theorem fX7_85 : FL RX7 85 7 16 .int false "TailBounds" := ⟨_, rfl, by decide, inX7, gd_1 199 rfl rfl, nmX7, ⟨_, tyX7_ok⟩, rfl, rfl, rfl⟩
theorem fX7_108 : FL RX7 108 1 0 (.object "TailBounds$Num") true "TailBounds$Fraction" := ⟨_, rfl, by decide, inX1, gd_1 53 rfl rfl, nmX1, ⟨_, tyX1_ok⟩, rfl, rfl, rfl⟩
theorem fX7_121 : FL RX7 121 3 1 .int false "TailBounds$Num" := ⟨_, rfl, by decide, inX3, gd_1 43 rfl rfl, nmX3, ⟨_, tyX3_ok⟩, rfl, rfl, rfl⟩
theorem fX7_139 : FL RX7 139 5 1 (.object "TailBounds$Row") true "TailBounds$Source" := ⟨_, rfl, by decide, inX5, gd_2 73 rfl rfl, nmX5, ⟨_, tyX5_ok⟩, rfl, rfl, rfl⟩
theorem fX7_143 : FL RX7 143 4 0 .int true "TailBounds$Row" := ⟨_, rfl, by decide, inX4, gd_1 152 rfl rfl, nmX4, ⟨_, tyX4_ok⟩, rfl, rfl, rfl⟩
theorem fX7_146 : FL RX7 146 5 2 (.object "TailBounds$Num") true "TailBounds$Source" := ⟨_, rfl, by decide, inX5, gd_2 76 rfl rfl, nmX5, ⟨_, tyX5_ok⟩, rfl, rfl, rfl⟩
theorem fX7_161 : FL RX7 161 4 1 .int true "TailBounds$Row" := ⟨_, rfl, by decide, inX4, gd_1 154 rfl rfl, nmX4, ⟨_, tyX4_ok⟩, rfl, rfl, rfl⟩
theorem fX7_177 : FL RX7 177 5 0 .int true "TailBounds$Source" := ⟨_, rfl, by decide, inX5, gd_2 70 rfl rfl, nmX5, ⟨_, tyX5_ok⟩, rfl, rfl, rfl⟩
theorem fX7_201 : FL RX7 201 5 3 (.object "TailBounds$Fraction") true "TailBounds$Source" := ⟨_, rfl, by decide, inX5, gd_2 79 rfl rfl, nmX5, ⟨_, tyX5_ok⟩, rfl, rfl, rfl⟩
theorem fX7_236 : FL RX7 236 1 2 .boolean false "TailBounds$Fraction" := ⟨_, rfl, by decide, inX1, gd_1 59 rfl rfl, nmX1, ⟨_, tyX1_ok⟩, rfl, rfl, rfl⟩
theorem fX7_273 : FL RX7 273 1 1 (.object "TailBounds$Num") true "TailBounds$Fraction" := ⟨_, rfl, by decide, inX1, gd_1 57 rfl rfl, nmX1, ⟨_, tyX1_ok⟩, rfl, rfl, rfl⟩
theorem fX7_306 : FL RX7 306 6 0 (.object "TailBounds$Num") true "TailBounds$Tosser" := ⟨_, rfl, by decide, inX6, gd_1 164 rfl rfl, nmX6, ⟨_, tyX6_ok⟩, rfl, rfl, rfl⟩
theorem fX0_14 : FL RX0 14 0 0 (.object "TailBounds$Num") true "TailBounds$Divider" := ⟨_, rfl, by decide, inX0, gd_1 77 rfl rfl, nmX0, ⟨_, tyX0_ok⟩, rfl, rfl, rfl⟩
theorem fX0_20 : FL RX0 20 0 1 (.object "TailBounds$Num") true "TailBounds$Divider" := ⟨_, rfl, by decide, inX0, gd_1 78 rfl rfl, nmX0, ⟨_, tyX0_ok⟩, rfl, rfl, rfl⟩
theorem fX0_23 : FL RX0 23 0 2 (.object "TailBounds$Num") false "TailBounds$Divider" := ⟨_, rfl, by decide, inX0, gd_1 79 rfl rfl, nmX0, ⟨_, tyX0_ok⟩, rfl, rfl, rfl⟩
theorem fX0_26 : FL RX0 26 0 3 (.object "TailBounds$Num") false "TailBounds$Divider" := ⟨_, rfl, by decide, inX0, gd_1 80 rfl rfl, nmX0, ⟨_, tyX0_ok⟩, rfl, rfl, rfl⟩
theorem fX0_29 : FL RX0 29 0 4 (.object "TailBounds$Num") false "TailBounds$Divider" := ⟨_, rfl, by decide, inX0, gd_1 81 rfl rfl, nmX0, ⟨_, tyX0_ok⟩, rfl, rfl, rfl⟩
theorem fX0_32 : FL RX0 32 0 5 .long false "TailBounds$Divider" := ⟨_, rfl, by decide, inX0, gd_1 82 rfl rfl, nmX0, ⟨_, tyX0_ok⟩, rfl, rfl, rfl⟩
theorem fX0_36 : FL RX0 36 0 6 .long false "TailBounds$Divider" := ⟨_, rfl, by decide, inX0, gd_1 83 rfl rfl, nmX0, ⟨_, tyX0_ok⟩, rfl, rfl, rfl⟩
theorem fX0_39 : FL RX0 39 0 7 .long false "TailBounds$Divider" := ⟨_, rfl, by decide, inX0, gd_1 84 rfl rfl, nmX0, ⟨_, tyX0_ok⟩, rfl, rfl, rfl⟩
theorem fX0_42 : FL RX0 42 0 8 .long false "TailBounds$Divider" := ⟨_, rfl, by decide, inX0, gd_1 85 rfl rfl, nmX0, ⟨_, tyX0_ok⟩, rfl, rfl, rfl⟩
theorem fX0_45 : FL RX0 45 1 0 (.object "TailBounds$Num") true "TailBounds$Fraction" := ⟨_, rfl, by decide, inX1, gd_1 51 rfl rfl, nmX1, ⟨_, tyX1_ok⟩, rfl, rfl, rfl⟩
theorem fX0_50 : FL RX0 50 1 1 (.object "TailBounds$Num") true "TailBounds$Fraction" := ⟨_, rfl, by decide, inX1, gd_1 55 rfl rfl, nmX1, ⟨_, tyX1_ok⟩, rfl, rfl, rfl⟩
theorem fX0_72 : FL RX0 72 3 1 .int false "TailBounds$Num" := ⟨_, rfl, by decide, inX3, gd_1 42 rfl rfl, nmX3, ⟨_, tyX3_ok⟩, rfl, rfl, rfl⟩
theorem fX0_84 : FL RX0 84 3 0 (.array .int) true "TailBounds$Num" := ⟨_, rfl, by decide, inX3, gd_1 40 rfl rfl, nmX3, ⟨_, tyX3_ok⟩, rfl, rfl, rfl⟩
theorem fX1_7 : FL RX1 7 1 2 .boolean false "TailBounds$Fraction" := ⟨_, rfl, by decide, inX1, gd_1 58 rfl rfl, nmX1, ⟨_, tyX1_ok⟩, rfl, rfl, rfl⟩
theorem fX1_18 : FL RX1 18 1 0 (.object "TailBounds$Num") true "TailBounds$Fraction" := ⟨_, rfl, by decide, inX1, gd_1 50 rfl rfl, nmX1, ⟨_, tyX1_ok⟩, rfl, rfl, rfl⟩
theorem fX1_22 : FL RX1 22 1 1 (.object "TailBounds$Num") true "TailBounds$Fraction" := ⟨_, rfl, by decide, inX1, gd_1 54 rfl rfl, nmX1, ⟨_, tyX1_ok⟩, rfl, rfl, rfl⟩
theorem fX2_14 : FL RX2 14 2 0 (.object "TailBounds$Num") true "TailBounds$Measurer" := ⟨_, rfl, by decide, inX2, gd_1 113 rfl rfl, nmX2, ⟨_, tyX2_ok⟩, rfl, rfl, rfl⟩
theorem fX2_20 : FL RX2 20 2 1 (.object "TailBounds$Num") true "TailBounds$Measurer" := ⟨_, rfl, by decide, inX2, gd_1 114 rfl rfl, nmX2, ⟨_, tyX2_ok⟩, rfl, rfl, rfl⟩
theorem fX2_23 : FL RX2 23 2 2 (.object "TailBounds$Num") true "TailBounds$Measurer" := ⟨_, rfl, by decide, inX2, gd_1 115 rfl rfl, nmX2, ⟨_, tyX2_ok⟩, rfl, rfl, rfl⟩
theorem fX2_26 : FL RX2 26 2 3 (.object "TailBounds$Num") true "TailBounds$Measurer" := ⟨_, rfl, by decide, inX2, gd_1 116 rfl rfl, nmX2, ⟨_, tyX2_ok⟩, rfl, rfl, rfl⟩
theorem fX2_29 : FL RX2 29 2 4 (.object "TailBounds$Num") true "TailBounds$Measurer" := ⟨_, rfl, by decide, inX2, gd_1 117 rfl rfl, nmX2, ⟨_, tyX2_ok⟩, rfl, rfl, rfl⟩
theorem fX2_32 : FL RX2 32 2 5 (.object "TailBounds$Num") true "TailBounds$Measurer" := ⟨_, rfl, by decide, inX2, gd_1 118 rfl rfl, nmX2, ⟨_, tyX2_ok⟩, rfl, rfl, rfl⟩
theorem fX2_35 : FL RX2 35 1 0 (.object "TailBounds$Num") true "TailBounds$Fraction" := ⟨_, rfl, by decide, inX1, gd_1 52 rfl rfl, nmX1, ⟨_, tyX1_ok⟩, rfl, rfl, rfl⟩
theorem fX2_43 : FL RX2 43 5 3 (.object "TailBounds$Fraction") true "TailBounds$Source" := ⟨_, rfl, by decide, inX5, gd_2 78 rfl rfl, nmX5, ⟨_, tyX5_ok⟩, rfl, rfl, rfl⟩
theorem fX2_53 : FL RX2 53 5 1 (.object "TailBounds$Row") true "TailBounds$Source" := ⟨_, rfl, by decide, inX5, gd_2 72 rfl rfl, nmX5, ⟨_, tyX5_ok⟩, rfl, rfl, rfl⟩
theorem fX2_57 : FL RX2 57 4 0 .int true "TailBounds$Row" := ⟨_, rfl, by decide, inX4, gd_1 151 rfl rfl, nmX4, ⟨_, tyX4_ok⟩, rfl, rfl, rfl⟩
theorem fX2_71 : FL RX2 71 1 1 (.object "TailBounds$Num") true "TailBounds$Fraction" := ⟨_, rfl, by decide, inX1, gd_1 56 rfl rfl, nmX1, ⟨_, tyX1_ok⟩, rfl, rfl, rfl⟩
theorem fX2_74 : FL RX2 74 5 2 (.object "TailBounds$Num") true "TailBounds$Source" := ⟨_, rfl, by decide, inX5, gd_2 75 rfl rfl, nmX5, ⟨_, tyX5_ok⟩, rfl, rfl, rfl⟩
theorem fX3_9 : FL RX3 9 3 1 .int false "TailBounds$Num" := ⟨_, rfl, by decide, inX3, gd_1 41 rfl rfl, nmX3, ⟨_, tyX3_ok⟩, rfl, rfl, rfl⟩
theorem fX3_21 : FL RX3 21 3 0 (.array .int) true "TailBounds$Num" := ⟨_, rfl, by decide, inX3, gd_1 39 rfl rfl, nmX3, ⟨_, tyX3_ok⟩, rfl, rfl, rfl⟩
theorem fX4_18 : FL RX4 18 4 0 .int true "TailBounds$Row" := ⟨_, rfl, by decide, inX4, gd_1 150 rfl rfl, nmX4, ⟨_, tyX4_ok⟩, rfl, rfl, rfl⟩
theorem fX4_24 : FL RX4 24 4 1 .int true "TailBounds$Row" := ⟨_, rfl, by decide, inX4, gd_1 153 rfl rfl, nmX4, ⟨_, tyX4_ok⟩, rfl, rfl, rfl⟩
theorem fX4_27 : FL RX4 27 4 2 (.array .int) true "TailBounds$Row" := ⟨_, rfl, by decide, inX4, gd_1 155 rfl rfl, nmX4, ⟨_, tyX4_ok⟩, rfl, rfl, rfl⟩
theorem fX5_14 : FL RX5 14 5 2 (.object "TailBounds$Num") true "TailBounds$Source" := ⟨_, rfl, by decide, inX5, gd_2 74 rfl rfl, nmX5, ⟨_, tyX5_ok⟩, rfl, rfl, rfl⟩
theorem fX5_23 : FL RX5 23 5 3 (.object "TailBounds$Fraction") true "TailBounds$Source" := ⟨_, rfl, by decide, inX5, gd_2 77 rfl rfl, nmX5, ⟨_, tyX5_ok⟩, rfl, rfl, rfl⟩
theorem fX5_27 : FL RX5 27 5 0 .int true "TailBounds$Source" := ⟨_, rfl, by decide, inX5, gd_2 69 rfl rfl, nmX5, ⟨_, tyX5_ok⟩, rfl, rfl, rfl⟩
theorem fX5_31 : FL RX5 31 5 1 (.object "TailBounds$Row") true "TailBounds$Source" := ⟨_, rfl, by decide, inX5, gd_2 71 rfl rfl, nmX5, ⟨_, tyX5_ok⟩, rfl, rfl, rfl⟩
theorem fX6_14 : FL RX6 14 6 0 (.object "TailBounds$Num") true "TailBounds$Tosser" := ⟨_, rfl, by decide, inX6, gd_1 163 rfl rfl, nmX6, ⟨_, tyX6_ok⟩, rfl, rfl, rfl⟩
theorem fX6_25 : FL RX6 25 6 1 (.object "TailBounds$Row") true "TailBounds$Tosser" := ⟨_, rfl, by decide, inX6, gd_1 165 rfl rfl, nmX6, ⟨_, tyX6_ok⟩, rfl, rfl, rfl⟩
theorem fX6_29 : FL RX6 29 6 2 (.object "TailBounds$Num") true "TailBounds$Tosser" := ⟨_, rfl, by decide, inX6, gd_1 166 rfl rfl, nmX6, ⟨_, tyX6_ok⟩, rfl, rfl, rfl⟩
theorem fX6_32 : FL RX6 32 6 3 (.object "TailBounds$Num") true "TailBounds$Tosser" := ⟨_, rfl, by decide, inX6, gd_1 167 rfl rfl, nmX6, ⟨_, tyX6_ok⟩, rfl, rfl, rfl⟩
theorem fX6_35 : FL RX6 35 6 4 (.array .int) true "TailBounds$Tosser" := ⟨_, rfl, by decide, inX6, gd_1 168 rfl rfl, nmX6, ⟨_, tyX6_ok⟩, rfl, rfl, rfl⟩
theorem fX6_39 : FL RX6 39 6 5 .int false "TailBounds$Tosser" := ⟨_, rfl, by decide, inX6, gd_1 169 rfl rfl, nmX6, ⟨_, tyX6_ok⟩, rfl, rfl, rfl⟩
theorem fX8_7 : FL RX8 7 8 0 (.array .long) true "TailBoundsModel" := ⟨_, rfl, by decide, inX8, gd_4 45 rfl rfl, nmX8, ⟨_, tyX8_ok⟩, rfl, rfl, rfl⟩
theorem fX8_13 : FL RX8 13 8 1 (.array .long) true "TailBoundsModel" := ⟨_, rfl, by decide, inX8, gd_4 46 rfl rfl, nmX8, ⟨_, tyX8_ok⟩, rfl, rfl, rfl⟩
theorem fX8_16 : FL RX8 16 8 2 (.array .long) true "TailBoundsModel" := ⟨_, rfl, by decide, inX8, gd_4 47 rfl rfl, nmX8, ⟨_, tyX8_ok⟩, rfl, rfl, rfl⟩
theorem fX8_19 : FL RX8 19 8 3 (.array .long) true "TailBoundsModel" := ⟨_, rfl, by decide, inX8, gd_4 48 rfl rfl, nmX8, ⟨_, tyX8_ok⟩, rfl, rfl, rfl⟩
theorem fX8_22 : FL RX8 22 8 4 (.array .long) true "TailBoundsModel" := ⟨_, rfl, by decide, inX8, gd_4 49 rfl rfl, nmX8, ⟨_, tyX8_ok⟩, rfl, rfl, rfl⟩
theorem fX8_25 : FL RX8 25 8 5 (.array .long) true "TailBoundsModel" := ⟨_, rfl, by decide, inX8, gd_4 50 rfl rfl, nmX8, ⟨_, tyX8_ok⟩, rfl, rfl, rfl⟩
theorem fX8_28 : FL RX8 28 8 6 (.array .long) true "TailBoundsModel" := ⟨_, rfl, by decide, inX8, gd_4 51 rfl rfl, nmX8, ⟨_, tyX8_ok⟩, rfl, rfl, rfl⟩
theorem fX8_31 : FL RX8 31 8 7 (.array .boolean) true "TailBoundsModel" := ⟨_, rfl, by decide, inX8, gd_4 52 rfl rfl, nmX8, ⟨_, tyX8_ok⟩, rfl, rfl, rfl⟩
theorem fX8_35 : FL RX8 35 8 8 (.array .long) true "TailBoundsModel" := ⟨_, rfl, by decide, inX8, gd_4 53 rfl rfl, nmX8, ⟨_, tyX8_ok⟩, rfl, rfl, rfl⟩
theorem fX8_38 : FL RX8 38 8 9 (.array .long) true "TailBoundsModel" := ⟨_, rfl, by decide, inX8, gd_4 54 rfl rfl, nmX8, ⟨_, tyX8_ok⟩, rfl, rfl, rfl⟩
theorem fX8_41 : FL RX8 41 8 10 (.array .long) true "TailBoundsModel" := ⟨_, rfl, by decide, inX8, gd_4 55 rfl rfl, nmX8, ⟨_, tyX8_ok⟩, rfl, rfl, rfl⟩
theorem fX8_44 : FL RX8 44 8 11 (.array .long) true "TailBoundsModel" := ⟨_, rfl, by decide, inX8, gd_4 56 rfl rfl, nmX8, ⟨_, tyX8_ok⟩, rfl, rfl, rfl⟩
theorem fX8_47 : FL RX8 47 8 12 (.array .long) true "TailBoundsModel" := ⟨_, rfl, by decide, inX8, gd_4 57 rfl rfl, nmX8, ⟨_, tyX8_ok⟩, rfl, rfl, rfl⟩
theorem fX8_50 : FL RX8 50 8 13 (.array .long) true "TailBoundsModel" := ⟨_, rfl, by decide, inX8, gd_4 58 rfl rfl, nmX8, ⟨_, tyX8_ok⟩, rfl, rfl, rfl⟩
theorem fX8_53 : FL RX8 53 8 14 (.array .long) true "TailBoundsModel" := ⟨_, rfl, by decide, inX8, gd_4 59 rfl rfl, nmX8, ⟨_, tyX8_ok⟩, rfl, rfl, rfl⟩
theorem fX8_56 : FL RX8 56 8 15 (.array .long) true "TailBoundsModel" := ⟨_, rfl, by decide, inX8, gd_4 60 rfl rfl, nmX8, ⟨_, tyX8_ok⟩, rfl, rfl, rfl⟩
theorem fX8_59 : FL RX8 59 8 17 (.array .int) true "TailBoundsModel" := ⟨_, rfl, by decide, inX8, gd_4 62 rfl rfl, nmX8, ⟨_, tyX8_ok⟩, rfl, rfl, rfl⟩
theorem fX8_63 : FL RX8 63 8 18 (.array .int) true "TailBoundsModel" := ⟨_, rfl, by decide, inX8, gd_4 63 rfl rfl, nmX8, ⟨_, tyX8_ok⟩, rfl, rfl, rfl⟩
theorem fX8_66 : FL RX8 66 8 19 (.array .long) true "TailBoundsModel" := ⟨_, rfl, by decide, inX8, gd_4 64 rfl rfl, nmX8, ⟨_, tyX8_ok⟩, rfl, rfl, rfl⟩
theorem fX8_69 : FL RX8 69 8 20 (.array .long) true "TailBoundsModel" := ⟨_, rfl, by decide, inX8, gd_4 65 rfl rfl, nmX8, ⟨_, tyX8_ok⟩, rfl, rfl, rfl⟩
theorem fX8_72 : FL RX8 72 8 22 (.array .int) true "TailBoundsModel" := ⟨_, rfl, by decide, inX8, gd_4 67 rfl rfl, nmX8, ⟨_, tyX8_ok⟩, rfl, rfl, rfl⟩
theorem fX8_75 : FL RX8 75 8 23 (.array .long) true "TailBoundsModel" := ⟨_, rfl, by decide, inX8, gd_4 68 rfl rfl, nmX8, ⟨_, tyX8_ok⟩, rfl, rfl, rfl⟩
theorem fX8_78 : FL RX8 78 8 24 (.array .long) true "TailBoundsModel" := ⟨_, rfl, by decide, inX8, gd_4 69 rfl rfl, nmX8, ⟨_, tyX8_ok⟩, rfl, rfl, rfl⟩
theorem fX8_81 : FL RX8 81 8 25 (.array .long) true "TailBoundsModel" := ⟨_, rfl, by decide, inX8, gd_4 70 rfl rfl, nmX8, ⟨_, tyX8_ok⟩, rfl, rfl, rfl⟩
theorem fX8_84 : FL RX8 84 8 26 (.array .long) true "TailBoundsModel" := ⟨_, rfl, by decide, inX8, gd_4 71 rfl rfl, nmX8, ⟨_, tyX8_ok⟩, rfl, rfl, rfl⟩
theorem fX8_87 : FL RX8 87 8 27 (.array .long) true "TailBoundsModel" := ⟨_, rfl, by decide, inX8, gd_4 72 rfl rfl, nmX8, ⟨_, tyX8_ok⟩, rfl, rfl, rfl⟩
theorem fX8_90 : FL RX8 90 8 28 (.array .long) true "TailBoundsModel" := ⟨_, rfl, by decide, inX8, gd_4 73 rfl rfl, nmX8, ⟨_, tyX8_ok⟩, rfl, rfl, rfl⟩
theorem fX8_93 : FL RX8 93 8 29 (.array .long) true "TailBoundsModel" := ⟨_, rfl, by decide, inX8, gd_4 74 rfl rfl, nmX8, ⟨_, tyX8_ok⟩, rfl, rfl, rfl⟩
theorem fX8_96 : FL RX8 96 8 30 (.array .long) true "TailBoundsModel" := ⟨_, rfl, by decide, inX8, gd_4 75 rfl rfl, nmX8, ⟨_, tyX8_ok⟩, rfl, rfl, rfl⟩
theorem fX8_99 : FL RX8 99 8 32 (.array .long) true "TailBoundsModel" := ⟨_, rfl, by decide, inX8, gd_4 77 rfl rfl, nmX8, ⟨_, tyX8_ok⟩, rfl, rfl, rfl⟩
theorem fX8_102 : FL RX8 102 8 33 (.array .long) true "TailBoundsModel" := ⟨_, rfl, by decide, inX8, gd_4 78 rfl rfl, nmX8, ⟨_, tyX8_ok⟩, rfl, rfl, rfl⟩
theorem fX8_105 : FL RX8 105 8 34 .int false "TailBoundsModel" := ⟨_, rfl, by decide, inX8, gd_4 79 rfl rfl, nmX8, ⟨_, tyX8_ok⟩, rfl, rfl, rfl⟩
theorem fX8_109 : FL RX8 109 8 35 .int false "TailBoundsModel" := ⟨_, rfl, by decide, inX8, gd_4 80 rfl rfl, nmX8, ⟨_, tyX8_ok⟩, rfl, rfl, rfl⟩
theorem fX8_112 : FL RX8 112 8 37 .int false "TailBoundsModel" := ⟨_, rfl, by decide, inX8, gd_4 82 rfl rfl, nmX8, ⟨_, tyX8_ok⟩, rfl, rfl, rfl⟩
theorem fX8_115 : FL RX8 115 8 38 .int false "TailBoundsModel" := ⟨_, rfl, by decide, inX8, gd_4 83 rfl rfl, nmX8, ⟨_, tyX8_ok⟩, rfl, rfl, rfl⟩
theorem fX8_178 : FL RX8 178 8 16 .int false "TailBoundsModel" := ⟨_, rfl, by decide, inX8, gd_4 61 rfl rfl, nmX8, ⟨_, tyX8_ok⟩, rfl, rfl, rfl⟩
theorem fX8_181 : FL RX8 181 8 21 .int false "TailBoundsModel" := ⟨_, rfl, by decide, inX8, gd_4 66 rfl rfl, nmX8, ⟨_, tyX8_ok⟩, rfl, rfl, rfl⟩
theorem fX8_243 : FL RX8 243 8 31 .int false "TailBoundsModel" := ⟨_, rfl, by decide, inX8, gd_4 76 rfl rfl, nmX8, ⟨_, tyX8_ok⟩, rfl, rfl, rfl⟩
theorem fX8_276 : FL RX8 276 8 36 .int false "TailBoundsModel" := ⟨_, rfl, by decide, inX8, gd_4 81 rfl rfl, nmX8, ⟨_, tyX8_ok⟩, rfl, rfl, rfl⟩
theorem kX0_3 : Cond.methodLink RX0 3 objectInit ∈ lw_good := gd_1 74 rfl rfl
theorem obj_i : Cond.instanceMethod objectInit ∈ lw_good := gd_1 19 rfl rfl
theorem obj_c : Cond.code objectInit ⟨#[0xb1]⟩ 1 none ∈ lw_good := gd_1 20 rfl rfl
theorem kX0_11 : MLi RX0 11 mX3_init 1 := ⟨rfl, rfl, gd_1 76 rfl rfl, gd_1 33 rfl rfl, gd_1 3 rfl rfl, wcX3_init, by decide +kernel⟩
theorem kX0_53 : MLv RX0 53 mX0_findCommon 0 2 := ⟨⟨_, rfl, rfl⟩, gd_2 117 rfl rfl, gd_2 119 rfl rfl, gd_s 4 rfl rfl, gd_1 5 rfl rfl, wcX0_findCommon, by decide +kernel⟩
theorem kX0_57 : MLv RX0 57 mX3_isOne 3 0 := ⟨⟨_, rfl, rfl⟩, gd_2 197 rfl rfl, gd_2 198 rfl rfl, gd_2 199 rfl rfl, gd_1 3 rfl rfl, wcX3_isOne, by decide +kernel⟩
theorem kX0_61 : MLv RX0 61 mX0_divide 0 2 := ⟨⟨_, rfl, rfl⟩, gd_2 164 rfl rfl, gd_2 165 rfl rfl, gd_2 166 rfl rfl, gd_1 5 rfl rfl, wcX0_divide, by decide +kernel⟩
theorem kX0_65 : MLv RX0 65 mX3_copy 3 1 := ⟨⟨_, rfl, rfl⟩, gd_2 125 rfl rfl, gd_2 106 rfl rfl, gd_2 107 rfl rfl, gd_1 3 rfl rfl, wcX3_copy, by decide +kernel⟩
theorem kX0_69 : MLv RX0 69 mX3_clear 3 0 := ⟨⟨_, rfl, rfl⟩, gd_2 144 rfl rfl, gd_2 90 rfl rfl, gd_2 91 rfl rfl, gd_1 3 rfl rfl, wcX3_clear, by decide +kernel⟩
theorem kX0_76 : MLv RX0 76 mX3_bits 3 0 := ⟨⟨_, rfl, rfl⟩, gd_2 127 rfl rfl, gd_2 128 rfl rfl, gd_2 129 rfl rfl, gd_1 3 rfl rfl, wcX3_bits, by decide +kernel⟩
theorem kX0_80 : MLv RX0 80 mX3_copyShifted 3 2 := ⟨⟨_, rfl, rfl⟩, gd_2 168 rfl rfl, gd_2 169 rfl rfl, gd_2 170 rfl rfl, gd_1 3 rfl rfl, wcX3_copyShifted, by decide +kernel⟩
theorem kX0_88 : MLv RX0 88 mX3_widenTo 3 1 := ⟨⟨_, rfl, rfl⟩, gd_2 161 rfl rfl, gd_2 102 rfl rfl, gd_2 103 rfl rfl, gd_1 3 rfl rfl, wcX3_widenTo, by decide +kernel⟩
theorem kX0_91 : MLv RX0 91 mX0_guessAt 0 1 := ⟨⟨_, rfl, rfl⟩, gd_2 172 rfl rfl, gd_2 174 rfl rfl, gd_s 8 rfl rfl, gd_1 5 rfl rfl, wcX0_guessAt, by decide +kernel⟩
theorem kX0_95 : MLv RX0 95 mX0_takeAway 0 2 := ⟨⟨_, rfl, rfl⟩, gd_2 181 rfl rfl, gd_2 183 rfl rfl, gd_s 9 rfl rfl, gd_1 5 rfl rfl, wcX0_takeAway, by decide +kernel⟩
theorem kX0_99 : MLv RX0 99 mX0_giveBack 0 1 := ⟨⟨_, rfl, rfl⟩, gd_2 185 rfl rfl, gd_2 187 rfl rfl, gd_s 10 rfl rfl, gd_1 5 rfl rfl, wcX0_giveBack, by decide +kernel⟩
theorem kX0_102 : MLv RX0 102 mX3_trim 3 0 := ⟨⟨_, rfl, rfl⟩, gd_2 163 rfl rfl, gd_2 33 rfl rfl, gd_2 34 rfl rfl, gd_1 3 rfl rfl, wcX3_trim, by decide +kernel⟩
theorem kX0_105 : MLv RX0 105 mX3_shiftDown 3 1 := ⟨⟨_, rfl, rfl⟩, gd_2 189 rfl rfl, gd_2 190 rfl rfl, gd_2 191 rfl rfl, gd_1 3 rfl rfl, wcX3_shiftDown, by decide +kernel⟩
theorem kX0_108 : MLv RX0 108 mX3_word 3 1 := ⟨⟨_, rfl, rfl⟩, gd_2 162 rfl rfl, gd_2 140 rfl rfl, gd_2 141 rfl rfl, gd_1 3 rfl rfl, wcX3_word, by decide +kernel⟩
theorem kX0_113 : MLs RX0 113 mX0_unsignedQuotient 2 := ⟨gd_2 177 rfl rfl, gd_2 178 rfl rfl, gd_1 5 rfl rfl, wcX0_unsignedQuotient, by decide +kernel⟩
theorem kX0_119 : MLv RX0 119 mX3_against 3 1 := ⟨⟨_, rfl, rfl⟩, gd_2 121 rfl rfl, gd_2 122 rfl rfl, gd_2 123 rfl rfl, gd_1 3 rfl rfl, wcX3_against, by decide +kernel⟩
theorem kX0_124 : MLv RX0 124 mX0_finish 0 0 := ⟨⟨_, rfl, rfl⟩, gd_2 131 rfl rfl, gd_2 133 rfl rfl, gd_s 5 rfl rfl, gd_1 5 rfl rfl, wcX0_finish, by decide +kernel⟩
theorem kX0_127 : MLv RX0 127 mX0_findLeap 0 0 := ⟨⟨_, rfl, rfl⟩, gd_2 145 rfl rfl, gd_2 147 rfl rfl, gd_s 6 rfl rfl, gd_1 5 rfl rfl, wcX0_findLeap, by decide +kernel⟩
theorem kX0_130 : MLv RX0 130 mX0_leap 0 0 := ⟨⟨_, rfl, rfl⟩, gd_2 157 rfl rfl, gd_2 159 rfl rfl, gd_s 7 rfl rfl, gd_1 5 rfl rfl, wcX0_leap, by decide +kernel⟩
theorem kX0_133 : MLv RX0 133 mX0_moveOn 0 0 := ⟨⟨_, rfl, rfl⟩, gd_2 193 rfl rfl, gd_2 195 rfl rfl, gd_s 11 rfl rfl, gd_1 5 rfl rfl, wcX0_moveOn, by decide +kernel⟩
theorem kX0_136 : MLv RX0 136 mX3_toLong 3 0 := ⟨⟨_, rfl, rfl⟩, gd_2 135 rfl rfl, gd_2 136 rfl rfl, gd_2 137 rfl rfl, gd_1 3 rfl rfl, wcX3_toLong, by decide +kernel⟩
theorem kX0_140 : MLv RX0 140 mX3_put 3 1 := ⟨⟨_, rfl, rfl⟩, gd_2 143 rfl rfl, gd_2 29 rfl rfl, gd_2 30 rfl rfl, gd_1 3 rfl rfl, wcX3_put, by decide +kernel⟩
theorem kX0_144 : MLv RX0 144 mX3_window 3 1 := ⟨⟨_, rfl, rfl⟩, gd_2 149 rfl rfl, gd_2 150 rfl rfl, gd_2 151 rfl rfl, gd_1 3 rfl rfl, wcX3_window, by decide +kernel⟩
theorem kX0_149 : Cond.methodLink RX0 149 Lib.MathLoose.abs_long.x ∈ lw_good := gd_2 154 rfl rfl
theorem mathabs_long_s : Cond.static Lib.MathLoose.abs_long.x ∈ lw_good := gd_2 155 rfl rfl
theorem mathabs_long_c : Cond.code Lib.MathLoose.abs_long.x Lib.MathLoose.abs_long.code 2 (some .long) ∈ lw_good := gd_2 156 rfl rfl
theorem math_i : Cond.initialized "java/lang/Math" ∈ lw_good := gd_1 4 rfl rfl
theorem kX1_1 : Cond.methodLink RX1 1 objectInit ∈ lw_good := gd_1 29 rfl rfl
theorem kX1_15 : MLi RX1 15 mX3_init 1 := ⟨rfl, rfl, gd_1 32 rfl rfl, gd_1 33 rfl rfl, gd_1 3 rfl rfl, wcX3_init, by decide +kernel⟩
theorem kX1_25 : MLv RX1 25 mX3_put 3 1 := ⟨⟨_, rfl, rfl⟩, gd_3 44 rfl rfl, gd_2 29 rfl rfl, gd_2 30 rfl rfl, gd_1 3 rfl rfl, wcX3_put, by decide +kernel⟩
theorem kX1_29 : MLv RX1 29 mX3_copy 3 1 := ⟨⟨_, rfl, rfl⟩, gd_2 205 rfl rfl, gd_2 106 rfl rfl, gd_2 107 rfl rfl, gd_1 3 rfl rfl, wcX3_copy, by decide +kernel⟩
theorem kX1_33 : MLv RX1 33 mX3_against 3 1 := ⟨⟨_, rfl, rfl⟩, gd_3 147 rfl rfl, gd_2 122 rfl rfl, gd_2 123 rfl rfl, gd_1 3 rfl rfl, wcX3_against, by decide +kernel⟩
theorem kX1_37 : MLv RX1 37 mX1_put 1 2 := ⟨⟨_, rfl, rfl⟩, gd_3 148 rfl rfl, gd_3 41 rfl rfl, gd_3 42 rfl rfl, gd_1 2 rfl rfl, wcX1_put, by decide +kernel⟩
theorem kX1_40 : MLv RX1 40 mX3_product 3 2 := ⟨⟨_, rfl, rfl⟩, gd_3 161 rfl rfl, gd_2 227 rfl rfl, gd_2 228 rfl rfl, gd_1 3 rfl rfl, wcX3_product, by decide +kernel⟩
theorem kX1_44 : MLv RX1 44 mX3_add 3 1 := ⟨⟨_, rfl, rfl⟩, gd_3 162 rfl rfl, gd_3 87 rfl rfl, gd_3 88 rfl rfl, gd_1 3 rfl rfl, wcX3_add, by decide +kernel⟩
theorem kX1_47 : MLv RX1 47 mX3_clear 3 0 := ⟨⟨_, rfl, rfl⟩, gd_3 176 rfl rfl, gd_2 90 rfl rfl, gd_2 91 rfl rfl, gd_1 3 rfl rfl, wcX3_clear, by decide +kernel⟩
theorem kX1_50 : MLv RX1 50 mX3_subtract 3 1 := ⟨⟨_, rfl, rfl⟩, gd_3 177 rfl rfl, gd_3 77 rfl rfl, gd_3 78 rfl rfl, gd_1 3 rfl rfl, wcX3_subtract, by decide +kernel⟩
theorem kX2_3 : Cond.methodLink RX2 3 objectInit ∈ lw_good := gd_1 110 rfl rfl
theorem kX2_11 : MLi RX2 11 mX3_init 1 := ⟨rfl, rfl, gd_1 112 rfl rfl, gd_1 33 rfl rfl, gd_1 3 rfl rfl, wcX3_init, by decide +kernel⟩
theorem kX2_40 : MLv RX2 40 mX3_clear 3 0 := ⟨⟨_, rfl, rfl⟩, gd_3 74 rfl rfl, gd_2 90 rfl rfl, gd_2 91 rfl rfl, gd_1 3 rfl rfl, wcX3_clear, by decide +kernel⟩
theorem kX2_49 : MLv RX2 49 mX3_copyShifted 3 2 := ⟨⟨_, rfl, rfl⟩, gd_3 106 rfl rfl, gd_2 169 rfl rfl, gd_2 170 rfl rfl, gd_1 3 rfl rfl, wcX3_copyShifted, by decide +kernel⟩
theorem kX2_63 : MLv RX2 63 mX2_isInTail 2 4 := ⟨⟨_, rfl, rfl⟩, gd_3 107 rfl rfl, gd_3 109 rfl rfl, gd_s 21 rfl rfl, gd_1 6 rfl rfl, wcX2_isInTail, by decide +kernel⟩
theorem kX2_67 : MLv RX2 67 mX4_addTo 4 3 := ⟨⟨_, rfl, rfl⟩, gd_3 75 rfl rfl, gd_2 94 rfl rfl, gd_2 95 rfl rfl, gd_1 8 rfl rfl, wcX4_addTo, by decide +kernel⟩
theorem kX2_77 : MLv RX2 77 mX3_copy 3 1 := ⟨⟨_, rfl, rfl⟩, gd_3 93 rfl rfl, gd_2 106 rfl rfl, gd_2 107 rfl rfl, gd_1 3 rfl rfl, wcX3_copy, by decide +kernel⟩
theorem kX2_81 : MLv RX2 81 mX3_scale 3 1 := ⟨⟨_, rfl, rfl⟩, gd_3 85 rfl rfl, gd_2 37 rfl rfl, gd_2 38 rfl rfl, gd_1 3 rfl rfl, wcX3_scale, by decide +kernel⟩
theorem kX2_85 : MLv RX2 85 mX3_against 3 1 := ⟨⟨_, rfl, rfl⟩, gd_3 111 rfl rfl, gd_2 122 rfl rfl, gd_2 123 rfl rfl, gd_1 3 rfl rfl, wcX3_against, by decide +kernel⟩
theorem kX2_89 : MLv RX2 89 mX2_spreadOfTwo 2 2 := ⟨⟨_, rfl, rfl⟩, gd_3 65 rfl rfl, gd_3 67 rfl rfl, gd_s 17 rfl rfl, gd_1 6 rfl rfl, wcX2_spreadOfTwo, by decide +kernel⟩
theorem kX2_93 : MLv RX2 93 mX2_spreadOfFour 2 2 := ⟨⟨_, rfl, rfl⟩, gd_3 80 rfl rfl, gd_3 82 rfl rfl, gd_s 19 rfl rfl, gd_1 6 rfl rfl, wcX2_spreadOfFour, by decide +kernel⟩
theorem kX2_96 : MLv RX2 96 mX2_raise 2 2 := ⟨⟨_, rfl, rfl⟩, gd_3 94 rfl rfl, gd_3 96 rfl rfl, gd_s 20 rfl rfl, gd_1 6 rfl rfl, wcX2_raise, by decide +kernel⟩
theorem kX2_99 : MLv RX2 99 mX3_product 3 2 := ⟨⟨_, rfl, rfl⟩, gd_3 69 rfl rfl, gd_2 227 rfl rfl, gd_2 228 rfl rfl, gd_1 3 rfl rfl, wcX3_product, by decide +kernel⟩
theorem kX2_103 : MLv RX2 103 mX1_copy 1 1 := ⟨⟨_, rfl, rfl⟩, gd_3 124 rfl rfl, gd_2 202 rfl rfl, gd_2 203 rfl rfl, gd_1 2 rfl rfl, wcX1_copy, by decide +kernel⟩
theorem kX2_106 : MLv RX2 106 mX3_subtract 3 1 := ⟨⟨_, rfl, rfl⟩, gd_3 76 rfl rfl, gd_3 77 rfl rfl, gd_3 78 rfl rfl, gd_1 3 rfl rfl, wcX3_subtract, by decide +kernel⟩
theorem kX2_109 : MLv RX2 109 mX3_add 3 1 := ⟨⟨_, rfl, rfl⟩, gd_3 86 rfl rfl, gd_3 87 rfl rfl, gd_3 88 rfl rfl, gd_1 3 rfl rfl, wcX3_add, by decide +kernel⟩
theorem kX2_112 : MLv RX2 112 mX2_sumOfPowers 2 3 := ⟨⟨_, rfl, rfl⟩, gd_3 70 rfl rfl, gd_3 72 rfl rfl, gd_s 18 rfl rfl, gd_1 6 rfl rfl, wcX2_sumOfPowers, by decide +kernel⟩
theorem kX2_122 : MLv RX2 122 mX2_weigh 2 3 := ⟨⟨_, rfl, rfl⟩, gd_3 129 rfl rfl, gd_3 131 rfl rfl, gd_s 22 rfl rfl, gd_1 6 rfl rfl, wcX2_weigh, by decide +kernel⟩
theorem kX2_125 : MLv RX2 125 mX3_power 3 2 := ⟨⟨_, rfl, rfl⟩, gd_3 137 rfl rfl, gd_2 25 rfl rfl, gd_2 26 rfl rfl, gd_1 3 rfl rfl, wcX3_power, by decide +kernel⟩
theorem kX2_129 : Cond.methodLink RX2 129 Lib.Math.max.name ∈ lw_good := gd_3 138 rfl rfl
theorem mathmax_s : Cond.static Lib.Math.max.name ∈ lw_good := gd_1 37 rfl rfl
theorem mathmax_c : Cond.code Lib.Math.max.name Lib.Math.max.code 2 (some .int) ∈ lw_good := gd_1 38 rfl rfl
theorem kX2_135 : MLv RX2 135 mX4_addShiftedTo 4 3 := ⟨⟨_, rfl, rfl⟩, gd_3 133 rfl rfl, gd_3 134 rfl rfl, gd_3 135 rfl rfl, gd_1 8 rfl rfl, wcX4_addShiftedTo, by decide +kernel⟩
theorem kX3_3 : Cond.methodLink RX3 3 objectInit ∈ lw_good := gd_1 35 rfl rfl
theorem kX3_15 : Cond.methodLink RX3 15 Lib.Math.max.name ∈ lw_good := gd_1 36 rfl rfl
theorem kX3_25 : MLv RX3 25 mX3_trim 3 0 := ⟨⟨_, rfl, rfl⟩, gd_2 32 rfl rfl, gd_2 33 rfl rfl, gd_2 34 rfl rfl, gd_1 3 rfl rfl, wcX3_trim, by decide +kernel⟩
theorem kX3_28 : Cond.methodLink RX3 28 Lib.Math.min.name ∈ lw_good := gd_2 109 rfl rfl
theorem mathmin_s : Cond.static Lib.Math.min.name ∈ lw_good := gd_1 147 rfl rfl
theorem mathmin_c : Cond.code Lib.Math.min.name Lib.Math.min.code 2 (some .int) ∈ lw_good := gd_1 148 rfl rfl
theorem kX3_31 : Cond.methodLink RX3 31 arraycopyName ∈ lw_good := gd_2 110 rfl rfl
theorem acp_n : Cond.native arraycopyName ∈ lw_good := gd_2 112 rfl rfl
theorem acp_s : Cond.static arraycopyName ∈ lw_good := gd_2 111 rfl rfl
theorem acp_i : Cond.initialized "java/lang/System" ∈ lw_good := gd_1 11 rfl rfl
theorem kX3_39 : MLv RX3 39 mX3_word 3 1 := ⟨⟨_, rfl, rfl⟩, gd_2 139 rfl rfl, gd_2 140 rfl rfl, gd_2 141 rfl rfl, gd_1 3 rfl rfl, wcX3_word, by decide +kernel⟩
theorem kX3_43 : MLv RX3 43 mX3_widenTo 3 1 := ⟨⟨_, rfl, rfl⟩, gd_2 101 rfl rfl, gd_2 102 rfl rfl, gd_2 103 rfl rfl, gd_1 3 rfl rfl, wcX3_widenTo, by decide +kernel⟩
theorem kX3_47 : MLv RX3 47 mX3_addScaled 3 5 := ⟨⟨_, rfl, rfl⟩, gd_3 90 rfl rfl, gd_2 98 rfl rfl, gd_2 99 rfl rfl, gd_1 3 rfl rfl, wcX3_addScaled, by decide +kernel⟩
theorem kX3_51 : MLv RX3 51 mX3_put 3 1 := ⟨⟨_, rfl, rfl⟩, gd_2 28 rfl rfl, gd_2 29 rfl rfl, gd_2 30 rfl rfl, gd_1 3 rfl rfl, wcX3_put, by decide +kernel⟩
theorem kX3_55 : MLv RX3 55 mX3_scale 3 1 := ⟨⟨_, rfl, rfl⟩, gd_2 36 rfl rfl, gd_2 37 rfl rfl, gd_2 38 rfl rfl, gd_1 3 rfl rfl, wcX3_scale, by decide +kernel⟩
theorem kX4_3 : Cond.methodLink RX4 3 objectInit ∈ lw_good := gd_1 145 rfl rfl
theorem kX4_9 : Cond.methodLink RX4 9 Lib.Math.min.name ∈ lw_good := gd_1 146 rfl rfl
theorem kX4_15 : Cond.methodLink RX4 15 Lib.Math.max.name ∈ lw_good := gd_1 149 rfl rfl
theorem kX4_31 : MLv RX4 31 mX4_lacks 4 1 := ⟨⟨_, rfl, rfl⟩, gd_2 47 rfl rfl, gd_2 49 rfl rfl, gd_s 2 rfl rfl, gd_1 8 rfl rfl, wcX4_lacks, by decide +kernel⟩
theorem kX4_37 : MLs RX4 37 mJ7_fill_53178 2 := ⟨gd_3 228 rfl rfl, gd_3 229 rfl rfl, gd_1 12 rfl rfl, wcJ7_fill_53178, by decide +kernel⟩
theorem kX4_43 : MLv RX4 43 mX4_word 4 2 := ⟨⟨_, rfl, rfl⟩, gd_2 239 rfl rfl, gd_3 0 rfl rfl, gd_3 1 rfl rfl, gd_1 8 rfl rfl, wcX4_word, by decide +kernel⟩
theorem kX4_47 : MLv RX4 47 mX4_isZero 4 1 := ⟨⟨_, rfl, rfl⟩, gd_2 235 rfl rfl, gd_2 236 rfl rfl, gd_2 237 rfl rfl, gd_1 8 rfl rfl, wcX4_isZero, by decide +kernel⟩
theorem kX4_50 : MLv RX4 50 mX3_addScaled 3 5 := ⟨⟨_, rfl, rfl⟩, gd_2 97 rfl rfl, gd_2 98 rfl rfl, gd_2 99 rfl rfl, gd_1 3 rfl rfl, wcX3_addScaled, by decide +kernel⟩
theorem kX4_56 : MLv RX4 56 mX4_addPair 4 4 := ⟨⟨_, rfl, rfl⟩, gd_3 3 rfl rfl, gd_3 5 rfl rfl, gd_s 13 rfl rfl, gd_1 8 rfl rfl, wcX4_addPair, by decide +kernel⟩
theorem kX5_3 : Cond.methodLink RX5 3 objectInit ∈ lw_good := gd_2 64 rfl rfl
theorem kX5_11 : MLi RX5 11 mX3_init 1 := ⟨rfl, rfl, gd_2 66 rfl rfl, gd_1 33 rfl rfl, gd_1 3 rfl rfl, wcX3_init, by decide +kernel⟩
theorem kX5_22 : MLi RX5 22 mX1_init 1 := ⟨rfl, rfl, gd_2 68 rfl rfl, gd_1 27 rfl rfl, gd_1 2 rfl rfl, wcX1_init, by decide +kernel⟩
theorem kX6_3 : Cond.methodLink RX6 3 objectInit ∈ lw_good := gd_1 137 rfl rfl
theorem kX6_11 : MLi RX6 11 mX3_init 1 := ⟨rfl, rfl, gd_1 139 rfl rfl, gd_1 33 rfl rfl, gd_1 3 rfl rfl, wcX3_init, by decide +kernel⟩
theorem kX6_22 : MLi RX6 22 mX4_init 2 := ⟨rfl, rfl, gd_1 142 rfl rfl, gd_1 143 rfl rfl, gd_1 8 rfl rfl, wcX4_init, by decide +kernel⟩
theorem kX6_43 : MLv RX6 43 mX3_put 3 1 := ⟨⟨_, rfl, rfl⟩, gd_3 223 rfl rfl, gd_2 29 rfl rfl, gd_2 30 rfl rfl, gd_1 3 rfl rfl, wcX3_put, by decide +kernel⟩
theorem kX6_47 : MLv RX6 47 mX4_startAnew 4 0 := ⟨⟨_, rfl, rfl⟩, gd_3 224 rfl rfl, gd_3 225 rfl rfl, gd_3 226 rfl rfl, gd_1 8 rfl rfl, wcX4_startAnew, by decide +kernel⟩
theorem kX6_50 : MLv RX6 50 mX4_addRound 4 3 := ⟨⟨_, rfl, rfl⟩, gd_3 239 rfl rfl, gd_2 52 rfl rfl, gd_2 53 rfl rfl, gd_1 8 rfl rfl, wcX4_addRound, by decide +kernel⟩
theorem kX6_54 : MLv RX6 54 mX3_scale 3 1 := ⟨⟨_, rfl, rfl⟩, gd_4 0 rfl rfl, gd_2 37 rfl rfl, gd_2 38 rfl rfl, gd_1 3 rfl rfl, wcX3_scale, by decide +kernel⟩
theorem kX6_57 : Cond.methodLink RX6 57 Lib.Math.max.name ∈ lw_good := gd_4 26 rfl rfl
theorem kX6_63 : MLv RX6 63 mX4_addTo 4 3 := ⟨⟨_, rfl, rfl⟩, gd_4 5 rfl rfl, gd_2 94 rfl rfl, gd_2 95 rfl rfl, gd_1 8 rfl rfl, wcX4_addTo, by decide +kernel⟩
theorem kX6_67 : MLv RX6 67 mX4_erase 4 1 := ⟨⟨_, rfl, rfl⟩, gd_4 27 rfl rfl, gd_4 28 rfl rfl, gd_4 29 rfl rfl, gd_1 8 rfl rfl, wcX4_erase, by decide +kernel⟩
theorem kX6_70 : MLv RX6 70 mX6_tossNext 6 0 := ⟨⟨_, rfl, rfl⟩, gd_3 235 rfl rfl, gd_3 236 rfl rfl, gd_3 237 rfl rfl, gd_1 7 rfl rfl, wcX6_tossNext, by decide +kernel⟩
theorem kX6_73 : MLv RX6 73 mX3_clear 3 0 := ⟨⟨_, rfl, rfl⟩, gd_4 1 rfl rfl, gd_2 90 rfl rfl, gd_2 91 rfl rfl, gd_1 3 rfl rfl, wcX3_clear, by decide +kernel⟩
theorem kX6_76 : Cond.methodLink RX6 76 Lib.Math.abs.name ∈ lw_good := gd_4 2 rfl rfl
theorem mathabs_s : Cond.static Lib.Math.abs.name ∈ lw_good := gd_4 3 rfl rfl
theorem mathabs_c : Cond.code Lib.Math.abs.name Lib.Math.abs.code 1 (some .int) ∈ lw_good := gd_4 4 rfl rfl
theorem kX6_80 : MLv RX6 80 mX3_copy 3 1 := ⟨⟨_, rfl, rfl⟩, gd_4 6 rfl rfl, gd_2 106 rfl rfl, gd_2 107 rfl rfl, gd_1 3 rfl rfl, wcX3_copy, by decide +kernel⟩
theorem kX6_84 : MLv RX6 84 mX3_against 3 1 := ⟨⟨_, rfl, rfl⟩, gd_4 7 rfl rfl, gd_2 122 rfl rfl, gd_2 123 rfl rfl, gd_1 3 rfl rfl, wcX3_against, by decide +kernel⟩
theorem kX7_1 : Cond.methodLink RX7 1 objectInit ∈ lw_good := gd_1 18 rfl rfl
theorem kX7_28 : MLi RX7 28 mX1_init 1 := ⟨rfl, rfl, gd_1 26 rfl rfl, gd_1 27 rfl rfl, gd_1 2 rfl rfl, wcX1_init, by decide +kernel⟩
theorem kX7_37 : MLi RX7 37 mX3_init 1 := ⟨rfl, rfl, gd_1 68 rfl rfl, gd_1 33 rfl rfl, gd_1 3 rfl rfl, wcX3_init, by decide +kernel⟩
theorem kX7_44 : MLn RX7 44 mX0_init 0 "TailBounds" := ⟨rfl, rfl, fun s h => h.1, gd_1 72 rfl rfl, gd_1 5 rfl rfl, wcX0_init, by decide +kernel⟩
theorem kX7_51 : MLn RX7 51 mX2_init 0 "TailBounds" := ⟨rfl, rfl, fun s h => h.2.1, gd_1 108 rfl rfl, gd_1 6 rfl rfl, wcX2_init, by decide +kernel⟩
theorem kX7_58 : MLn RX7 58 mX6_init 0 "TailBounds" := ⟨rfl, rfl, fun s h => h.2.2.1, gd_1 135 rfl rfl, gd_1 7 rfl rfl, wcX6_init, by decide +kernel⟩
theorem kX7_88 : MLs RX7 88 mX7_outside 3 := ⟨gd_1 239 rfl rfl, gd_2 0 rfl rfl, gd_1 1 rfl rfl, wcX7_outside, by decide +kernel⟩
theorem kX7_92 : MLs RX7 92 mX7_notOdds 2 := ⟨gd_2 10 rfl rfl, gd_2 11 rfl rfl, gd_1 1 rfl rfl, wcX7_notOdds, by decide +kernel⟩
theorem kX7_96 : MLv RX7 96 mX7_isFull 7 0 := ⟨⟨_, rfl, rfl⟩, gd_2 13 rfl rfl, gd_2 15 rfl rfl, gd_s 0 rfl rfl, gd_1 1 rfl rfl, wcX7_isFull, by decide +kernel⟩
theorem kX7_100 : MLv RX7 100 mX7_makeRounds 7 3 := ⟨⟨_, rfl, rfl⟩, gd_2 17 rfl rfl, gd_2 19 rfl rfl, gd_s 1 rfl rfl, gd_1 1 rfl rfl, wcX7_makeRounds, by decide +kernel⟩
theorem kX7_104 : MLv RX7 104 mX7_keep 7 2 := ⟨⟨_, rfl, rfl⟩, gd_2 56 rfl rfl, gd_2 58 rfl rfl, gd_s 3 rfl rfl, gd_1 1 rfl rfl, wcX7_keep, by decide +kernel⟩
theorem kX7_111 : MLs RX7 111 mX7_ways 2 := ⟨gd_2 210 rfl rfl, gd_2 211 rfl rfl, gd_1 1 rfl rfl, wcX7_ways, by decide +kernel⟩
theorem kX7_115 : MLv RX7 115 mX3_put 3 1 := ⟨⟨_, rfl, rfl⟩, gd_2 213 rfl rfl, gd_2 29 rfl rfl, gd_2 30 rfl rfl, gd_1 3 rfl rfl, wcX3_put, by decide +kernel⟩
theorem kX7_124 : MLi RX7 124 mX4_init 2 := ⟨rfl, rfl, gd_2 42 rfl rfl, gd_1 143 rfl rfl, gd_1 8 rfl rfl, wcX4_init, by decide +kernel⟩
theorem kX7_127 : MLv RX7 127 mX4_write 4 2 := ⟨⟨_, rfl, rfl⟩, gd_2 43 rfl rfl, gd_2 44 rfl rfl, gd_2 45 rfl rfl, gd_1 8 rfl rfl, wcX4_write, by decide +kernel⟩
theorem kX7_131 : MLs RX7 131 mX7_together 2 := ⟨gd_2 21 rfl rfl, gd_2 22 rfl rfl, gd_1 1 rfl rfl, wcX7_together, by decide +kernel⟩
theorem kX7_135 : MLv RX7 135 mX7_sourceAt 7 1 := ⟨⟨_, rfl, rfl⟩, gd_2 222 rfl rfl, gd_2 224 rfl rfl, gd_s 12 rfl rfl, gd_1 1 rfl rfl, wcX7_sourceAt, by decide +kernel⟩
theorem kX7_149 : MLv RX7 149 mX3_product 3 2 := ⟨⟨_, rfl, rfl⟩, gd_2 226 rfl rfl, gd_2 227 rfl rfl, gd_2 228 rfl rfl, gd_1 3 rfl rfl, wcX3_product, by decide +kernel⟩
theorem kX7_153 : MLv RX7 153 mX3_bits 3 0 := ⟨⟨_, rfl, rfl⟩, gd_2 230 rfl rfl, gd_2 128 rfl rfl, gd_2 129 rfl rfl, gd_1 3 rfl rfl, wcX3_bits, by decide +kernel⟩
theorem kX7_157 : MLv RX7 157 mX4_addAllPairs 4 2 := ⟨⟨_, rfl, rfl⟩, gd_2 231 rfl rfl, gd_2 232 rfl rfl, gd_2 233 rfl rfl, gd_1 8 rfl rfl, wcX4_addAllPairs, by decide +kernel⟩
theorem kX7_164 : Cond.methodLink RX7 164 Lib.Math.min.name ∈ lw_good := gd_3 11 rfl rfl
theorem kX7_170 : Cond.methodLink RX7 170 Lib.Math.max.name ∈ lw_good := gd_3 12 rfl rfl
theorem kX7_173 : MLv RX7 173 mX4_addFrom 4 3 := ⟨⟨_, rfl, rfl⟩, gd_3 13 rfl rfl, gd_3 14 rfl rfl, gd_3 15 rfl rfl, gd_1 8 rfl rfl, wcX4_addFrom, by decide +kernel⟩
theorem kX7_180 : MLv RX7 180 mX4_zeros 4 0 := ⟨⟨_, rfl, rfl⟩, gd_3 21 rfl rfl, gd_3 22 rfl rfl, gd_3 23 rfl rfl, gd_1 8 rfl rfl, wcX4_zeros, by decide +kernel⟩
theorem kX7_183 : MLv RX7 183 mX3_word 3 1 := ⟨⟨_, rfl, rfl⟩, gd_3 29 rfl rfl, gd_2 140 rfl rfl, gd_2 141 rfl rfl, gd_1 3 rfl rfl, wcX3_word, by decide +kernel⟩
theorem kX7_189 : MLv RX7 189 mX4_word 4 2 := ⟨⟨_, rfl, rfl⟩, gd_3 31 rfl rfl, gd_3 0 rfl rfl, gd_3 1 rfl rfl, gd_1 8 rfl rfl, wcX4_word, by decide +kernel⟩
theorem kX7_191 : MLv RX7 191 mX7_placeAt 7 1 := ⟨⟨_, rfl, rfl⟩, gd_3 36 rfl rfl, gd_3 38 rfl rfl, gd_s 14 rfl rfl, gd_1 1 rfl rfl, wcX7_placeAt, by decide +kernel⟩
theorem kX7_195 : MLv RX7 195 mX1_put 1 2 := ⟨⟨_, rfl, rfl⟩, gd_3 40 rfl rfl, gd_3 41 rfl rfl, gd_3 42 rfl rfl, gd_1 2 rfl rfl, wcX1_put, by decide +kernel⟩
theorem kX7_197 : MLv RX7 197 mX7_settle 7 1 := ⟨⟨_, rfl, rfl⟩, gd_3 45 rfl rfl, gd_3 47 rfl rfl, gd_s 15 rfl rfl, gd_1 1 rfl rfl, wcX7_settle, by decide +kernel⟩
theorem kX7_204 : MLv RX7 204 mX1_copy 1 1 := ⟨⟨_, rfl, rfl⟩, gd_2 201 rfl rfl, gd_2 202 rfl rfl, gd_2 203 rfl rfl, gd_1 2 rfl rfl, wcX1_copy, by decide +kernel⟩
theorem kX7_208 : MLv RX7 208 mX7_store 7 1 := ⟨⟨_, rfl, rfl⟩, gd_3 49 rfl rfl, gd_3 51 rfl rfl, gd_s 16 rfl rfl, gd_1 1 rfl rfl, wcX7_store, by decide +kernel⟩
theorem kX7_211 : MLv RX7 211 mX2_findMoment 2 3 := ⟨⟨_, rfl, rfl⟩, gd_3 61 rfl rfl, gd_3 62 rfl rfl, gd_3 63 rfl rfl, gd_1 6 rfl rfl, wcX2_findMoment, by decide +kernel⟩
theorem kX7_215 : MLv RX7 215 mX2_findTail 2 4 := ⟨⟨_, rfl, rfl⟩, gd_3 102 rfl rfl, gd_3 103 rfl rfl, gd_3 104 rfl rfl, gd_1 6 rfl rfl, wcX2_findTail, by decide +kernel⟩
theorem kX7_219 : MLv RX7 219 mX2_isAboveMean 2 2 := ⟨⟨_, rfl, rfl⟩, gd_3 116 rfl rfl, gd_3 117 rfl rfl, gd_3 118 rfl rfl, gd_1 6 rfl rfl, wcX2_isAboveMean, by decide +kernel⟩
theorem kX7_223 : MLv RX7 223 mX2_boundByMean 2 3 := ⟨⟨_, rfl, rfl⟩, gd_3 120 rfl rfl, gd_3 121 rfl rfl, gd_3 122 rfl rfl, gd_1 6 rfl rfl, wcX2_boundByMean, by decide +kernel⟩
theorem kX7_226 : MLv RX7 226 mX2_boundByPowers 2 3 := ⟨⟨_, rfl, rfl⟩, gd_3 125 rfl rfl, gd_3 126 rfl rfl, gd_3 127 rfl rfl, gd_1 6 rfl rfl, wcX2_boundByPowers, by decide +kernel⟩
theorem kX7_230 : MLv RX7 230 mX2_boundByMoment 2 4 := ⟨⟨_, rfl, rfl⟩, gd_3 139 rfl rfl, gd_3 140 rfl rfl, gd_3 141 rfl rfl, gd_1 6 rfl rfl, wcX2_boundByMoment, by decide +kernel⟩
theorem kX7_233 : MLv RX7 233 mX1_capAtOne 1 0 := ⟨⟨_, rfl, rfl⟩, gd_3 143 rfl rfl, gd_3 144 rfl rfl, gd_3 145 rfl rfl, gd_1 2 rfl rfl, wcX1_capAtOne, by decide +kernel⟩
theorem kX7_240 : MLv RX7 240 mX1_addUp 1 3 := ⟨⟨_, rfl, rfl⟩, gd_3 157 rfl rfl, gd_3 158 rfl rfl, gd_3 159 rfl rfl, gd_1 2 rfl rfl, wcX1_addUp, by decide +kernel⟩
theorem kX7_244 : MLv RX7 244 mX1_multiply 1 2 := ⟨⟨_, rfl, rfl⟩, gd_3 163 rfl rfl, gd_3 164 rfl rfl, gd_3 165 rfl rfl, gd_1 2 rfl rfl, wcX1_multiply, by decide +kernel⟩
theorem kX7_248 : MLv RX7 248 mX7_compare 7 2 := ⟨⟨_, rfl, rfl⟩, gd_3 167 rfl rfl, gd_3 169 rfl rfl, gd_s 23 rfl rfl, gd_1 1 rfl rfl, wcX7_compare, by decide +kernel⟩
theorem kX7_252 : MLv RX7 252 mX1_lessThanOne 1 1 := ⟨⟨_, rfl, rfl⟩, gd_3 172 rfl rfl, gd_3 173 rfl rfl, gd_3 174 rfl rfl, gd_1 2 rfl rfl, wcX1_lessThanOne, by decide +kernel⟩
theorem kX7_255 : MLv RX7 255 mX1_half 1 1 := ⟨⟨_, rfl, rfl⟩, gd_3 186 rfl rfl, gd_3 187 rfl rfl, gd_3 188 rfl rfl, gd_1 2 rfl rfl, wcX1_half, by decide +kernel⟩
theorem kX7_265 : MLv RX7 265 mX3_copy 3 1 := ⟨⟨_, rfl, rfl⟩, gd_2 105 rfl rfl, gd_2 106 rfl rfl, gd_2 107 rfl rfl, gd_1 3 rfl rfl, wcX3_copy, by decide +kernel⟩
theorem kX7_270 : MLv RX7 270 mX3_scale 3 1 := ⟨⟨_, rfl, rfl⟩, gd_3 202 rfl rfl, gd_2 37 rfl rfl, gd_2 38 rfl rfl, gd_1 3 rfl rfl, wcX3_scale, by decide +kernel⟩
theorem kX7_276 : MLv RX7 276 mX0_divide 0 2 := ⟨⟨_, rfl, rfl⟩, gd_3 203 rfl rfl, gd_2 165 rfl rfl, gd_2 166 rfl rfl, gd_1 5 rfl rfl, wcX0_divide, by decide +kernel⟩
theorem kX7_282 : MLv RX7 282 mX3_toLong 3 0 := ⟨⟨_, rfl, rfl⟩, gd_3 205 rfl rfl, gd_2 136 rfl rfl, gd_2 137 rfl rfl, gd_1 3 rfl rfl, wcX3_toLong, by decide +kernel⟩
theorem kX7_287 : MLv RX7 287 mX6_start 6 2 := ⟨⟨_, rfl, rfl⟩, gd_3 219 rfl rfl, gd_3 220 rfl rfl, gd_3 221 rfl rfl, gd_1 7 rfl rfl, wcX6_start, by decide +kernel⟩
theorem kX7_290 : MLv RX7 290 mX6_isRareNext 6 3 := ⟨⟨_, rfl, rfl⟩, gd_3 231 rfl rfl, gd_3 232 rfl rfl, gd_3 233 rfl rfl, gd_1 7 rfl rfl, wcX6_isRareNext, by decide +kernel⟩
theorem kX7_293 : MLv RX7 293 mX7_isNarrow 7 4 := ⟨⟨_, rfl, rfl⟩, gd_4 8 rfl rfl, gd_4 10 rfl rfl, gd_s 24 rfl rfl, gd_1 1 rfl rfl, wcX7_isNarrow, by decide +kernel⟩
theorem kX7_297 : MLv RX7 297 mX3_clear 3 0 := ⟨⟨_, rfl, rfl⟩, gd_2 89 rfl rfl, gd_2 90 rfl rfl, gd_2 91 rfl rfl, gd_1 3 rfl rfl, wcX3_clear, by decide +kernel⟩
theorem kX7_300 : MLv RX7 300 mX6_tossNext 6 0 := ⟨⟨_, rfl, rfl⟩, gd_4 21 rfl rfl, gd_3 236 rfl rfl, gd_3 237 rfl rfl, gd_1 7 rfl rfl, wcX6_tossNext, by decide +kernel⟩
theorem kX7_303 : MLv RX7 303 mX6_addFrom 6 3 := ⟨⟨_, rfl, rfl⟩, gd_4 22 rfl rfl, gd_4 23 rfl rfl, gd_4 24 rfl rfl, gd_1 7 rfl rfl, wcX6_addFrom, by decide +kernel⟩
theorem kX7_309 : MLv RX7 309 mX7_filledPlaces 7 0 := ⟨⟨_, rfl, rfl⟩, gd_4 35 rfl rfl, gd_4 37 rfl rfl, gd_s 25 rfl rfl, gd_1 1 rfl rfl, wcX7_filledPlaces, by decide +kernel⟩
theorem kX7_314 : MLv RX7 314 mX3_power 3 2 := ⟨⟨_, rfl, rfl⟩, gd_2 24 rfl rfl, gd_2 25 rfl rfl, gd_2 26 rfl rfl, gd_1 3 rfl rfl, wcX3_power, by decide +kernel⟩
theorem kX7_317 : MLv RX7 317 mX4_addRound 4 3 := ⟨⟨_, rfl, rfl⟩, gd_2 51 rfl rfl, gd_2 52 rfl rfl, gd_2 53 rfl rfl, gd_1 8 rfl rfl, wcX4_addRound, by decide +kernel⟩
theorem kX7_321 : MLi RX7 321 mX5_init 2 := ⟨rfl, rfl, gd_2 61 rfl rfl, gd_2 62 rfl rfl, gd_1 10 rfl rfl, wcX5_init, by decide +kernel⟩
theorem kX7_324 : MLv RX7 324 mX4_addTo 4 3 := ⟨⟨_, rfl, rfl⟩, gd_2 93 rfl rfl, gd_2 94 rfl rfl, gd_2 95 rfl rfl, gd_1 8 rfl rfl, wcX4_addTo, by decide +kernel⟩
theorem kX7_328 : MLv RX7 328 mX0_toLowestTerms 0 1 := ⟨⟨_, rfl, rfl⟩, gd_2 113 rfl rfl, gd_2 114 rfl rfl, gd_2 115 rfl rfl, gd_1 5 rfl rfl, wcX0_toLowestTerms, by decide +kernel⟩
theorem kX7_331 : MLv RX7 331 mX3_against 3 1 := ⟨⟨_, rfl, rfl⟩, gd_3 171 rfl rfl, gd_2 122 rfl rfl, gd_2 123 rfl rfl, gd_1 3 rfl rfl, wcX3_against, by decide +kernel⟩
theorem kX8_1 : Cond.methodLink RX8 1 objectInit ∈ lw_good := gd_4 44 rfl rfl
theorem kX8_120 : MLs RX8 120 mX8_top 1 := ⟨gd_4 217 rfl rfl, gd_4 218 rfl rfl, gd_1 9 rfl rfl, wcX8_top, by decide +kernel⟩
theorem kX8_124 : MLs RX8 124 mX8_become 2 := ⟨gd_4 183 rfl rfl, gd_4 184 rfl rfl, gd_1 9 rfl rfl, wcX8_become, by decide +kernel⟩
theorem kX8_128 : MLs RX8 128 mX8_copy 2 := ⟨gd_5 30 rfl rfl, gd_5 31 rfl rfl, gd_1 9 rfl rfl, wcX8_copy, by decide +kernel⟩
theorem kX8_132 : MLs RX8 132 mX8_half 2 := ⟨gd_5 33 rfl rfl, gd_5 34 rfl rfl, gd_1 9 rfl rfl, wcX8_half, by decide +kernel⟩
theorem kX8_136 : MLs RX8 136 mX8_compare 2 := ⟨gd_5 8 rfl rfl, gd_5 9 rfl rfl, gd_1 9 rfl rfl, wcX8_compare, by decide +kernel⟩
theorem kX8_140 : MLs RX8 140 mX8_minus 2 := ⟨gd_5 36 rfl rfl, gd_5 37 rfl rfl, gd_1 9 rfl rfl, wcX8_minus, by decide +kernel⟩
theorem kX8_143 : MLs RX8 143 mX8_twice 2 := ⟨gd_5 39 rfl rfl, gd_5 40 rfl rfl, gd_1 9 rfl rfl, wcX8_twice, by decide +kernel⟩
theorem kX8_146 : MLs RX8 146 mX8_bits 1 := ⟨gd_4 232 rfl rfl, gd_4 233 rfl rfl, gd_1 9 rfl rfl, wcX8_bits, by decide +kernel⟩
theorem kX8_149 : MLs RX8 149 mX8_bitOf 2 := ⟨gd_5 46 rfl rfl, gd_5 47 rfl rfl, gd_1 9 rfl rfl, wcX8_bitOf, by decide +kernel⟩
theorem kX8_153 : MLs RX8 153 mX8_in 3 := ⟨gd_4 169 rfl rfl, gd_4 170 rfl rfl, gd_1 9 rfl rfl, wcX8_in, by decide +kernel⟩
theorem kX8_157 : MLv RX8 157 mX8_findDivisor 8 2 := ⟨⟨_, rfl, rfl⟩, gd_5 26 rfl rfl, gd_5 28 rfl rfl, gd_s 31 rfl rfl, gd_1 9 rfl rfl, wcX8_findDivisor, by decide +kernel⟩
theorem kX8_160 : MLv RX8 160 mX8_divide 8 2 := ⟨⟨_, rfl, rfl⟩, gd_5 42 rfl rfl, gd_5 44 rfl rfl, gd_s 32 rfl rfl, gd_1 9 rfl rfl, wcX8_divide, by decide +kernel⟩
theorem kX8_163 : MLv RX8 163 mX8_lowest 8 0 := ⟨⟨_, rfl, rfl⟩, gd_5 22 rfl rfl, gd_5 24 rfl rfl, gd_s 30 rfl rfl, gd_1 9 rfl rfl, wcX8_lowest, by decide +kernel⟩
theorem kX8_166 : MLs RX8 166 mX8_store 4 := ⟨gd_4 197 rfl rfl, gd_4 198 rfl rfl, gd_1 9 rfl rfl, wcX8_store, by decide +kernel⟩
theorem kX8_170 : MLs RX8 170 mX8_load 4 := ⟨gd_4 204 rfl rfl, gd_4 205 rfl rfl, gd_1 9 rfl rfl, wcX8_load, by decide +kernel⟩
theorem kX8_174 : MLs RX8 174 mX8_times 3 := ⟨gd_4 214 rfl rfl, gd_4 215 rfl rfl, gd_1 9 rfl rfl, wcX8_times, by decide +kernel⟩
theorem kX8_184 : MLs RX8 184 mX8_by 2 := ⟨gd_4 191 rfl rfl, gd_4 192 rfl rfl, gd_1 9 rfl rfl, wcX8_by, by decide +kernel⟩
theorem kX8_187 : MLs RX8 187 mX8_at 2 := ⟨gd_4 194 rfl rfl, gd_4 195 rfl rfl, gd_1 9 rfl rfl, wcX8_at, by decide +kernel⟩
theorem kX8_191 : MLs RX8 191 mX8_plus 2 := ⟨gd_4 207 rfl rfl, gd_4 208 rfl rfl, gd_1 9 rfl rfl, wcX8_plus, by decide +kernel⟩
theorem kX8_194 : MLs RX8 194 mX8_choose 2 := ⟨gd_4 180 rfl rfl, gd_4 181 rfl rfl, gd_1 9 rfl rfl, wcX8_choose, by decide +kernel⟩
theorem kX8_198 : MLv RX8 198 mX8_power 8 3 := ⟨⟨_, rfl, rfl⟩, gd_4 187 rfl rfl, gd_4 189 rfl rfl, gd_s 26 rfl rfl, gd_1 9 rfl rfl, wcX8_power, by decide +kernel⟩
theorem kX8_202 : MLv RX8 202 mX8_comes 8 2 := ⟨⟨_, rfl, rfl⟩, gd_4 200 rfl rfl, gd_4 202 rfl rfl, gd_s 27 rfl rfl, gd_1 9 rfl rfl, wcX8_comes, by decide +kernel⟩
theorem kX8_205 : MLv RX8 205 mX8_isSource 8 1 := ⟨⟨_, rfl, rfl⟩, gd_4 228 rfl rfl, gd_4 230 rfl rfl, gd_s 28 rfl rfl, gd_1 9 rfl rfl, wcX8_isSource, by decide +kernel⟩
theorem kX8_211 : MLs RX8 211 mX8_isPlace 1 := ⟨gd_5 15 rfl rfl, gd_5 16 rfl rfl, gd_1 9 rfl rfl, wcX8_isPlace, by decide +kernel⟩
theorem kX8_214 : MLv RX8 214 mX8_give 8 1 := ⟨⟨_, rfl, rfl⟩, gd_5 18 rfl rfl, gd_5 20 rfl rfl, gd_s 29 rfl rfl, gd_1 9 rfl rfl, wcX8_give, by decide +kernel⟩
theorem kX8_218 : MLv RX8 218 mX8_weighs 8 1 := ⟨⟨_, rfl, rfl⟩, gd_5 53 rfl rfl, gd_5 55 rfl rfl, gd_s 33 rfl rfl, gd_1 9 rfl rfl, wcX8_weighs, by decide +kernel⟩
theorem kX8_222 : MLv RX8 222 mX8_away 8 2 := ⟨⟨_, rfl, rfl⟩, gd_5 65 rfl rfl, gd_5 67 rfl rfl, gd_s 35 rfl rfl, gd_1 9 rfl rfl, wcX8_away, by decide +kernel⟩
theorem kX8_226 : MLv RX8 226 mX8_moments 8 2 := ⟨⟨_, rfl, rfl⟩, gd_5 61 rfl rfl, gd_5 63 rfl rfl, gd_s 34 rfl rfl, gd_1 9 rfl rfl, wcX8_moments, by decide +kernel⟩
theorem kX8_232 : MLv RX8 232 mX8_raised 8 3 := ⟨⟨_, rfl, rfl⟩, gd_5 85 rfl rfl, gd_5 87 rfl rfl, gd_s 38 rfl rfl, gd_1 9 rfl rfl, wcX8_raised, by decide +kernel⟩
theorem kX8_236 : MLv RX8 236 mX8_leastRaised 8 2 := ⟨⟨_, rfl, rfl⟩, gd_5 81 rfl rfl, gd_5 83 rfl rfl, gd_s 37 rfl rfl, gd_1 9 rfl rfl, wcX8_leastRaised, by decide +kernel⟩
theorem kX8_239 : MLv RX8 239 mX8_bounded 8 3 := ⟨⟨_, rfl, rfl⟩, gd_5 77 rfl rfl, gd_5 79 rfl rfl, gd_s 36 rfl rfl, gd_1 9 rfl rfl, wcX8_bounded, by decide +kernel⟩
theorem kX8_246 : MLv RX8 246 mX8_takeLeft 8 1 := ⟨⟨_, rfl, rfl⟩, gd_5 98 rfl rfl, gd_5 100 rfl rfl, gd_s 39 rfl rfl, gd_1 9 rfl rfl, wcX8_takeLeft, by decide +kernel⟩
theorem kX8_249 : MLv RX8 249 mX8_takeRight 8 1 := ⟨⟨_, rfl, rfl⟩, gd_5 102 rfl rfl, gd_5 104 rfl rfl, gd_s 40 rfl rfl, gd_1 9 rfl rfl, wcX8_takeRight, by decide +kernel⟩
theorem kX8_252 : MLv RX8 252 mX8_ordered 8 0 := ⟨⟨_, rfl, rfl⟩, gd_5 106 rfl rfl, gd_5 108 rfl rfl, gd_s 41 rfl rfl, gd_1 9 rfl rfl, wcX8_ordered, by decide +kernel⟩
theorem kX8_256 : MLv RX8 256 mX8_asks 8 2 := ⟨⟨_, rfl, rfl⟩, gd_5 118 rfl rfl, gd_5 120 rfl rfl, gd_s 42 rfl rfl, gd_1 9 rfl rfl, wcX8_asks, by decide +kernel⟩
theorem kX8_272 : MLv RX8 272 mX8_isGood 8 5 := ⟨⟨_, rfl, rfl⟩, gd_5 148 rfl rfl, gd_5 150 rfl rfl, gd_s 43 rfl rfl, gd_1 9 rfl rfl, wcX8_isGood, by decide +kernel⟩
theorem kX8_279 : MLv RX8 279 mX8_isCrossed 8 2 := ⟨⟨_, rfl, rfl⟩, gd_5 161 rfl rfl, gd_5 163 rfl rfl, gd_s 44 rfl rfl, gd_1 9 rfl rfl, wcX8_isCrossed, by decide +kernel⟩
theorem kL_9 : MLi RL 9 mX7_init 0 := ⟨rfl, rfl, gd_1 15 rfl rfl, gd_1 16 rfl rfl, gd_1 1 rfl rfl, wcX7_init, by decide +kernel⟩
theorem kL_12 : MLi RL 12 mX8_init 0 := ⟨rfl, rfl, gd_4 41 rfl rfl, gd_4 42 rfl rfl, gd_1 9 rfl rfl, wcX8_init, by decide +kernel⟩
theorem kL_13 : MLv RL 13 mX7_weight 7 1 := ⟨⟨_, rfl, rfl⟩, gd_1 235 rfl rfl, gd_1 236 rfl rfl, gd_1 237 rfl rfl, gd_1 1 rfl rfl, wcX7_weight, by decide +kernel⟩
theorem kL_17 : MLv RL 17 mX8_weight 8 1 := ⟨⟨_, rfl, rfl⟩, gd_4 165 rfl rfl, gd_4 166 rfl rfl, gd_4 167 rfl rfl, gd_1 9 rfl rfl, wcX8_weight, by decide +kernel⟩
theorem kL_18 : MLv RL 18 mX7_wipe 7 0 := ⟨⟨_, rfl, rfl⟩, gd_2 2 rfl rfl, gd_2 3 rfl rfl, gd_2 4 rfl rfl, gd_1 1 rfl rfl, wcX7_wipe, by decide +kernel⟩
theorem kL_22 : MLv RL 22 mX8_wipe 8 0 := ⟨⟨_, rfl, rfl⟩, gd_4 172 rfl rfl, gd_4 173 rfl rfl, gd_4 174 rfl rfl, gd_1 9 rfl rfl, wcX8_wipe, by decide +kernel⟩
theorem kL_23 : MLv RL 23 mX7_coins 7 3 := ⟨⟨_, rfl, rfl⟩, gd_2 6 rfl rfl, gd_2 7 rfl rfl, gd_2 8 rfl rfl, gd_1 1 rfl rfl, wcX7_coins, by decide +kernel⟩
theorem kL_27 : MLv RL 27 mX8_coins 8 3 := ⟨⟨_, rfl, rfl⟩, gd_4 176 rfl rfl, gd_4 177 rfl rfl, gd_4 178 rfl rfl, gd_1 9 rfl rfl, wcX8_coins, by decide +kernel⟩
theorem kL_28 : MLv RL 28 mX7_drawn 7 3 := ⟨⟨_, rfl, rfl⟩, gd_2 206 rfl rfl, gd_2 207 rfl rfl, gd_2 208 rfl rfl, gd_1 1 rfl rfl, wcX7_drawn, by decide +kernel⟩
theorem kL_31 : MLv RL 31 mX8_drawn 8 3 := ⟨⟨_, rfl, rfl⟩, gd_4 210 rfl rfl, gd_4 211 rfl rfl, gd_4 212 rfl rfl, gd_1 9 rfl rfl, wcX8_drawn, by decide +kernel⟩
theorem kL_32 : MLv RL 32 mX7_sums 7 1 := ⟨⟨_, rfl, rfl⟩, gd_2 214 rfl rfl, gd_2 215 rfl rfl, gd_2 216 rfl rfl, gd_1 1 rfl rfl, wcX7_sums, by decide +kernel⟩
theorem kL_35 : MLv RL 35 mX8_sums 8 1 := ⟨⟨_, rfl, rfl⟩, gd_4 220 rfl rfl, gd_4 221 rfl rfl, gd_4 222 rfl rfl, gd_1 9 rfl rfl, wcX8_sums, by decide +kernel⟩
theorem kL_36 : MLv RL 36 mX7_both 7 2 := ⟨⟨_, rfl, rfl⟩, gd_2 218 rfl rfl, gd_2 219 rfl rfl, gd_2 220 rfl rfl, gd_1 1 rfl rfl, wcX7_both, by decide +kernel⟩
theorem kL_40 : MLv RL 40 mX8_both 8 2 := ⟨⟨_, rfl, rfl⟩, gd_4 224 rfl rfl, gd_4 225 rfl rfl, gd_4 226 rfl rfl, gd_1 9 rfl rfl, wcX8_both, by decide +kernel⟩
theorem kL_41 : MLv RL 41 mX7_held 7 3 := ⟨⟨_, rfl, rfl⟩, gd_3 7 rfl rfl, gd_3 8 rfl rfl, gd_3 9 rfl rfl, gd_1 1 rfl rfl, wcX7_held, by decide +kernel⟩
theorem kL_44 : MLv RL 44 mX8_held 8 3 := ⟨⟨_, rfl, rfl⟩, gd_4 235 rfl rfl, gd_4 236 rfl rfl, gd_4 237 rfl rfl, gd_1 9 rfl rfl, wcX8_held, by decide +kernel⟩
theorem kL_45 : MLv RL 45 mX7_source 7 2 := ⟨⟨_, rfl, rfl⟩, gd_3 17 rfl rfl, gd_3 18 rfl rfl, gd_3 19 rfl rfl, gd_1 1 rfl rfl, wcX7_source, by decide +kernel⟩
theorem kL_48 : MLv RL 48 mX8_source 8 2 := ⟨⟨_, rfl, rfl⟩, gd_4 239 rfl rfl, gd_5 0 rfl rfl, gd_5 1 rfl rfl, gd_1 9 rfl rfl, wcX8_source, by decide +kernel⟩
theorem kL_49 : MLv RL 49 mX7_counted 7 2 := ⟨⟨_, rfl, rfl⟩, gd_3 25 rfl rfl, gd_3 26 rfl rfl, gd_3 27 rfl rfl, gd_1 1 rfl rfl, wcX7_counted, by decide +kernel⟩
theorem kL_52 : MLv RL 52 mX8_counted 8 2 := ⟨⟨_, rfl, rfl⟩, gd_5 3 rfl rfl, gd_5 4 rfl rfl, gd_5 5 rfl rfl, gd_1 9 rfl rfl, wcX8_counted, by decide +kernel⟩
theorem kL_53 : MLv RL 53 mX7_set 7 3 := ⟨⟨_, rfl, rfl⟩, gd_3 32 rfl rfl, gd_3 33 rfl rfl, gd_3 34 rfl rfl, gd_1 1 rfl rfl, wcX7_set, by decide +kernel⟩
theorem kL_56 : MLv RL 56 mX8_set 8 3 := ⟨⟨_, rfl, rfl⟩, gd_5 11 rfl rfl, gd_5 12 rfl rfl, gd_5 13 rfl rfl, gd_1 9 rfl rfl, wcX8_set, by decide +kernel⟩
theorem kL_57 : MLv RL 57 mX7_mean 7 2 := ⟨⟨_, rfl, rfl⟩, gd_3 53 rfl rfl, gd_3 54 rfl rfl, gd_3 55 rfl rfl, gd_1 1 rfl rfl, wcX7_mean, by decide +kernel⟩
theorem kL_60 : MLv RL 60 mX8_mean 8 2 := ⟨⟨_, rfl, rfl⟩, gd_5 49 rfl rfl, gd_5 50 rfl rfl, gd_5 51 rfl rfl, gd_1 9 rfl rfl, wcX8_mean, by decide +kernel⟩
theorem kL_61 : MLv RL 61 mX7_moment 7 3 := ⟨⟨_, rfl, rfl⟩, gd_3 57 rfl rfl, gd_3 58 rfl rfl, gd_3 59 rfl rfl, gd_1 1 rfl rfl, wcX7_moment, by decide +kernel⟩
theorem kL_64 : MLv RL 64 mX8_moment 8 3 := ⟨⟨_, rfl, rfl⟩, gd_5 57 rfl rfl, gd_5 58 rfl rfl, gd_5 59 rfl rfl, gd_1 9 rfl rfl, wcX8_moment, by decide +kernel⟩
theorem kL_65 : MLv RL 65 mX7_tail 7 4 := ⟨⟨_, rfl, rfl⟩, gd_3 98 rfl rfl, gd_3 99 rfl rfl, gd_3 100 rfl rfl, gd_1 1 rfl rfl, wcX7_tail, by decide +kernel⟩
theorem kL_69 : MLv RL 69 mX8_tail 8 4 := ⟨⟨_, rfl, rfl⟩, gd_5 69 rfl rfl, gd_5 70 rfl rfl, gd_5 71 rfl rfl, gd_1 9 rfl rfl, wcX8_tail, by decide +kernel⟩
theorem kL_70 : MLv RL 70 mX7_bound 7 4 := ⟨⟨_, rfl, rfl⟩, gd_3 112 rfl rfl, gd_3 113 rfl rfl, gd_3 114 rfl rfl, gd_1 1 rfl rfl, wcX7_bound, by decide +kernel⟩
theorem kL_73 : MLv RL 73 mX8_bound 8 4 := ⟨⟨_, rfl, rfl⟩, gd_5 73 rfl rfl, gd_5 74 rfl rfl, gd_5 75 rfl rfl, gd_1 9 rfl rfl, wcX8_bound, by decide +kernel⟩
theorem kL_74 : MLv RL 74 mX7_base 7 0 := ⟨⟨_, rfl, rfl⟩, gd_3 149 rfl rfl, gd_3 150 rfl rfl, gd_3 151 rfl rfl, gd_1 1 rfl rfl, wcX7_base, by decide +kernel⟩
theorem kL_77 : MLv RL 77 mX8_base 8 0 := ⟨⟨_, rfl, rfl⟩, gd_5 90 rfl rfl, gd_5 91 rfl rfl, gd_5 92 rfl rfl, gd_1 9 rfl rfl, wcX8_base, by decide +kernel⟩
theorem kL_78 : MLv RL 78 mX7_work 7 4 := ⟨⟨_, rfl, rfl⟩, gd_3 153 rfl rfl, gd_3 154 rfl rfl, gd_3 155 rfl rfl, gd_1 1 rfl rfl, wcX7_work, by decide +kernel⟩
theorem kL_81 : MLv RL 81 mX8_work 8 4 := ⟨⟨_, rfl, rfl⟩, gd_5 94 rfl rfl, gd_5 95 rfl rfl, gd_5 96 rfl rfl, gd_1 9 rfl rfl, wcX8_work, by decide +kernel⟩
theorem kL_82 : MLv RL 82 mX7_order 7 2 := ⟨⟨_, rfl, rfl⟩, gd_3 178 rfl rfl, gd_3 179 rfl rfl, gd_3 180 rfl rfl, gd_1 1 rfl rfl, wcX7_order, by decide +kernel⟩
theorem kL_85 : MLv RL 85 mX8_order 8 2 := ⟨⟨_, rfl, rfl⟩, gd_5 110 rfl rfl, gd_5 111 rfl rfl, gd_5 112 rfl rfl, gd_1 9 rfl rfl, wcX8_order, by decide +kernel⟩
theorem kL_86 : MLv RL 86 mX7_limbs 7 2 := ⟨⟨_, rfl, rfl⟩, gd_3 182 rfl rfl, gd_3 183 rfl rfl, gd_3 184 rfl rfl, gd_1 1 rfl rfl, wcX7_limbs, by decide +kernel⟩
theorem kL_89 : MLv RL 89 mX8_limbs 8 2 := ⟨⟨_, rfl, rfl⟩, gd_5 114 rfl rfl, gd_5 115 rfl rfl, gd_5 116 rfl rfl, gd_1 9 rfl rfl, wcX8_limbs, by decide +kernel⟩
theorem kL_90 : MLv RL 90 mX7_limb 7 3 := ⟨⟨_, rfl, rfl⟩, gd_3 190 rfl rfl, gd_3 191 rfl rfl, gd_3 192 rfl rfl, gd_1 1 rfl rfl, wcX7_limb, by decide +kernel⟩
theorem kL_94 : MLv RL 94 mX8_limb 8 3 := ⟨⟨_, rfl, rfl⟩, gd_5 122 rfl rfl, gd_5 123 rfl rfl, gd_5 124 rfl rfl, gd_1 9 rfl rfl, wcX8_limb, by decide +kernel⟩
theorem kL_95 : MLv RL 95 mX7_digits 7 2 := ⟨⟨_, rfl, rfl⟩, gd_3 197 rfl rfl, gd_3 198 rfl rfl, gd_3 199 rfl rfl, gd_1 1 rfl rfl, wcX7_digits, by decide +kernel⟩
theorem kL_99 : MLv RL 99 mX8_digits 8 2 := ⟨⟨_, rfl, rfl⟩, gd_5 127 rfl rfl, gd_5 128 rfl rfl, gd_5 129 rfl rfl, gd_1 9 rfl rfl, wcX8_digits, by decide +kernel⟩
theorem kL_100 : MLv RL 100 mX7_free 7 1 := ⟨⟨_, rfl, rfl⟩, gd_3 206 rfl rfl, gd_3 207 rfl rfl, gd_3 208 rfl rfl, gd_1 1 rfl rfl, wcX7_free, by decide +kernel⟩
theorem kL_103 : MLv RL 103 mX8_free 8 1 := ⟨⟨_, rfl, rfl⟩, gd_5 135 rfl rfl, gd_5 136 rfl rfl, gd_5 137 rfl rfl, gd_1 9 rfl rfl, wcX8_free, by decide +kernel⟩
theorem kL_104 : MLv RL 104 mX7_coin 7 2 := ⟨⟨_, rfl, rfl⟩, gd_3 210 rfl rfl, gd_3 211 rfl rfl, gd_3 212 rfl rfl, gd_1 1 rfl rfl, wcX7_coin, by decide +kernel⟩
theorem kL_107 : MLv RL 107 mX8_coin 8 2 := ⟨⟨_, rfl, rfl⟩, gd_5 139 rfl rfl, gd_5 140 rfl rfl, gd_5 141 rfl rfl, gd_1 9 rfl rfl, wcX8_coin, by decide +kernel⟩
theorem kL_108 : MLv RL 108 mX7_needed 7 5 := ⟨⟨_, rfl, rfl⟩, gd_3 214 rfl rfl, gd_3 215 rfl rfl, gd_3 216 rfl rfl, gd_1 1 rfl rfl, wcX7_needed, by decide +kernel⟩
theorem kL_112 : MLv RL 112 mX8_needed 8 5 := ⟨⟨_, rfl, rfl⟩, gd_5 143 rfl rfl, gd_5 144 rfl rfl, gd_5 145 rfl rfl, gd_1 9 rfl rfl, wcX8_needed, by decide +kernel⟩
theorem kL_113 : MLv RL 113 mX7_line 7 3 := ⟨⟨_, rfl, rfl⟩, gd_4 13 rfl rfl, gd_4 14 rfl rfl, gd_4 15 rfl rfl, gd_1 1 rfl rfl, wcX7_line, by decide +kernel⟩
theorem kL_116 : MLv RL 116 mX8_line 8 3 := ⟨⟨_, rfl, rfl⟩, gd_5 153 rfl rfl, gd_5 154 rfl rfl, gd_5 155 rfl rfl, gd_1 9 rfl rfl, wcX8_line, by decide +kernel⟩
theorem kL_117 : MLv RL 117 mX7_crossed 7 3 := ⟨⟨_, rfl, rfl⟩, gd_4 17 rfl rfl, gd_4 18 rfl rfl, gd_4 19 rfl rfl, gd_1 1 rfl rfl, wcX7_crossed, by decide +kernel⟩
theorem kL_120 : MLv RL 120 mX8_crossed 8 3 := ⟨⟨_, rfl, rfl⟩, gd_5 157 rfl rfl, gd_5 158 rfl rfl, gd_5 159 rfl rfl, gd_1 9 rfl rfl, wcX8_crossed, by decide +kernel⟩
theorem kL_121 : MLv RL 121 mX7_count 7 1 := ⟨⟨_, rfl, rfl⟩, gd_4 31 rfl rfl, gd_4 32 rfl rfl, gd_4 33 rfl rfl, gd_1 1 rfl rfl, wcX7_count, by decide +kernel⟩
theorem kL_124 : MLv RL 124 mX8_count 8 1 := ⟨⟨_, rfl, rfl⟩, gd_5 165 rfl rfl, gd_5 166 rfl rfl, gd_5 167 rfl rfl, gd_1 9 rfl rfl, wcX8_count, by decide +kernel⟩
theorem aX7_13 : Cond.classLink RX7 13 "TailBounds$Source" ∈ lw_good := gd_1 21 rfl rfl
theorem aX7_19 : Cond.classLink RX7 19 "TailBounds$Fraction" ∈ lw_good := gd_1 23 rfl rfl
theorem nX7_35 : NL RX7 35 3 2 [.null, .int 0] := ⟨RX3, TX3, rfl, inX3, gd_1 67 rfl rfl, gd_1 31 rfl rfl, gd_1 3 rfl rfl, tyX3, tyX3_ok, by decide +kernel⟩
theorem nX7_42 : NL RX7 42 0 9 [.null, .null, .null, .null, .null, .long 0, .long 0, .long 0, .long 0] := ⟨RX0, TX0, rfl, inX0, gd_1 69 rfl rfl, gd_1 70 rfl rfl, gd_1 5 rfl rfl, tyX0, tyX0_ok, by decide +kernel⟩
theorem nX7_49 : NL RX7 49 2 6 [.null, .null, .null, .null, .null, .null] := ⟨RX2, TX2, rfl, inX2, gd_1 105 rfl rfl, gd_1 106 rfl rfl, gd_1 6 rfl rfl, tyX2, tyX2_ok, by decide +kernel⟩
theorem nX7_56 : NL RX7 56 6 6 [.null, .null, .null, .null, .null, .int 0] := ⟨RX6, TX6, rfl, inX6, gd_1 132 rfl rfl, gd_1 133 rfl rfl, gd_1 7 rfl rfl, tyX6, tyX6_ok, by decide +kernel⟩
theorem nX7_119 : NL RX7 119 4 3 [.int 0, .int 0, .null] := ⟨RX4, TX4, rfl, inX4, gd_2 41 rfl rfl, gd_1 141 rfl rfl, gd_1 8 rfl rfl, tyX4, tyX4_ok, by decide +kernel⟩
theorem nX0_9 : NL RX0 9 3 2 [.null, .int 0] := ⟨RX3, TX3, rfl, inX3, gd_1 75 rfl rfl, gd_1 31 rfl rfl, gd_1 3 rfl rfl, tyX3, tyX3_ok, by decide +kernel⟩
theorem nX1_13 : NL RX1 13 3 2 [.null, .int 0] := ⟨RX3, TX3, rfl, inX3, gd_1 30 rfl rfl, gd_1 31 rfl rfl, gd_1 3 rfl rfl, tyX3, tyX3_ok, by decide +kernel⟩
theorem nX2_9 : NL RX2 9 3 2 [.null, .int 0] := ⟨RX3, TX3, rfl, inX3, gd_1 111 rfl rfl, gd_1 31 rfl rfl, gd_1 3 rfl rfl, tyX3, tyX3_ok, by decide +kernel⟩
theorem nX5_9 : NL RX5 9 3 2 [.null, .int 0] := ⟨RX3, TX3, rfl, inX3, gd_2 65 rfl rfl, gd_1 31 rfl rfl, gd_1 3 rfl rfl, tyX3, tyX3_ok, by decide +kernel⟩
theorem nX5_20 : NL RX5 20 1 3 [.null, .null, .int 0] := ⟨RX1, TX1, rfl, inX1, gd_2 67 rfl rfl, gd_1 25 rfl rfl, gd_1 2 rfl rfl, tyX1, tyX1_ok, by decide +kernel⟩
theorem nX6_9 : NL RX6 9 3 2 [.null, .int 0] := ⟨RX3, TX3, rfl, inX3, gd_1 138 rfl rfl, gd_1 31 rfl rfl, gd_1 3 rfl rfl, tyX3, tyX3_ok, by decide +kernel⟩
theorem nX6_20 : NL RX6 20 4 3 [.int 0, .int 0, .null] := ⟨RX4, TX4, rfl, inX4, gd_1 140 rfl rfl, gd_1 141 rfl rfl, gd_1 8 rfl rfl, tyX4, tyX4_ok, by decide +kernel⟩
theorem nL_7 : NL RL 7 7 17 [.null, .null, .null, .null, .null, .null, .null, .null, .null, .int 0, .int 0, .int 0, .int 0, .int 0, .int 0, .int 0, .int 0] := ⟨RX7, TX7, rfl, inX7, gd_1 13 rfl rfl, gd_1 14 rfl rfl, gd_1 1 rfl rfl, tyX7, tyX7_ok, by decide +kernel⟩
theorem nL_10 : NL RL 10 8 39 [.null, .null, .null, .null, .null, .null, .null, .null, .null, .null, .null, .null, .null, .null, .null, .null, .int 0, .null, .null, .null, .null, .int 0, .null, .null, .null, .null, .null, .null, .null, .null, .null, .int 0, .null, .null, .int 0, .int 0, .int 0, .int 0, .int 0] := ⟨RX8, TX8, rfl, inX8, gd_4 39 rfl rfl, gd_4 40 rfl rfl, gd_1 9 rfl rfl, tyX8, tyX8_ok, by decide +kernel⟩
theorem qX7_286 : Cond.constant RX7 286 (1000000) ∈ lw_good := gd_3 218 rfl rfl
theorem qX0_123 : Cond.constant RX0 123 (1000000) ∈ lw_good := gd_2 126 rfl rfl
theorem qX8_271 : Cond.constant RX8 271 (1000000) ∈ lw_good := gd_5 147 rfl rfl
theorem qX7_187 : Cond.constantLong RX7 187 (20000) ∈ lw_good := gd_3 30 rfl rfl
theorem qX7_259 : Cond.constantLong RX7 259 (-1) ∈ lw_good := gd_3 194 rfl rfl
theorem qX7_261 : Cond.constantLong RX7 261 (-2) ∈ lw_good := gd_3 195 rfl rfl
theorem qX7_263 : Cond.constantLong RX7 263 (-5) ∈ lw_good := gd_3 196 rfl rfl
theorem qX7_268 : Cond.constantLong RX7 268 (10) ∈ lw_good := gd_3 201 rfl rfl
theorem qX7_280 : Cond.constantLong RX7 280 (-4) ∈ lw_good := gd_3 204 rfl rfl
theorem qX7_312 : Cond.constantLong RX7 312 (10000) ∈ lw_good := gd_4 12 rfl rfl
theorem qX0_111 : Cond.constantLong RX0 111 (4294967295) ∈ lw_good := gd_2 176 rfl rfl
theorem qX0_117 : Cond.constantLong RX0 117 (-9223372036854775808) ∈ lw_good := gd_2 180 rfl rfl
theorem qX0_147 : Cond.constantLong RX0 147 (2147483647) ∈ lw_good := gd_2 153 rfl rfl
theorem qX2_116 : Cond.constantLong RX2 116 (6) ∈ lw_good := gd_3 84 rfl rfl
theorem qX2_118 : Cond.constantLong RX2 118 (4) ∈ lw_good := gd_3 91 rfl rfl
theorem qX2_120 : Cond.constantLong RX2 120 (3) ∈ lw_good := gd_3 92 rfl rfl
theorem qX3_37 : Cond.constantLong RX3 37 (4294967295) ∈ lw_good := gd_2 40 rfl rfl
theorem qX4_35 : Cond.constantLong RX4 35 (4294967295) ∈ lw_good := gd_2 55 rfl rfl
theorem qX8_118 : Cond.constantLong RX8 118 (268435455) ∈ lw_good := gd_4 186 rfl rfl
theorem qX8_209 : Cond.constantLong RX8 209 (20000) ∈ lw_good := gd_5 7 rfl rfl
theorem qX8_230 : Cond.constantLong RX8 230 (4) ∈ lw_good := gd_5 89 rfl rfl
theorem qX8_259 : Cond.constantLong RX8 259 (-5) ∈ lw_good := gd_5 126 rfl rfl
theorem qX8_261 : Cond.constantLong RX8 261 (-1) ∈ lw_good := gd_5 131 rfl rfl
theorem qX8_263 : Cond.constantLong RX8 263 (-2) ∈ lw_good := gd_5 132 rfl rfl
theorem qX8_265 : Cond.constantLong RX8 265 (10) ∈ lw_good := gd_5 133 rfl rfl
theorem qX8_267 : Cond.constantLong RX8 267 (-4) ∈ lw_good := gd_5 134 rfl rfl
theorem qX8_269 : Cond.constantLong RX8 269 (10000) ∈ lw_good := gd_5 152 rfl rfl
theorem ac_int : Cond.arrayClass .int ∈ lw_good := gd_1 49 rfl rfl
theorem ac_long : Cond.arrayClass .long ∈ lw_good := gd_4 163 rfl rfl
theorem ac_boolean : Cond.arrayClass .boolean ∈ lw_good := gd_4 164 rfl rfl
end
