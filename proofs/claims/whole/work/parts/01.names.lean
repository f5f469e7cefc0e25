def lw_okq (q : MethodName × Nat) : Prop := (q.1.cls ≠ "java/lang/invoke/MethodHandle" ∧ q.1.cls ≠ "java/lang/invoke/VarHandle") ∧ Cond.instantiable q.1.cls q.2 ∈ tables_1 ∧ Cond.privateMethod q.1 ∈ tables_1 ∧ Cond.instanceMethod q.1 ∈ tables_1
theorem lw_p0 : lw_okq (⟨"CrierOfBorough$Tape", "advance", "()V"⟩, 7) := ⟨⟨by decide +kernel, by decide +kernel⟩, List.mem_of_getElem? (i := 35) (by decide +kernel), List.mem_of_getElem? (i := 267) (by decide +kernel), List.mem_of_getElem? (i := 268) (by decide +kernel)⟩
theorem lw_p1 : lw_okq (⟨"CrierOfBorough$Tape", "isLetter", "(I)Z"⟩, 7) := ⟨⟨by decide +kernel, by decide +kernel⟩, List.mem_of_getElem? (i := 35) (by decide +kernel), List.mem_of_getElem? (i := 271) (by decide +kernel), List.mem_of_getElem? (i := 272) (by decide +kernel)⟩
theorem lw_p2 : lw_okq (⟨"CrierOfBorough$Tape", "wordEnd", "(I)I"⟩, 7) := ⟨⟨by decide +kernel, by decide +kernel⟩, List.mem_of_getElem? (i := 35) (by decide +kernel), List.mem_of_getElem? (i := 278) (by decide +kernel), List.mem_of_getElem? (i := 279) (by decide +kernel)⟩
theorem lw_p3 : lw_okq (⟨"CrierOfBorough$Tape", "word", "(II)I"⟩, 7) := ⟨⟨by decide +kernel, by decide +kernel⟩, List.mem_of_getElem? (i := 35) (by decide +kernel), List.mem_of_getElem? (i := 282) (by decide +kernel), List.mem_of_getElem? (i := 283) (by decide +kernel)⟩
theorem lw_p4 : lw_okq (⟨"CrierOfBorough$Tape", "isWordAt", "(III)Z"⟩, 7) := ⟨⟨by decide +kernel, by decide +kernel⟩, List.mem_of_getElem? (i := 35) (by decide +kernel), List.mem_of_getElem? (i := 289) (by decide +kernel), List.mem_of_getElem? (i := 290) (by decide +kernel)⟩
theorem lw_p5 : lw_okq (⟨"CrierOfBorough$Tape", "isDigit", "(I)Z"⟩, 7) := ⟨⟨by decide +kernel, by decide +kernel⟩, List.mem_of_getElem? (i := 35) (by decide +kernel), List.mem_of_getElem? (i := 293) (by decide +kernel), List.mem_of_getElem? (i := 294) (by decide +kernel)⟩
theorem lw_p6 : lw_okq (⟨"CrierOfBorough$Tape", "takeNumber", "(I)V"⟩, 7) := ⟨⟨by decide +kernel, by decide +kernel⟩, List.mem_of_getElem? (i := 35) (by decide +kernel), List.mem_of_getElem? (i := 297) (by decide +kernel), List.mem_of_getElem? (i := 298) (by decide +kernel)⟩
theorem lw_p7 : lw_okq (⟨"CrierOfBorough$Tape", "readEither", "(I)Z"⟩, 7) := ⟨⟨by decide +kernel, by decide +kernel⟩, List.mem_of_getElem? (i := 35) (by decide +kernel), List.mem_of_getElem? (i := 361) (by decide +kernel), List.mem_of_getElem? (i := 362) (by decide +kernel)⟩
theorem lw_p8 : lw_okq (⟨"CrierOfBorough$Tape", "readBoth", "(I)Z"⟩, 7) := ⟨⟨by decide +kernel, by decide +kernel⟩, List.mem_of_getElem? (i := 35) (by decide +kernel), List.mem_of_getElem? (i := 365) (by decide +kernel), List.mem_of_getElem? (i := 366) (by decide +kernel)⟩
theorem lw_p9 : lw_okq (⟨"CrierOfBorough$Tape", "readNot", "(I)Z"⟩, 7) := ⟨⟨by decide +kernel, by decide +kernel⟩, List.mem_of_getElem? (i := 35) (by decide +kernel), List.mem_of_getElem? (i := 369) (by decide +kernel), List.mem_of_getElem? (i := 370) (by decide +kernel)⟩
theorem lw_p10 : lw_okq (⟨"CrierOfBorough$Tape", "readSum", "(I)Z"⟩, 7) := ⟨⟨by decide +kernel, by decide +kernel⟩, List.mem_of_getElem? (i := 35) (by decide +kernel), List.mem_of_getElem? (i := 377) (by decide +kernel), List.mem_of_getElem? (i := 378) (by decide +kernel)⟩
theorem lw_p11 : lw_okq (⟨"CrierOfBorough$Tape", "readTerm", "(I)Z"⟩, 7) := ⟨⟨by decide +kernel, by decide +kernel⟩, List.mem_of_getElem? (i := 35) (by decide +kernel), List.mem_of_getElem? (i := 381) (by decide +kernel), List.mem_of_getElem? (i := 382) (by decide +kernel)⟩
theorem lw_p12 : lw_okq (⟨"CrierOfBorough$Tape", "readOne", "(I)Z"⟩, 7) := ⟨⟨by decide +kernel, by decide +kernel⟩, List.mem_of_getElem? (i := 35) (by decide +kernel), List.mem_of_getElem? (i := 385) (by decide +kernel), List.mem_of_getElem? (i := 386) (by decide +kernel)⟩
theorem lw_p13 : lw_okq (⟨"CrierOfBorough", "ofBorough", "(I)I"⟩, 9) := ⟨⟨by decide +kernel, by decide +kernel⟩, List.mem_of_getElem? (i := 23) (by decide +kernel), List.mem_of_getElem? (i := 436) (by decide +kernel), List.mem_of_getElem? (i := 437) (by decide +kernel)⟩
theorem lw_p14 : lw_okq (⟨"CrierOfBorough$World", "name", "(II)V"⟩, 15) := ⟨⟨by decide +kernel, by decide +kernel⟩, List.mem_of_getElem? (i := 146) (by decide +kernel), List.mem_of_getElem? (i := 474) (by decide +kernel), List.mem_of_getElem? (i := 475) (by decide +kernel)⟩
theorem lw_p15 : lw_okq (⟨"CrierOfBorough$World", "cry", "(I)V"⟩, 15) := ⟨⟨by decide +kernel, by decide +kernel⟩, List.mem_of_getElem? (i := 146) (by decide +kernel), List.mem_of_getElem? (i := 617) (by decide +kernel), List.mem_of_getElem? (i := 618) (by decide +kernel)⟩
def lw_privs_1 : List (MethodName × Nat) := [(⟨"CrierOfBorough$Tape", "advance", "()V"⟩, 7), (⟨"CrierOfBorough$Tape", "isLetter", "(I)Z"⟩, 7), (⟨"CrierOfBorough$Tape", "wordEnd", "(I)I"⟩, 7), (⟨"CrierOfBorough$Tape", "word", "(II)I"⟩, 7), (⟨"CrierOfBorough$Tape", "isWordAt", "(III)Z"⟩, 7), (⟨"CrierOfBorough$Tape", "isDigit", "(I)Z"⟩, 7), (⟨"CrierOfBorough$Tape", "takeNumber", "(I)V"⟩, 7), (⟨"CrierOfBorough$Tape", "readEither", "(I)Z"⟩, 7), (⟨"CrierOfBorough$Tape", "readBoth", "(I)Z"⟩, 7), (⟨"CrierOfBorough$Tape", "readNot", "(I)Z"⟩, 7), (⟨"CrierOfBorough$Tape", "readSum", "(I)Z"⟩, 7), (⟨"CrierOfBorough$Tape", "readTerm", "(I)Z"⟩, 7), (⟨"CrierOfBorough$Tape", "readOne", "(I)Z"⟩, 7), (⟨"CrierOfBorough", "ofBorough", "(I)I"⟩, 9), (⟨"CrierOfBorough$World", "name", "(II)V"⟩, 15), (⟨"CrierOfBorough$World", "cry", "(I)V"⟩, 15)]
theorem lw_r1 : ∀ q ∈ lw_privs_1, lw_okq q := List.forall_mem_cons.mpr ⟨lw_p0, List.forall_mem_cons.mpr ⟨lw_p1, List.forall_mem_cons.mpr ⟨lw_p2, List.forall_mem_cons.mpr ⟨lw_p3, List.forall_mem_cons.mpr ⟨lw_p4, List.forall_mem_cons.mpr ⟨lw_p5, List.forall_mem_cons.mpr ⟨lw_p6, List.forall_mem_cons.mpr ⟨lw_p7, List.forall_mem_cons.mpr ⟨lw_p8, List.forall_mem_cons.mpr ⟨lw_p9, List.forall_mem_cons.mpr ⟨lw_p10, List.forall_mem_cons.mpr ⟨lw_p11, List.forall_mem_cons.mpr ⟨lw_p12, List.forall_mem_cons.mpr ⟨lw_p13, List.forall_mem_cons.mpr ⟨lw_p14, List.forall_mem_cons.mpr ⟨lw_p15, fun _ h => absurd h List.not_mem_nil⟩⟩⟩⟩⟩⟩⟩⟩⟩⟩⟩⟩⟩⟩⟩⟩
theorem lw_p16 : lw_okq (⟨"CrierOfBorough$World", "knownBeside", "(I)I"⟩, 15) := ⟨⟨by decide +kernel, by decide +kernel⟩, List.mem_of_getElem? (i := 146) (by decide +kernel), List.mem_of_getElem? (i := 621) (by decide +kernel), List.mem_of_getElem? (i := 622) (by decide +kernel)⟩
theorem lw_p17 : lw_okq (⟨"CrierOfBorough", "isSoInThought", "(I)Z"⟩, 9) := ⟨⟨by decide +kernel, by decide +kernel⟩, List.mem_of_getElem? (i := 23) (by decide +kernel), List.mem_of_getElem? (i := 653) (by decide +kernel), List.mem_of_getElem? (i := 654) (by decide +kernel)⟩
theorem lw_p18 : lw_okq (⟨"CrierOfBorough", "wishersAt", "(II)I"⟩, 9) := ⟨⟨by decide +kernel, by decide +kernel⟩, List.mem_of_getElem? (i := 23) (by decide +kernel), List.mem_of_getElem? (i := 673) (by decide +kernel), List.mem_of_getElem? (i := 674) (by decide +kernel)⟩
theorem lw_p19 : lw_okq (⟨"CrierOfBorough", "mayAtAny", "(I)I"⟩, 9) := ⟨⟨by decide +kernel, by decide +kernel⟩, List.mem_of_getElem? (i := 23) (by decide +kernel), List.mem_of_getElem? (i := 681) (by decide +kernel), List.mem_of_getElem? (i := 682) (by decide +kernel)⟩
theorem lw_p20 : lw_okq (⟨"CrierOfBorough", "refusalToJudge", "(I)I"⟩, 9) := ⟨⟨by decide +kernel, by decide +kernel⟩, List.mem_of_getElem? (i := 23) (by decide +kernel), List.mem_of_getElem? (i := 697) (by decide +kernel), List.mem_of_getElem? (i := 698) (by decide +kernel)⟩
theorem lw_p21 : lw_okq (⟨"CrierOfBorough", "otherwise", "(LCrierOfBorough$Sheet;)I"⟩, 9) := ⟨⟨by decide +kernel, by decide +kernel⟩, List.mem_of_getElem? (i := 23) (by decide +kernel), List.mem_of_getElem? (i := 701) (by decide +kernel), List.mem_of_getElem? (i := 702) (by decide +kernel)⟩
theorem lw_p22 : lw_okq (⟨"CrierOfBorough", "criedByLots", "(I)I"⟩, 9) := ⟨⟨by decide +kernel, by decide +kernel⟩, List.mem_of_getElem? (i := 23) (by decide +kernel), List.mem_of_getElem? (i := 746) (by decide +kernel), List.mem_of_getElem? (i := 747) (by decide +kernel)⟩
theorem lw_p23 : lw_okq (⟨"CrierOfBoroughModel", "next", "()V"⟩, 32) := ⟨⟨by decide +kernel, by decide +kernel⟩, List.mem_of_getElem? (i := 821) (by decide +kernel), List.mem_of_getElem? (i := 831) (by decide +kernel), List.mem_of_getElem? (i := 832) (by decide +kernel)⟩
theorem lw_p24 : lw_okq (⟨"CrierOfBoroughModel", "wordFrom", "(II)I"⟩, 32) := ⟨⟨by decide +kernel, by decide +kernel⟩, List.mem_of_getElem? (i := 821) (by decide +kernel), List.mem_of_getElem? (i := 838) (by decide +kernel), List.mem_of_getElem? (i := 839) (by decide +kernel)⟩
theorem lw_p25 : lw_okq (⟨"CrierOfBoroughModel", "eRead", "()Z"⟩, 32) := ⟨⟨by decide +kernel, by decide +kernel⟩, List.mem_of_getElem? (i := 821) (by decide +kernel), List.mem_of_getElem? (i := 842) (by decide +kernel), List.mem_of_getElem? (i := 843) (by decide +kernel)⟩
theorem lw_p26 : lw_okq (⟨"CrierOfBoroughModel", "puts", "(I)V"⟩, 32) := ⟨⟨by decide +kernel, by decide +kernel⟩, List.mem_of_getElem? (i := 821) (by decide +kernel), List.mem_of_getElem? (i := 847) (by decide +kernel), List.mem_of_getElem? (i := 848) (by decide +kernel)⟩
theorem lw_p27 : lw_okq (⟨"CrierOfBoroughModel", "unwinds", "(I)V"⟩, 32) := ⟨⟨by decide +kernel, by decide +kernel⟩, List.mem_of_getElem? (i := 821) (by decide +kernel), List.mem_of_getElem? (i := 851) (by decide +kernel), List.mem_of_getElem? (i := 852) (by decide +kernel)⟩
theorem lw_p28 : lw_okq (⟨"CrierOfBoroughModel", "opensOne", "(I)Z"⟩, 32) := ⟨⟨by decide +kernel, by decide +kernel⟩, List.mem_of_getElem? (i := 821) (by decide +kernel), List.mem_of_getElem? (i := 858) (by decide +kernel), List.mem_of_getElem? (i := 859) (by decide +kernel)⟩
theorem lw_p29 : lw_okq (⟨"CrierOfBoroughModel", "holds", "(I)V"⟩, 32) := ⟨⟨by decide +kernel, by decide +kernel⟩, List.mem_of_getElem? (i := 821) (by decide +kernel), List.mem_of_getElem? (i := 862) (by decide +kernel), List.mem_of_getElem? (i := 863) (by decide +kernel)⟩
theorem lw_p30 : lw_okq (⟨"CrierOfBoroughModel", "signOf", "()I"⟩, 32) := ⟨⟨by decide +kernel, by decide +kernel⟩, List.mem_of_getElem? (i := 821) (by decide +kernel), List.mem_of_getElem? (i := 866) (by decide +kernel), List.mem_of_getElem? (i := 867) (by decide +kernel)⟩
theorem lw_p31 : lw_okq (⟨"CrierOfBoroughModel", "between", "(I)Z"⟩, 32) := ⟨⟨by decide +kernel, by decide +kernel⟩, List.mem_of_getElem? (i := 821) (by decide +kernel), List.mem_of_getElem? (i := 870) (by decide +kernel), List.mem_of_getElem? (i := 871) (by decide +kernel)⟩
def lw_privs_2 : List (MethodName × Nat) := [(⟨"CrierOfBorough$World", "knownBeside", "(I)I"⟩, 15), (⟨"CrierOfBorough", "isSoInThought", "(I)Z"⟩, 9), (⟨"CrierOfBorough", "wishersAt", "(II)I"⟩, 9), (⟨"CrierOfBorough", "mayAtAny", "(I)I"⟩, 9), (⟨"CrierOfBorough", "refusalToJudge", "(I)I"⟩, 9), (⟨"CrierOfBorough", "otherwise", "(LCrierOfBorough$Sheet;)I"⟩, 9), (⟨"CrierOfBorough", "criedByLots", "(I)I"⟩, 9), (⟨"CrierOfBoroughModel", "next", "()V"⟩, 32), (⟨"CrierOfBoroughModel", "wordFrom", "(II)I"⟩, 32), (⟨"CrierOfBoroughModel", "eRead", "()Z"⟩, 32), (⟨"CrierOfBoroughModel", "puts", "(I)V"⟩, 32), (⟨"CrierOfBoroughModel", "unwinds", "(I)V"⟩, 32), (⟨"CrierOfBoroughModel", "opensOne", "(I)Z"⟩, 32), (⟨"CrierOfBoroughModel", "holds", "(I)V"⟩, 32), (⟨"CrierOfBoroughModel", "signOf", "()I"⟩, 32), (⟨"CrierOfBoroughModel", "between", "(I)Z"⟩, 32)]
theorem lw_r2 : ∀ q ∈ lw_privs_2, lw_okq q := List.forall_mem_cons.mpr ⟨lw_p16, List.forall_mem_cons.mpr ⟨lw_p17, List.forall_mem_cons.mpr ⟨lw_p18, List.forall_mem_cons.mpr ⟨lw_p19, List.forall_mem_cons.mpr ⟨lw_p20, List.forall_mem_cons.mpr ⟨lw_p21, List.forall_mem_cons.mpr ⟨lw_p22, List.forall_mem_cons.mpr ⟨lw_p23, List.forall_mem_cons.mpr ⟨lw_p24, List.forall_mem_cons.mpr ⟨lw_p25, List.forall_mem_cons.mpr ⟨lw_p26, List.forall_mem_cons.mpr ⟨lw_p27, List.forall_mem_cons.mpr ⟨lw_p28, List.forall_mem_cons.mpr ⟨lw_p29, List.forall_mem_cons.mpr ⟨lw_p30, List.forall_mem_cons.mpr ⟨lw_p31, fun _ h => absurd h List.not_mem_nil⟩⟩⟩⟩⟩⟩⟩⟩⟩⟩⟩⟩⟩⟩⟩⟩
theorem lw_p32 : lw_okq (⟨"CrierOfBoroughModel", "criedNow", "()I"⟩, 32) := ⟨⟨by decide +kernel, by decide +kernel⟩, List.mem_of_getElem? (i := 821) (by decide +kernel), List.mem_of_getElem? (i := 986) (by decide +kernel), List.mem_of_getElem? (i := 987) (by decide +kernel)⟩
theorem lw_p33 : lw_okq (⟨"CrierOfBoroughModel", "may", "(II)Z"⟩, 32) := ⟨⟨by decide +kernel, by decide +kernel⟩, List.mem_of_getElem? (i := 821) (by decide +kernel), List.mem_of_getElem? (i := 990) (by decide +kernel), List.mem_of_getElem? (i := 991) (by decide +kernel)⟩
theorem lw_p34 : lw_okq (⟨"CrierOfBoroughModel", "listens", "(I)Z"⟩, 32) := ⟨⟨by decide +kernel, by decide +kernel⟩, List.mem_of_getElem? (i := 821) (by decide +kernel), List.mem_of_getElem? (i := 994) (by decide +kernel), List.mem_of_getElem? (i := 995) (by decide +kernel)⟩
theorem lw_p35 : lw_okq (⟨"CrierOfBoroughModel", "wishes", "(II)Z"⟩, 32) := ⟨⟨by decide +kernel, by decide +kernel⟩, List.mem_of_getElem? (i := 821) (by decide +kernel), List.mem_of_getElem? (i := 998) (by decide +kernel), List.mem_of_getElem? (i := 999) (by decide +kernel)⟩
theorem lw_p36 : lw_okq (⟨"CrierOfBoroughModel", "motherWish", "(IIZI)Z"⟩, 32) := ⟨⟨by decide +kernel, by decide +kernel⟩, List.mem_of_getElem? (i := 821) (by decide +kernel), List.mem_of_getElem? (i := 1002) (by decide +kernel), List.mem_of_getElem? (i := 1003) (by decide +kernel)⟩
theorem lw_p37 : lw_okq (⟨"CrierOfBoroughModel", "asksOf", "(III)I"⟩, 32) := ⟨⟨by decide +kernel, by decide +kernel⟩, List.mem_of_getElem? (i := 821) (by decide +kernel), List.mem_of_getElem? (i := 1006) (by decide +kernel), List.mem_of_getElem? (i := 1007) (by decide +kernel)⟩
theorem lw_p38 : lw_okq (⟨"CrierOfBoroughModel", "says", "(I)I"⟩, 32) := ⟨⟨by decide +kernel, by decide +kernel⟩, List.mem_of_getElem? (i := 821) (by decide +kernel), List.mem_of_getElem? (i := 1010) (by decide +kernel), List.mem_of_getElem? (i := 1011) (by decide +kernel)⟩
theorem lw_p39 : lw_okq (⟨"CrierOfBoroughModel", "plainWish", "(IIZ)Z"⟩, 32) := ⟨⟨by decide +kernel, by decide +kernel⟩, List.mem_of_getElem? (i := 821) (by decide +kernel), List.mem_of_getElem? (i := 1020) (by decide +kernel), List.mem_of_getElem? (i := 1021) (by decide +kernel)⟩
theorem lw_p40 : lw_okq (⟨"CrierOfBoroughModel", "isOne", "(I)Z"⟩, 32) := ⟨⟨by decide +kernel, by decide +kernel⟩, List.mem_of_getElem? (i := 821) (by decide +kernel), List.mem_of_getElem? (i := 1040) (by decide +kernel), List.mem_of_getElem? (i := 1041) (by decide +kernel)⟩
theorem lw_p41 : lw_okq (⟨"CrierOfBoroughModel", "wishSet", "(II)I"⟩, 32) := ⟨⟨by decide +kernel, by decide +kernel⟩, List.mem_of_getElem? (i := 821) (by decide +kernel), List.mem_of_getElem? (i := 1059) (by decide +kernel), List.mem_of_getElem? (i := 1060) (by decide +kernel)⟩
theorem lw_p42 : lw_okq (⟨"CrierOfBoroughModel", "goesOf", "(I)I"⟩, 32) := ⟨⟨by decide +kernel, by decide +kernel⟩, List.mem_of_getElem? (i := 821) (by decide +kernel), List.mem_of_getElem? (i := 1063) (by decide +kernel), List.mem_of_getElem? (i := 1064) (by decide +kernel)⟩
theorem lw_p43 : lw_okq (⟨"CrierOfBoroughModel", "whoAt", "(I)I"⟩, 32) := ⟨⟨by decide +kernel, by decide +kernel⟩, List.mem_of_getElem? (i := 821) (by decide +kernel), List.mem_of_getElem? (i := 1071) (by decide +kernel), List.mem_of_getElem? (i := 1072) (by decide +kernel)⟩
theorem lw_p44 : lw_okq (⟨"CrierOfBoroughModel", "listeners", "(I)I"⟩, 32) := ⟨⟨by decide +kernel, by decide +kernel⟩, List.mem_of_getElem? (i := 821) (by decide +kernel), List.mem_of_getElem? (i := 1075) (by decide +kernel), List.mem_of_getElem? (i := 1076) (by decide +kernel)⟩
theorem lw_p45 : lw_okq (⟨"CrierOfBoroughModel", "maySet", "(II)I"⟩, 32) := ⟨⟨by decide +kernel, by decide +kernel⟩, List.mem_of_getElem? (i := 821) (by decide +kernel), List.mem_of_getElem? (i := 1079) (by decide +kernel), List.mem_of_getElem? (i := 1080) (by decide +kernel)⟩
theorem lw_p46 : lw_okq (⟨"CrierOfBoroughModel", "hourOf", "()I"⟩, 32) := ⟨⟨by decide +kernel, by decide +kernel⟩, List.mem_of_getElem? (i := 821) (by decide +kernel), List.mem_of_getElem? (i := 1087) (by decide +kernel), List.mem_of_getElem? (i := 1088) (by decide +kernel)⟩
theorem lw_p47 : lw_okq (⟨"CrierOfBoroughModel", "knownToOthers", "(I)I"⟩, 32) := ⟨⟨by decide +kernel, by decide +kernel⟩, List.mem_of_getElem? (i := 821) (by decide +kernel), List.mem_of_getElem? (i := 1091) (by decide +kernel), List.mem_of_getElem? (i := 1092) (by decide +kernel)⟩
def lw_privs_3 : List (MethodName × Nat) := [(⟨"CrierOfBoroughModel", "criedNow", "()I"⟩, 32), (⟨"CrierOfBoroughModel", "may", "(II)Z"⟩, 32), (⟨"CrierOfBoroughModel", "listens", "(I)Z"⟩, 32), (⟨"CrierOfBoroughModel", "wishes", "(II)Z"⟩, 32), (⟨"CrierOfBoroughModel", "motherWish", "(IIZI)Z"⟩, 32), (⟨"CrierOfBoroughModel", "asksOf", "(III)I"⟩, 32), (⟨"CrierOfBoroughModel", "says", "(I)I"⟩, 32), (⟨"CrierOfBoroughModel", "plainWish", "(IIZ)Z"⟩, 32), (⟨"CrierOfBoroughModel", "isOne", "(I)Z"⟩, 32), (⟨"CrierOfBoroughModel", "wishSet", "(II)I"⟩, 32), (⟨"CrierOfBoroughModel", "goesOf", "(I)I"⟩, 32), (⟨"CrierOfBoroughModel", "whoAt", "(I)I"⟩, 32), (⟨"CrierOfBoroughModel", "listeners", "(I)I"⟩, 32), (⟨"CrierOfBoroughModel", "maySet", "(II)I"⟩, 32), (⟨"CrierOfBoroughModel", "hourOf", "()I"⟩, 32), (⟨"CrierOfBoroughModel", "knownToOthers", "(I)I"⟩, 32)]
theorem lw_r3 : ∀ q ∈ lw_privs_3, lw_okq q := List.forall_mem_cons.mpr ⟨lw_p32, List.forall_mem_cons.mpr ⟨lw_p33, List.forall_mem_cons.mpr ⟨lw_p34, List.forall_mem_cons.mpr ⟨lw_p35, List.forall_mem_cons.mpr ⟨lw_p36, List.forall_mem_cons.mpr ⟨lw_p37, List.forall_mem_cons.mpr ⟨lw_p38, List.forall_mem_cons.mpr ⟨lw_p39, List.forall_mem_cons.mpr ⟨lw_p40, List.forall_mem_cons.mpr ⟨lw_p41, List.forall_mem_cons.mpr ⟨lw_p42, List.forall_mem_cons.mpr ⟨lw_p43, List.forall_mem_cons.mpr ⟨lw_p44, List.forall_mem_cons.mpr ⟨lw_p45, List.forall_mem_cons.mpr ⟨lw_p46, List.forall_mem_cons.mpr ⟨lw_p47, fun _ h => absurd h List.not_mem_nil⟩⟩⟩⟩⟩⟩⟩⟩⟩⟩⟩⟩⟩⟩⟩⟩
theorem lw_p48 : lw_okq (⟨"CrierOfBoroughModel", "keeps", "()V"⟩, 32) := ⟨⟨by decide +kernel, by decide +kernel⟩, List.mem_of_getElem? (i := 821) (by decide +kernel), List.mem_of_getElem? (i := 1099) (by decide +kernel), List.mem_of_getElem? (i := 1100) (by decide +kernel)⟩
theorem lw_p49 : lw_okq (⟨"CrierOfBoroughModel", "goes", "(I)I"⟩, 32) := ⟨⟨by decide +kernel, by decide +kernel⟩, List.mem_of_getElem? (i := 821) (by decide +kernel), List.mem_of_getElem? (i := 1103) (by decide +kernel), List.mem_of_getElem? (i := 1104) (by decide +kernel)⟩
theorem lw_p50 : lw_okq (⟨"CrierOfBoroughModel", "knownAll", "()I"⟩, 32) := ⟨⟨by decide +kernel, by decide +kernel⟩, List.mem_of_getElem? (i := 821) (by decide +kernel), List.mem_of_getElem? (i := 1107) (by decide +kernel), List.mem_of_getElem? (i := 1108) (by decide +kernel)⟩
theorem lw_p51 : lw_okq (⟨"CrierOfBoroughModel", "lays", "()V"⟩, 32) := ⟨⟨by decide +kernel, by decide +kernel⟩, List.mem_of_getElem? (i := 821) (by decide +kernel), List.mem_of_getElem? (i := 1111) (by decide +kernel), List.mem_of_getElem? (i := 1112) (by decide +kernel)⟩
theorem lw_p52 : lw_okq (⟨"CrierOfBoroughModel", "isNow", "(I)Z"⟩, 32) := ⟨⟨by decide +kernel, by decide +kernel⟩, List.mem_of_getElem? (i := 821) (by decide +kernel), List.mem_of_getElem? (i := 1119) (by decide +kernel), List.mem_of_getElem? (i := 1120) (by decide +kernel)⟩
theorem lw_p53 : lw_okq (⟨"CrierOfBoroughModel", "criedIn", "(I)I"⟩, 32) := ⟨⟨by decide +kernel, by decide +kernel⟩, List.mem_of_getElem? (i := 821) (by decide +kernel), List.mem_of_getElem? (i := 1131) (by decide +kernel), List.mem_of_getElem? (i := 1132) (by decide +kernel)⟩
theorem lw_p54 : lw_okq (⟨"CrierOfBoroughModel", "mayHushed", "(III)Z"⟩, 32) := ⟨⟨by decide +kernel, by decide +kernel⟩, List.mem_of_getElem? (i := 821) (by decide +kernel), List.mem_of_getElem? (i := 1146) (by decide +kernel), List.mem_of_getElem? (i := 1147) (by decide +kernel)⟩
theorem lw_p55 : lw_okq (⟨"CrierOfBoroughModel", "toldBy", "(I)I"⟩, 32) := ⟨⟨by decide +kernel, by decide +kernel⟩, List.mem_of_getElem? (i := 821) (by decide +kernel), List.mem_of_getElem? (i := 1154) (by decide +kernel), List.mem_of_getElem? (i := 1155) (by decide +kernel)⟩
theorem lw_p56 : lw_okq (⟨"CrierOfBoroughModel", "sheetWrong", "(I)I"⟩, 32) := ⟨⟨by decide +kernel, by decide +kernel⟩, List.mem_of_getElem? (i := 821) (by decide +kernel), List.mem_of_getElem? (i := 1170) (by decide +kernel), List.mem_of_getElem? (i := 1171) (by decide +kernel)⟩
theorem lw_p57 : lw_okq (⟨"CrierOfBoroughModel", "unlike", "(I)I"⟩, 32) := ⟨⟨by decide +kernel, by decide +kernel⟩, List.mem_of_getElem? (i := 821) (by decide +kernel), List.mem_of_getElem? (i := 1174) (by decide +kernel), List.mem_of_getElem? (i := 1175) (by decide +kernel)⟩
theorem lw_p58 : lw_okq (⟨"CrierOfBoroughModel", "quarters", "(I)I"⟩, 32) := ⟨⟨by decide +kernel, by decide +kernel⟩, List.mem_of_getElem? (i := 821) (by decide +kernel), List.mem_of_getElem? (i := 1207) (by decide +kernel), List.mem_of_getElem? (i := 1208) (by decide +kernel)⟩
def lw_privs_4 : List (MethodName × Nat) := [(⟨"CrierOfBoroughModel", "keeps", "()V"⟩, 32), (⟨"CrierOfBoroughModel", "goes", "(I)I"⟩, 32), (⟨"CrierOfBoroughModel", "knownAll", "()I"⟩, 32), (⟨"CrierOfBoroughModel", "lays", "()V"⟩, 32), (⟨"CrierOfBoroughModel", "isNow", "(I)Z"⟩, 32), (⟨"CrierOfBoroughModel", "criedIn", "(I)I"⟩, 32), (⟨"CrierOfBoroughModel", "mayHushed", "(III)Z"⟩, 32), (⟨"CrierOfBoroughModel", "toldBy", "(I)I"⟩, 32), (⟨"CrierOfBoroughModel", "sheetWrong", "(I)I"⟩, 32), (⟨"CrierOfBoroughModel", "unlike", "(I)I"⟩, 32), (⟨"CrierOfBoroughModel", "quarters", "(I)I"⟩, 32)]
theorem lw_r4 : ∀ q ∈ lw_privs_4, lw_okq q := List.forall_mem_cons.mpr ⟨lw_p48, List.forall_mem_cons.mpr ⟨lw_p49, List.forall_mem_cons.mpr ⟨lw_p50, List.forall_mem_cons.mpr ⟨lw_p51, List.forall_mem_cons.mpr ⟨lw_p52, List.forall_mem_cons.mpr ⟨lw_p53, List.forall_mem_cons.mpr ⟨lw_p54, List.forall_mem_cons.mpr ⟨lw_p55, List.forall_mem_cons.mpr ⟨lw_p56, List.forall_mem_cons.mpr ⟨lw_p57, List.forall_mem_cons.mpr ⟨lw_p58, fun _ h => absurd h List.not_mem_nil⟩⟩⟩⟩⟩⟩⟩⟩⟩⟩⟩
def lw_privs : List (MethodName × Nat) := lw_privs_1 ++ (lw_privs_2 ++ (lw_privs_3 ++ (lw_privs_4)))
def lw_tbl : List Cond := k2_sels lw_privs ++ tables_1
theorem lw_privs_ok : ∀ q ∈ lw_privs, lw_okq q := by
  show ∀ q ∈ lw_privs_1 ++ (lw_privs_2 ++ (lw_privs_3 ++ (lw_privs_4))), lw_okq q
  exact List.forall_mem_append.mpr ⟨lw_r1, List.forall_mem_append.mpr ⟨lw_r2, List.forall_mem_append.mpr ⟨lw_r3, lw_r4⟩⟩⟩
def RX0 : String := "CrierOfBorough$Citizen"
def TX0 : u_T := fun k => match k with
  | _ => ("", "", "", false)
def tyX0 : Nat → FieldType := fun k => match k with
  | _ => .int
abbrev wsX00 : List Cond := u_ws RX0 TX0 0
theorem nmX0 : ∀ a, a < 0 → ∀ b, b < 0 → a ≠ b → (TX0 a).2.1 ≠ (TX0 b).2.1 := by decide +kernel
theorem tyX0_ok : ∀ k, k < 0 → parseFieldDescriptor (TX0 k).2.2.1 = some (tyX0 k) := by decide +kernel
abbrev cX0_init : ByteArray := prog_2_method_1_code
def yX0_init : MethodName := ⟨RX0, "<init>", "()V"⟩
abbrev cX0_isOf : ByteArray := prog_2_method_2_code
def yX0_isOf : MethodName := ⟨RX0, "isOf", "(I)Z"⟩
abbrev cX0_wishes : ByteArray := prog_2_method_3_code
def yX0_wishes : MethodName := ⟨RX0, "wishes", "(ZIIII)Z"⟩
abbrev cX0_hears : ByteArray := prog_2_method_4_code
def yX0_hears : MethodName := ⟨RX0, "hears", "(ZII)Z"⟩
abbrev cX0_goesOn : ByteArray := prog_2_method_5_code
def yX0_goesOn : MethodName := ⟨RX0, "goesOn", "(II)I"⟩
def RX1 : String := "CrierOfBorough$Deaf"
def TX1 : u_T := fun k => match k with
  | _ => ("", "", "", false)
def tyX1 : Nat → FieldType := fun k => match k with
  | _ => .int
abbrev wsX10 : List Cond := u_ws RX1 TX1 0
theorem nmX1 : ∀ a, a < 0 → ∀ b, b < 0 → a ≠ b → (TX1 a).2.1 ≠ (TX1 b).2.1 := by decide +kernel
theorem tyX1_ok : ∀ k, k < 0 → parseFieldDescriptor (TX1 k).2.2.1 = some (tyX1 k) := by decide +kernel
abbrev cX1_init : ByteArray := prog_3_method_1_code
def yX1_init : MethodName := ⟨RX1, "<init>", "()V"⟩
abbrev cX1_isOf : ByteArray := prog_3_method_2_code
def yX1_isOf : MethodName := ⟨RX1, "isOf", "(I)Z"⟩
abbrev cX1_hears : ByteArray := prog_3_method_3_code
def yX1_hears : MethodName := ⟨RX1, "hears", "(ZII)Z"⟩
abbrev cX1_goesOn : ByteArray := prog_3_method_4_code
def yX1_goesOn : MethodName := ⟨RX1, "goesOn", "(II)I"⟩
def RX2 : String := "CrierOfBorough$Hummer"
def TX2 : u_T := fun k => match k with
  | _ => ("", "", "", false)
def tyX2 : Nat → FieldType := fun k => match k with
  | _ => .int
abbrev wsX20 : List Cond := u_ws RX2 TX2 0
theorem nmX2 : ∀ a, a < 0 → ∀ b, b < 0 → a ≠ b → (TX2 a).2.1 ≠ (TX2 b).2.1 := by decide +kernel
theorem tyX2_ok : ∀ k, k < 0 → parseFieldDescriptor (TX2 k).2.2.1 = some (tyX2 k) := by decide +kernel
abbrev cX2_init : ByteArray := prog_4_method_1_code
def yX2_init : MethodName := ⟨RX2, "<init>", "()V"⟩
abbrev cX2_isOf : ByteArray := prog_4_method_2_code
def yX2_isOf : MethodName := ⟨RX2, "isOf", "(I)Z"⟩
abbrev cX2_wishes : ByteArray := prog_4_method_3_code
def yX2_wishes : MethodName := ⟨RX2, "wishes", "(ZIIII)Z"⟩
abbrev cX2_goesOn : ByteArray := prog_4_method_4_code
def yX2_goesOn : MethodName := ⟨RX2, "goesOn", "(II)I"⟩
def RX3 : String := "CrierOfBorough$Mother"
def TX3 : u_T := fun k => match k with
  | _ => ("", "", "", false)
def tyX3 : Nat → FieldType := fun k => match k with
  | _ => .int
abbrev wsX30 : List Cond := u_ws RX3 TX3 0
theorem nmX3 : ∀ a, a < 0 → ∀ b, b < 0 → a ≠ b → (TX3 a).2.1 ≠ (TX3 b).2.1 := by decide +kernel
theorem tyX3_ok : ∀ k, k < 0 → parseFieldDescriptor (TX3 k).2.2.1 = some (tyX3 k) := by decide +kernel
abbrev cX3_init : ByteArray := prog_5_method_1_code
def yX3_init : MethodName := ⟨RX3, "<init>", "()V"⟩
abbrev cX3_isOf : ByteArray := prog_5_method_2_code
def yX3_isOf : MethodName := ⟨RX3, "isOf", "(I)Z"⟩
abbrev cX3_wishes : ByteArray := prog_5_method_3_code
def yX3_wishes : MethodName := ⟨RX3, "wishes", "(ZIIII)Z"⟩
abbrev cX3_goesOn : ByteArray := prog_5_method_4_code
def yX3_goesOn : MethodName := ⟨RX3, "goesOn", "(II)I"⟩
def RX4 : String := "CrierOfBorough$Sheet"
def TX4 : u_T := fun k => match k with
  | 0 => ("CrierOfBorough$Sheet", "numbers", "[I", true)
  | 1 => ("CrierOfBorough$Sheet", "sort", "I", false)
  | _ => ("CrierOfBorough$Sheet", "size", "I", false)
def tyX4 : Nat → FieldType := fun k => match k with
  | 0 => .array .int
  | 1 => .int
  | _ => .int
abbrev wsX40 : List Cond := u_ws RX4 TX4 3
theorem nmX4 : ∀ a, a < 3 → ∀ b, b < 3 → a ≠ b → (TX4 a).2.1 ≠ (TX4 b).2.1 := by decide +kernel
theorem tyX4_ok : ∀ k, k < 3 → parseFieldDescriptor (TX4 k).2.2.1 = some (tyX4 k) := by decide +kernel
abbrev cX4_init : ByteArray := prog_6_method_1_code
def yX4_init : MethodName := ⟨RX4, "<init>", "()V"⟩
abbrev cX4_become : ByteArray := prog_6_method_2_code
def yX4_become : MethodName := ⟨RX4, "become", "(II)V"⟩
abbrev cX4_holds : ByteArray := prog_6_method_3_code
def yX4_holds : MethodName := ⟨RX4, "holds", "(II)Z"⟩
abbrev cX4_set : ByteArray := prog_6_method_4_code
def yX4_set : MethodName := ⟨RX4, "set", "(II)V"⟩
def RX5 : String := "CrierOfBorough$Stranger"
def TX5 : u_T := fun k => match k with
  | _ => ("", "", "", false)
def tyX5 : Nat → FieldType := fun k => match k with
  | _ => .int
abbrev wsX50 : List Cond := u_ws RX5 TX5 0
theorem nmX5 : ∀ a, a < 0 → ∀ b, b < 0 → a ≠ b → (TX5 a).2.1 ≠ (TX5 b).2.1 := by decide +kernel
theorem tyX5_ok : ∀ k, k < 0 → parseFieldDescriptor (TX5 k).2.2.1 = some (tyX5 k) := by decide +kernel
abbrev cX5_init : ByteArray := prog_7_method_1_code
def yX5_init : MethodName := ⟨RX5, "<init>", "()V"⟩
abbrev cX5_isOf : ByteArray := prog_7_method_2_code
def yX5_isOf : MethodName := ⟨RX5, "isOf", "(I)Z"⟩
abbrev cX5_wishes : ByteArray := prog_7_method_3_code
def yX5_wishes : MethodName := ⟨RX5, "wishes", "(ZIIII)Z"⟩
abbrev cX5_goesOn : ByteArray := prog_7_method_4_code
def yX5_goesOn : MethodName := ⟨RX5, "goesOn", "(II)I"⟩
def RX6 : String := "CrierOfBorough$Tape"
def TX6 : u_T := fun k => match k with
  | 0 => ("CrierOfBorough$Tape", "bytes", "[I", true)
  | 1 => ("CrierOfBorough$Tape", "size", "I", false)
  | 2 => ("CrierOfBorough$Tape", "token", "I", false)
  | 3 => ("CrierOfBorough$Tape", "tokenAt", "I", false)
  | 4 => ("CrierOfBorough$Tape", "tokenEnd", "I", false)
  | 5 => ("CrierOfBorough$Tape", "number", "I", false)
  | _ => ("CrierOfBorough$Tape", "into", "LCrierOfBorough$Text;", false)
def tyX6 : Nat → FieldType := fun k => match k with
  | 0 => .array .int
  | 1 => .int
  | 2 => .int
  | 3 => .int
  | 4 => .int
  | 5 => .int
  | _ => .object "CrierOfBorough$Text"
abbrev wsX60 : List Cond := u_ws RX6 TX6 7
theorem nmX6 : ∀ a, a < 7 → ∀ b, b < 7 → a ≠ b → (TX6 a).2.1 ≠ (TX6 b).2.1 := by decide +kernel
theorem tyX6_ok : ∀ k, k < 7 → parseFieldDescriptor (TX6 k).2.2.1 = some (tyX6 k) := by decide +kernel
abbrev cX6_init : ByteArray := prog_8_method_1_code
def yX6_init : MethodName := ⟨RX6, "<init>", "()V"⟩
abbrev cX6_add : ByteArray := prog_8_method_2_code
def yX6_add : MethodName := ⟨RX6, "add", "(I)V"⟩
abbrev cX6_read : ByteArray := prog_8_method_3_code
def yX6_read : MethodName := ⟨RX6, "read", "(LCrierOfBorough$Text;)I"⟩
abbrev cX6_readEither : ByteArray := prog_8_method_4_code
def yX6_readEither : MethodName := ⟨RX6, "readEither", "(I)Z"⟩
abbrev cX6_readBoth : ByteArray := prog_8_method_5_code
def yX6_readBoth : MethodName := ⟨RX6, "readBoth", "(I)Z"⟩
abbrev cX6_readNot : ByteArray := prog_8_method_6_code
def yX6_readNot : MethodName := ⟨RX6, "readNot", "(I)Z"⟩
abbrev cX6_readSum : ByteArray := prog_8_method_7_code
def yX6_readSum : MethodName := ⟨RX6, "readSum", "(I)Z"⟩
abbrev cX6_readTerm : ByteArray := prog_8_method_8_code
def yX6_readTerm : MethodName := ⟨RX6, "readTerm", "(I)Z"⟩
abbrev cX6_readOne : ByteArray := prog_8_method_9_code
def yX6_readOne : MethodName := ⟨RX6, "readOne", "(I)Z"⟩
abbrev cX6_advance : ByteArray := prog_8_method_10_code
def yX6_advance : MethodName := ⟨RX6, "advance", "()V"⟩
abbrev cX6_isLetter : ByteArray := prog_8_method_11_code
def yX6_isLetter : MethodName := ⟨RX6, "isLetter", "(I)Z"⟩
abbrev cX6_isDigit : ByteArray := prog_8_method_12_code
def yX6_isDigit : MethodName := ⟨RX6, "isDigit", "(I)Z"⟩
abbrev cX6_wordEnd : ByteArray := prog_8_method_13_code
def yX6_wordEnd : MethodName := ⟨RX6, "wordEnd", "(I)I"⟩
abbrev cX6_takeNumber : ByteArray := prog_8_method_14_code
def yX6_takeNumber : MethodName := ⟨RX6, "takeNumber", "(I)V"⟩
abbrev cX6_word : ByteArray := prog_8_method_15_code
def yX6_word : MethodName := ⟨RX6, "word", "(II)I"⟩
abbrev cX6_isWordAt : ByteArray := prog_8_method_16_code
def yX6_isWordAt : MethodName := ⟨RX6, "isWordAt", "(III)Z"⟩
def RX7 : String := "CrierOfBorough$Text"
def TX7 : u_T := fun k => match k with
  | 0 => ("CrierOfBorough$Text", "steps", "[I", true)
  | 1 => ("CrierOfBorough$Text", "ends", "[I", true)
  | 2 => ("CrierOfBorough$Text", "values", "[I", true)
  | _ => ("CrierOfBorough$Text", "size", "I", false)
def tyX7 : Nat → FieldType := fun k => match k with
  | 0 => .array .int
  | 1 => .array .int
  | 2 => .array .int
  | _ => .int
abbrev wsX70 : List Cond := u_ws RX7 TX7 4
theorem nmX7 : ∀ a, a < 4 → ∀ b, b < 4 → a ≠ b → (TX7 a).2.1 ≠ (TX7 b).2.1 := by decide +kernel
theorem tyX7_ok : ∀ k, k < 4 → parseFieldDescriptor (TX7 k).2.2.1 = some (tyX7 k) := by decide +kernel
abbrev cX7_init : ByteArray := prog_9_method_1_code
def yX7_init : MethodName := ⟨RX7, "<init>", "()V"⟩
abbrev cX7_add : ByteArray := prog_9_method_2_code
def yX7_add : MethodName := ⟨RX7, "add", "(I)V"⟩
abbrev cX7_says : ByteArray := prog_9_method_3_code
def yX7_says : MethodName := ⟨RX7, "says", "(I[I)I"⟩
abbrev cX7_valuesTaken : ByteArray := prog_9_method_4_code
def yX7_valuesTaken : MethodName := ⟨RX7, "valuesTaken", "(I)I"⟩
abbrev cX7_worth : ByteArray := prog_9_method_5_code
def yX7_worth : MethodName := ⟨RX7, "worth", "(III[I)I"⟩
def RX8 : String := "CrierOfBorough$Wife"
def TX8 : u_T := fun k => match k with
  | _ => ("", "", "", false)
def tyX8 : Nat → FieldType := fun k => match k with
  | _ => .int
abbrev wsX80 : List Cond := u_ws RX8 TX8 0
theorem nmX8 : ∀ a, a < 0 → ∀ b, b < 0 → a ≠ b → (TX8 a).2.1 ≠ (TX8 b).2.1 := by decide +kernel
theorem tyX8_ok : ∀ k, k < 0 → parseFieldDescriptor (TX8 k).2.2.1 = some (tyX8 k) := by decide +kernel
abbrev cX8_init : ByteArray := prog_10_method_1_code
def yX8_init : MethodName := ⟨RX8, "<init>", "()V"⟩
abbrev cX8_isOf : ByteArray := prog_10_method_2_code
def yX8_isOf : MethodName := ⟨RX8, "isOf", "(I)Z"⟩
abbrev cX8_wishes : ByteArray := prog_10_method_3_code
def yX8_wishes : MethodName := ⟨RX8, "wishes", "(ZIIII)Z"⟩
abbrev cX8_hears : ByteArray := prog_10_method_4_code
def yX8_hears : MethodName := ⟨RX8, "hears", "(ZII)Z"⟩
def RX9 : String := "CrierOfBorough$World"
def TX9 : u_T := fun k => match k with
  | 0 => ("CrierOfBorough$World", "texts", "[LCrierOfBorough$Text;", true)
  | 1 => ("CrierOfBorough$World", "natures", "[LCrierOfBorough$Citizen;", true)
  | 2 => ("CrierOfBorough$World", "hour", "I", false)
  | 3 => ("CrierOfBorough$World", "corner", "I", false)
  | 4 => ("CrierOfBorough$World", "news", "I", false)
  | 5 => ("CrierOfBorough$World", "law", "I", false)
  | 6 => ("CrierOfBorough$World", "people", "I", false)
  | 7 => ("CrierOfBorough$World", "evil", "[I", true)
  | 8 => ("CrierOfBorough$World", "at", "[I", true)
  | 9 => ("CrierOfBorough$World", "wanted", "[I", true)
  | 10 => ("CrierOfBorough$World", "known", "[I", true)
  | 11 => ("CrierOfBorough$World", "window", "[I", true)
  | 12 => ("CrierOfBorough$World", "kind", "[I", true)
  | 13 => ("CrierOfBorough$World", "more", "[I", true)
  | _ => ("CrierOfBorough$World", "names", "[I", true)
def tyX9 : Nat → FieldType := fun k => match k with
  | 0 => .array (.object "CrierOfBorough$Text")
  | 1 => .array (.object "CrierOfBorough$Citizen")
  | 2 => .int
  | 3 => .int
  | 4 => .int
  | 5 => .int
  | 6 => .int
  | 7 => .array .int
  | 8 => .array .int
  | 9 => .array .int
  | 10 => .array .int
  | 11 => .array .int
  | 12 => .array .int
  | 13 => .array .int
  | _ => .array .int
abbrev wsX90 : List Cond := u_ws RX9 TX9 15
theorem nmX9 : ∀ a, a < 15 → ∀ b, b < 15 → a ≠ b → (TX9 a).2.1 ≠ (TX9 b).2.1 := by decide +kernel
theorem tyX9_ok : ∀ k, k < 15 → parseFieldDescriptor (TX9 k).2.2.1 = some (tyX9 k) := by decide +kernel
abbrev cX9_init : ByteArray := prog_11_method_1_code
def yX9_init : MethodName := ⟨RX9, "<init>", "([LCrierOfBorough$Text;[LCrierOfBorough$Citizen;)V"⟩
abbrev cX9_become : ByteArray := prog_11_method_2_code
def yX9_become : MethodName := ⟨RX9, "become", "(LCrierOfBorough$World;)V"⟩
abbrev cX9_isOne : ByteArray := prog_11_method_3_code
def yX9_isOne : MethodName := ⟨RX9, "isOne", "(I)Z"⟩
abbrev cX9_settle : ByteArray := prog_11_method_4_code
def yX9_settle : MethodName := ⟨RX9, "settle", "(III)I"⟩
abbrev cX9_row : ByteArray := prog_11_method_5_code
def yX9_row : MethodName := ⟨RX9, "row", "(I)[I"⟩
abbrev cX9_nature : ByteArray := prog_11_method_6_code
def yX9_nature : MethodName := ⟨RX9, "nature", "(I)LCrierOfBorough$Citizen;"⟩
abbrev cX9_saidOf : ByteArray := prog_11_method_7_code
def yX9_saidOf : MethodName := ⟨RX9, "saidOf", "(III)I"⟩
abbrev cX9_name : ByteArray := prog_11_method_8_code
def yX9_name : MethodName := ⟨RX9, "name", "(II)V"⟩
abbrev cX9_wishedBy : ByteArray := prog_11_method_9_code
def yX9_wishedBy : MethodName := ⟨RX9, "wishedBy", "(II)I"⟩
abbrev cX9_listens : ByteArray := prog_11_method_10_code
def yX9_listens : MethodName := ⟨RX9, "listens", "(I)Z"⟩
abbrev cX9_goes : ByteArray := prog_11_method_11_code
def yX9_goes : MethodName := ⟨RX9, "goes", "(I)I"⟩
abbrev cX9_peopleAt : ByteArray := prog_11_method_12_code
def yX9_peopleAt : MethodName := ⟨RX9, "peopleAt", "(I)I"⟩
abbrev cX9_listenersAt : ByteArray := prog_11_method_13_code
def yX9_listenersAt : MethodName := ⟨RX9, "listenersAt", "(I)I"⟩
abbrev cX9_mayAt : ByteArray := prog_11_method_14_code
def yX9_mayAt : MethodName := ⟨RX9, "mayAt", "(II)I"⟩
abbrev cX9_pass : ByteArray := prog_11_method_15_code
def yX9_pass : MethodName := ⟨RX9, "pass", "()I"⟩
abbrev cX9_cry : ByteArray := prog_11_method_16_code
def yX9_cry : MethodName := ⟨RX9, "cry", "(I)V"⟩
abbrev cX9_knownBeside : ByteArray := prog_11_method_17_code
def yX9_knownBeside : MethodName := ⟨RX9, "knownBeside", "(I)I"⟩
abbrev cX9_passMany : ByteArray := prog_11_method_18_code
def yX9_passMany : MethodName := ⟨RX9, "passMany", "(I)I"⟩
abbrev cX9_knownTogether : ByteArray := prog_11_method_19_code
def yX9_knownTogether : MethodName := ⟨RX9, "knownTogether", "()I"⟩
def RX10 : String := "CrierOfBorough"
def TX10 : u_T := fun k => match k with
  | 0 => ("CrierOfBorough", "texts", "[LCrierOfBorough$Text;", true)
  | 1 => ("CrierOfBorough", "sheets", "[LCrierOfBorough$Sheet;", true)
  | 2 => ("CrierOfBorough", "tape", "LCrierOfBorough$Tape;", true)
  | 3 => ("CrierOfBorough", "now", "LCrierOfBorough$World;", true)
  | 4 => ("CrierOfBorough", "thought", "LCrierOfBorough$World;", true)
  | 5 => ("CrierOfBorough", "kept", "LCrierOfBorough$World;", true)
  | 6 => ("CrierOfBorough", "mayAround", "[I", true)
  | 7 => ("CrierOfBorough", "isKept", "Z", false)
  | _ => ("CrierOfBorough", "textCount", "I", false)
def tyX10 : Nat → FieldType := fun k => match k with
  | 0 => .array (.object "CrierOfBorough$Text")
  | 1 => .array (.object "CrierOfBorough$Sheet")
  | 2 => .object "CrierOfBorough$Tape"
  | 3 => .object "CrierOfBorough$World"
  | 4 => .object "CrierOfBorough$World"
  | 5 => .object "CrierOfBorough$World"
  | 6 => .array .int
  | 7 => .boolean
  | _ => .int
abbrev wsX100 : List Cond := u_ws RX10 TX10 9
theorem nmX10 : ∀ a, a < 9 → ∀ b, b < 9 → a ≠ b → (TX10 a).2.1 ≠ (TX10 b).2.1 := by decide +kernel
theorem tyX10_ok : ∀ k, k < 9 → parseFieldDescriptor (TX10 k).2.2.1 = some (tyX10 k) := by decide +kernel
abbrev cX10_init : ByteArray := prog_1_method_1_code
def yX10_init : MethodName := ⟨RX10, "<init>", "()V"⟩
abbrev cX10_count : ByteArray := prog_1_method_2_code
def yX10_count : MethodName := ⟨RX10, "count", "(I)I"⟩
abbrev cX10_borough : ByteArray := prog_1_method_3_code
def yX10_borough : MethodName := ⟨RX10, "borough", "(II)I"⟩
abbrev cX10_crier : ByteArray := prog_1_method_4_code
def yX10_crier : MethodName := ⟨RX10, "crier", "(I)I"⟩
abbrev cX10_feed : ByteArray := prog_1_method_5_code
def yX10_feed : MethodName := ⟨RX10, "feed", "(IIIIII)I"⟩
abbrev cX10_text : ByteArray := prog_1_method_6_code
def yX10_text : MethodName := ⟨RX10, "text", "()I"⟩
abbrev cX10_force : ByteArray := prog_1_method_7_code
def yX10_force : MethodName := ⟨RX10, "force", "(I)I"⟩
abbrev cX10_asks : ByteArray := prog_1_method_8_code
def yX10_asks : MethodName := ⟨RX10, "asks", "(III)I"⟩
abbrev cX10_citizen : ByteArray := prog_1_method_9_code
def yX10_citizen : MethodName := ⟨RX10, "citizen", "(III)I"⟩
abbrev cX10_put : ByteArray := prog_1_method_10_code
def yX10_put : MethodName := ⟨RX10, "put", "(III)I"⟩
abbrev cX10_told : ByteArray := prog_1_method_11_code
def yX10_told : MethodName := ⟨RX10, "told", "(II)I"⟩
abbrev cX10_ring : ByteArray := prog_1_method_12_code
def yX10_ring : MethodName := ⟨RX10, "ring", "(II)I"⟩
abbrev cX10_hour : ByteArray := prog_1_method_13_code
def yX10_hour : MethodName := ⟨RX10, "hour", "()I"⟩
abbrev cX10_run : ByteArray := prog_1_method_14_code
def yX10_run : MethodName := ⟨RX10, "run", "(II)I"⟩
abbrev cX10_when : ByteArray := prog_1_method_15_code
def yX10_when : MethodName := ⟨RX10, "when", "(I)I"⟩
abbrev cX10_where : ByteArray := prog_1_method_16_code
def yX10_where : MethodName := ⟨RX10, "where", "(I)I"⟩
abbrev cX10_begin : ByteArray := prog_1_method_17_code
def yX10_begin : MethodName := ⟨RX10, "begin", "(II)I"⟩
abbrev cX10_windows : ByteArray := prog_1_method_18_code
def yX10_windows : MethodName := ⟨RX10, "windows", "(II)I"⟩
abbrev cX10_hush : ByteArray := prog_1_method_19_code
def yX10_hush : MethodName := ⟨RX10, "hush", "(III)I"⟩
abbrev cX10_round : ByteArray := prog_1_method_20_code
def yX10_round : MethodName := ⟨RX10, "round", "(I)I"⟩
abbrev cX10_mean : ByteArray := prog_1_method_21_code
def yX10_mean : MethodName := ⟨RX10, "mean", "(I)J"⟩
abbrev cX10_judge : ByteArray := prog_1_method_22_code
def yX10_judge : MethodName := ⟨RX10, "judge", "(I)I"⟩
abbrev cX10_kinds : ByteArray := prog_1_method_23_code
def yX10_kinds : MethodName := ⟨RX10, "kinds", "(III)I"⟩
abbrev cX10_corners : ByteArray := prog_1_method_24_code
def yX10_corners : MethodName := ⟨RX10, "corners", "(II)I"⟩
abbrev cX10_turned : ByteArray := prog_1_method_25_code
def yX10_turned : MethodName := ⟨RX10, "turned", "(III)I"⟩
abbrev cX10_evils : ByteArray := prog_1_method_26_code
def yX10_evils : MethodName := ⟨RX10, "evils", "(III)I"⟩
abbrev cX10_laws : ByteArray := prog_1_method_27_code
def yX10_laws : MethodName := ⟨RX10, "laws", "(I)I"⟩
abbrev cX10_film : ByteArray := prog_1_method_28_code
def yX10_film : MethodName := ⟨RX10, "film", "(II)I"⟩
abbrev cX10_drawn : ByteArray := prog_1_method_29_code
def yX10_drawn : MethodName := ⟨RX10, "drawn", "(II)I"⟩
abbrev cX10_odds : ByteArray := prog_1_method_30_code
def yX10_odds : MethodName := ⟨RX10, "odds", "(IIII)J"⟩
abbrev cX10_image : ByteArray := prog_1_method_31_code
def yX10_image : MethodName := ⟨RX10, "image", "()I"⟩
abbrev cX10_back : ByteArray := prog_1_method_32_code
def yX10_back : MethodName := ⟨RX10, "back", "()I"⟩
abbrev cX10_sheet : ByteArray := prog_1_method_33_code
def yX10_sheet : MethodName := ⟨RX10, "sheet", "(III)I"⟩
abbrev cX10_cell : ByteArray := prog_1_method_34_code
def yX10_cell : MethodName := ⟨RX10, "cell", "(III)I"⟩
abbrev cX10_copy : ByteArray := prog_1_method_35_code
def yX10_copy : MethodName := ⟨RX10, "copy", "(IIIII)I"⟩
abbrev cX10_peopleBy : ByteArray := prog_1_method_36_code
def yX10_peopleBy : MethodName := ⟨RX10, "peopleBy", "(IIII)I"⟩
abbrev cX10_taken : ByteArray := prog_1_method_37_code
def yX10_taken : MethodName := ⟨RX10, "taken", "(II)I"⟩
abbrev cX10_within : ByteArray := prog_1_method_38_code
def yX10_within : MethodName := ⟨RX10, "within", "(III)Z"⟩
abbrev cX10_isByte : ByteArray := prog_1_method_39_code
def yX10_isByte : MethodName := ⟨RX10, "isByte", "(I)Z"⟩
abbrev cX10_isIn : ByteArray := prog_1_method_40_code
def yX10_isIn : MethodName := ⟨RX10, "isIn", "(II)Z"⟩
abbrev cX10_firstOf : ByteArray := prog_1_method_41_code
def yX10_firstOf : MethodName := ⟨RX10, "firstOf", "(I)I"⟩
abbrev cX10_mostOfBorough : ByteArray := prog_1_method_42_code
def yX10_mostOfBorough : MethodName := ⟨RX10, "mostOfBorough", "(I)I"⟩
abbrev cX10_ofBorough : ByteArray := prog_1_method_43_code
def yX10_ofBorough : MethodName := ⟨RX10, "ofBorough", "(I)I"⟩
abbrev cX10_isSoInThought : ByteArray := prog_1_method_44_code
def yX10_isSoInThought : MethodName := ⟨RX10, "isSoInThought", "(I)Z"⟩
abbrev cX10_mayAtAny : ByteArray := prog_1_method_45_code
def yX10_mayAtAny : MethodName := ⟨RX10, "mayAtAny", "(I)I"⟩
abbrev cX10_wishersAt : ByteArray := prog_1_method_46_code
def yX10_wishersAt : MethodName := ⟨RX10, "wishersAt", "(II)I"⟩
abbrev cX10_refusalToJudge : ByteArray := prog_1_method_47_code
def yX10_refusalToJudge : MethodName := ⟨RX10, "refusalToJudge", "(I)I"⟩
abbrev cX10_otherwise : ByteArray := prog_1_method_48_code
def yX10_otherwise : MethodName := ⟨RX10, "otherwise", "(LCrierOfBorough$Sheet;)I"⟩
abbrev cX10_criedByLots : ByteArray := prog_1_method_49_code
def yX10_criedByLots : MethodName := ⟨RX10, "criedByLots", "(I)I"⟩
abbrev cX10_lotBehind : ByteArray := prog_1_method_50_code
def yX10_lotBehind : MethodName := ⟨RX10, "lotBehind", "(J)J"⟩
abbrev cX10_lowest : ByteArray := prog_1_method_51_code
def yX10_lowest : MethodName := ⟨RX10, "lowest", "(III)J"⟩
def RX11 : String := "CrierOfBoroughModel"
def TX11 : u_T := fun k => match k with
  | 0 => ("CrierOfBoroughModel", "people", "I", false)
  | 1 => ("CrierOfBoroughModel", "kind", "[I", true)
  | 2 => ("CrierOfBoroughModel", "moreOf", "[I", true)
  | 3 => ("CrierOfBoroughModel", "rows", "[I", true)
  | 4 => ("CrierOfBoroughModel", "borough", "[I", true)
  | 5 => ("CrierOfBoroughModel", "tape", "[I", true)
  | 6 => ("CrierOfBoroughModel", "taped", "I", false)
  | 7 => ("CrierOfBoroughModel", "codes", "[I", true)
  | 8 => ("CrierOfBoroughModel", "starts", "[I", true)
  | 9 => ("CrierOfBoroughModel", "texts", "I", false)
  | 10 => ("CrierOfBoroughModel", "rule", "I", false)
  | 11 => ("CrierOfBoroughModel", "hasImage", "Z", false)
  | 12 => ("CrierOfBoroughModel", "imageRows", "[I", true)
  | 13 => ("CrierOfBoroughModel", "imageHeld", "[I", true)
  | 14 => ("CrierOfBoroughModel", "sheetSort", "[I", true)
  | 15 => ("CrierOfBoroughModel", "sheetSize", "[I", true)
  | 16 => ("CrierOfBoroughModel", "cells", "[I", true)
  | 17 => ("CrierOfBoroughModel", "law", "[I", true)
  | 18 => ("CrierOfBoroughModel", "at", "I", false)
  | 19 => ("CrierOfBoroughModel", "begun", "I", false)
  | 20 => ("CrierOfBoroughModel", "token", "I", false)
  | 21 => ("CrierOfBoroughModel", "value", "I", false)
  | 22 => ("CrierOfBoroughModel", "words", "[I", true)
  | 23 => ("CrierOfBoroughModel", "held", "[I", true)
  | 24 => ("CrierOfBoroughModel", "heldMany", "I", false)
  | 25 => ("CrierOfBoroughModel", "opens", "I", false)
  | 26 => ("CrierOfBoroughModel", "out", "I", false)
  | 27 => ("CrierOfBoroughModel", "stack", "[I", true)
  | 28 => ("CrierOfBoroughModel", "named", "[I", true)
  | 29 => ("CrierOfBoroughModel", "kept", "[I", true)
  | 30 => ("CrierOfBoroughModel", "tellable", "[I", true)
  | _ => ("CrierOfBoroughModel", "newsThen", "I", false)
def tyX11 : Nat → FieldType := fun k => match k with
  | 0 => .int
  | 1 => .array .int
  | 2 => .array .int
  | 3 => .array .int
  | 4 => .array .int
  | 5 => .array .int
  | 6 => .int
  | 7 => .array .int
  | 8 => .array .int
  | 9 => .int
  | 10 => .int
  | 11 => .boolean
  | 12 => .array .int
  | 13 => .array .int
  | 14 => .array .int
  | 15 => .array .int
  | 16 => .array .int
  | 17 => .array .int
  | 18 => .int
  | 19 => .int
  | 20 => .int
  | 21 => .int
  | 22 => .array .int
  | 23 => .array .int
  | 24 => .int
  | 25 => .int
  | 26 => .int
  | 27 => .array .int
  | 28 => .array .int
  | 29 => .array .int
  | 30 => .array .int
  | _ => .int
abbrev wsX110 : List Cond := u_ws RX11 TX11 32
theorem nmX11 : ∀ a, a < 32 → ∀ b, b < 32 → a ≠ b → (TX11 a).2.1 ≠ (TX11 b).2.1 := by decide +kernel
theorem tyX11_ok : ∀ k, k < 32 → parseFieldDescriptor (TX11 k).2.2.1 = some (tyX11 k) := by decide +kernel
abbrev cX11_init : ByteArray := prog_13_method_1_code
def yX11_init : MethodName := ⟨RX11, "<init>", "()V"⟩
abbrev cX11_in : ByteArray := prog_13_method_3_code
def yX11_in : MethodName := ⟨RX11, "in", "(III)Z"⟩
abbrev cX11_within : ByteArray := prog_13_method_4_code
def yX11_within : MethodName := ⟨RX11, "within", "(III)I"⟩
abbrev cX11_onesOf : ByteArray := prog_13_method_5_code
def yX11_onesOf : MethodName := ⟨RX11, "onesOf", "(I)I"⟩
abbrev cX11_isOne : ByteArray := prog_13_method_6_code
def yX11_isOne : MethodName := ⟨RX11, "isOne", "(I)Z"⟩
abbrev cX11_isCorner : ByteArray := prog_13_method_7_code
def yX11_isCorner : MethodName := ⟨RX11, "isCorner", "(I)Z"⟩
abbrev cX11_isThing : ByteArray := prog_13_method_8_code
def yX11_isThing : MethodName := ⟨RX11, "isThing", "(I)Z"⟩
abbrev cX11_count : ByteArray := prog_13_method_9_code
def yX11_count : MethodName := ⟨RX11, "count", "(I)I"⟩
abbrev cX11_borough : ByteArray := prog_13_method_10_code
def yX11_borough : MethodName := ⟨RX11, "borough", "(II)I"⟩
abbrev cX11_crier : ByteArray := prog_13_method_11_code
def yX11_crier : MethodName := ⟨RX11, "crier", "(I)I"⟩
abbrev cX11_isByte : ByteArray := prog_13_method_12_code
def yX11_isByte : MethodName := ⟨RX11, "isByte", "(I)Z"⟩
abbrev cX11_feed : ByteArray := prog_13_method_13_code
def yX11_feed : MethodName := ⟨RX11, "feed", "(IIIIII)I"⟩
abbrev cX11_wordFrom : ByteArray := prog_13_method_14_code
def yX11_wordFrom : MethodName := ⟨RX11, "wordFrom", "(II)I"⟩
abbrev cX11_next : ByteArray := prog_13_method_15_code
def yX11_next : MethodName := ⟨RX11, "next", "()V"⟩
abbrev cX11_rank : ByteArray := prog_13_method_16_code
def yX11_rank : MethodName := ⟨RX11, "rank", "(I)I"⟩
abbrev cX11_puts : ByteArray := prog_13_method_17_code
def yX11_puts : MethodName := ⟨RX11, "puts", "(I)V"⟩
abbrev cX11_unwinds : ByteArray := prog_13_method_18_code
def yX11_unwinds : MethodName := ⟨RX11, "unwinds", "(I)V"⟩
abbrev cX11_holds : ByteArray := prog_13_method_19_code
def yX11_holds : MethodName := ⟨RX11, "holds", "(I)V"⟩
abbrev cX11_opensOne : ByteArray := prog_13_method_20_code
def yX11_opensOne : MethodName := ⟨RX11, "opensOne", "(I)Z"⟩
abbrev cX11_between : ByteArray := prog_13_method_21_code
def yX11_between : MethodName := ⟨RX11, "between", "(I)Z"⟩
abbrev cX11_signOf : ByteArray := prog_13_method_22_code
def yX11_signOf : MethodName := ⟨RX11, "signOf", "()I"⟩
abbrev cX11_eRead : ByteArray := prog_13_method_23_code
def yX11_eRead : MethodName := ⟨RX11, "eRead", "()Z"⟩
abbrev cX11_text : ByteArray := prog_13_method_24_code
def yX11_text : MethodName := ⟨RX11, "text", "()I"⟩
abbrev cX11_two : ByteArray := prog_13_method_25_code
def yX11_two : MethodName := ⟨RX11, "two", "(III)I"⟩
abbrev cX11_says : ByteArray := prog_13_method_26_code
def yX11_says : MethodName := ⟨RX11, "says", "(I)I"⟩
abbrev cX11_force : ByteArray := prog_13_method_27_code
def yX11_force : MethodName := ⟨RX11, "force", "(I)I"⟩
abbrev cX11_asksOf : ByteArray := prog_13_method_28_code
def yX11_asksOf : MethodName := ⟨RX11, "asksOf", "(III)I"⟩
abbrev cX11_asks : ByteArray := prog_13_method_29_code
def yX11_asks : MethodName := ⟨RX11, "asks", "(III)I"⟩
abbrev cX11_citizen : ByteArray := prog_13_method_30_code
def yX11_citizen : MethodName := ⟨RX11, "citizen", "(III)I"⟩
abbrev cX11_put : ByteArray := prog_13_method_31_code
def yX11_put : MethodName := ⟨RX11, "put", "(III)I"⟩
abbrev cX11_plainWish : ByteArray := prog_13_method_32_code
def yX11_plainWish : MethodName := ⟨RX11, "plainWish", "(IIZ)Z"⟩
abbrev cX11_motherWish : ByteArray := prog_13_method_33_code
def yX11_motherWish : MethodName := ⟨RX11, "motherWish", "(IIZI)Z"⟩
abbrev cX11_wishes : ByteArray := prog_13_method_34_code
def yX11_wishes : MethodName := ⟨RX11, "wishes", "(II)Z"⟩
abbrev cX11_wishSet : ByteArray := prog_13_method_35_code
def yX11_wishSet : MethodName := ⟨RX11, "wishSet", "(II)I"⟩
abbrev cX11_listens : ByteArray := prog_13_method_36_code
def yX11_listens : MethodName := ⟨RX11, "listens", "(I)Z"⟩
abbrev cX11_goesOf : ByteArray := prog_13_method_37_code
def yX11_goesOf : MethodName := ⟨RX11, "goesOf", "(I)I"⟩
abbrev cX11_told : ByteArray := prog_13_method_38_code
def yX11_told : MethodName := ⟨RX11, "told", "(II)I"⟩
abbrev cX11_whoAt : ByteArray := prog_13_method_39_code
def yX11_whoAt : MethodName := ⟨RX11, "whoAt", "(I)I"⟩
abbrev cX11_listeners : ByteArray := prog_13_method_40_code
def yX11_listeners : MethodName := ⟨RX11, "listeners", "(I)I"⟩
abbrev cX11_may : ByteArray := prog_13_method_41_code
def yX11_may : MethodName := ⟨RX11, "may", "(II)Z"⟩
abbrev cX11_maySet : ByteArray := prog_13_method_42_code
def yX11_maySet : MethodName := ⟨RX11, "maySet", "(II)I"⟩
abbrev cX11_ring : ByteArray := prog_13_method_43_code
def yX11_ring : MethodName := ⟨RX11, "ring", "(II)I"⟩
abbrev cX11_criedNow : ByteArray := prog_13_method_44_code
def yX11_criedNow : MethodName := ⟨RX11, "criedNow", "()I"⟩
abbrev cX11_knownToOthers : ByteArray := prog_13_method_45_code
def yX11_knownToOthers : MethodName := ⟨RX11, "knownToOthers", "(I)I"⟩
abbrev cX11_hourOf : ByteArray := prog_13_method_46_code
def yX11_hourOf : MethodName := ⟨RX11, "hourOf", "()I"⟩
abbrev cX11_hour : ByteArray := prog_13_method_47_code
def yX11_hour : MethodName := ⟨RX11, "hour", "()I"⟩
abbrev cX11_keeps : ByteArray := prog_13_method_48_code
def yX11_keeps : MethodName := ⟨RX11, "keeps", "()V"⟩
abbrev cX11_lays : ByteArray := prog_13_method_49_code
def yX11_lays : MethodName := ⟨RX11, "lays", "()V"⟩
abbrev cX11_goes : ByteArray := prog_13_method_50_code
def yX11_goes : MethodName := ⟨RX11, "goes", "(I)I"⟩
abbrev cX11_criedIn : ByteArray := prog_13_method_51_code
def yX11_criedIn : MethodName := ⟨RX11, "criedIn", "(I)I"⟩
abbrev cX11_knownAll : ByteArray := prog_13_method_52_code
def yX11_knownAll : MethodName := ⟨RX11, "knownAll", "()I"⟩
abbrev cX11_run : ByteArray := prog_13_method_53_code
def yX11_run : MethodName := ⟨RX11, "run", "(II)I"⟩
abbrev cX11_isNow : ByteArray := prog_13_method_54_code
def yX11_isNow : MethodName := ⟨RX11, "isNow", "(I)Z"⟩
abbrev cX11_when : ByteArray := prog_13_method_55_code
def yX11_when : MethodName := ⟨RX11, "when", "(I)I"⟩
abbrev cX11_where : ByteArray := prog_13_method_56_code
def yX11_where : MethodName := ⟨RX11, "where", "(I)I"⟩
abbrev cX11_begin : ByteArray := prog_13_method_57_code
def yX11_begin : MethodName := ⟨RX11, "begin", "(II)I"⟩
abbrev cX11_windows : ByteArray := prog_13_method_58_code
def yX11_windows : MethodName := ⟨RX11, "windows", "(II)I"⟩
abbrev cX11_mayHushed : ByteArray := prog_13_method_59_code
def yX11_mayHushed : MethodName := ⟨RX11, "mayHushed", "(III)Z"⟩
abbrev cX11_hush : ByteArray := prog_13_method_60_code
def yX11_hush : MethodName := ⟨RX11, "hush", "(III)I"⟩
abbrev cX11_toldBy : ByteArray := prog_13_method_61_code
def yX11_toldBy : MethodName := ⟨RX11, "toldBy", "(I)I"⟩
abbrev cX11_round : ByteArray := prog_13_method_62_code
def yX11_round : MethodName := ⟨RX11, "round", "(I)I"⟩
abbrev cX11_lowest : ByteArray := prog_13_method_63_code
def yX11_lowest : MethodName := ⟨RX11, "lowest", "(JJI)J"⟩
abbrev cX11_mean : ByteArray := prog_13_method_64_code
def yX11_mean : MethodName := ⟨RX11, "mean", "(I)J"⟩
abbrev cX11_sheetWrong : ByteArray := prog_13_method_65_code
def yX11_sheetWrong : MethodName := ⟨RX11, "sheetWrong", "(I)I"⟩
abbrev cX11_unlike : ByteArray := prog_13_method_66_code
def yX11_unlike : MethodName := ⟨RX11, "unlike", "(I)I"⟩
abbrev cX11_judge : ByteArray := prog_13_method_67_code
def yX11_judge : MethodName := ⟨RX11, "judge", "(I)I"⟩
abbrev cX11_kinds : ByteArray := prog_13_method_68_code
def yX11_kinds : MethodName := ⟨RX11, "kinds", "(III)I"⟩
abbrev cX11_corners : ByteArray := prog_13_method_69_code
def yX11_corners : MethodName := ⟨RX11, "corners", "(II)I"⟩
abbrev cX11_turned : ByteArray := prog_13_method_70_code
def yX11_turned : MethodName := ⟨RX11, "turned", "(III)I"⟩
abbrev cX11_evils : ByteArray := prog_13_method_71_code
def yX11_evils : MethodName := ⟨RX11, "evils", "(III)I"⟩
abbrev cX11_laws : ByteArray := prog_13_method_72_code
def yX11_laws : MethodName := ⟨RX11, "laws", "(I)I"⟩
abbrev cX11_film : ByteArray := prog_13_method_73_code
def yX11_film : MethodName := ⟨RX11, "film", "(II)I"⟩
abbrev cX11_quarters : ByteArray := prog_13_method_74_code
def yX11_quarters : MethodName := ⟨RX11, "quarters", "(I)I"⟩
abbrev cX11_drawn : ByteArray := prog_13_method_75_code
def yX11_drawn : MethodName := ⟨RX11, "drawn", "(II)I"⟩
abbrev cX11_odds : ByteArray := prog_13_method_76_code
def yX11_odds : MethodName := ⟨RX11, "odds", "(IIII)J"⟩
abbrev cX11_image : ByteArray := prog_13_method_77_code
def yX11_image : MethodName := ⟨RX11, "image", "()I"⟩
abbrev cX11_back : ByteArray := prog_13_method_78_code
def yX11_back : MethodName := ⟨RX11, "back", "()I"⟩
abbrev cX11_sheet : ByteArray := prog_13_method_79_code
def yX11_sheet : MethodName := ⟨RX11, "sheet", "(III)I"⟩
abbrev cX11_cell : ByteArray := prog_13_method_80_code
def yX11_cell : MethodName := ⟨RX11, "cell", "(III)I"⟩
abbrev cX11_copy : ByteArray := prog_13_method_81_code
def yX11_copy : MethodName := ⟨RX11, "copy", "(IIIII)I"⟩
abbrev cX11_peopleBy : ByteArray := prog_13_method_82_code
def yX11_peopleBy : MethodName := ⟨RX11, "peopleBy", "(IIII)I"⟩
abbrev cX11_isUnder : ByteArray := prog_13_method_83_code
def yX11_isUnder : MethodName := ⟨RX11, "isUnder", "(II)Z"⟩
abbrev cX11_taken : ByteArray := prog_13_method_84_code
def yX11_taken : MethodName := ⟨RX11, "taken", "(II)I"⟩
def RJx145de : String := "java/io/Serializable"
def TJx145de : u_T := fun k => match k with
  | _ => ("", "", "", false)
def tyJx145de : Nat → FieldType := fun k => match k with
  | _ => .int
abbrev wsJx145de0 : List Cond := u_ws RJx145de TJx145de 0
theorem nmJx145de : ∀ a, a < 0 → ∀ b, b < 0 → a ≠ b → (TJx145de a).2.1 ≠ (TJx145de b).2.1 := by decide +kernel
theorem tyJx145de_ok : ∀ k, k < 0 → parseFieldDescriptor (TJx145de k).2.2.1 = some (tyJx145de k) := by decide +kernel
def RJx9f9b0 : String := "java/lang/CharSequence"
def TJx9f9b0 : u_T := fun k => match k with
  | _ => ("", "", "", false)
def tyJx9f9b0 : Nat → FieldType := fun k => match k with
  | _ => .int
abbrev wsJx9f9b00 : List Cond := u_ws RJx9f9b0 TJx9f9b0 0
theorem nmJx9f9b0 : ∀ a, a < 0 → ∀ b, b < 0 → a ≠ b → (TJx9f9b0 a).2.1 ≠ (TJx9f9b0 b).2.1 := by decide +kernel
theorem tyJx9f9b0_ok : ∀ k, k < 0 → parseFieldDescriptor (TJx9f9b0 k).2.2.1 = some (tyJx9f9b0 k) := by decide +kernel
def RJ11 : String := "java/lang/Character"
def TJ11 : u_T := fun k => match k with
  | _ => ("", "", "", false)
def tyJ11 : Nat → FieldType := fun k => match k with
  | _ => .int
abbrev wsJ110 : List Cond := u_ws RJ11 TJ11 0
theorem nmJ11 : ∀ a, a < 0 → ∀ b, b < 0 → a ≠ b → (TJ11 a).2.1 ≠ (TJ11 b).2.1 := by decide +kernel
theorem tyJ11_ok : ∀ k, k < 0 → parseFieldDescriptor (TJ11 k).2.2.1 = some (tyJ11 k) := by decide +kernel
abbrev cJ11_isValidCodePoint_9a6ad : ByteArray := prog_14_method_11_code
def yJ11_isValidCodePoint_9a6ad : MethodName := ⟨RJ11, "isValidCodePoint", "(I)Z"⟩
abbrev cJ11_highSurrogate_5068e : ByteArray := prog_14_method_28_code
def yJ11_highSurrogate_5068e : MethodName := ⟨RJ11, "highSurrogate", "(I)C"⟩
abbrev cJ11_lowSurrogate_5068e : ByteArray := prog_14_method_29_code
def yJ11_lowSurrogate_5068e : MethodName := ⟨RJ11, "lowSurrogate", "(I)C"⟩
def RJxb160c : String := "java/lang/Comparable"
def TJxb160c : u_T := fun k => match k with
  | _ => ("", "", "", false)
def tyJxb160c : Nat → FieldType := fun k => match k with
  | _ => .int
abbrev wsJxb160c0 : List Cond := u_ws RJxb160c TJxb160c 0
theorem nmJxb160c : ∀ a, a < 0 → ∀ b, b < 0 → a ≠ b → (TJxb160c a).2.1 ≠ (TJxb160c b).2.1 := by decide +kernel
theorem tyJxb160c_ok : ∀ k, k < 0 → parseFieldDescriptor (TJxb160c k).2.2.1 = some (tyJxb160c k) := by decide +kernel
def RJ6 : String := "java/lang/Integer"
def TJ6 : u_T := fun k => match k with
  | _ => ("", "", "", false)
def tyJ6 : Nat → FieldType := fun k => match k with
  | _ => .int
abbrev wsJ60 : List Cond := u_ws RJ6 TJ6 0
theorem nmJ6 : ∀ a, a < 0 → ∀ b, b < 0 → a ≠ b → (TJ6 a).2.1 ≠ (TJ6 b).2.1 := by decide +kernel
theorem tyJ6_ok : ∀ k, k < 0 → parseFieldDescriptor (TJ6 k).2.2.1 = some (tyJ6 k) := by decide +kernel
abbrev cJ6_bitCount_0f7a4 : ByteArray := prog_15_method_49_code
def yJ6_bitCount_0f7a4 : MethodName := ⟨RJ6, "bitCount", "(I)I"⟩
def RJ9 : String := "java/lang/Math"
def TJ9 : u_T := fun k => match k with
  | _ => ("", "", "", false)
def tyJ9 : Nat → FieldType := fun k => match k with
  | _ => .int
abbrev wsJ90 : List Cond := u_ws RJ9 TJ9 0
theorem nmJ9 : ∀ a, a < 0 → ∀ b, b < 0 → a ≠ b → (TJ9 a).2.1 ≠ (TJ9 b).2.1 := by decide +kernel
theorem tyJ9_ok : ∀ k, k < 0 → parseFieldDescriptor (TJ9 k).2.2.1 = some (tyJ9 k) := by decide +kernel
abbrev cJ9_floorMod_7cf53 : ByteArray := prog_16_method_50_code
def yJ9_floorMod_7cf53 : MethodName := ⟨RJ9, "floorMod", "(II)I"⟩
abbrev cJ9_max_7cf53 : ByteArray := prog_16_method_65_code
def yJ9_max_7cf53 : MethodName := ⟨RJ9, "max", "(II)I"⟩
abbrev cJ9_min_7cf53 : ByteArray := prog_16_method_69_code
def yJ9_min_7cf53 : MethodName := ⟨RJ9, "min", "(II)I"⟩
def RJ0 : String := "java/lang/String"
def TJ0 : u_T := fun k => match k with
  | _ => ("", "", "", false)
def tyJ0 : Nat → FieldType := fun k => match k with
  | _ => .int
abbrev wsJ00 : List Cond := u_ws RJ0 TJ0 0
theorem nmJ0 : ∀ a, a < 0 → ∀ b, b < 0 → a ≠ b → (TJ0 a).2.1 ≠ (TJ0 b).2.1 := by decide +kernel
theorem tyJ0_ok : ∀ k, k < 0 → parseFieldDescriptor (TJ0 k).2.2.1 = some (tyJ0 k) := by decide +kernel
abbrev cJ0_length_8abf5 : ByteArray := prog_17_method_54_code
def yJ0_length_8abf5 : MethodName := ⟨RJ0, "length", "()I"⟩
abbrev cJ0_charAt_5068e : ByteArray := prog_17_method_56_code
def yJ0_charAt_5068e : MethodName := ⟨RJ0, "charAt", "(I)C"⟩
abbrev cJ0_indexOf_0f7a4 : ByteArray := prog_17_method_79_code
def yJ0_indexOf_0f7a4 : MethodName := ⟨RJ0, "indexOf", "(I)I"⟩
abbrev cJ0_indexOf_7cf53 : ByteArray := prog_17_method_80_code
def yJ0_indexOf_7cf53 : MethodName := ⟨RJ0, "indexOf", "(II)I"⟩
abbrev cJ0_coder_7d493 : ByteArray := prog_17_method_152_code
def yJ0_coder_7d493 : MethodName := ⟨RJ0, "coder", "()B"⟩
abbrev cJ0_isLatin1_aae02 : ByteArray := prog_17_method_154_code
def yJ0_isLatin1_aae02 : MethodName := ⟨RJ0, "isLatin1", "()Z"⟩
abbrev cJ0_checkIndex_df160 : ByteArray := prog_17_method_155_code
def yJ0_checkIndex_df160 : MethodName := ⟨RJ0, "checkIndex", "(II)V"⟩
abbrev cJ0_checkBoundsBeginEnd_23922 : ByteArray := prog_17_method_158_code
def yJ0_checkBoundsBeginEnd_23922 : MethodName := ⟨RJ0, "checkBoundsBeginEnd", "(III)V"⟩
def RJ1 : String := "java/lang/StringLatin1"
def TJ1 : u_T := fun k => match k with
  | _ => ("", "", "", false)
def tyJ1 : Nat → FieldType := fun k => match k with
  | _ => .int
abbrev wsJ10 : List Cond := u_ws RJ1 TJ1 0
theorem nmJ1 : ∀ a, a < 0 → ∀ b, b < 0 → a ≠ b → (TJ1 a).2.1 ≠ (TJ1 b).2.1 := by decide +kernel
theorem tyJ1_ok : ∀ k, k < 0 → parseFieldDescriptor (TJ1 k).2.2.1 = some (tyJ1 k) := by decide +kernel
abbrev cJ1_charAt_3b067 : ByteArray := prog_18_method_2_code
def yJ1_charAt_3b067 : MethodName := ⟨RJ1, "charAt", "([BI)C"⟩
abbrev cJ1_canEncode_9a6ad : ByteArray := prog_18_method_4_code
def yJ1_canEncode_9a6ad : MethodName := ⟨RJ1, "canEncode", "(I)Z"⟩
abbrev cJ1_indexOf_4cfef : ByteArray := prog_18_method_22_code
def yJ1_indexOf_4cfef : MethodName := ⟨RJ1, "indexOf", "([BIII)I"⟩
abbrev cJ1_indexOfChar_4cfef : ByteArray := prog_18_method_23_code
def yJ1_indexOfChar_4cfef : MethodName := ⟨RJ1, "indexOfChar", "([BIII)I"⟩
def RJ2 : String := "java/lang/StringUTF16"
def TJ2 : u_T := fun k => match k with
  | _ => ("", "", "", false)
def tyJ2 : Nat → FieldType := fun k => match k with
  | _ => .int
abbrev wsJ20 : List Cond := u_ws RJ2 TJ2 0
theorem nmJ2 : ∀ a, a < 0 → ∀ b, b < 0 → a ≠ b → (TJ2 a).2.1 ≠ (TJ2 b).2.1 := by decide +kernel
theorem tyJ2_ok : ∀ k, k < 0 → parseFieldDescriptor (TJ2 k).2.2.1 = some (tyJ2 k) := by decide +kernel
abbrev cJ2_getChar_3b067 : ByteArray := prog_19_method_5_code
def yJ2_getChar_3b067 : MethodName := ⟨RJ2, "getChar", "([BI)C"⟩
abbrev cJ2_length_9d52b : ByteArray := prog_19_method_6_code
def yJ2_length_9d52b : MethodName := ⟨RJ2, "length", "([B)I"⟩
abbrev cJ2_indexOf_4cfef : ByteArray := prog_19_method_40_code
def yJ2_indexOf_4cfef : MethodName := ⟨RJ2, "indexOf", "([BIII)I"⟩
abbrev cJ2_indexOfChar_4cfef : ByteArray := prog_19_method_47_code
def yJ2_indexOfChar_4cfef : MethodName := ⟨RJ2, "indexOfChar", "([BIII)I"⟩
abbrev cJ2_indexOfCharUnsafe_4cfef : ByteArray := prog_19_method_48_code
def yJ2_indexOfCharUnsafe_4cfef : MethodName := ⟨RJ2, "indexOfCharUnsafe", "([BIII)I"⟩
abbrev cJ2_indexOfSupplementary_4cfef : ByteArray := prog_19_method_49_code
def yJ2_indexOfSupplementary_4cfef : MethodName := ⟨RJ2, "indexOfSupplementary", "([BIII)I"⟩
abbrev cJ2_charAt_3b067 : ByteArray := prog_19_method_83_code
def yJ2_charAt_3b067 : MethodName := ⟨RJ2, "charAt", "([BI)C"⟩
abbrev cJ2_checkIndex_2214a : ByteArray := prog_19_method_91_code
def yJ2_checkIndex_2214a : MethodName := ⟨RJ2, "checkIndex", "(I[B)V"⟩
abbrev cJ2_checkBoundsBeginEnd_d044e : ByteArray := prog_19_method_93_code
def yJ2_checkBoundsBeginEnd_d044e : MethodName := ⟨RJ2, "checkBoundsBeginEnd", "(II[B)V"⟩
def RJ10 : String := "java/lang/System"
def TJ10 : u_T := fun k => match k with
  | _ => ("", "", "", false)
def tyJ10 : Nat → FieldType := fun k => match k with
  | _ => .int
abbrev wsJ100 : List Cond := u_ws RJ10 TJ10 0
theorem nmJ10 : ∀ a, a < 0 → ∀ b, b < 0 → a ≠ b → (TJ10 a).2.1 ≠ (TJ10 b).2.1 := by decide +kernel
theorem tyJ10_ok : ∀ k, k < 0 → parseFieldDescriptor (TJ10 k).2.2.1 = some (tyJ10 k) := by decide +kernel
def RJxfd54e : String := "java/lang/constant/Constable"
def TJxfd54e : u_T := fun k => match k with
  | _ => ("", "", "", false)
def tyJxfd54e : Nat → FieldType := fun k => match k with
  | _ => .int
abbrev wsJxfd54e0 : List Cond := u_ws RJxfd54e TJxfd54e 0
theorem nmJxfd54e : ∀ a, a < 0 → ∀ b, b < 0 → a ≠ b → (TJxfd54e a).2.1 ≠ (TJxfd54e b).2.1 := by decide +kernel
theorem tyJxfd54e_ok : ∀ k, k < 0 → parseFieldDescriptor (TJxfd54e k).2.2.1 = some (tyJxfd54e k) := by decide +kernel
def RJx3cf43 : String := "java/lang/constant/ConstantDesc"
def TJx3cf43 : u_T := fun k => match k with
  | _ => ("", "", "", false)
def tyJx3cf43 : Nat → FieldType := fun k => match k with
  | _ => .int
abbrev wsJx3cf430 : List Cond := u_ws RJx3cf43 TJx3cf43 0
theorem nmJx3cf43 : ∀ a, a < 0 → ∀ b, b < 0 → a ≠ b → (TJx3cf43 a).2.1 ≠ (TJx3cf43 b).2.1 := by decide +kernel
theorem tyJx3cf43_ok : ∀ k, k < 0 → parseFieldDescriptor (TJx3cf43 k).2.2.1 = some (tyJx3cf43 k) := by decide +kernel
def RJ7 : String := "java/util/Arrays"
def TJ7 : u_T := fun k => match k with
  | _ => ("", "", "", false)
def tyJ7 : Nat → FieldType := fun k => match k with
  | _ => .int
abbrev wsJ70 : List Cond := u_ws RJ7 TJ7 0
theorem nmJ7 : ∀ a, a < 0 → ∀ b, b < 0 → a ≠ b → (TJ7 a).2.1 ≠ (TJ7 b).2.1 := by decide +kernel
theorem tyJ7_ok : ∀ k, k < 0 → parseFieldDescriptor (TJ7 k).2.2.1 = some (tyJ7 k) := by decide +kernel
abbrev cJ7_fill_53178 : ByteArray := prog_21_method_103_code
def yJ7_fill_53178 : MethodName := ⟨RJ7, "fill", "([II)V"⟩
def RJ3 : String := "jdk/internal/util/Preconditions"
def TJ3 : u_T := fun k => match k with
  | _ => ("", "", "", false)
def tyJ3 : Nat → FieldType := fun k => match k with
  | _ => .int
abbrev wsJ30 : List Cond := u_ws RJ3 TJ3 0
theorem nmJ3 : ∀ a, a < 0 → ∀ b, b < 0 → a ≠ b → (TJ3 a).2.1 ≠ (TJ3 b).2.1 := by decide +kernel
theorem tyJ3_ok : ∀ k, k < 0 → parseFieldDescriptor (TJ3 k).2.2.1 = some (tyJ3 k) := by decide +kernel
abbrev cJ3_checkIndex_8e157 : ByteArray := prog_22_method_11_code
def yJ3_checkIndex_8e157 : MethodName := ⟨RJ3, "checkIndex", "(IILjava/util/function/BiFunction;)I"⟩
abbrev cJ3_checkFromToIndex_8c36e : ByteArray := prog_22_method_12_code
def yJ3_checkFromToIndex_8c36e : MethodName := ⟨RJ3, "checkFromToIndex", "(IIILjava/util/function/BiFunction;)I"⟩
def RL : String := "CrierOfBoroughLaw"
abbrev cL_law : ByteArray := code
def yL_law : MethodName := ⟨RL, "law", "([I)Z"⟩
abbrev vwCl : List vw_C := [(RX0, TX0, 0), (RX1, TX1, 0), (RX2, TX2, 0), (RX3, TX3, 0), (RX4, TX4, 3), (RX5, TX5, 0), (RX6, TX6, 7), (RX7, TX7, 4), (RX8, TX8, 0), (RX9, TX9, 15), (RX10, TX10, 9), (RX11, TX11, 32)]
def gTB : List Cond := lw_tbl.filter goodWord
theorem gTB_good : ∀ w ∈ gTB, w ∈ lw_tbl ∧ goodWord w = true := fun w h => by
  have := List.mem_filter.mp h
  exact ⟨this.1, this.2⟩
theorem gTB_of {w : Cond} (h : w ∈ lw_tbl) (g : goodWord w = true) : w ∈ gTB := List.mem_filter.mpr ⟨h, g⟩
theorem gTB_GoodIn {w : Cond} (hw : w ∈ gTB) {v : Cond} : GoodIn (v :: gTB) (w :: gTB) := by
  intro x hx
  rcases List.mem_cons.mp hx with rfl | h
  · exact ⟨List.mem_cons_of_mem _ hw, good_of_word (gTB_good _ hw).2⟩
  · exact ⟨List.mem_cons_of_mem _ h, good_of_word (gTB_good _ h).2⟩
