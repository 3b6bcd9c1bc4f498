-- ===== PART A: goes FIRST, ahead of the names: the tables' words, and 'selects' of the private methods out of them =====
/-- a private method of a class that the tables say can be made, by its rows of tables_1 -/
def lw_okq (q : MethodName × Nat) : Prop := (q.1.cls ≠ "java/lang/invoke/MethodHandle" ∧ q.1.cls ≠ "java/lang/invoke/VarHandle") ∧ Cond.instantiable q.1.cls q.2 ∈ tables_1 ∧ Cond.privateMethod q.1 ∈ tables_1 ∧ Cond.instanceMethod q.1 ∈ tables_1
theorem lw_p0 : lw_okq (⟨"BlankRations$Tape", "cut", "()V"⟩, 8) := ⟨⟨by decide +kernel, by decide +kernel⟩, List.mem_of_getElem? (i := 90) (by decide +kernel), List.mem_of_getElem? (i := 252) (by decide +kernel), List.mem_of_getElem? (i := 253) (by decide +kernel)⟩
theorem lw_p1 : lw_okq (⟨"BlankRations$Tape", "cutName", "(I)I"⟩, 8) := ⟨⟨by decide +kernel, by decide +kernel⟩, List.mem_of_getElem? (i := 90) (by decide +kernel), List.mem_of_getElem? (i := 260) (by decide +kernel), List.mem_of_getElem? (i := 261) (by decide +kernel)⟩
theorem lw_p2 : lw_okq (⟨"BlankRations$Tape", "wordAt", "(II)I"⟩, 8) := ⟨⟨by decide +kernel, by decide +kernel⟩, List.mem_of_getElem? (i := 90) (by decide +kernel), List.mem_of_getElem? (i := 264) (by decide +kernel), List.mem_of_getElem? (i := 265) (by decide +kernel)⟩
theorem lw_p3 : lw_okq (⟨"BlankRations$Tape", "isSpelt", "(Ljava/lang/String;II)Z"⟩, 8) := ⟨⟨by decide +kernel, by decide +kernel⟩, List.mem_of_getElem? (i := 90) (by decide +kernel), List.mem_of_getElem? (i := 285) (by decide +kernel), List.mem_of_getElem? (i := 286) (by decide +kernel)⟩
theorem lw_p4 : lw_okq (⟨"BlankRations$Tape", "addToken", "(III)V"⟩, 8) := ⟨⟨by decide +kernel, by decide +kernel⟩, List.mem_of_getElem? (i := 90) (by decide +kernel), List.mem_of_getElem? (i := 337) (by decide +kernel), List.mem_of_getElem? (i := 338) (by decide +kernel)⟩
theorem lw_p5 : lw_okq (⟨"BlankRations$Tape", "cutNumber", "(I)I"⟩, 8) := ⟨⟨by decide +kernel, by decide +kernel⟩, List.mem_of_getElem? (i := 90) (by decide +kernel), List.mem_of_getElem? (i := 344) (by decide +kernel), List.mem_of_getElem? (i := 345) (by decide +kernel)⟩
theorem lw_p6 : lw_okq (⟨"BlankRations$Tape", "tellOne", "(LBlankRations$Office;)V"⟩, 8) := ⟨⟨by decide +kernel, by decide +kernel⟩, List.mem_of_getElem? (i := 90) (by decide +kernel), List.mem_of_getElem? (i := 351) (by decide +kernel), List.mem_of_getElem? (i := 352) (by decide +kernel)⟩
theorem lw_p7 : lw_okq (⟨"BlankRations$Tape", "tellPerson", "(LBlankRations$Office;I)V"⟩, 8) := ⟨⟨by decide +kernel, by decide +kernel⟩, List.mem_of_getElem? (i := 90) (by decide +kernel), List.mem_of_getElem? (i := 358) (by decide +kernel), List.mem_of_getElem? (i := 359) (by decide +kernel)⟩
theorem lw_p8 : lw_okq (⟨"BlankRations$Tape", "numberBehind", "(II)I"⟩, 8) := ⟨⟨by decide +kernel, by decide +kernel⟩, List.mem_of_getElem? (i := 90) (by decide +kernel), List.mem_of_getElem? (i := 362) (by decide +kernel), List.mem_of_getElem? (i := 363) (by decide +kernel)⟩
theorem lw_p9 : lw_okq (⟨"BlankRations$Tape", "numberUpTo", "(I)I"⟩, 8) := ⟨⟨by decide +kernel, by decide +kernel⟩, List.mem_of_getElem? (i := 90) (by decide +kernel), List.mem_of_getElem? (i := 366) (by decide +kernel), List.mem_of_getElem? (i := 367) (by decide +kernel)⟩
theorem lw_p10 : lw_okq (⟨"BlankRations$Tape", "fail", "()V"⟩, 8) := ⟨⟨by decide +kernel, by decide +kernel⟩, List.mem_of_getElem? (i := 90) (by decide +kernel), List.mem_of_getElem? (i := 370) (by decide +kernel), List.mem_of_getElem? (i := 371) (by decide +kernel)⟩
theorem lw_p11 : lw_okq (⟨"BlankRations$Tape", "passSemicolon", "()V"⟩, 8) := ⟨⟨by decide +kernel, by decide +kernel⟩, List.mem_of_getElem? (i := 90) (by decide +kernel), List.mem_of_getElem? (i := 380) (by decide +kernel), List.mem_of_getElem? (i := 381) (by decide +kernel)⟩
theorem lw_p12 : lw_okq (⟨"BlankRations$Office", "think", "()V"⟩, 12) := ⟨⟨by decide +kernel, by decide +kernel⟩, List.mem_of_getElem? (i := 24) (by decide +kernel), List.mem_of_getElem? (i := 463) (by decide +kernel), List.mem_of_getElem? (i := 464) (by decide +kernel)⟩
theorem lw_p13 : lw_okq (⟨"BlankRations$Office", "handOut", "(I)V"⟩, 12) := ⟨⟨by decide +kernel, by decide +kernel⟩, List.mem_of_getElem? (i := 24) (by decide +kernel), List.mem_of_getElem? (i := 470) (by decide +kernel), List.mem_of_getElem? (i := 471) (by decide +kernel)⟩
theorem lw_p14 : lw_okq (⟨"BlankRations$Office", "keenest", "(I)I"⟩, 12) := ⟨⟨by decide +kernel, by decide +kernel⟩, List.mem_of_getElem? (i := 24) (by decide +kernel), List.mem_of_getElem? (i := 474) (by decide +kernel), List.mem_of_getElem? (i := 475) (by decide +kernel)⟩
theorem lw_p15 : lw_okq (⟨"BlankRations$Office", "speak", "()I"⟩, 12) := ⟨⟨by decide +kernel, by decide +kernel⟩, List.mem_of_getElem? (i := 24) (by decide +kernel), List.mem_of_getElem? (i := 478) (by decide +kernel), List.mem_of_getElem? (i := 479) (by decide +kernel)⟩
def lw_privs_1 : List (MethodName × Nat) := [(⟨"BlankRations$Tape", "cut", "()V"⟩, 8), (⟨"BlankRations$Tape", "cutName", "(I)I"⟩, 8), (⟨"BlankRations$Tape", "wordAt", "(II)I"⟩, 8), (⟨"BlankRations$Tape", "isSpelt", "(Ljava/lang/String;II)Z"⟩, 8), (⟨"BlankRations$Tape", "addToken", "(III)V"⟩, 8), (⟨"BlankRations$Tape", "cutNumber", "(I)I"⟩, 8), (⟨"BlankRations$Tape", "tellOne", "(LBlankRations$Office;)V"⟩, 8), (⟨"BlankRations$Tape", "tellPerson", "(LBlankRations$Office;I)V"⟩, 8), (⟨"BlankRations$Tape", "numberBehind", "(II)I"⟩, 8), (⟨"BlankRations$Tape", "numberUpTo", "(I)I"⟩, 8), (⟨"BlankRations$Tape", "fail", "()V"⟩, 8), (⟨"BlankRations$Tape", "passSemicolon", "()V"⟩, 8), (⟨"BlankRations$Office", "think", "()V"⟩, 12), (⟨"BlankRations$Office", "handOut", "(I)V"⟩, 12), (⟨"BlankRations$Office", "keenest", "(I)I"⟩, 12), (⟨"BlankRations$Office", "speak", "()I"⟩, 12)]
theorem lw_r1 : ∀ q ∈ lw_privs_1, lw_okq q := List.forall_mem_cons.mpr ⟨lw_p0, List.forall_mem_cons.mpr ⟨lw_p1, List.forall_mem_cons.mpr ⟨lw_p2, List.forall_mem_cons.mpr ⟨lw_p3, List.forall_mem_cons.mpr ⟨lw_p4, List.forall_mem_cons.mpr ⟨lw_p5, List.forall_mem_cons.mpr ⟨lw_p6, List.forall_mem_cons.mpr ⟨lw_p7, List.forall_mem_cons.mpr ⟨lw_p8, List.forall_mem_cons.mpr ⟨lw_p9, List.forall_mem_cons.mpr ⟨lw_p10, List.forall_mem_cons.mpr ⟨lw_p11, List.forall_mem_cons.mpr ⟨lw_p12, List.forall_mem_cons.mpr ⟨lw_p13, List.forall_mem_cons.mpr ⟨lw_p14, List.forall_mem_cons.mpr ⟨lw_p15, fun _ h => absurd h List.not_mem_nil⟩⟩⟩⟩⟩⟩⟩⟩⟩⟩⟩⟩⟩⟩⟩⟩
theorem lw_p16 : lw_okq (⟨"BlankRations$Office", "draw", "()I"⟩, 12) := ⟨⟨by decide +kernel, by decide +kernel⟩, List.mem_of_getElem? (i := 24) (by decide +kernel), List.mem_of_getElem? (i := 501) (by decide +kernel), List.mem_of_getElem? (i := 502) (by decide +kernel)⟩
theorem lw_p17 : lw_okq (⟨"BlankRations", "trial", "()LBlankRations$Office;"⟩, 11) := ⟨⟨by decide +kernel, by decide +kernel⟩, List.mem_of_getElem? (i := 16) (by decide +kernel), List.mem_of_getElem? (i := 511) (by decide +kernel), List.mem_of_getElem? (i := 512) (by decide +kernel)⟩
theorem lw_p18 : lw_okq (⟨"BlankRations", "leastPacking", "(II)I"⟩, 11) := ⟨⟨by decide +kernel, by decide +kernel⟩, List.mem_of_getElem? (i := 16) (by decide +kernel), List.mem_of_getElem? (i := 572) (by decide +kernel), List.mem_of_getElem? (i := 573) (by decide +kernel)⟩
theorem lw_p19 : lw_okq (⟨"BlankRations", "isTold", "(LBlankRations$Sheet;II)Z"⟩, 11) := ⟨⟨by decide +kernel, by decide +kernel⟩, List.mem_of_getElem? (i := 16) (by decide +kernel), List.mem_of_getElem? (i := 584) (by decide +kernel), List.mem_of_getElem? (i := 585) (by decide +kernel)⟩
theorem lw_p20 : lw_okq (⟨"BlankRations", "isInRow", "(II)Z"⟩, 11) := ⟨⟨by decide +kernel, by decide +kernel⟩, List.mem_of_getElem? (i := 16) (by decide +kernel), List.mem_of_getElem? (i := 615) (by decide +kernel), List.mem_of_getElem? (i := 616) (by decide +kernel)⟩
theorem lw_p21 : lw_okq (⟨"BlankRations$Actor", "thinks", "(I)I"⟩, 6) := ⟨⟨by decide +kernel, by decide +kernel⟩, List.mem_of_getElem? (i := 122) (by decide +kernel), List.mem_of_getElem? (i := 684) (by decide +kernel), List.mem_of_getElem? (i := 685) (by decide +kernel)⟩
theorem lw_p22 : lw_okq (⟨"BlankRations$Actor", "enter", "(I)V"⟩, 6) := ⟨⟨by decide +kernel, by decide +kernel⟩, List.mem_of_getElem? (i := 122) (by decide +kernel), List.mem_of_getElem? (i := 688) (by decide +kernel), List.mem_of_getElem? (i := 689) (by decide +kernel)⟩
theorem lw_p23 : lw_okq (⟨"BlankRations$Actor", "asks", "(I)I"⟩, 6) := ⟨⟨by decide +kernel, by decide +kernel⟩, List.mem_of_getElem? (i := 122) (by decide +kernel), List.mem_of_getElem? (i := 693) (by decide +kernel), List.mem_of_getElem? (i := 694) (by decide +kernel)⟩
theorem lw_p24 : lw_okq (⟨"BlankRations$Actor", "parts", "(I)I"⟩, 6) := ⟨⟨by decide +kernel, by decide +kernel⟩, List.mem_of_getElem? (i := 122) (by decide +kernel), List.mem_of_getElem? (i := 697) (by decide +kernel), List.mem_of_getElem? (i := 698) (by decide +kernel)⟩
theorem lw_p25 : lw_okq (⟨"BlankRations$Actor", "writes", "(I)I"⟩, 6) := ⟨⟨by decide +kernel, by decide +kernel⟩, List.mem_of_getElem? (i := 122) (by decide +kernel), List.mem_of_getElem? (i := 701) (by decide +kernel), List.mem_of_getElem? (i := 702) (by decide +kernel)⟩
theorem lw_p26 : lw_okq (⟨"BlankRationsModel", "advance", "()V"⟩, 30) := ⟨⟨by decide +kernel, by decide +kernel⟩, List.mem_of_getElem? (i := 721) (by decide +kernel), List.mem_of_getElem? (i := 833) (by decide +kernel), List.mem_of_getElem? (i := 834) (by decide +kernel)⟩
theorem lw_p27 : lw_okq (⟨"BlankRationsModel", "byteAt", "(I)I"⟩, 30) := ⟨⟨by decide +kernel, by decide +kernel⟩, List.mem_of_getElem? (i := 721) (by decide +kernel), List.mem_of_getElem? (i := 837) (by decide +kernel), List.mem_of_getElem? (i := 838) (by decide +kernel)⟩
theorem lw_p28 : lw_okq (⟨"BlankRationsModel", "wantClause", "()V"⟩, 30) := ⟨⟨by decide +kernel, by decide +kernel⟩, List.mem_of_getElem? (i := 721) (by decide +kernel), List.mem_of_getElem? (i := 850) (by decide +kernel), List.mem_of_getElem? (i := 851) (by decide +kernel)⟩
theorem lw_p29 : lw_okq (⟨"BlankRationsModel", "lawHere", "()I"⟩, 30) := ⟨⟨by decide +kernel, by decide +kernel⟩, List.mem_of_getElem? (i := 721) (by decide +kernel), List.mem_of_getElem? (i := 854) (by decide +kernel), List.mem_of_getElem? (i := 855) (by decide +kernel)⟩
theorem lw_p30 : lw_okq (⟨"BlankRationsModel", "isWord", "(J)Z"⟩, 30) := ⟨⟨by decide +kernel, by decide +kernel⟩, List.mem_of_getElem? (i := 721) (by decide +kernel), List.mem_of_getElem? (i := 859) (by decide +kernel), List.mem_of_getElem? (i := 860) (by decide +kernel)⟩
theorem lw_p31 : lw_okq (⟨"BlankRationsModel", "kindHere", "()I"⟩, 30) := ⟨⟨by decide +kernel, by decide +kernel⟩, List.mem_of_getElem? (i := 721) (by decide +kernel), List.mem_of_getElem? (i := 866) (by decide +kernel), List.mem_of_getElem? (i := 867) (by decide +kernel)⟩
def lw_privs_2 : List (MethodName × Nat) := [(⟨"BlankRations$Office", "draw", "()I"⟩, 12), (⟨"BlankRations", "trial", "()LBlankRations$Office;"⟩, 11), (⟨"BlankRations", "leastPacking", "(II)I"⟩, 11), (⟨"BlankRations", "isTold", "(LBlankRations$Sheet;II)Z"⟩, 11), (⟨"BlankRations", "isInRow", "(II)Z"⟩, 11), (⟨"BlankRations$Actor", "thinks", "(I)I"⟩, 6), (⟨"BlankRations$Actor", "enter", "(I)V"⟩, 6), (⟨"BlankRations$Actor", "asks", "(I)I"⟩, 6), (⟨"BlankRations$Actor", "parts", "(I)I"⟩, 6), (⟨"BlankRations$Actor", "writes", "(I)I"⟩, 6), (⟨"BlankRationsModel", "advance", "()V"⟩, 30), (⟨"BlankRationsModel", "byteAt", "(I)I"⟩, 30), (⟨"BlankRationsModel", "wantClause", "()V"⟩, 30), (⟨"BlankRationsModel", "lawHere", "()I"⟩, 30), (⟨"BlankRationsModel", "isWord", "(J)Z"⟩, 30), (⟨"BlankRationsModel", "kindHere", "()I"⟩, 30)]
theorem lw_r2 : ∀ q ∈ lw_privs_2, lw_okq q := List.forall_mem_cons.mpr ⟨lw_p16, List.forall_mem_cons.mpr ⟨lw_p17, List.forall_mem_cons.mpr ⟨lw_p18, List.forall_mem_cons.mpr ⟨lw_p19, List.forall_mem_cons.mpr ⟨lw_p20, List.forall_mem_cons.mpr ⟨lw_p21, List.forall_mem_cons.mpr ⟨lw_p22, List.forall_mem_cons.mpr ⟨lw_p23, List.forall_mem_cons.mpr ⟨lw_p24, List.forall_mem_cons.mpr ⟨lw_p25, List.forall_mem_cons.mpr ⟨lw_p26, List.forall_mem_cons.mpr ⟨lw_p27, List.forall_mem_cons.mpr ⟨lw_p28, List.forall_mem_cons.mpr ⟨lw_p29, List.forall_mem_cons.mpr ⟨lw_p30, List.forall_mem_cons.mpr ⟨lw_p31, fun _ h => absurd h List.not_mem_nil⟩⟩⟩⟩⟩⟩⟩⟩⟩⟩⟩⟩⟩⟩⟩⟩
theorem lw_p32 : lw_okq (⟨"BlankRationsModel", "wantOne", "(I)V"⟩, 30) := ⟨⟨by decide +kernel, by decide +kernel⟩, List.mem_of_getElem? (i := 721) (by decide +kernel), List.mem_of_getElem? (i := 876) (by decide +kernel), List.mem_of_getElem? (i := 877) (by decide +kernel)⟩
theorem lw_p33 : lw_okq (⟨"BlankRationsModel", "mayWant", "(JI)I"⟩, 30) := ⟨⟨by decide +kernel, by decide +kernel⟩, List.mem_of_getElem? (i := 721) (by decide +kernel), List.mem_of_getElem? (i := 881) (by decide +kernel), List.mem_of_getElem? (i := 882) (by decide +kernel)⟩
theorem lw_p34 : lw_okq (⟨"BlankRationsModel", "wantNumber", "(II)I"⟩, 30) := ⟨⟨by decide +kernel, by decide +kernel⟩, List.mem_of_getElem? (i := 721) (by decide +kernel), List.mem_of_getElem? (i := 885) (by decide +kernel), List.mem_of_getElem? (i := 886) (by decide +kernel)⟩
theorem lw_p35 : lw_okq (⟨"BlankRationsModel", "wantEnd", "()V"⟩, 30) := ⟨⟨by decide +kernel, by decide +kernel⟩, List.mem_of_getElem? (i := 721) (by decide +kernel), List.mem_of_getElem? (i := 891) (by decide +kernel), List.mem_of_getElem? (i := 892) (by decide +kernel)⟩
theorem lw_p36 : lw_okq (⟨"BlankRationsModel", "isMark", "(I)Z"⟩, 30) := ⟨⟨by decide +kernel, by decide +kernel⟩, List.mem_of_getElem? (i := 721) (by decide +kernel), List.mem_of_getElem? (i := 895) (by decide +kernel), List.mem_of_getElem? (i := 896) (by decide +kernel)⟩
theorem lw_p37 : lw_okq (⟨"BlankRationsModel", "becomes", "(II)I"⟩, 30) := ⟨⟨by decide +kernel, by decide +kernel⟩, List.mem_of_getElem? (i := 721) (by decide +kernel), List.mem_of_getElem? (i := 909) (by decide +kernel), List.mem_of_getElem? (i := 910) (by decide +kernel)⟩
theorem lw_p38 : lw_okq (⟨"BlankRationsModel", "sets", "(III)V"⟩, 30) := ⟨⟨by decide +kernel, by decide +kernel⟩, List.mem_of_getElem? (i := 721) (by decide +kernel), List.mem_of_getElem? (i := 924) (by decide +kernel), List.mem_of_getElem? (i := 925) (by decide +kernel)⟩
theorem lw_p39 : lw_okq (⟨"BlankRationsModel", "isOne", "(I)Z"⟩, 30) := ⟨⟨by decide +kernel, by decide +kernel⟩, List.mem_of_getElem? (i := 721) (by decide +kernel), List.mem_of_getElem? (i := 932) (by decide +kernel), List.mem_of_getElem? (i := 933) (by decide +kernel)⟩
theorem lw_p40 : lw_okq (⟨"BlankRationsModel", "its", "(II)I"⟩, 30) := ⟨⟨by decide +kernel, by decide +kernel⟩, List.mem_of_getElem? (i := 721) (by decide +kernel), List.mem_of_getElem? (i := 936) (by decide +kernel), List.mem_of_getElem? (i := 937) (by decide +kernel)⟩
theorem lw_p41 : lw_okq (⟨"BlankRationsModel", "thinksOf", "(I)I"⟩, 30) := ⟨⟨by decide +kernel, by decide +kernel⟩, List.mem_of_getElem? (i := 721) (by decide +kernel), List.mem_of_getElem? (i := 944) (by decide +kernel), List.mem_of_getElem? (i := 945) (by decide +kernel)⟩
theorem lw_p42 : lw_okq (⟨"BlankRationsModel", "needs", "(I)I"⟩, 30) := ⟨⟨by decide +kernel, by decide +kernel⟩, List.mem_of_getElem? (i := 721) (by decide +kernel), List.mem_of_getElem? (i := 948) (by decide +kernel), List.mem_of_getElem? (i := 949) (by decide +kernel)⟩
theorem lw_p43 : lw_okq (⟨"BlankRationsModel", "says", "(I)I"⟩, 30) := ⟨⟨by decide +kernel, by decide +kernel⟩, List.mem_of_getElem? (i := 721) (by decide +kernel), List.mem_of_getElem? (i := 952) (by decide +kernel), List.mem_of_getElem? (i := 953) (by decide +kernel)⟩
theorem lw_p44 : lw_okq (⟨"BlankRationsModel", "isUsed", "(I)Z"⟩, 30) := ⟨⟨by decide +kernel, by decide +kernel⟩, List.mem_of_getElem? (i := 721) (by decide +kernel), List.mem_of_getElem? (i := 959) (by decide +kernel), List.mem_of_getElem? (i := 960) (by decide +kernel)⟩
theorem lw_p45 : lw_okq (⟨"BlankRationsModel", "weekGoes", "()I"⟩, 30) := ⟨⟨by decide +kernel, by decide +kernel⟩, List.mem_of_getElem? (i := 721) (by decide +kernel), List.mem_of_getElem? (i := 983) (by decide +kernel), List.mem_of_getElem? (i := 984) (by decide +kernel)⟩
theorem lw_p46 : lw_okq (⟨"BlankRationsModel", "pageGoes", "()V"⟩, 30) := ⟨⟨by decide +kernel, by decide +kernel⟩, List.mem_of_getElem? (i := 721) (by decide +kernel), List.mem_of_getElem? (i := 987) (by decide +kernel), List.mem_of_getElem? (i := 988) (by decide +kernel)⟩
theorem lw_p47 : lw_okq (⟨"BlankRationsModel", "next", "()I"⟩, 30) := ⟨⟨by decide +kernel, by decide +kernel⟩, List.mem_of_getElem? (i := 721) (by decide +kernel), List.mem_of_getElem? (i := 991) (by decide +kernel), List.mem_of_getElem? (i := 992) (by decide +kernel)⟩
def lw_privs_3 : List (MethodName × Nat) := [(⟨"BlankRationsModel", "wantOne", "(I)V"⟩, 30), (⟨"BlankRationsModel", "mayWant", "(JI)I"⟩, 30), (⟨"BlankRationsModel", "wantNumber", "(II)I"⟩, 30), (⟨"BlankRationsModel", "wantEnd", "()V"⟩, 30), (⟨"BlankRationsModel", "isMark", "(I)Z"⟩, 30), (⟨"BlankRationsModel", "becomes", "(II)I"⟩, 30), (⟨"BlankRationsModel", "sets", "(III)V"⟩, 30), (⟨"BlankRationsModel", "isOne", "(I)Z"⟩, 30), (⟨"BlankRationsModel", "its", "(II)I"⟩, 30), (⟨"BlankRationsModel", "thinksOf", "(I)I"⟩, 30), (⟨"BlankRationsModel", "needs", "(I)I"⟩, 30), (⟨"BlankRationsModel", "says", "(I)I"⟩, 30), (⟨"BlankRationsModel", "isUsed", "(I)Z"⟩, 30), (⟨"BlankRationsModel", "weekGoes", "()I"⟩, 30), (⟨"BlankRationsModel", "pageGoes", "()V"⟩, 30), (⟨"BlankRationsModel", "next", "()I"⟩, 30)]
theorem lw_r3 : ∀ q ∈ lw_privs_3, lw_okq q := List.forall_mem_cons.mpr ⟨lw_p32, List.forall_mem_cons.mpr ⟨lw_p33, List.forall_mem_cons.mpr ⟨lw_p34, List.forall_mem_cons.mpr ⟨lw_p35, List.forall_mem_cons.mpr ⟨lw_p36, List.forall_mem_cons.mpr ⟨lw_p37, List.forall_mem_cons.mpr ⟨lw_p38, List.forall_mem_cons.mpr ⟨lw_p39, List.forall_mem_cons.mpr ⟨lw_p40, List.forall_mem_cons.mpr ⟨lw_p41, List.forall_mem_cons.mpr ⟨lw_p42, List.forall_mem_cons.mpr ⟨lw_p43, List.forall_mem_cons.mpr ⟨lw_p44, List.forall_mem_cons.mpr ⟨lw_p45, List.forall_mem_cons.mpr ⟨lw_p46, List.forall_mem_cons.mpr ⟨lw_p47, fun _ h => absurd h List.not_mem_nil⟩⟩⟩⟩⟩⟩⟩⟩⟩⟩⟩⟩⟩⟩⟩⟩
theorem lw_p48 : lw_okq (⟨"BlankRationsModel", "isReady", "(I)Z"⟩, 30) := ⟨⟨by decide +kernel, by decide +kernel⟩, List.mem_of_getElem? (i := 721) (by decide +kernel), List.mem_of_getElem? (i := 995) (by decide +kernel), List.mem_of_getElem? (i := 996) (by decide +kernel)⟩
theorem lw_p49 : lw_okq (⟨"BlankRationsModel", "writes", "(I)I"⟩, 30) := ⟨⟨by decide +kernel, by decide +kernel⟩, List.mem_of_getElem? (i := 721) (by decide +kernel), List.mem_of_getElem? (i := 999) (by decide +kernel), List.mem_of_getElem? (i := 1000) (by decide +kernel)⟩
theorem lw_p50 : lw_okq (⟨"BlankRationsModel", "sumOf", "(I)I"⟩, 30) := ⟨⟨by decide +kernel, by decide +kernel⟩, List.mem_of_getElem? (i := 721) (by decide +kernel), List.mem_of_getElem? (i := 1004) (by decide +kernel), List.mem_of_getElem? (i := 1005) (by decide +kernel)⟩
theorem lw_p51 : lw_okq (⟨"BlankRationsModel", "weekByDraws", "()I"⟩, 30) := ⟨⟨by decide +kernel, by decide +kernel⟩, List.mem_of_getElem? (i := 721) (by decide +kernel), List.mem_of_getElem? (i := 1016) (by decide +kernel), List.mem_of_getElem? (i := 1017) (by decide +kernel)⟩
theorem lw_p52 : lw_okq (⟨"BlankRationsModel", "drawn", "()I"⟩, 30) := ⟨⟨by decide +kernel, by decide +kernel⟩, List.mem_of_getElem? (i := 721) (by decide +kernel), List.mem_of_getElem? (i := 1020) (by decide +kernel), List.mem_of_getElem? (i := 1021) (by decide +kernel)⟩
theorem lw_p53 : lw_okq (⟨"BlankRationsModel", "wordsBehind", "(I)I"⟩, 30) := ⟨⟨by decide +kernel, by decide +kernel⟩, List.mem_of_getElem? (i := 721) (by decide +kernel), List.mem_of_getElem? (i := 1029) (by decide +kernel), List.mem_of_getElem? (i := 1030) (by decide +kernel)⟩
theorem lw_p54 : lw_okq (⟨"BlankRationsModel", "readySet", "()I"⟩, 30) := ⟨⟨by decide +kernel, by decide +kernel⟩, List.mem_of_getElem? (i := 721) (by decide +kernel), List.mem_of_getElem? (i := 1037) (by decide +kernel), List.mem_of_getElem? (i := 1038) (by decide +kernel)⟩
theorem lw_p55 : lw_okq (⟨"BlankRationsModel", "thoughtOf", "(I)I"⟩, 30) := ⟨⟨by decide +kernel, by decide +kernel⟩, List.mem_of_getElem? (i := 721) (by decide +kernel), List.mem_of_getElem? (i := 1080) (by decide +kernel), List.mem_of_getElem? (i := 1081) (by decide +kernel)⟩
theorem lw_p56 : lw_okq (⟨"BlankRationsModel", "isSo", "(I)Z"⟩, 30) := ⟨⟨by decide +kernel, by decide +kernel⟩, List.mem_of_getElem? (i := 721) (by decide +kernel), List.mem_of_getElem? (i := 1091) (by decide +kernel), List.mem_of_getElem? (i := 1092) (by decide +kernel)⟩
theorem lw_p57 : lw_okq (⟨"BlankRationsModel", "findRows", "(II)V"⟩, 30) := ⟨⟨by decide +kernel, by decide +kernel⟩, List.mem_of_getElem? (i := 721) (by decide +kernel), List.mem_of_getElem? (i := 1114) (by decide +kernel), List.mem_of_getElem? (i := 1115) (by decide +kernel)⟩
theorem lw_p58 : lw_okq (⟨"BlankRationsModel", "isRow", "(II)Z"⟩, 30) := ⟨⟨by decide +kernel, by decide +kernel⟩, List.mem_of_getElem? (i := 721) (by decide +kernel), List.mem_of_getElem? (i := 1122) (by decide +kernel), List.mem_of_getElem? (i := 1123) (by decide +kernel)⟩
theorem lw_p59 : lw_okq (⟨"BlankRationsModel", "lacksSort", "(II)I"⟩, 30) := ⟨⟨by decide +kernel, by decide +kernel⟩, List.mem_of_getElem? (i := 721) (by decide +kernel), List.mem_of_getElem? (i := 1138) (by decide +kernel), List.mem_of_getElem? (i := 1139) (by decide +kernel)⟩
theorem lw_p60 : lw_okq (⟨"BlankRationsModel", "isHeld", "(II)Z"⟩, 30) := ⟨⟨by decide +kernel, by decide +kernel⟩, List.mem_of_getElem? (i := 721) (by decide +kernel), List.mem_of_getElem? (i := 1158) (by decide +kernel), List.mem_of_getElem? (i := 1159) (by decide +kernel)⟩
theorem lw_p61 : lw_okq (⟨"BlankRationsModel", "kindOn", "(I)I"⟩, 30) := ⟨⟨by decide +kernel, by decide +kernel⟩, List.mem_of_getElem? (i := 721) (by decide +kernel), List.mem_of_getElem? (i := 1166) (by decide +kernel), List.mem_of_getElem? (i := 1167) (by decide +kernel)⟩
theorem lw_p62 : lw_okq (⟨"BlankRationsModel", "thinksIt", "(I)I"⟩, 30) := ⟨⟨by decide +kernel, by decide +kernel⟩, List.mem_of_getElem? (i := 721) (by decide +kernel), List.mem_of_getElem? (i := 1177) (by decide +kernel), List.mem_of_getElem? (i := 1178) (by decide +kernel)⟩
theorem lw_p63 : lw_okq (⟨"BlankRationsModel", "widowThinks", "(I)I"⟩, 30) := ⟨⟨by decide +kernel, by decide +kernel⟩, List.mem_of_getElem? (i := 721) (by decide +kernel), List.mem_of_getElem? (i := 1181) (by decide +kernel), List.mem_of_getElem? (i := 1182) (by decide +kernel)⟩
def lw_privs_4 : List (MethodName × Nat) := [(⟨"BlankRationsModel", "isReady", "(I)Z"⟩, 30), (⟨"BlankRationsModel", "writes", "(I)I"⟩, 30), (⟨"BlankRationsModel", "sumOf", "(I)I"⟩, 30), (⟨"BlankRationsModel", "weekByDraws", "()I"⟩, 30), (⟨"BlankRationsModel", "drawn", "()I"⟩, 30), (⟨"BlankRationsModel", "wordsBehind", "(I)I"⟩, 30), (⟨"BlankRationsModel", "readySet", "()I"⟩, 30), (⟨"BlankRationsModel", "thoughtOf", "(I)I"⟩, 30), (⟨"BlankRationsModel", "isSo", "(I)Z"⟩, 30), (⟨"BlankRationsModel", "findRows", "(II)V"⟩, 30), (⟨"BlankRationsModel", "isRow", "(II)Z"⟩, 30), (⟨"BlankRationsModel", "lacksSort", "(II)I"⟩, 30), (⟨"BlankRationsModel", "isHeld", "(II)Z"⟩, 30), (⟨"BlankRationsModel", "kindOn", "(I)I"⟩, 30), (⟨"BlankRationsModel", "thinksIt", "(I)I"⟩, 30), (⟨"BlankRationsModel", "widowThinks", "(I)I"⟩, 30)]
theorem lw_r4 : ∀ q ∈ lw_privs_4, lw_okq q := List.forall_mem_cons.mpr ⟨lw_p48, List.forall_mem_cons.mpr ⟨lw_p49, List.forall_mem_cons.mpr ⟨lw_p50, List.forall_mem_cons.mpr ⟨lw_p51, List.forall_mem_cons.mpr ⟨lw_p52, List.forall_mem_cons.mpr ⟨lw_p53, List.forall_mem_cons.mpr ⟨lw_p54, List.forall_mem_cons.mpr ⟨lw_p55, List.forall_mem_cons.mpr ⟨lw_p56, List.forall_mem_cons.mpr ⟨lw_p57, List.forall_mem_cons.mpr ⟨lw_p58, List.forall_mem_cons.mpr ⟨lw_p59, List.forall_mem_cons.mpr ⟨lw_p60, List.forall_mem_cons.mpr ⟨lw_p61, List.forall_mem_cons.mpr ⟨lw_p62, List.forall_mem_cons.mpr ⟨lw_p63, fun _ h => absurd h List.not_mem_nil⟩⟩⟩⟩⟩⟩⟩⟩⟩⟩⟩⟩⟩⟩⟩⟩
theorem lw_p64 : lw_okq (⟨"BlankRationsModel", "ran", "(I)V"⟩, 30) := ⟨⟨by decide +kernel, by decide +kernel⟩, List.mem_of_getElem? (i := 721) (by decide +kernel), List.mem_of_getElem? (i := 1185) (by decide +kernel), List.mem_of_getElem? (i := 1186) (by decide +kernel)⟩
theorem lw_p65 : lw_okq (⟨"BlankRationsModel", "plainThinks", "(I)I"⟩, 30) := ⟨⟨by decide +kernel, by decide +kernel⟩, List.mem_of_getElem? (i := 721) (by decide +kernel), List.mem_of_getElem? (i := 1189) (by decide +kernel), List.mem_of_getElem? (i := 1190) (by decide +kernel)⟩
theorem lw_p66 : lw_okq (⟨"BlankRationsModel", "asksIt", "(I)I"⟩, 30) := ⟨⟨by decide +kernel, by decide +kernel⟩, List.mem_of_getElem? (i := 721) (by decide +kernel), List.mem_of_getElem? (i := 1193) (by decide +kernel), List.mem_of_getElem? (i := 1194) (by decide +kernel)⟩
theorem lw_p67 : lw_okq (⟨"BlankRationsModel", "plainAsks", "(I)I"⟩, 30) := ⟨⟨by decide +kernel, by decide +kernel⟩, List.mem_of_getElem? (i := 721) (by decide +kernel), List.mem_of_getElem? (i := 1197) (by decide +kernel), List.mem_of_getElem? (i := 1198) (by decide +kernel)⟩
theorem lw_p68 : lw_okq (⟨"BlankRationsModel", "partsIt", "(I)I"⟩, 30) := ⟨⟨by decide +kernel, by decide +kernel⟩, List.mem_of_getElem? (i := 721) (by decide +kernel), List.mem_of_getElem? (i := 1201) (by decide +kernel), List.mem_of_getElem? (i := 1202) (by decide +kernel)⟩
theorem lw_p69 : lw_okq (⟨"BlankRationsModel", "plainParts", "(I)I"⟩, 30) := ⟨⟨by decide +kernel, by decide +kernel⟩, List.mem_of_getElem? (i := 721) (by decide +kernel), List.mem_of_getElem? (i := 1205) (by decide +kernel), List.mem_of_getElem? (i := 1206) (by decide +kernel)⟩
theorem lw_p70 : lw_okq (⟨"BlankRationsModel", "writesIt", "(I)I"⟩, 30) := ⟨⟨by decide +kernel, by decide +kernel⟩, List.mem_of_getElem? (i := 721) (by decide +kernel), List.mem_of_getElem? (i := 1209) (by decide +kernel), List.mem_of_getElem? (i := 1210) (by decide +kernel)⟩
theorem lw_p71 : lw_okq (⟨"BlankRationsModel", "plainWrites", "(I)I"⟩, 30) := ⟨⟨by decide +kernel, by decide +kernel⟩, List.mem_of_getElem? (i := 721) (by decide +kernel), List.mem_of_getElem? (i := 1213) (by decide +kernel), List.mem_of_getElem? (i := 1214) (by decide +kernel)⟩
theorem lw_p72 : lw_okq (⟨"BlankRationsModel", "manyWith", "(I)I"⟩, 30) := ⟨⟨by decide +kernel, by decide +kernel⟩, List.mem_of_getElem? (i := 721) (by decide +kernel), List.mem_of_getElem? (i := 1225) (by decide +kernel), List.mem_of_getElem? (i := 1226) (by decide +kernel)⟩
def lw_privs_5 : List (MethodName × Nat) := [(⟨"BlankRationsModel", "ran", "(I)V"⟩, 30), (⟨"BlankRationsModel", "plainThinks", "(I)I"⟩, 30), (⟨"BlankRationsModel", "asksIt", "(I)I"⟩, 30), (⟨"BlankRationsModel", "plainAsks", "(I)I"⟩, 30), (⟨"BlankRationsModel", "partsIt", "(I)I"⟩, 30), (⟨"BlankRationsModel", "plainParts", "(I)I"⟩, 30), (⟨"BlankRationsModel", "writesIt", "(I)I"⟩, 30), (⟨"BlankRationsModel", "plainWrites", "(I)I"⟩, 30), (⟨"BlankRationsModel", "manyWith", "(I)I"⟩, 30)]
theorem lw_r5 : ∀ q ∈ lw_privs_5, lw_okq q := List.forall_mem_cons.mpr ⟨lw_p64, List.forall_mem_cons.mpr ⟨lw_p65, List.forall_mem_cons.mpr ⟨lw_p66, List.forall_mem_cons.mpr ⟨lw_p67, List.forall_mem_cons.mpr ⟨lw_p68, List.forall_mem_cons.mpr ⟨lw_p69, List.forall_mem_cons.mpr ⟨lw_p70, List.forall_mem_cons.mpr ⟨lw_p71, List.forall_mem_cons.mpr ⟨lw_p72, fun _ h => absurd h List.not_mem_nil⟩⟩⟩⟩⟩⟩⟩⟩⟩
def lw_privs : List (MethodName × Nat) := lw_privs_1 ++ (lw_privs_2 ++ (lw_privs_3 ++ (lw_privs_4 ++ (lw_privs_5))))
def lw_tbl : List Cond := k2_sels lw_privs ++ tables_1
theorem lw_privs_ok : ∀ q ∈ lw_privs, lw_okq q := by
  show ∀ q ∈ lw_privs_1 ++ (lw_privs_2 ++ (lw_privs_3 ++ (lw_privs_4 ++ (lw_privs_5)))), lw_okq q
  exact List.forall_mem_append.mpr ⟨lw_r1, List.forall_mem_append.mpr ⟨lw_r2, List.forall_mem_append.mpr ⟨lw_r3, List.forall_mem_append.mpr ⟨lw_r4, lw_r5⟩⟩⟩⟩
-- names: a program laid these rows out of the printed names
def RX0 : String := "BlankRations$Actor"
def TX0 : u_T := fun k => match k with
  | 0 => ("BlankRations$Actor", "bodies", "[I", true)
  | 1 => ("BlankRations$Actor", "ran", "I", false)
  | 2 => ("BlankRations$Actor", "isStopped", "Z", false)
  | 3 => ("BlankRations$Actor", "kind", "I", false)
  | 4 => ("BlankRations$Actor", "number", "I", false)
  | _ => ("BlankRations$Actor", "hand", "I", false)
def tyX0 : Nat → FieldType := fun k => match k with
  | 0 => .array .int
  | 1 => .int
  | 2 => .boolean
  | 3 => .int
  | 4 => .int
  | _ => .int
abbrev wsX00 : List Cond := u_ws RX0 TX0 6
theorem nmX0 : ∀ a, a < 6 → ∀ b, b < 6 → a ≠ b → (TX0 a).2.1 ≠ (TX0 b).2.1 := by decide +kernel
theorem tyX0_ok : ∀ k, k < 6 → parseFieldDescriptor (TX0 k).2.2.1 = some (tyX0 k) := by decide +kernel
abbrev cX0_init : ByteArray := prog_2_method_1_code
def yX0_init : MethodName := ⟨RX0, "<init>", "()V"⟩
abbrev cX0_forget : ByteArray := prog_2_method_2_code
def yX0_forget : MethodName := ⟨RX0, "forget", "()V"⟩
abbrev cX0_play : ByteArray := prog_2_method_3_code
def yX0_play : MethodName := ⟨RX0, "play", "(III)V"⟩
abbrev cX0_perform : ByteArray := prog_2_method_4_code
def yX0_perform : MethodName := ⟨RX0, "perform", "(II)I"⟩
abbrev cX0_enter : ByteArray := prog_2_method_5_code
def yX0_enter : MethodName := ⟨RX0, "enter", "(I)V"⟩
abbrev cX0_thinks : ByteArray := prog_2_method_6_code
def yX0_thinks : MethodName := ⟨RX0, "thinks", "(I)I"⟩
abbrev cX0_asks : ByteArray := prog_2_method_7_code
def yX0_asks : MethodName := ⟨RX0, "asks", "(I)I"⟩
abbrev cX0_parts : ByteArray := prog_2_method_8_code
def yX0_parts : MethodName := ⟨RX0, "parts", "(I)I"⟩
abbrev cX0_writes : ByteArray := prog_2_method_9_code
def yX0_writes : MethodName := ⟨RX0, "writes", "(I)I"⟩
def RX1 : String := "BlankRations$Office"
def TX1 : u_T := fun k => match k with
  | 0 => ("BlankRations$Office", "laws", "[I", true)
  | 1 => ("BlankRations$Office", "kinds", "[I", true)
  | 2 => ("BlankRations$Office", "thoughts", "[I", true)
  | 3 => ("BlankRations$Office", "hands", "[I", true)
  | 4 => ("BlankRations$Office", "pages", "[I", true)
  | 5 => ("BlankRations$Office", "gots", "[I", true)
  | 6 => ("BlankRations$Office", "saids", "[I", true)
  | 7 => ("BlankRations$Office", "needs", "[I", true)
  | 8 => ("BlankRations$Office", "count", "I", false)
  | 9 => ("BlankRations$Office", "week", "I", false)
  | 10 => ("BlankRations$Office", "back", "I", false)
  | _ => ("BlankRations$Office", "z", "I", false)
def tyX1 : Nat → FieldType := fun k => match k with
  | 0 => .array .int
  | 1 => .array .int
  | 2 => .array .int
  | 3 => .array .int
  | 4 => .array .int
  | 5 => .array .int
  | 6 => .array .int
  | 7 => .array .int
  | 8 => .int
  | 9 => .int
  | 10 => .int
  | _ => .int
abbrev wsX10 : List Cond := u_ws RX1 TX1 12
theorem nmX1 : ∀ a, a < 12 → ∀ b, b < 12 → a ≠ b → (TX1 a).2.1 ≠ (TX1 b).2.1 := by decide +kernel
theorem tyX1_ok : ∀ k, k < 12 → parseFieldDescriptor (TX1 k).2.2.1 = some (tyX1 k) := by decide +kernel
abbrev cX1_init : ByteArray := prog_3_method_1_code
def yX1_init : MethodName := ⟨RX1, "<init>", "()V"⟩
abbrev cX1_begin : ByteArray := prog_3_method_2_code
def yX1_begin : MethodName := ⟨RX1, "begin", "()V"⟩
abbrev cX1_become : ByteArray := prog_3_method_3_code
def yX1_become : MethodName := ⟨RX1, "become", "(LBlankRations$Office;)V"⟩
abbrev cX1_add : ByteArray := prog_3_method_4_code
def yX1_add : MethodName := ⟨RX1, "add", "(IIII)V"⟩
abbrev cX1_has : ByteArray := prog_3_method_5_code
def yX1_has : MethodName := ⟨RX1, "has", "(I)Z"⟩
abbrev cX1_sumOf : ByteArray := prog_3_method_6_code
def yX1_sumOf : MethodName := ⟨RX1, "sumOf", "([I)I"⟩
abbrev cX1_countOf : ByteArray := prog_3_method_7_code
def yX1_countOf : MethodName := ⟨RX1, "countOf", "([I)I"⟩
abbrev cX1_readySet : ByteArray := prog_3_method_8_code
def yX1_readySet : MethodName := ⟨RX1, "readySet", "()I"⟩
abbrev cX1_thinking : ByteArray := prog_3_method_9_code
def yX1_thinking : MethodName := ⟨RX1, "thinking", "(I)I"⟩
abbrev cX1_needing : ByteArray := prog_3_method_10_code
def yX1_needing : MethodName := ⟨RX1, "needing", "(I)I"⟩
abbrev cX1_saying : ByteArray := prog_3_method_11_code
def yX1_saying : MethodName := ⟨RX1, "saying", "(I)I"⟩
abbrev cX1_isUsing : ByteArray := prog_3_method_12_code
def yX1_isUsing : MethodName := ⟨RX1, "isUsing", "(I)Z"⟩
abbrev cX1_passWeek : ByteArray := prog_3_method_13_code
def yX1_passWeek : MethodName := ⟨RX1, "passWeek", "(I)I"⟩
abbrev cX1_passWeekByDraws : ByteArray := prog_3_method_14_code
def yX1_passWeekByDraws : MethodName := ⟨RX1, "passWeekByDraws", "()I"⟩
abbrev cX1_draw : ByteArray := prog_3_method_15_code
def yX1_draw : MethodName := ⟨RX1, "draw", "()I"⟩
abbrev cX1_think : ByteArray := prog_3_method_16_code
def yX1_think : MethodName := ⟨RX1, "think", "()V"⟩
abbrev cX1_handOut : ByteArray := prog_3_method_17_code
def yX1_handOut : MethodName := ⟨RX1, "handOut", "(I)V"⟩
abbrev cX1_keenest : ByteArray := prog_3_method_18_code
def yX1_keenest : MethodName := ⟨RX1, "keenest", "(I)I"⟩
abbrev cX1_speak : ByteArray := prog_3_method_19_code
def yX1_speak : MethodName := ⟨RX1, "speak", "()I"⟩
def RX2 : String := "BlankRations$Sheet"
def TX2 : u_T := fun k => match k with
  | 0 => ("BlankRations$Sheet", "items", "[J", true)
  | 1 => ("BlankRations$Sheet", "sort", "I", false)
  | _ => ("BlankRations$Sheet", "size", "I", false)
def tyX2 : Nat → FieldType := fun k => match k with
  | 0 => .array .long
  | 1 => .int
  | _ => .int
abbrev wsX20 : List Cond := u_ws RX2 TX2 3
theorem nmX2 : ∀ a, a < 3 → ∀ b, b < 3 → a ≠ b → (TX2 a).2.1 ≠ (TX2 b).2.1 := by decide +kernel
theorem tyX2_ok : ∀ k, k < 3 → parseFieldDescriptor (TX2 k).2.2.1 = some (tyX2 k) := by decide +kernel
abbrev cX2_init : ByteArray := prog_4_method_1_code
def yX2_init : MethodName := ⟨RX2, "<init>", "()V"⟩
abbrev cX2_begin : ByteArray := prog_4_method_2_code
def yX2_begin : MethodName := ⟨RX2, "begin", "(II)V"⟩
def RX3 : String := "BlankRations$Shelf"
def TX3 : u_T := fun k => match k with
  | 0 => ("BlankRations$Shelf", "what", "I", false)
  | 1 => ("BlankRations$Shelf", "number", "I", false)
  | 2 => ("BlankRations$Shelf", "sort", "I", false)
  | _ => ("BlankRations$Shelf", "size", "I", false)
def tyX3 : Nat → FieldType := fun k => match k with
  | 0 => .int
  | 1 => .int
  | 2 => .int
  | _ => .int
abbrev wsX30 : List Cond := u_ws RX3 TX3 4
theorem nmX3 : ∀ a, a < 4 → ∀ b, b < 4 → a ≠ b → (TX3 a).2.1 ≠ (TX3 b).2.1 := by decide +kernel
theorem tyX3_ok : ∀ k, k < 4 → parseFieldDescriptor (TX3 k).2.2.1 = some (tyX3 k) := by decide +kernel
abbrev cX3_init : ByteArray := prog_5_method_1_code
def yX3_init : MethodName := ⟨RX3, "<init>", "()V"⟩
abbrev cX3_holdPerson : ByteArray := prog_5_method_2_code
def yX3_holdPerson : MethodName := ⟨RX3, "holdPerson", "(I)V"⟩
abbrev cX3_holdRow : ByteArray := prog_5_method_3_code
def yX3_holdRow : MethodName := ⟨RX3, "holdRow", "(LBlankRations$Sheet;)V"⟩
def RX4 : String := "BlankRations$Tape"
def TX4 : u_T := fun k => match k with
  | 0 => ("BlankRations$Tape", "bytes", "[I", true)
  | 1 => ("BlankRations$Tape", "sorts", "[I", true)
  | 2 => ("BlankRations$Tape", "values", "[I", true)
  | 3 => ("BlankRations$Tape", "starts", "[I", true)
  | 4 => ("BlankRations$Tape", "tokens", "I", false)
  | 5 => ("BlankRations$Tape", "at", "I", false)
  | 6 => ("BlankRations$Tape", "fault", "I", false)
  | _ => ("BlankRations$Tape", "size", "I", false)
def tyX4 : Nat → FieldType := fun k => match k with
  | 0 => .array .int
  | 1 => .array .int
  | 2 => .array .int
  | 3 => .array .int
  | 4 => .int
  | 5 => .int
  | 6 => .int
  | _ => .int
abbrev wsX40 : List Cond := u_ws RX4 TX4 8
theorem nmX4 : ∀ a, a < 8 → ∀ b, b < 8 → a ≠ b → (TX4 a).2.1 ≠ (TX4 b).2.1 := by decide +kernel
theorem tyX4_ok : ∀ k, k < 8 → parseFieldDescriptor (TX4 k).2.2.1 = some (tyX4 k) := by decide +kernel
abbrev cX4_init : ByteArray := prog_6_method_1_code
def yX4_init : MethodName := ⟨RX4, "<init>", "()V"⟩
abbrev cX4_take : ByteArray := prog_6_method_2_code
def yX4_take : MethodName := ⟨RX4, "take", "(JI)Z"⟩
abbrev cX4_tell : ByteArray := prog_6_method_3_code
def yX4_tell : MethodName := ⟨RX4, "tell", "(LBlankRations$Office;)I"⟩
abbrev cX4_cut : ByteArray := prog_6_method_4_code
def yX4_cut : MethodName := ⟨RX4, "cut", "()V"⟩
abbrev cX4_cutName : ByteArray := prog_6_method_5_code
def yX4_cutName : MethodName := ⟨RX4, "cutName", "(I)I"⟩
abbrev cX4_cutNumber : ByteArray := prog_6_method_6_code
def yX4_cutNumber : MethodName := ⟨RX4, "cutNumber", "(I)I"⟩
abbrev cX4_addToken : ByteArray := prog_6_method_7_code
def yX4_addToken : MethodName := ⟨RX4, "addToken", "(III)V"⟩
abbrev cX4_wordAt : ByteArray := prog_6_method_8_code
def yX4_wordAt : MethodName := ⟨RX4, "wordAt", "(II)I"⟩
abbrev cX4_isSpelt : ByteArray := prog_6_method_9_code
def yX4_isSpelt : MethodName := ⟨RX4, "isSpelt", "(Ljava/lang/String;II)Z"⟩
abbrev cX4_spelling : ByteArray := prog_6_method_10_code
def yX4_spelling : MethodName := ⟨RX4, "spelling", "(I)Ljava/lang/String;"⟩
abbrev cX4_isLetter : ByteArray := prog_6_method_11_code
def yX4_isLetter : MethodName := ⟨RX4, "isLetter", "(I)Z"⟩
abbrev cX4_isDigit : ByteArray := prog_6_method_12_code
def yX4_isDigit : MethodName := ⟨RX4, "isDigit", "(I)Z"⟩
abbrev cX4_tellOne : ByteArray := prog_6_method_13_code
def yX4_tellOne : MethodName := ⟨RX4, "tellOne", "(LBlankRations$Office;)V"⟩
abbrev cX4_tellPerson : ByteArray := prog_6_method_14_code
def yX4_tellPerson : MethodName := ⟨RX4, "tellPerson", "(LBlankRations$Office;I)V"⟩
abbrev cX4_numberBehind : ByteArray := prog_6_method_15_code
def yX4_numberBehind : MethodName := ⟨RX4, "numberBehind", "(II)I"⟩
abbrev cX4_numberUpTo : ByteArray := prog_6_method_16_code
def yX4_numberUpTo : MethodName := ⟨RX4, "numberUpTo", "(I)I"⟩
abbrev cX4_passSemicolon : ByteArray := prog_6_method_17_code
def yX4_passSemicolon : MethodName := ⟨RX4, "passSemicolon", "()V"⟩
abbrev cX4_fail : ByteArray := prog_6_method_18_code
def yX4_fail : MethodName := ⟨RX4, "fail", "()V"⟩
def RX5 : String := "BlankRations"
def TX5 : u_T := fun k => match k with
  | 0 => ("BlankRations", "now", "LBlankRations$Office;", true)
  | 1 => ("BlankRations", "kept", "LBlankRations$Office;", true)
  | 2 => ("BlankRations", "tried", "LBlankRations$Office;", true)
  | 3 => ("BlankRations", "tape", "LBlankRations$Tape;", true)
  | 4 => ("BlankRations", "actor", "LBlankRations$Actor;", true)
  | 5 => ("BlankRations", "sheets", "[LBlankRations$Sheet;", true)
  | 6 => ("BlankRations", "shelves", "[LBlankRations$Shelf;", true)
  | 7 => ("BlankRations", "rows", "[I", true)
  | 8 => ("BlankRations", "packings", "[I", true)
  | 9 => ("BlankRations", "rowCount", "I", false)
  | _ => ("BlankRations", "isKept", "Z", false)
def tyX5 : Nat → FieldType := fun k => match k with
  | 0 => .object "BlankRations$Office"
  | 1 => .object "BlankRations$Office"
  | 2 => .object "BlankRations$Office"
  | 3 => .object "BlankRations$Tape"
  | 4 => .object "BlankRations$Actor"
  | 5 => .array (.object "BlankRations$Sheet")
  | 6 => .array (.object "BlankRations$Shelf")
  | 7 => .array .int
  | 8 => .array .int
  | 9 => .int
  | _ => .boolean
abbrev wsX50 : List Cond := u_ws RX5 TX5 11
theorem nmX5 : ∀ a, a < 11 → ∀ b, b < 11 → a ≠ b → (TX5 a).2.1 ≠ (TX5 b).2.1 := by decide +kernel
theorem tyX5_ok : ∀ k, k < 11 → parseFieldDescriptor (TX5 k).2.2.1 = some (tyX5 k) := by decide +kernel
abbrev cX5_init : ByteArray := prog_1_method_1_code
def yX5_init : MethodName := ⟨RX5, "<init>", "()V"⟩
abbrev cX5_feed : ByteArray := prog_1_method_2_code
def yX5_feed : MethodName := ⟨RX5, "feed", "(JI)I"⟩
abbrev cX5_post : ByteArray := prog_1_method_3_code
def yX5_post : MethodName := ⟨RX5, "post", "()I"⟩
abbrev cX5_set : ByteArray := prog_1_method_4_code
def yX5_set : MethodName := ⟨RX5, "set", "(II)I"⟩
abbrev cX5_lawOf : ByteArray := prog_1_method_5_code
def yX5_lawOf : MethodName := ⟨RX5, "lawOf", "(I)I"⟩
abbrev cX5_person : ByteArray := prog_1_method_6_code
def yX5_person : MethodName := ⟨RX5, "person", "(IIII)I"⟩
abbrev cX5_of : ByteArray := prog_1_method_7_code
def yX5_of : MethodName := ⟨RX5, "of", "(II)I"⟩
abbrev cX5_does : ByteArray := prog_1_method_8_code
def yX5_does : MethodName := ⟨RX5, "does", "(II)I"⟩
abbrev cX5_mind : ByteArray := prog_1_method_9_code
def yX5_mind : MethodName := ⟨RX5, "mind", "(III)I"⟩
abbrev cX5_thought : ByteArray := prog_1_method_10_code
def yX5_thought : MethodName := ⟨RX5, "thought", "(II)I"⟩
abbrev cX5_own : ByteArray := prog_1_method_11_code
def yX5_own : MethodName := ⟨RX5, "own", "(II)I"⟩
abbrev cX5_give : ByteArray := prog_1_method_12_code
def yX5_give : MethodName := ⟨RX5, "give", "(II)I"⟩
abbrev cX5_weeks : ByteArray := prog_1_method_13_code
def yX5_weeks : MethodName := ⟨RX5, "weeks", "(I)I"⟩
abbrev cX5_seed : ByteArray := prog_1_method_14_code
def yX5_seed : MethodName := ⟨RX5, "seed", "(I)I"⟩
abbrev cX5_week : ByteArray := prog_1_method_15_code
def yX5_week : MethodName := ⟨RX5, "week", "()I"⟩
abbrev cX5_poor : ByteArray := prog_1_method_16_code
def yX5_poor : MethodName := ⟨RX5, "poor", "(I)I"⟩
abbrev cX5_state : ByteArray := prog_1_method_17_code
def yX5_state : MethodName := ⟨RX5, "state", "(I)I"⟩
abbrev cX5_words : ByteArray := prog_1_method_18_code
def yX5_words : MethodName := ⟨RX5, "words", "(I)I"⟩
abbrev cX5_gets : ByteArray := prog_1_method_19_code
def yX5_gets : MethodName := ⟨RX5, "gets", "(I)I"⟩
abbrev cX5_idle : ByteArray := prog_1_method_20_code
def yX5_idle : MethodName := ⟨RX5, "idle", "()I"⟩
abbrev cX5_vanFor : ByteArray := prog_1_method_21_code
def yX5_vanFor : MethodName := ⟨RX5, "vanFor", "(II)I"⟩
abbrev cX5_kindFor : ByteArray := prog_1_method_22_code
def yX5_kindFor : MethodName := ⟨RX5, "kindFor", "(II)I"⟩
abbrev cX5_thoughtFor : ByteArray := prog_1_method_23_code
def yX5_thoughtFor : MethodName := ⟨RX5, "thoughtFor", "(II)I"⟩
abbrev cX5_needed : ByteArray := prog_1_method_24_code
def yX5_needed : MethodName := ⟨RX5, "needed", "(I)I"⟩
abbrev cX5_fewest : ByteArray := prog_1_method_25_code
def yX5_fewest : MethodName := ⟨RX5, "fewest", "(II)I"⟩
abbrev cX5_packed : ByteArray := prog_1_method_26_code
def yX5_packed : MethodName := ⟨RX5, "packed", "(I)I"⟩
abbrev cX5_fits : ByteArray := prog_1_method_27_code
def yX5_fits : MethodName := ⟨RX5, "fits", "(III)I"⟩
abbrev cX5_odds : ByteArray := prog_1_method_28_code
def yX5_odds : MethodName := ⟨RX5, "odds", "(III)J"⟩
abbrev cX5_hope : ByteArray := prog_1_method_29_code
def yX5_hope : MethodName := ⟨RX5, "hope", "(II)J"⟩
abbrev cX5_prove : ByteArray := prog_1_method_30_code
def yX5_prove : MethodName := ⟨RX5, "prove", "(II)I"⟩
abbrev cX5_row : ByteArray := prog_1_method_31_code
def yX5_row : MethodName := ⟨RX5, "row", "(II)I"⟩
abbrev cX5_alterRow : ByteArray := prog_1_method_32_code
def yX5_alterRow : MethodName := ⟨RX5, "alterRow", "(III)I"⟩
abbrev cX5_judge : ByteArray := prog_1_method_33_code
def yX5_judge : MethodName := ⟨RX5, "judge", "(I)I"⟩
abbrev cX5_minds : ByteArray := prog_1_method_34_code
def yX5_minds : MethodName := ⟨RX5, "minds", "(IIII)I"⟩
abbrev cX5_sheet : ByteArray := prog_1_method_35_code
def yX5_sheet : MethodName := ⟨RX5, "sheet", "(III)I"⟩
abbrev cX5_put : ByteArray := prog_1_method_36_code
def yX5_put : MethodName := ⟨RX5, "put", "(III)I"⟩
abbrev cX5_item : ByteArray := prog_1_method_37_code
def yX5_item : MethodName := ⟨RX5, "item", "(III)I"⟩
abbrev cX5_shelf : ByteArray := prog_1_method_38_code
def yX5_shelf : MethodName := ⟨RX5, "shelf", "(III)I"⟩
abbrev cX5_taken : ByteArray := prog_1_method_39_code
def yX5_taken : MethodName := ⟨RX5, "taken", "(II)I"⟩
abbrev cX5_act : ByteArray := prog_1_method_40_code
def yX5_act : MethodName := ⟨RX5, "act", "(III)I"⟩
abbrev cX5_trace : ByteArray := prog_1_method_41_code
def yX5_trace : MethodName := ⟨RX5, "trace", "(I)I"⟩
abbrev cX5_many : ByteArray := prog_1_method_42_code
def yX5_many : MethodName := ⟨RX5, "many", "(I)I"⟩
abbrev cX5_keep : ByteArray := prog_1_method_43_code
def yX5_keep : MethodName := ⟨RX5, "keep", "()I"⟩
abbrev cX5_again : ByteArray := prog_1_method_44_code
def yX5_again : MethodName := ⟨RX5, "again", "()I"⟩
abbrev cX5_isWithin : ByteArray := prog_1_method_45_code
def yX5_isWithin : MethodName := ⟨RX5, "isWithin", "(III)Z"⟩
abbrev cX5_isKind : ByteArray := prog_1_method_46_code
def yX5_isKind : MethodName := ⟨RX5, "isKind", "(I)Z"⟩
abbrev cX5_isPlace : ByteArray := prog_1_method_47_code
def yX5_isPlace : MethodName := ⟨RX5, "isPlace", "(I)Z"⟩
abbrev cX5_isUnder : ByteArray := prog_1_method_48_code
def yX5_isUnder : MethodName := ⟨RX5, "isUnder", "(II)Z"⟩
abbrev cX5_isInRow : ByteArray := prog_1_method_49_code
def yX5_isInRow : MethodName := ⟨RX5, "isInRow", "(II)Z"⟩
abbrev cX5_trial : ByteArray := prog_1_method_50_code
def yX5_trial : MethodName := ⟨RX5, "trial", "()LBlankRations$Office;"⟩
abbrev cX5_wordsBy : ByteArray := prog_1_method_51_code
def yX5_wordsBy : MethodName := ⟨RX5, "wordsBy", "(LBlankRations$Office;II)I"⟩
abbrev cX5_isTold : ByteArray := prog_1_method_52_code
def yX5_isTold : MethodName := ⟨RX5, "isTold", "(LBlankRations$Sheet;II)Z"⟩
abbrev cX5_leastPacking : ByteArray := prog_1_method_53_code
def yX5_leastPacking : MethodName := ⟨RX5, "leastPacking", "(II)I"⟩
abbrev cX5_choices : ByteArray := prog_1_method_54_code
def yX5_choices : MethodName := ⟨RX5, "choices", "(II)J"⟩
abbrev cX5_partOf : ByteArray := prog_1_method_55_code
def yX5_partOf : MethodName := ⟨RX5, "partOf", "(JJI)J"⟩
abbrev cX5_commonDivisor : ByteArray := prog_1_method_56_code
def yX5_commonDivisor : MethodName := ⟨RX5, "commonDivisor", "(JJ)J"⟩
abbrev cX5_narrowed : ByteArray := prog_1_method_57_code
def yX5_narrowed : MethodName := ⟨RX5, "narrowed", "(II)J"⟩
def RX6 : String := "BlankRationsModel"
def TX6 : u_T := fun k => match k with
  | 0 => ("BlankRationsModel", "row", "[I", true)
  | 1 => ("BlankRationsModel", "fresh", "[I", true)
  | 2 => ("BlankRationsModel", "kept", "[I", true)
  | 3 => ("BlankRationsModel", "tried", "[I", true)
  | 4 => ("BlankRationsModel", "isKept", "Z", false)
  | 5 => ("BlankRationsModel", "left", "I", false)
  | 6 => ("BlankRationsModel", "tape", "[I", true)
  | 7 => ("BlankRationsModel", "tapeMany", "I", false)
  | 8 => ("BlankRationsModel", "sort", "I", false)
  | 9 => ("BlankRationsModel", "begins", "I", false)
  | 10 => ("BlankRationsModel", "tokenEnds", "I", false)
  | 11 => ("BlankRationsModel", "word", "J", false)
  | 12 => ("BlankRationsModel", "value", "I", false)
  | 13 => ("BlankRationsModel", "good", "Z", false)
  | 14 => ("BlankRationsModel", "stands", "[I", true)
  | 15 => ("BlankRationsModel", "rows", "[I", true)
  | 16 => ("BlankRationsModel", "must", "[I", true)
  | 17 => ("BlankRationsModel", "rowMany", "I", false)
  | 18 => ("BlankRationsModel", "sorts", "[I", true)
  | 19 => ("BlankRationsModel", "sizes", "[I", true)
  | 20 => ("BlankRationsModel", "sheets", "[J", true)
  | 21 => ("BlankRationsModel", "holds", "[I", true)
  | 22 => ("BlankRationsModel", "heldNumber", "[I", true)
  | 23 => ("BlankRationsModel", "heldSize", "[I", true)
  | 24 => ("BlankRationsModel", "kind", "I", false)
  | 25 => ("BlankRationsModel", "number", "I", false)
  | 26 => ("BlankRationsModel", "hand", "I", false)
  | 27 => ("BlankRationsModel", "traced", "[I", true)
  | 28 => ("BlankRationsModel", "bodies", "I", false)
  | _ => ("BlankRationsModel", "isParted", "Z", false)
def tyX6 : Nat → FieldType := fun k => match k with
  | 0 => .array .int
  | 1 => .array .int
  | 2 => .array .int
  | 3 => .array .int
  | 4 => .boolean
  | 5 => .int
  | 6 => .array .int
  | 7 => .int
  | 8 => .int
  | 9 => .int
  | 10 => .int
  | 11 => .long
  | 12 => .int
  | 13 => .boolean
  | 14 => .array .int
  | 15 => .array .int
  | 16 => .array .int
  | 17 => .int
  | 18 => .array .int
  | 19 => .array .int
  | 20 => .array .long
  | 21 => .array .int
  | 22 => .array .int
  | 23 => .array .int
  | 24 => .int
  | 25 => .int
  | 26 => .int
  | 27 => .array .int
  | 28 => .int
  | _ => .boolean
abbrev wsX60 : List Cond := u_ws RX6 TX6 30
theorem nmX6 : ∀ a, a < 30 → ∀ b, b < 30 → a ≠ b → (TX6 a).2.1 ≠ (TX6 b).2.1 := by decide +kernel
theorem tyX6_ok : ∀ k, k < 30 → parseFieldDescriptor (TX6 k).2.2.1 = some (tyX6 k) := by decide +kernel
abbrev cX6_init : ByteArray := prog_8_method_1_code
def yX6_init : MethodName := ⟨RX6, "<init>", "()V"⟩
abbrev cX6_begins : ByteArray := prog_8_method_2_code
def yX6_begins : MethodName := ⟨RX6, "begins", "([I)V"⟩
abbrev cX6_in : ByteArray := prog_8_method_3_code
def yX6_in : MethodName := ⟨RX6, "in", "(III)Z"⟩
abbrev cX6_held : ByteArray := prog_8_method_4_code
def yX6_held : MethodName := ⟨RX6, "held", "(III)I"⟩
abbrev cX6_moveAll : ByteArray := prog_8_method_5_code
def yX6_moveAll : MethodName := ⟨RX6, "moveAll", "([I[I)V"⟩
abbrev cX6_isOne : ByteArray := prog_8_method_6_code
def yX6_isOne : MethodName := ⟨RX6, "isOne", "(I)Z"⟩
abbrev cX6_its : ByteArray := prog_8_method_7_code
def yX6_its : MethodName := ⟨RX6, "its", "(II)I"⟩
abbrev cX6_sets : ByteArray := prog_8_method_8_code
def yX6_sets : MethodName := ⟨RX6, "sets", "(III)V"⟩
abbrev cX6_becomes : ByteArray := prog_8_method_9_code
def yX6_becomes : MethodName := ⟨RX6, "becomes", "(II)I"⟩
abbrev cX6_ones : ByteArray := prog_8_method_10_code
def yX6_ones : MethodName := ⟨RX6, "ones", "(I)I"⟩
abbrev cX6_feed : ByteArray := prog_8_method_11_code
def yX6_feed : MethodName := ⟨RX6, "feed", "(JI)I"⟩
abbrev cX6_byteAt : ByteArray := prog_8_method_12_code
def yX6_byteAt : MethodName := ⟨RX6, "byteAt", "(I)I"⟩
abbrev cX6_isLetter : ByteArray := prog_8_method_13_code
def yX6_isLetter : MethodName := ⟨RX6, "isLetter", "(I)Z"⟩
abbrev cX6_isDigit : ByteArray := prog_8_method_14_code
def yX6_isDigit : MethodName := ⟨RX6, "isDigit", "(I)Z"⟩
abbrev cX6_advance : ByteArray := prog_8_method_15_code
def yX6_advance : MethodName := ⟨RX6, "advance", "()V"⟩
abbrev cX6_isWord : ByteArray := prog_8_method_16_code
def yX6_isWord : MethodName := ⟨RX6, "isWord", "(J)Z"⟩
abbrev cX6_isMark : ByteArray := prog_8_method_17_code
def yX6_isMark : MethodName := ⟨RX6, "isMark", "(I)Z"⟩
abbrev cX6_kindHere : ByteArray := prog_8_method_18_code
def yX6_kindHere : MethodName := ⟨RX6, "kindHere", "()I"⟩
abbrev cX6_lawHere : ByteArray := prog_8_method_19_code
def yX6_lawHere : MethodName := ⟨RX6, "lawHere", "()I"⟩
abbrev cX6_wantNumber : ByteArray := prog_8_method_20_code
def yX6_wantNumber : MethodName := ⟨RX6, "wantNumber", "(II)I"⟩
abbrev cX6_wantEnd : ByteArray := prog_8_method_21_code
def yX6_wantEnd : MethodName := ⟨RX6, "wantEnd", "()V"⟩
abbrev cX6_mayWant : ByteArray := prog_8_method_22_code
def yX6_mayWant : MethodName := ⟨RX6, "mayWant", "(JI)I"⟩
abbrev cX6_wantOne : ByteArray := prog_8_method_23_code
def yX6_wantOne : MethodName := ⟨RX6, "wantOne", "(I)V"⟩
abbrev cX6_wantClause : ByteArray := prog_8_method_24_code
def yX6_wantClause : MethodName := ⟨RX6, "wantClause", "()V"⟩
abbrev cX6_post : ByteArray := prog_8_method_25_code
def yX6_post : MethodName := ⟨RX6, "post", "()I"⟩
abbrev cX6_mostOf : ByteArray := prog_8_method_26_code
def yX6_mostOf : MethodName := ⟨RX6, "mostOf", "(I)I"⟩
abbrev cX6_set : ByteArray := prog_8_method_27_code
def yX6_set : MethodName := ⟨RX6, "set", "(II)I"⟩
abbrev cX6_lawOf : ByteArray := prog_8_method_28_code
def yX6_lawOf : MethodName := ⟨RX6, "lawOf", "(I)I"⟩
abbrev cX6_isKind : ByteArray := prog_8_method_29_code
def yX6_isKind : MethodName := ⟨RX6, "isKind", "(II)Z"⟩
abbrev cX6_person : ByteArray := prog_8_method_30_code
def yX6_person : MethodName := ⟨RX6, "person", "(IIII)I"⟩
abbrev cX6_of : ByteArray := prog_8_method_31_code
def yX6_of : MethodName := ⟨RX6, "of", "(II)I"⟩
abbrev cX6_thinksOf : ByteArray := prog_8_method_32_code
def yX6_thinksOf : MethodName := ⟨RX6, "thinksOf", "(I)I"⟩
abbrev cX6_needs : ByteArray := prog_8_method_33_code
def yX6_needs : MethodName := ⟨RX6, "needs", "(I)I"⟩
abbrev cX6_says : ByteArray := prog_8_method_34_code
def yX6_says : MethodName := ⟨RX6, "says", "(I)I"⟩
abbrev cX6_isUsed : ByteArray := prog_8_method_35_code
def yX6_isUsed : MethodName := ⟨RX6, "isUsed", "(I)Z"⟩
abbrev cX6_does : ByteArray := prog_8_method_36_code
def yX6_does : MethodName := ⟨RX6, "does", "(II)I"⟩
abbrev cX6_mind : ByteArray := prog_8_method_37_code
def yX6_mind : MethodName := ⟨RX6, "mind", "(III)I"⟩
abbrev cX6_thought : ByteArray := prog_8_method_38_code
def yX6_thought : MethodName := ⟨RX6, "thought", "(II)I"⟩
abbrev cX6_own : ByteArray := prog_8_method_39_code
def yX6_own : MethodName := ⟨RX6, "own", "(II)I"⟩
abbrev cX6_give : ByteArray := prog_8_method_40_code
def yX6_give : MethodName := ⟨RX6, "give", "(II)I"⟩
abbrev cX6_isReady : ByteArray := prog_8_method_41_code
def yX6_isReady : MethodName := ⟨RX6, "isReady", "(I)Z"⟩
abbrev cX6_readySet : ByteArray := prog_8_method_42_code
def yX6_readySet : MethodName := ⟨RX6, "readySet", "()I"⟩
abbrev cX6_next : ByteArray := prog_8_method_43_code
def yX6_next : MethodName := ⟨RX6, "next", "()I"⟩
abbrev cX6_pageGoes : ByteArray := prog_8_method_44_code
def yX6_pageGoes : MethodName := ⟨RX6, "pageGoes", "()V"⟩
abbrev cX6_writes : ByteArray := prog_8_method_45_code
def yX6_writes : MethodName := ⟨RX6, "writes", "(I)I"⟩
abbrev cX6_weekGoes : ByteArray := prog_8_method_46_code
def yX6_weekGoes : MethodName := ⟨RX6, "weekGoes", "()I"⟩
abbrev cX6_sumOf : ByteArray := prog_8_method_47_code
def yX6_sumOf : MethodName := ⟨RX6, "sumOf", "(I)I"⟩
abbrev cX6_weeks : ByteArray := prog_8_method_48_code
def yX6_weeks : MethodName := ⟨RX6, "weeks", "(I)I"⟩
abbrev cX6_drawn : ByteArray := prog_8_method_49_code
def yX6_drawn : MethodName := ⟨RX6, "drawn", "()I"⟩
abbrev cX6_seed : ByteArray := prog_8_method_50_code
def yX6_seed : MethodName := ⟨RX6, "seed", "(I)I"⟩
abbrev cX6_weekByDraws : ByteArray := prog_8_method_51_code
def yX6_weekByDraws : MethodName := ⟨RX6, "weekByDraws", "()I"⟩
abbrev cX6_week : ByteArray := prog_8_method_52_code
def yX6_week : MethodName := ⟨RX6, "week", "()I"⟩
abbrev cX6_poor : ByteArray := prog_8_method_53_code
def yX6_poor : MethodName := ⟨RX6, "poor", "(I)I"⟩
abbrev cX6_state : ByteArray := prog_8_method_54_code
def yX6_state : MethodName := ⟨RX6, "state", "(I)I"⟩
abbrev cX6_wordsBehind : ByteArray := prog_8_method_55_code
def yX6_wordsBehind : MethodName := ⟨RX6, "wordsBehind", "(I)I"⟩
abbrev cX6_words : ByteArray := prog_8_method_56_code
def yX6_words : MethodName := ⟨RX6, "words", "(I)I"⟩
abbrev cX6_gets : ByteArray := prog_8_method_57_code
def yX6_gets : MethodName := ⟨RX6, "gets", "(I)I"⟩
abbrev cX6_idle : ByteArray := prog_8_method_58_code
def yX6_idle : MethodName := ⟨RX6, "idle", "()I"⟩
abbrev cX6_vanFor : ByteArray := prog_8_method_59_code
def yX6_vanFor : MethodName := ⟨RX6, "vanFor", "(II)I"⟩
abbrev cX6_kindFor : ByteArray := prog_8_method_60_code
def yX6_kindFor : MethodName := ⟨RX6, "kindFor", "(II)I"⟩
abbrev cX6_thoughtFor : ByteArray := prog_8_method_61_code
def yX6_thoughtFor : MethodName := ⟨RX6, "thoughtFor", "(II)I"⟩
abbrev cX6_needed : ByteArray := prog_8_method_62_code
def yX6_needed : MethodName := ⟨RX6, "needed", "(I)I"⟩
abbrev cX6_fewest : ByteArray := prog_8_method_63_code
def yX6_fewest : MethodName := ⟨RX6, "fewest", "(II)I"⟩
abbrev cX6_thoughtOf : ByteArray := prog_8_method_64_code
def yX6_thoughtOf : MethodName := ⟨RX6, "thoughtOf", "(I)I"⟩
abbrev cX6_packed : ByteArray := prog_8_method_65_code
def yX6_packed : MethodName := ⟨RX6, "packed", "(I)I"⟩
abbrev cX6_isSo : ByteArray := prog_8_method_66_code
def yX6_isSo : MethodName := ⟨RX6, "isSo", "(I)Z"⟩
abbrev cX6_fits : ByteArray := prog_8_method_67_code
def yX6_fits : MethodName := ⟨RX6, "fits", "(III)I"⟩
abbrev cX6_lowest : ByteArray := prog_8_method_68_code
def yX6_lowest : MethodName := ⟨RX6, "lowest", "(JJI)J"⟩
abbrev cX6_powerOf : ByteArray := prog_8_method_69_code
def yX6_powerOf : MethodName := ⟨RX6, "powerOf", "(II)J"⟩
abbrev cX6_odds : ByteArray := prog_8_method_70_code
def yX6_odds : MethodName := ⟨RX6, "odds", "(III)J"⟩
abbrev cX6_hope : ByteArray := prog_8_method_71_code
def yX6_hope : MethodName := ⟨RX6, "hope", "(II)J"⟩
abbrev cX6_findRows : ByteArray := prog_8_method_72_code
def yX6_findRows : MethodName := ⟨RX6, "findRows", "(II)V"⟩
abbrev cX6_prove : ByteArray := prog_8_method_73_code
def yX6_prove : MethodName := ⟨RX6, "prove", "(II)I"⟩
abbrev cX6_isRow : ByteArray := prog_8_method_74_code
def yX6_isRow : MethodName := ⟨RX6, "isRow", "(II)Z"⟩
abbrev cX6_row : ByteArray := prog_8_method_75_code
def yX6_row : MethodName := ⟨RX6, "row", "(II)I"⟩
abbrev cX6_alterRow : ByteArray := prog_8_method_76_code
def yX6_alterRow : MethodName := ⟨RX6, "alterRow", "(III)I"⟩
abbrev cX6_judge : ByteArray := prog_8_method_77_code
def yX6_judge : MethodName := ⟨RX6, "judge", "(I)I"⟩
abbrev cX6_minds : ByteArray := prog_8_method_78_code
def yX6_minds : MethodName := ⟨RX6, "minds", "(IIII)I"⟩
abbrev cX6_isShelf : ByteArray := prog_8_method_79_code
def yX6_isShelf : MethodName := ⟨RX6, "isShelf", "(I)Z"⟩
abbrev cX6_sheet : ByteArray := prog_8_method_80_code
def yX6_sheet : MethodName := ⟨RX6, "sheet", "(III)I"⟩
abbrev cX6_put : ByteArray := prog_8_method_81_code
def yX6_put : MethodName := ⟨RX6, "put", "(III)I"⟩
abbrev cX6_lacksSort : ByteArray := prog_8_method_82_code
def yX6_lacksSort : MethodName := ⟨RX6, "lacksSort", "(II)I"⟩
abbrev cX6_item : ByteArray := prog_8_method_83_code
def yX6_item : MethodName := ⟨RX6, "item", "(III)I"⟩
abbrev cX6_isHeld : ByteArray := prog_8_method_84_code
def yX6_isHeld : MethodName := ⟨RX6, "isHeld", "(II)Z"⟩
abbrev cX6_shelf : ByteArray := prog_8_method_85_code
def yX6_shelf : MethodName := ⟨RX6, "shelf", "(III)I"⟩
abbrev cX6_kindOn : ByteArray := prog_8_method_86_code
def yX6_kindOn : MethodName := ⟨RX6, "kindOn", "(I)I"⟩
abbrev cX6_isUnder : ByteArray := prog_8_method_87_code
def yX6_isUnder : MethodName := ⟨RX6, "isUnder", "(II)Z"⟩
abbrev cX6_taken : ByteArray := prog_8_method_88_code
def yX6_taken : MethodName := ⟨RX6, "taken", "(II)I"⟩
abbrev cX6_ran : ByteArray := prog_8_method_89_code
def yX6_ran : MethodName := ⟨RX6, "ran", "(I)V"⟩
abbrev cX6_plainThinks : ByteArray := prog_8_method_90_code
def yX6_plainThinks : MethodName := ⟨RX6, "plainThinks", "(I)I"⟩
abbrev cX6_widowThinks : ByteArray := prog_8_method_91_code
def yX6_widowThinks : MethodName := ⟨RX6, "widowThinks", "(I)I"⟩
abbrev cX6_thinksIt : ByteArray := prog_8_method_92_code
def yX6_thinksIt : MethodName := ⟨RX6, "thinksIt", "(I)I"⟩
abbrev cX6_plainAsks : ByteArray := prog_8_method_93_code
def yX6_plainAsks : MethodName := ⟨RX6, "plainAsks", "(I)I"⟩
abbrev cX6_asksIt : ByteArray := prog_8_method_94_code
def yX6_asksIt : MethodName := ⟨RX6, "asksIt", "(I)I"⟩
abbrev cX6_plainParts : ByteArray := prog_8_method_95_code
def yX6_plainParts : MethodName := ⟨RX6, "plainParts", "(I)I"⟩
abbrev cX6_partsIt : ByteArray := prog_8_method_96_code
def yX6_partsIt : MethodName := ⟨RX6, "partsIt", "(I)I"⟩
abbrev cX6_plainWrites : ByteArray := prog_8_method_97_code
def yX6_plainWrites : MethodName := ⟨RX6, "plainWrites", "(I)I"⟩
abbrev cX6_writesIt : ByteArray := prog_8_method_98_code
def yX6_writesIt : MethodName := ⟨RX6, "writesIt", "(I)I"⟩
abbrev cX6_act : ByteArray := prog_8_method_99_code
def yX6_act : MethodName := ⟨RX6, "act", "(III)I"⟩
abbrev cX6_trace : ByteArray := prog_8_method_100_code
def yX6_trace : MethodName := ⟨RX6, "trace", "(I)I"⟩
abbrev cX6_manyWith : ByteArray := prog_8_method_101_code
def yX6_manyWith : MethodName := ⟨RX6, "manyWith", "(I)I"⟩
abbrev cX6_many : ByteArray := prog_8_method_102_code
def yX6_many : MethodName := ⟨RX6, "many", "(I)I"⟩
abbrev cX6_keep : ByteArray := prog_8_method_103_code
def yX6_keep : MethodName := ⟨RX6, "keep", "()I"⟩
abbrev cX6_again : ByteArray := prog_8_method_104_code
def yX6_again : MethodName := ⟨RX6, "again", "()I"⟩
def RJ6 : String := "java/lang/Integer"
def TJ6 : u_T := fun k => match k with
  | _ => ("", "", "", false)
def tyJ6 : Nat → FieldType := fun k => match k with
  | _ => .int
abbrev wsJ60 : List Cond := u_ws RJ6 TJ6 0
theorem nmJ6 : ∀ a, a < 0 → ∀ b, b < 0 → a ≠ b → (TJ6 a).2.1 ≠ (TJ6 b).2.1 := by decide +kernel
theorem tyJ6_ok : ∀ k, k < 0 → parseFieldDescriptor (TJ6 k).2.2.1 = some (tyJ6 k) := by decide +kernel
abbrev cJ6_bitCount_0f7a4 : ByteArray := prog_9_method_49_code
def yJ6_bitCount_0f7a4 : MethodName := ⟨RJ6, "bitCount", "(I)I"⟩
def RJ9 : String := "java/lang/Math"
def TJ9 : u_T := fun k => match k with
  | _ => ("", "", "", false)
def tyJ9 : Nat → FieldType := fun k => match k with
  | _ => .int
abbrev wsJ90 : List Cond := u_ws RJ9 TJ9 0
theorem nmJ9 : ∀ a, a < 0 → ∀ b, b < 0 → a ≠ b → (TJ9 a).2.1 ≠ (TJ9 b).2.1 := by decide +kernel
theorem tyJ9_ok : ∀ k, k < 0 → parseFieldDescriptor (TJ9 k).2.2.1 = some (tyJ9 k) := by decide +kernel
abbrev cJ9_max_7cf53 : ByteArray := prog_10_method_65_code
def yJ9_max_7cf53 : MethodName := ⟨RJ9, "max", "(II)I"⟩
abbrev cJ9_min_7cf53 : ByteArray := prog_10_method_69_code
def yJ9_min_7cf53 : MethodName := ⟨RJ9, "min", "(II)I"⟩
def RJ0 : String := "java/lang/String"
def TJ0 : u_T := fun k => match k with
  | _ => ("", "", "", false)
def tyJ0 : Nat → FieldType := fun k => match k with
  | _ => .int
abbrev wsJ00 : List Cond := u_ws RJ0 TJ0 0
theorem nmJ0 : ∀ a, a < 0 → ∀ b, b < 0 → a ≠ b → (TJ0 a).2.1 ≠ (TJ0 b).2.1 := by decide +kernel
theorem tyJ0_ok : ∀ k, k < 0 → parseFieldDescriptor (TJ0 k).2.2.1 = some (tyJ0 k) := by decide +kernel
abbrev cJ0_length_8abf5 : ByteArray := prog_11_method_54_code
def yJ0_length_8abf5 : MethodName := ⟨RJ0, "length", "()I"⟩
abbrev cJ0_charAt_5068e : ByteArray := prog_11_method_56_code
def yJ0_charAt_5068e : MethodName := ⟨RJ0, "charAt", "(I)C"⟩
abbrev cJ0_coder_7d493 : ByteArray := prog_11_method_152_code
def yJ0_coder_7d493 : MethodName := ⟨RJ0, "coder", "()B"⟩
abbrev cJ0_isLatin1_aae02 : ByteArray := prog_11_method_154_code
def yJ0_isLatin1_aae02 : MethodName := ⟨RJ0, "isLatin1", "()Z"⟩
abbrev cJ0_checkIndex_df160 : ByteArray := prog_11_method_155_code
def yJ0_checkIndex_df160 : MethodName := ⟨RJ0, "checkIndex", "(II)V"⟩
def RJ1 : String := "java/lang/StringLatin1"
def TJ1 : u_T := fun k => match k with
  | _ => ("", "", "", false)
def tyJ1 : Nat → FieldType := fun k => match k with
  | _ => .int
abbrev wsJ10 : List Cond := u_ws RJ1 TJ1 0
theorem nmJ1 : ∀ a, a < 0 → ∀ b, b < 0 → a ≠ b → (TJ1 a).2.1 ≠ (TJ1 b).2.1 := by decide +kernel
theorem tyJ1_ok : ∀ k, k < 0 → parseFieldDescriptor (TJ1 k).2.2.1 = some (tyJ1 k) := by decide +kernel
abbrev cJ1_charAt_3b067 : ByteArray := prog_12_method_2_code
def yJ1_charAt_3b067 : MethodName := ⟨RJ1, "charAt", "([BI)C"⟩
def RJ2 : String := "java/lang/StringUTF16"
def TJ2 : u_T := fun k => match k with
  | _ => ("", "", "", false)
def tyJ2 : Nat → FieldType := fun k => match k with
  | _ => .int
abbrev wsJ20 : List Cond := u_ws RJ2 TJ2 0
theorem nmJ2 : ∀ a, a < 0 → ∀ b, b < 0 → a ≠ b → (TJ2 a).2.1 ≠ (TJ2 b).2.1 := by decide +kernel
theorem tyJ2_ok : ∀ k, k < 0 → parseFieldDescriptor (TJ2 k).2.2.1 = some (tyJ2 k) := by decide +kernel
abbrev cJ2_getChar_3b067 : ByteArray := prog_13_method_5_code
def yJ2_getChar_3b067 : MethodName := ⟨RJ2, "getChar", "([BI)C"⟩
abbrev cJ2_length_9d52b : ByteArray := prog_13_method_6_code
def yJ2_length_9d52b : MethodName := ⟨RJ2, "length", "([B)I"⟩
abbrev cJ2_charAt_3b067 : ByteArray := prog_13_method_83_code
def yJ2_charAt_3b067 : MethodName := ⟨RJ2, "charAt", "([BI)C"⟩
abbrev cJ2_checkIndex_2214a : ByteArray := prog_13_method_91_code
def yJ2_checkIndex_2214a : MethodName := ⟨RJ2, "checkIndex", "(I[B)V"⟩
def RJ10 : String := "java/lang/System"
def TJ10 : u_T := fun k => match k with
  | _ => ("", "", "", false)
def tyJ10 : Nat → FieldType := fun k => match k with
  | _ => .int
abbrev wsJ100 : List Cond := u_ws RJ10 TJ10 0
theorem nmJ10 : ∀ a, a < 0 → ∀ b, b < 0 → a ≠ b → (TJ10 a).2.1 ≠ (TJ10 b).2.1 := by decide +kernel
theorem tyJ10_ok : ∀ k, k < 0 → parseFieldDescriptor (TJ10 k).2.2.1 = some (tyJ10 k) := by decide +kernel
def RJ3 : String := "jdk/internal/util/Preconditions"
def TJ3 : u_T := fun k => match k with
  | _ => ("", "", "", false)
def tyJ3 : Nat → FieldType := fun k => match k with
  | _ => .int
abbrev wsJ30 : List Cond := u_ws RJ3 TJ3 0
theorem nmJ3 : ∀ a, a < 0 → ∀ b, b < 0 → a ≠ b → (TJ3 a).2.1 ≠ (TJ3 b).2.1 := by decide +kernel
theorem tyJ3_ok : ∀ k, k < 0 → parseFieldDescriptor (TJ3 k).2.2.1 = some (tyJ3 k) := by decide +kernel
abbrev cJ3_checkIndex_8e157 : ByteArray := prog_15_method_11_code
def yJ3_checkIndex_8e157 : MethodName := ⟨RJ3, "checkIndex", "(IILjava/util/function/BiFunction;)I"⟩
def RL : String := "BlankRationsLaw"
abbrev cL_law : ByteArray := code
def yL_law : MethodName := ⟨RL, "law", "([I)Z"⟩
