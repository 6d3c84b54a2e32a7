-- ===== PART A: goes FIRST, ahead of the names: the tables' words, and 'selects' of the private methods out of them =====
/-- a private method of a class that the tables say can be made, by its rows of tables_1 -/
def lw_okq (q : MethodName × Nat) : Prop := (q.1.cls ≠ "java/lang/invoke/MethodHandle" ∧ q.1.cls ≠ "java/lang/invoke/VarHandle") ∧ Cond.instantiable q.1.cls q.2 ∈ tables_1 ∧ Cond.privateMethod q.1 ∈ tables_1 ∧ Cond.instanceMethod q.1 ∈ tables_1
theorem lw_p0 : lw_okq (⟨"java/util/ArrayList", "add", "(Ljava/lang/Object;[Ljava/lang/Object;I)V"⟩, 3) := ⟨⟨by decide +kernel, by decide +kernel⟩, List.mem_of_getElem? (i := 37) (by decide +kernel), List.mem_of_getElem? (i := 362) (by decide +kernel), List.mem_of_getElem? (i := 363) (by decide +kernel)⟩
theorem lw_p1 : lw_okq (⟨"java/util/ArrayList", "grow", "()[Ljava/lang/Object;"⟩, 3) := ⟨⟨by decide +kernel, by decide +kernel⟩, List.mem_of_getElem? (i := 37) (by decide +kernel), List.mem_of_getElem? (i := 366) (by decide +kernel), List.mem_of_getElem? (i := 367) (by decide +kernel)⟩
theorem lw_p2 : lw_okq (⟨"java/util/ArrayList", "grow", "(I)[Ljava/lang/Object;"⟩, 3) := ⟨⟨by decide +kernel, by decide +kernel⟩, List.mem_of_getElem? (i := 37) (by decide +kernel), List.mem_of_getElem? (i := 370) (by decide +kernel), List.mem_of_getElem? (i := 371) (by decide +kernel)⟩
theorem lw_p3 : lw_okq (⟨"ServantRegistry", "isHouse", "(I)Z"⟩, 18) := ⟨⟨by decide +kernel, by decide +kernel⟩, List.mem_of_getElem? (i := 29) (by decide +kernel), List.mem_of_getElem? (i := 431) (by decide +kernel), List.mem_of_getElem? (i := 432) (by decide +kernel)⟩
theorem lw_p4 : lw_okq (⟨"ServantRegistry", "isServant", "(I)Z"⟩, 18) := ⟨⟨by decide +kernel, by decide +kernel⟩, List.mem_of_getElem? (i := 29) (by decide +kernel), List.mem_of_getElem? (i := 491) (by decide +kernel), List.mem_of_getElem? (i := 492) (by decide +kernel)⟩
theorem lw_p5 : lw_okq (⟨"ServantRegistry", "isPlace", "(I)Z"⟩, 18) := ⟨⟨by decide +kernel, by decide +kernel⟩, List.mem_of_getElem? (i := 29) (by decide +kernel), List.mem_of_getElem? (i := 495) (by decide +kernel), List.mem_of_getElem? (i := 496) (by decide +kernel)⟩
theorem lw_p6 : lw_okq (⟨"ServantRegistry", "isPlacing", "(I)Z"⟩, 18) := ⟨⟨by decide +kernel, by decide +kernel⟩, List.mem_of_getElem? (i := 29) (by decide +kernel), List.mem_of_getElem? (i := 572) (by decide +kernel), List.mem_of_getElem? (i := 573) (by decide +kernel)⟩
theorem lw_p7 : lw_okq (⟨"ServantRegistry", "feeOf", "(LServantRegistry$Placing;I)I"⟩, 18) := ⟨⟨by decide +kernel, by decide +kernel⟩, List.mem_of_getElem? (i := 29) (by decide +kernel), List.mem_of_getElem? (i := 629) (by decide +kernel), List.mem_of_getElem? (i := 630) (by decide +kernel)⟩
theorem lw_p8 : lw_okq (⟨"ServantRegistry", "bookOf", "(I)LServantRegistry$Rulebook;"⟩, 18) := ⟨⟨by decide +kernel, by decide +kernel⟩, List.mem_of_getElem? (i := 29) (by decide +kernel), List.mem_of_getElem? (i := 633) (by decide +kernel), List.mem_of_getElem? (i := 634) (by decide +kernel)⟩
theorem lw_p9 : lw_okq (⟨"ServantRegistry$Rulebook", "firstHolding", "(IILServantRegistry$Servant;LServantRegistry$Place;I)LServantRegistry$Statement;"⟩, 12) := ⟨⟨by decide +kernel, by decide +kernel⟩, List.mem_of_getElem? (i := 64) (by decide +kernel), List.mem_of_getElem? (i := 641) (by decide +kernel), List.mem_of_getElem? (i := 642) (by decide +kernel)⟩
theorem lw_p10 : lw_okq (⟨"ServantRegistry$Rulebook", "holds", "([I)Z"⟩, 12) := ⟨⟨by decide +kernel, by decide +kernel⟩, List.mem_of_getElem? (i := 64) (by decide +kernel), List.mem_of_getElem? (i := 659) (by decide +kernel), List.mem_of_getElem? (i := 660) (by decide +kernel)⟩
theorem lw_p11 : lw_okq (⟨"ServantRegistry$Rulebook", "compares", "(I)Z"⟩, 12) := ⟨⟨by decide +kernel, by decide +kernel⟩, List.mem_of_getElem? (i := 64) (by decide +kernel), List.mem_of_getElem? (i := 664) (by decide +kernel), List.mem_of_getElem? (i := 665) (by decide +kernel)⟩
theorem lw_p12 : lw_okq (⟨"ServantRegistry", "givenBack", "(LServantRegistry$Placing;)I"⟩, 18) := ⟨⟨by decide +kernel, by decide +kernel⟩, List.mem_of_getElem? (i := 29) (by decide +kernel), List.mem_of_getElem? (i := 668) (by decide +kernel), List.mem_of_getElem? (i := 669) (by decide +kernel)⟩
theorem lw_p13 : lw_okq (⟨"ServantRegistry", "owed", "(LServantRegistry$Placing;)I"⟩, 18) := ⟨⟨by decide +kernel, by decide +kernel⟩, List.mem_of_getElem? (i := 29) (by decide +kernel), List.mem_of_getElem? (i := 672) (by decide +kernel), List.mem_of_getElem? (i := 673) (by decide +kernel)⟩
theorem lw_p14 : lw_okq (⟨"ServantRegistry$RuleReader", "advance", "()V"⟩, 9) := ⟨⟨by decide +kernel, by decide +kernel⟩, List.mem_of_getElem? (i := 119) (by decide +kernel), List.mem_of_getElem? (i := 700) (by decide +kernel), List.mem_of_getElem? (i := 701) (by decide +kernel)⟩
theorem lw_p15 : lw_okq (⟨"ServantRegistry$RuleReader", "tokenAt", "(I)I"⟩, 9) := ⟨⟨by decide +kernel, by decide +kernel⟩, List.mem_of_getElem? (i := 119) (by decide +kernel), List.mem_of_getElem? (i := 704) (by decide +kernel), List.mem_of_getElem? (i := 705) (by decide +kernel)⟩
def lw_privs_1 : List (MethodName × Nat) := [(⟨"java/util/ArrayList", "add", "(Ljava/lang/Object;[Ljava/lang/Object;I)V"⟩, 3), (⟨"java/util/ArrayList", "grow", "()[Ljava/lang/Object;"⟩, 3), (⟨"java/util/ArrayList", "grow", "(I)[Ljava/lang/Object;"⟩, 3), (⟨"ServantRegistry", "isHouse", "(I)Z"⟩, 18), (⟨"ServantRegistry", "isServant", "(I)Z"⟩, 18), (⟨"ServantRegistry", "isPlace", "(I)Z"⟩, 18), (⟨"ServantRegistry", "isPlacing", "(I)Z"⟩, 18), (⟨"ServantRegistry", "feeOf", "(LServantRegistry$Placing;I)I"⟩, 18), (⟨"ServantRegistry", "bookOf", "(I)LServantRegistry$Rulebook;"⟩, 18), (⟨"ServantRegistry$Rulebook", "firstHolding", "(IILServantRegistry$Servant;LServantRegistry$Place;I)LServantRegistry$Statement;"⟩, 12), (⟨"ServantRegistry$Rulebook", "holds", "([I)Z"⟩, 12), (⟨"ServantRegistry$Rulebook", "compares", "(I)Z"⟩, 12), (⟨"ServantRegistry", "givenBack", "(LServantRegistry$Placing;)I"⟩, 18), (⟨"ServantRegistry", "owed", "(LServantRegistry$Placing;)I"⟩, 18), (⟨"ServantRegistry$RuleReader", "advance", "()V"⟩, 9), (⟨"ServantRegistry$RuleReader", "tokenAt", "(I)I"⟩, 9)]
theorem lw_r1 : ∀ q ∈ lw_privs_1, lw_okq q := List.forall_mem_cons.mpr ⟨lw_p0, List.forall_mem_cons.mpr ⟨lw_p1, List.forall_mem_cons.mpr ⟨lw_p2, List.forall_mem_cons.mpr ⟨lw_p3, List.forall_mem_cons.mpr ⟨lw_p4, List.forall_mem_cons.mpr ⟨lw_p5, List.forall_mem_cons.mpr ⟨lw_p6, List.forall_mem_cons.mpr ⟨lw_p7, List.forall_mem_cons.mpr ⟨lw_p8, List.forall_mem_cons.mpr ⟨lw_p9, List.forall_mem_cons.mpr ⟨lw_p10, List.forall_mem_cons.mpr ⟨lw_p11, List.forall_mem_cons.mpr ⟨lw_p12, List.forall_mem_cons.mpr ⟨lw_p13, List.forall_mem_cons.mpr ⟨lw_p14, List.forall_mem_cons.mpr ⟨lw_p15, fun _ h => absurd h List.not_mem_nil⟩⟩⟩⟩⟩⟩⟩⟩⟩⟩⟩⟩⟩⟩⟩⟩
theorem lw_p16 : lw_okq (⟨"ServantRegistry$RuleReader", "readStatement", "(LServantRegistry$Rulebook;)V"⟩, 9) := ⟨⟨by decide +kernel, by decide +kernel⟩, List.mem_of_getElem? (i := 119) (by decide +kernel), List.mem_of_getElem? (i := 708) (by decide +kernel), List.mem_of_getElem? (i := 709) (by decide +kernel)⟩
theorem lw_p17 : lw_okq (⟨"ServantRegistry$RuleReader", "takeWord", "(Ljava/lang/String;)I"⟩, 9) := ⟨⟨by decide +kernel, by decide +kernel⟩, List.mem_of_getElem? (i := 119) (by decide +kernel), List.mem_of_getElem? (i := 715) (by decide +kernel), List.mem_of_getElem? (i := 716) (by decide +kernel)⟩
theorem lw_p18 : lw_okq (⟨"ServantRegistry$RuleReader", "indexIn", "(Ljava/lang/String;)I"⟩, 9) := ⟨⟨by decide +kernel, by decide +kernel⟩, List.mem_of_getElem? (i := 119) (by decide +kernel), List.mem_of_getElem? (i := 719) (by decide +kernel), List.mem_of_getElem? (i := 720) (by decide +kernel)⟩
theorem lw_p19 : lw_okq (⟨"ServantRegistry$RuleReader", "refuse", "()V"⟩, 9) := ⟨⟨by decide +kernel, by decide +kernel⟩, List.mem_of_getElem? (i := 119) (by decide +kernel), List.mem_of_getElem? (i := 769) (by decide +kernel), List.mem_of_getElem? (i := 770) (by decide +kernel)⟩
theorem lw_p20 : lw_okq (⟨"ServantRegistry$RuleReader", "takeNumber", "(I)I"⟩, 9) := ⟨⟨by decide +kernel, by decide +kernel⟩, List.mem_of_getElem? (i := 119) (by decide +kernel), List.mem_of_getElem? (i := 804) (by decide +kernel), List.mem_of_getElem? (i := 805) (by decide +kernel)⟩
theorem lw_p21 : lw_okq (⟨"ServantRegistry$RuleReader", "isWord", "(Ljava/lang/String;)Z"⟩, 9) := ⟨⟨by decide +kernel, by decide +kernel⟩, List.mem_of_getElem? (i := 119) (by decide +kernel), List.mem_of_getElem? (i := 813) (by decide +kernel), List.mem_of_getElem? (i := 814) (by decide +kernel)⟩
theorem lw_p22 : lw_okq (⟨"ServantRegistry$RuleReader", "readAny", "(I)V"⟩, 9) := ⟨⟨by decide +kernel, by decide +kernel⟩, List.mem_of_getElem? (i := 119) (by decide +kernel), List.mem_of_getElem? (i := 817) (by decide +kernel), List.mem_of_getElem? (i := 818) (by decide +kernel)⟩
theorem lw_p23 : lw_okq (⟨"ServantRegistry$RuleReader", "readOne", "(I)V"⟩, 9) := ⟨⟨by decide +kernel, by decide +kernel⟩, List.mem_of_getElem? (i := 119) (by decide +kernel), List.mem_of_getElem? (i := 821) (by decide +kernel), List.mem_of_getElem? (i := 822) (by decide +kernel)⟩
theorem lw_p24 : lw_okq (⟨"ServantRegistry$RuleReader", "isSign", "(C)Z"⟩, 9) := ⟨⟨by decide +kernel, by decide +kernel⟩, List.mem_of_getElem? (i := 119) (by decide +kernel), List.mem_of_getElem? (i := 826) (by decide +kernel), List.mem_of_getElem? (i := 827) (by decide +kernel)⟩
theorem lw_p25 : lw_okq (⟨"ServantRegistry$RuleReader", "emit", "(I)V"⟩, 9) := ⟨⟨by decide +kernel, by decide +kernel⟩, List.mem_of_getElem? (i := 119) (by decide +kernel), List.mem_of_getElem? (i := 830) (by decide +kernel), List.mem_of_getElem? (i := 831) (by decide +kernel)⟩
theorem lw_p26 : lw_okq (⟨"ServantRegistry$RuleReader", "takeSign", "(C)V"⟩, 9) := ⟨⟨by decide +kernel, by decide +kernel⟩, List.mem_of_getElem? (i := 119) (by decide +kernel), List.mem_of_getElem? (i := 834) (by decide +kernel), List.mem_of_getElem? (i := 835) (by decide +kernel)⟩
theorem lw_p27 : lw_okq (⟨"ServantRegistry$RuleReader", "takeComparison", "()I"⟩, 9) := ⟨⟨by decide +kernel, by decide +kernel⟩, List.mem_of_getElem? (i := 119) (by decide +kernel), List.mem_of_getElem? (i := 839) (by decide +kernel), List.mem_of_getElem? (i := 840) (by decide +kernel)⟩
theorem lw_p28 : lw_okq (⟨"ServantRegistry", "readWishes", "(JI)I"⟩, 18) := ⟨⟨by decide +kernel, by decide +kernel⟩, List.mem_of_getElem? (i := 29) (by decide +kernel), List.mem_of_getElem? (i := 1005) (by decide +kernel), List.mem_of_getElem? (i := 1006) (by decide +kernel)⟩
theorem lw_p29 : lw_okq (⟨"ServantRegistry", "preparePairs", "()V"⟩, 18) := ⟨⟨by decide +kernel, by decide +kernel⟩, List.mem_of_getElem? (i := 29) (by decide +kernel), List.mem_of_getElem? (i := 1014) (by decide +kernel), List.mem_of_getElem? (i := 1015) (by decide +kernel)⟩
theorem lw_p30 : lw_okq (⟨"ServantRegistry$Dealing", "forgetPairing", "()V"⟩, 8) := ⟨⟨by decide +kernel, by decide +kernel⟩, List.mem_of_getElem? (i := 173) (by decide +kernel), List.mem_of_getElem? (i := 1042) (by decide +kernel), List.mem_of_getElem? (i := 1043) (by decide +kernel)⟩
theorem lw_p31 : lw_okq (⟨"ServantRegistry$Dealing", "offer", "(II)V"⟩, 8) := ⟨⟨by decide +kernel, by decide +kernel⟩, List.mem_of_getElem? (i := 173) (by decide +kernel), List.mem_of_getElem? (i := 1046) (by decide +kernel), List.mem_of_getElem? (i := 1047) (by decide +kernel)⟩
def lw_privs_2 : List (MethodName × Nat) := [(⟨"ServantRegistry$RuleReader", "readStatement", "(LServantRegistry$Rulebook;)V"⟩, 9), (⟨"ServantRegistry$RuleReader", "takeWord", "(Ljava/lang/String;)I"⟩, 9), (⟨"ServantRegistry$RuleReader", "indexIn", "(Ljava/lang/String;)I"⟩, 9), (⟨"ServantRegistry$RuleReader", "refuse", "()V"⟩, 9), (⟨"ServantRegistry$RuleReader", "takeNumber", "(I)I"⟩, 9), (⟨"ServantRegistry$RuleReader", "isWord", "(Ljava/lang/String;)Z"⟩, 9), (⟨"ServantRegistry$RuleReader", "readAny", "(I)V"⟩, 9), (⟨"ServantRegistry$RuleReader", "readOne", "(I)V"⟩, 9), (⟨"ServantRegistry$RuleReader", "isSign", "(C)Z"⟩, 9), (⟨"ServantRegistry$RuleReader", "emit", "(I)V"⟩, 9), (⟨"ServantRegistry$RuleReader", "takeSign", "(C)V"⟩, 9), (⟨"ServantRegistry$RuleReader", "takeComparison", "()I"⟩, 9), (⟨"ServantRegistry", "readWishes", "(JI)I"⟩, 18), (⟨"ServantRegistry", "preparePairs", "()V"⟩, 18), (⟨"ServantRegistry$Dealing", "forgetPairing", "()V"⟩, 8), (⟨"ServantRegistry$Dealing", "offer", "(II)V"⟩, 8)]
theorem lw_r2 : ∀ q ∈ lw_privs_2, lw_okq q := List.forall_mem_cons.mpr ⟨lw_p16, List.forall_mem_cons.mpr ⟨lw_p17, List.forall_mem_cons.mpr ⟨lw_p18, List.forall_mem_cons.mpr ⟨lw_p19, List.forall_mem_cons.mpr ⟨lw_p20, List.forall_mem_cons.mpr ⟨lw_p21, List.forall_mem_cons.mpr ⟨lw_p22, List.forall_mem_cons.mpr ⟨lw_p23, List.forall_mem_cons.mpr ⟨lw_p24, List.forall_mem_cons.mpr ⟨lw_p25, List.forall_mem_cons.mpr ⟨lw_p26, List.forall_mem_cons.mpr ⟨lw_p27, List.forall_mem_cons.mpr ⟨lw_p28, List.forall_mem_cons.mpr ⟨lw_p29, List.forall_mem_cons.mpr ⟨lw_p30, List.forall_mem_cons.mpr ⟨lw_p31, fun _ h => absurd h List.not_mem_nil⟩⟩⟩⟩⟩⟩⟩⟩⟩⟩⟩⟩⟩⟩⟩⟩
theorem lw_p32 : lw_okq (⟨"ServantRegistry$Dealing", "placeLikesBetter", "(II)Z"⟩, 8) := ⟨⟨by decide +kernel, by decide +kernel⟩, List.mem_of_getElem? (i := 173) (by decide +kernel), List.mem_of_getElem? (i := 1050) (by decide +kernel), List.mem_of_getElem? (i := 1051) (by decide +kernel)⟩
theorem lw_p33 : lw_okq (⟨"ServantRegistry$Dealing", "servantLikesBetter", "(II)Z"⟩, 8) := ⟨⟨by decide +kernel, by decide +kernel⟩, List.mem_of_getElem? (i := 173) (by decide +kernel), List.mem_of_getElem? (i := 1070) (by decide +kernel), List.mem_of_getElem? (i := 1071) (by decide +kernel)⟩
theorem lw_p34 : lw_okq (⟨"ServantRegistry$Rulebook", "wayBy", "(LServantRegistry$Statement;[I)I"⟩, 12) := ⟨⟨by decide +kernel, by decide +kernel⟩, List.mem_of_getElem? (i := 64) (by decide +kernel), List.mem_of_getElem? (i := 1088) (by decide +kernel), List.mem_of_getElem? (i := 1089) (by decide +kernel)⟩
theorem lw_p35 : lw_okq (⟨"ServantRegistry$Chain", "bestFrom", "(II)I"⟩, 11) := ⟨⟨by decide +kernel, by decide +kernel⟩, List.mem_of_getElem? (i := 205) (by decide +kernel), List.mem_of_getElem? (i := 1127) (by decide +kernel), List.mem_of_getElem? (i := 1128) (by decide +kernel)⟩
theorem lw_p36 : lw_okq (⟨"ServantRegistry$Chain", "worthOf", "(III)I"⟩, 11) := ⟨⟨by decide +kernel, by decide +kernel⟩, List.mem_of_getElem? (i := 205) (by decide +kernel), List.mem_of_getElem? (i := 1131) (by decide +kernel), List.mem_of_getElem? (i := 1132) (by decide +kernel)⟩
theorem lw_p37 : lw_okq (⟨"ServantRegistry$Chain", "takeLeastRow", "()V"⟩, 11) := ⟨⟨by decide +kernel, by decide +kernel⟩, List.mem_of_getElem? (i := 205) (by decide +kernel), List.mem_of_getElem? (i := 1135) (by decide +kernel), List.mem_of_getElem? (i := 1136) (by decide +kernel)⟩
theorem lw_p38 : lw_okq (⟨"ServantRegistryModel", "isHouse", "(I)Z"⟩, 86) := ⟨⟨by decide +kernel, by decide +kernel⟩, List.mem_of_getElem? (i := 1209) (by decide +kernel), List.mem_of_getElem? (i := 1498) (by decide +kernel), List.mem_of_getElem? (i := 1499) (by decide +kernel)⟩
theorem lw_p39 : lw_okq (⟨"ServantRegistryModel", "isServant", "(I)Z"⟩, 86) := ⟨⟨by decide +kernel, by decide +kernel⟩, List.mem_of_getElem? (i := 1209) (by decide +kernel), List.mem_of_getElem? (i := 1506) (by decide +kernel), List.mem_of_getElem? (i := 1507) (by decide +kernel)⟩
theorem lw_p40 : lw_okq (⟨"ServantRegistryModel", "isPlace", "(I)Z"⟩, 86) := ⟨⟨by decide +kernel, by decide +kernel⟩, List.mem_of_getElem? (i := 1209) (by decide +kernel), List.mem_of_getElem? (i := 1510) (by decide +kernel), List.mem_of_getElem? (i := 1511) (by decide +kernel)⟩
theorem lw_p41 : lw_okq (⟨"ServantRegistryModel", "letters", "(I)I"⟩, 86) := ⟨⟨by decide +kernel, by decide +kernel⟩, List.mem_of_getElem? (i := 1209) (by decide +kernel), List.mem_of_getElem? (i := 1514) (by decide +kernel), List.mem_of_getElem? (i := 1515) (by decide +kernel)⟩
theorem lw_p42 : lw_okq (⟨"ServantRegistryModel", "isPlacing", "(I)Z"⟩, 86) := ⟨⟨by decide +kernel, by decide +kernel⟩, List.mem_of_getElem? (i := 1209) (by decide +kernel), List.mem_of_getElem? (i := 1522) (by decide +kernel), List.mem_of_getElem? (i := 1523) (by decide +kernel)⟩
theorem lw_p43 : lw_okq (⟨"ServantRegistryModel", "inOf", "(III)I"⟩, 86) := ⟨⟨by decide +kernel, by decide +kernel⟩, List.mem_of_getElem? (i := 1209) (by decide +kernel), List.mem_of_getElem? (i := 1537) (by decide +kernel), List.mem_of_getElem? (i := 1538) (by decide +kernel)⟩
theorem lw_p44 : lw_okq (⟨"ServantRegistryModel", "isKnown", "(II)Z"⟩, 86) := ⟨⟨by decide +kernel, by decide +kernel⟩, List.mem_of_getElem? (i := 1209) (by decide +kernel), List.mem_of_getElem? (i := 1541) (by decide +kernel), List.mem_of_getElem? (i := 1542) (by decide +kernel)⟩
theorem lw_p45 : lw_okq (⟨"ServantRegistryModel", "endOf", "(II)I"⟩, 86) := ⟨⟨by decide +kernel, by decide +kernel⟩, List.mem_of_getElem? (i := 1209) (by decide +kernel), List.mem_of_getElem? (i := 1545) (by decide +kernel), List.mem_of_getElem? (i := 1546) (by decide +kernel)⟩
theorem lw_p46 : lw_okq (⟨"ServantRegistryModel", "holderOf", "(III)I"⟩, 86) := ⟨⟨by decide +kernel, by decide +kernel⟩, List.mem_of_getElem? (i := 1209) (by decide +kernel), List.mem_of_getElem? (i := 1553) (by decide +kernel), List.mem_of_getElem? (i := 1554) (by decide +kernel)⟩
theorem lw_p47 : lw_okq (⟨"ServantRegistryModel", "feeOf", "(II)I"⟩, 86) := ⟨⟨by decide +kernel, by decide +kernel⟩, List.mem_of_getElem? (i := 1209) (by decide +kernel), List.mem_of_getElem? (i := 1568) (by decide +kernel), List.mem_of_getElem? (i := 1569) (by decide +kernel)⟩
def lw_privs_3 : List (MethodName × Nat) := [(⟨"ServantRegistry$Dealing", "placeLikesBetter", "(II)Z"⟩, 8), (⟨"ServantRegistry$Dealing", "servantLikesBetter", "(II)Z"⟩, 8), (⟨"ServantRegistry$Rulebook", "wayBy", "(LServantRegistry$Statement;[I)I"⟩, 12), (⟨"ServantRegistry$Chain", "bestFrom", "(II)I"⟩, 11), (⟨"ServantRegistry$Chain", "worthOf", "(III)I"⟩, 11), (⟨"ServantRegistry$Chain", "takeLeastRow", "()V"⟩, 11), (⟨"ServantRegistryModel", "isHouse", "(I)Z"⟩, 86), (⟨"ServantRegistryModel", "isServant", "(I)Z"⟩, 86), (⟨"ServantRegistryModel", "isPlace", "(I)Z"⟩, 86), (⟨"ServantRegistryModel", "letters", "(I)I"⟩, 86), (⟨"ServantRegistryModel", "isPlacing", "(I)Z"⟩, 86), (⟨"ServantRegistryModel", "inOf", "(III)I"⟩, 86), (⟨"ServantRegistryModel", "isKnown", "(II)Z"⟩, 86), (⟨"ServantRegistryModel", "endOf", "(II)I"⟩, 86), (⟨"ServantRegistryModel", "holderOf", "(III)I"⟩, 86), (⟨"ServantRegistryModel", "feeOf", "(II)I"⟩, 86)]
theorem lw_r3 : ∀ q ∈ lw_privs_3, lw_okq q := List.forall_mem_cons.mpr ⟨lw_p32, List.forall_mem_cons.mpr ⟨lw_p33, List.forall_mem_cons.mpr ⟨lw_p34, List.forall_mem_cons.mpr ⟨lw_p35, List.forall_mem_cons.mpr ⟨lw_p36, List.forall_mem_cons.mpr ⟨lw_p37, List.forall_mem_cons.mpr ⟨lw_p38, List.forall_mem_cons.mpr ⟨lw_p39, List.forall_mem_cons.mpr ⟨lw_p40, List.forall_mem_cons.mpr ⟨lw_p41, List.forall_mem_cons.mpr ⟨lw_p42, List.forall_mem_cons.mpr ⟨lw_p43, List.forall_mem_cons.mpr ⟨lw_p44, List.forall_mem_cons.mpr ⟨lw_p45, List.forall_mem_cons.mpr ⟨lw_p46, List.forall_mem_cons.mpr ⟨lw_p47, fun _ h => absurd h List.not_mem_nil⟩⟩⟩⟩⟩⟩⟩⟩⟩⟩⟩⟩⟩⟩⟩⟩
theorem lw_p48 : lw_okq (⟨"ServantRegistryModel", "firstOf", "(IIIII)I"⟩, 86) := ⟨⟨by decide +kernel, by decide +kernel⟩, List.mem_of_getElem? (i := 1209) (by decide +kernel), List.mem_of_getElem? (i := 1572) (by decide +kernel), List.mem_of_getElem? (i := 1573) (by decide +kernel)⟩
theorem lw_p49 : lw_okq (⟨"ServantRegistryModel", "inForce", "(I)I"⟩, 86) := ⟨⟨by decide +kernel, by decide +kernel⟩, List.mem_of_getElem? (i := 1209) (by decide +kernel), List.mem_of_getElem? (i := 1576) (by decide +kernel), List.mem_of_getElem? (i := 1577) (by decide +kernel)⟩
theorem lw_p50 : lw_okq (⟨"ServantRegistryModel", "ageOn", "(II)I"⟩, 86) := ⟨⟨by decide +kernel, by decide +kernel⟩, List.mem_of_getElem? (i := 1209) (by decide +kernel), List.mem_of_getElem? (i := 1580) (by decide +kernel), List.mem_of_getElem? (i := 1581) (by decide +kernel)⟩
theorem lw_p51 : lw_okq (⟨"ServantRegistryModel", "holds", "(I)Z"⟩, 86) := ⟨⟨by decide +kernel, by decide +kernel⟩, List.mem_of_getElem? (i := 1209) (by decide +kernel), List.mem_of_getElem? (i := 1587) (by decide +kernel), List.mem_of_getElem? (i := 1588) (by decide +kernel)⟩
theorem lw_p52 : lw_okq (⟨"ServantRegistryModel", "backOf", "(I)I"⟩, 86) := ⟨⟨by decide +kernel, by decide +kernel⟩, List.mem_of_getElem? (i := 1209) (by decide +kernel), List.mem_of_getElem? (i := 1591) (by decide +kernel), List.mem_of_getElem? (i := 1592) (by decide +kernel)⟩
theorem lw_p53 : lw_okq (⟨"ServantRegistryModel", "last", "(III)I"⟩, 86) := ⟨⟨by decide +kernel, by decide +kernel⟩, List.mem_of_getElem? (i := 1209) (by decide +kernel), List.mem_of_getElem? (i := 1595) (by decide +kernel), List.mem_of_getElem? (i := 1596) (by decide +kernel)⟩
theorem lw_p54 : lw_okq (⟨"ServantRegistryModel", "owedOf", "(I)I"⟩, 86) := ⟨⟨by decide +kernel, by decide +kernel⟩, List.mem_of_getElem? (i := 1209) (by decide +kernel), List.mem_of_getElem? (i := 1599) (by decide +kernel), List.mem_of_getElem? (i := 1600) (by decide +kernel)⟩
theorem lw_p55 : lw_okq (⟨"ServantRegistryModel", "tells", "(IIII)I"⟩, 86) := ⟨⟨by decide +kernel, by decide +kernel⟩, List.mem_of_getElem? (i := 1209) (by decide +kernel), List.mem_of_getElem? (i := 1603) (by decide +kernel), List.mem_of_getElem? (i := 1604) (by decide +kernel)⟩
theorem lw_p56 : lw_okq (⟨"ServantRegistryModel", "four", "(I)V"⟩, 86) := ⟨⟨by decide +kernel, by decide +kernel⟩, List.mem_of_getElem? (i := 1209) (by decide +kernel), List.mem_of_getElem? (i := 1615) (by decide +kernel), List.mem_of_getElem? (i := 1616) (by decide +kernel)⟩
theorem lw_p57 : lw_okq (⟨"ServantRegistryModel", "blanks", "()V"⟩, 86) := ⟨⟨by decide +kernel, by decide +kernel⟩, List.mem_of_getElem? (i := 1209) (by decide +kernel), List.mem_of_getElem? (i := 1623) (by decide +kernel), List.mem_of_getElem? (i := 1624) (by decide +kernel)⟩
theorem lw_p58 : lw_okq (⟨"ServantRegistryModel", "statement", "(I)Z"⟩, 86) := ⟨⟨by decide +kernel, by decide +kernel⟩, List.mem_of_getElem? (i := 1209) (by decide +kernel), List.mem_of_getElem? (i := 1627) (by decide +kernel), List.mem_of_getElem? (i := 1628) (by decide +kernel)⟩
theorem lw_p59 : lw_okq (⟨"ServantRegistryModel", "takes", "(J)Z"⟩, 86) := ⟨⟨by decide +kernel, by decide +kernel⟩, List.mem_of_getElem? (i := 1209) (by decide +kernel), List.mem_of_getElem? (i := 1632) (by decide +kernel), List.mem_of_getElem? (i := 1633) (by decide +kernel)⟩
theorem lw_p60 : lw_okq (⟨"ServantRegistryModel", "word", "()J"⟩, 86) := ⟨⟨by decide +kernel, by decide +kernel⟩, List.mem_of_getElem? (i := 1209) (by decide +kernel), List.mem_of_getElem? (i := 1636) (by decide +kernel), List.mem_of_getElem? (i := 1637) (by decide +kernel)⟩
theorem lw_p61 : lw_okq (⟨"ServantRegistryModel", "fee", "(I)Z"⟩, 86) := ⟨⟨by decide +kernel, by decide +kernel⟩, List.mem_of_getElem? (i := 1209) (by decide +kernel), List.mem_of_getElem? (i := 1640) (by decide +kernel), List.mem_of_getElem? (i := 1641) (by decide +kernel)⟩
theorem lw_p62 : lw_okq (⟨"ServantRegistryModel", "takesPlain", "()Z"⟩, 86) := ⟨⟨by decide +kernel, by decide +kernel⟩, List.mem_of_getElem? (i := 1209) (by decide +kernel), List.mem_of_getElem? (i := 1646) (by decide +kernel), List.mem_of_getElem? (i := 1647) (by decide +kernel)⟩
theorem lw_p63 : lw_okq (⟨"ServantRegistryModel", "takesNumber", "(I)Z"⟩, 86) := ⟨⟨by decide +kernel, by decide +kernel⟩, List.mem_of_getElem? (i := 1209) (by decide +kernel), List.mem_of_getElem? (i := 1650) (by decide +kernel), List.mem_of_getElem? (i := 1651) (by decide +kernel)⟩
def lw_privs_4 : List (MethodName × Nat) := [(⟨"ServantRegistryModel", "firstOf", "(IIIII)I"⟩, 86), (⟨"ServantRegistryModel", "inForce", "(I)I"⟩, 86), (⟨"ServantRegistryModel", "ageOn", "(II)I"⟩, 86), (⟨"ServantRegistryModel", "holds", "(I)Z"⟩, 86), (⟨"ServantRegistryModel", "backOf", "(I)I"⟩, 86), (⟨"ServantRegistryModel", "last", "(III)I"⟩, 86), (⟨"ServantRegistryModel", "owedOf", "(I)I"⟩, 86), (⟨"ServantRegistryModel", "tells", "(IIII)I"⟩, 86), (⟨"ServantRegistryModel", "four", "(I)V"⟩, 86), (⟨"ServantRegistryModel", "blanks", "()V"⟩, 86), (⟨"ServantRegistryModel", "statement", "(I)Z"⟩, 86), (⟨"ServantRegistryModel", "takes", "(J)Z"⟩, 86), (⟨"ServantRegistryModel", "word", "()J"⟩, 86), (⟨"ServantRegistryModel", "fee", "(I)Z"⟩, 86), (⟨"ServantRegistryModel", "takesPlain", "()Z"⟩, 86), (⟨"ServantRegistryModel", "takesNumber", "(I)Z"⟩, 86)]
theorem lw_r4 : ∀ q ∈ lw_privs_4, lw_okq q := List.forall_mem_cons.mpr ⟨lw_p48, List.forall_mem_cons.mpr ⟨lw_p49, List.forall_mem_cons.mpr ⟨lw_p50, List.forall_mem_cons.mpr ⟨lw_p51, List.forall_mem_cons.mpr ⟨lw_p52, List.forall_mem_cons.mpr ⟨lw_p53, List.forall_mem_cons.mpr ⟨lw_p54, List.forall_mem_cons.mpr ⟨lw_p55, List.forall_mem_cons.mpr ⟨lw_p56, List.forall_mem_cons.mpr ⟨lw_p57, List.forall_mem_cons.mpr ⟨lw_p58, List.forall_mem_cons.mpr ⟨lw_p59, List.forall_mem_cons.mpr ⟨lw_p60, List.forall_mem_cons.mpr ⟨lw_p61, List.forall_mem_cons.mpr ⟨lw_p62, List.forall_mem_cons.mpr ⟨lw_p63, fun _ h => absurd h List.not_mem_nil⟩⟩⟩⟩⟩⟩⟩⟩⟩⟩⟩⟩⟩⟩⟩⟩
theorem lw_p64 : lw_okq (⟨"ServantRegistryModel", "condition", "(I)Z"⟩, 86) := ⟨⟨by decide +kernel, by decide +kernel⟩, List.mem_of_getElem? (i := 1209) (by decide +kernel), List.mem_of_getElem? (i := 1654) (by decide +kernel), List.mem_of_getElem? (i := 1655) (by decide +kernel)⟩
theorem lw_p65 : lw_okq (⟨"ServantRegistryModel", "any", "()I"⟩, 86) := ⟨⟨by decide +kernel, by decide +kernel⟩, List.mem_of_getElem? (i := 1209) (by decide +kernel), List.mem_of_getElem? (i := 1659) (by decide +kernel), List.mem_of_getElem? (i := 1660) (by decide +kernel)⟩
theorem lw_p66 : lw_okq (⟨"ServantRegistryModel", "node", "(I)I"⟩, 86) := ⟨⟨by decide +kernel, by decide +kernel⟩, List.mem_of_getElem? (i := 1209) (by decide +kernel), List.mem_of_getElem? (i := 1663) (by decide +kernel), List.mem_of_getElem? (i := 1664) (by decide +kernel)⟩
theorem lw_p67 : lw_okq (⟨"ServantRegistryModel", "all", "()I"⟩, 86) := ⟨⟨by decide +kernel, by decide +kernel⟩, List.mem_of_getElem? (i := 1209) (by decide +kernel), List.mem_of_getElem? (i := 1667) (by decide +kernel), List.mem_of_getElem? (i := 1668) (by decide +kernel)⟩
theorem lw_p68 : lw_okq (⟨"ServantRegistryModel", "single", "()I"⟩, 86) := ⟨⟨by decide +kernel, by decide +kernel⟩, List.mem_of_getElem? (i := 1209) (by decide +kernel), List.mem_of_getElem? (i := 1671) (by decide +kernel), List.mem_of_getElem? (i := 1672) (by decide +kernel)⟩
theorem lw_p69 : lw_okq (⟨"ServantRegistryModel", "takesSign", "(I)Z"⟩, 86) := ⟨⟨by decide +kernel, by decide +kernel⟩, List.mem_of_getElem? (i := 1209) (by decide +kernel), List.mem_of_getElem? (i := 1676) (by decide +kernel), List.mem_of_getElem? (i := 1677) (by decide +kernel)⟩
theorem lw_p70 : lw_okq (⟨"ServantRegistryModel", "plain", "(I)Z"⟩, 86) := ⟨⟨by decide +kernel, by decide +kernel⟩, List.mem_of_getElem? (i := 1209) (by decide +kernel), List.mem_of_getElem? (i := 1692) (by decide +kernel), List.mem_of_getElem? (i := 1693) (by decide +kernel)⟩
theorem lw_p71 : lw_okq (⟨"ServantRegistryModel", "ofPost", "(I)Z"⟩, 86) := ⟨⟨by decide +kernel, by decide +kernel⟩, List.mem_of_getElem? (i := 1209) (by decide +kernel), List.mem_of_getElem? (i := 1698) (by decide +kernel), List.mem_of_getElem? (i := 1699) (by decide +kernel)⟩
theorem lw_p72 : lw_okq (⟨"ServantRegistryModel", "postHere", "()I"⟩, 86) := ⟨⟨by decide +kernel, by decide +kernel⟩, List.mem_of_getElem? (i := 1209) (by decide +kernel), List.mem_of_getElem? (i := 1702) (by decide +kernel), List.mem_of_getElem? (i := 1703) (by decide +kernel)⟩
theorem lw_p73 : lw_okq (⟨"ServantRegistryModel", "fitOf", "(III)I"⟩, 86) := ⟨⟨by decide +kernel, by decide +kernel⟩, List.mem_of_getElem? (i := 1209) (by decide +kernel), List.mem_of_getElem? (i := 1733) (by decide +kernel), List.mem_of_getElem? (i := 1734) (by decide +kernel)⟩
theorem lw_p74 : lw_okq (⟨"ServantRegistryModel", "falseBy", "(II)I"⟩, 86) := ⟨⟨by decide +kernel, by decide +kernel⟩, List.mem_of_getElem? (i := 1209) (by decide +kernel), List.mem_of_getElem? (i := 1749) (by decide +kernel), List.mem_of_getElem? (i := 1750) (by decide +kernel)⟩
theorem lw_p75 : lw_okq (⟨"ServantRegistryModel", "behind", "(I)I"⟩, 86) := ⟨⟨by decide +kernel, by decide +kernel⟩, List.mem_of_getElem? (i := 1209) (by decide +kernel), List.mem_of_getElem? (i := 1757) (by decide +kernel), List.mem_of_getElem? (i := 1758) (by decide +kernel)⟩
theorem lw_p76 : lw_okq (⟨"ServantRegistryModel", "put", "(III)V"⟩, 86) := ⟨⟨by decide +kernel, by decide +kernel⟩, List.mem_of_getElem? (i := 1209) (by decide +kernel), List.mem_of_getElem? (i := 1766) (by decide +kernel), List.mem_of_getElem? (i := 1767) (by decide +kernel)⟩
theorem lw_p77 : lw_okq (⟨"ServantRegistryModel", "deals", "()V"⟩, 86) := ⟨⟨by decide +kernel, by decide +kernel⟩, List.mem_of_getElem? (i := 1209) (by decide +kernel), List.mem_of_getElem? (i := 1774) (by decide +kernel), List.mem_of_getElem? (i := 1775) (by decide +kernel)⟩
theorem lw_p78 : lw_okq (⟨"ServantRegistryModel", "whoTakesPart", "()V"⟩, 86) := ⟨⟨by decide +kernel, by decide +kernel⟩, List.mem_of_getElem? (i := 1209) (by decide +kernel), List.mem_of_getElem? (i := 1778) (by decide +kernel), List.mem_of_getElem? (i := 1779) (by decide +kernel)⟩
theorem lw_p79 : lw_okq (⟨"ServantRegistryModel", "nth", "(II)I"⟩, 86) := ⟨⟨by decide +kernel, by decide +kernel⟩, List.mem_of_getElem? (i := 1209) (by decide +kernel), List.mem_of_getElem? (i := 1782) (by decide +kernel), List.mem_of_getElem? (i := 1783) (by decide +kernel)⟩
def lw_privs_5 : List (MethodName × Nat) := [(⟨"ServantRegistryModel", "condition", "(I)Z"⟩, 86), (⟨"ServantRegistryModel", "any", "()I"⟩, 86), (⟨"ServantRegistryModel", "node", "(I)I"⟩, 86), (⟨"ServantRegistryModel", "all", "()I"⟩, 86), (⟨"ServantRegistryModel", "single", "()I"⟩, 86), (⟨"ServantRegistryModel", "takesSign", "(I)Z"⟩, 86), (⟨"ServantRegistryModel", "plain", "(I)Z"⟩, 86), (⟨"ServantRegistryModel", "ofPost", "(I)Z"⟩, 86), (⟨"ServantRegistryModel", "postHere", "()I"⟩, 86), (⟨"ServantRegistryModel", "fitOf", "(III)I"⟩, 86), (⟨"ServantRegistryModel", "falseBy", "(II)I"⟩, 86), (⟨"ServantRegistryModel", "behind", "(I)I"⟩, 86), (⟨"ServantRegistryModel", "put", "(III)V"⟩, 86), (⟨"ServantRegistryModel", "deals", "()V"⟩, 86), (⟨"ServantRegistryModel", "whoTakesPart", "()V"⟩, 86), (⟨"ServantRegistryModel", "nth", "(II)I"⟩, 86)]
theorem lw_r5 : ∀ q ∈ lw_privs_5, lw_okq q := List.forall_mem_cons.mpr ⟨lw_p64, List.forall_mem_cons.mpr ⟨lw_p65, List.forall_mem_cons.mpr ⟨lw_p66, List.forall_mem_cons.mpr ⟨lw_p67, List.forall_mem_cons.mpr ⟨lw_p68, List.forall_mem_cons.mpr ⟨lw_p69, List.forall_mem_cons.mpr ⟨lw_p70, List.forall_mem_cons.mpr ⟨lw_p71, List.forall_mem_cons.mpr ⟨lw_p72, List.forall_mem_cons.mpr ⟨lw_p73, List.forall_mem_cons.mpr ⟨lw_p74, List.forall_mem_cons.mpr ⟨lw_p75, List.forall_mem_cons.mpr ⟨lw_p76, List.forall_mem_cons.mpr ⟨lw_p77, List.forall_mem_cons.mpr ⟨lw_p78, List.forall_mem_cons.mpr ⟨lw_p79, fun _ h => absurd h List.not_mem_nil⟩⟩⟩⟩⟩⟩⟩⟩⟩⟩⟩⟩⟩⟩⟩⟩
theorem lw_p80 : lw_okq (⟨"ServantRegistryModel", "asks", "(II)V"⟩, 86) := ⟨⟨by decide +kernel, by decide +kernel⟩, List.mem_of_getElem? (i := 1209) (by decide +kernel), List.mem_of_getElem? (i := 1786) (by decide +kernel), List.mem_of_getElem? (i := 1787) (by decide +kernel)⟩
theorem lw_p81 : lw_okq (⟨"ServantRegistryModel", "mayBe", "(II)Z"⟩, 86) := ⟨⟨by decide +kernel, by decide +kernel⟩, List.mem_of_getElem? (i := 1209) (by decide +kernel), List.mem_of_getElem? (i := 1790) (by decide +kernel), List.mem_of_getElem? (i := 1791) (by decide +kernel)⟩
theorem lw_p82 : lw_okq (⟨"ServantRegistryModel", "toldHolder", "(I)I"⟩, 86) := ⟨⟨by decide +kernel, by decide +kernel⟩, List.mem_of_getElem? (i := 1209) (by decide +kernel), List.mem_of_getElem? (i := 1802) (by decide +kernel), List.mem_of_getElem? (i := 1803) (by decide +kernel)⟩
theorem lw_p83 : lw_okq (⟨"ServantRegistryModel", "leaves", "(II)Z"⟩, 86) := ⟨⟨by decide +kernel, by decide +kernel⟩, List.mem_of_getElem? (i := 1209) (by decide +kernel), List.mem_of_getElem? (i := 1806) (by decide +kernel), List.mem_of_getElem? (i := 1807) (by decide +kernel)⟩
theorem lw_p84 : lw_okq (⟨"ServantRegistryModel", "rows", "(IIII)V"⟩, 86) := ⟨⟨by decide +kernel, by decide +kernel⟩, List.mem_of_getElem? (i := 1209) (by decide +kernel), List.mem_of_getElem? (i := 1832) (by decide +kernel), List.mem_of_getElem? (i := 1833) (by decide +kernel)⟩
theorem lw_p85 : lw_okq (⟨"ServantRegistryModel", "isLess", "()Z"⟩, 86) := ⟨⟨by decide +kernel, by decide +kernel⟩, List.mem_of_getElem? (i := 1209) (by decide +kernel), List.mem_of_getElem? (i := 1836) (by decide +kernel), List.mem_of_getElem? (i := 1837) (by decide +kernel)⟩
theorem lw_p86 : lw_okq (⟨"ServantRegistryModel", "areLike", "(II)Z"⟩, 86) := ⟨⟨by decide +kernel, by decide +kernel⟩, List.mem_of_getElem? (i := 1209) (by decide +kernel), List.mem_of_getElem? (i := 1848) (by decide +kernel), List.mem_of_getElem? (i := 1849) (by decide +kernel)⟩
theorem lw_p87 : lw_okq (⟨"ServantRegistryModel", "wasLeftSoon", "(I)Z"⟩, 86) := ⟨⟨by decide +kernel, by decide +kernel⟩, List.mem_of_getElem? (i := 1209) (by decide +kernel), List.mem_of_getElem? (i := 1861) (by decide +kernel), List.mem_of_getElem? (i := 1862) (by decide +kernel)⟩
def lw_privs_6 : List (MethodName × Nat) := [(⟨"ServantRegistryModel", "asks", "(II)V"⟩, 86), (⟨"ServantRegistryModel", "mayBe", "(II)Z"⟩, 86), (⟨"ServantRegistryModel", "toldHolder", "(I)I"⟩, 86), (⟨"ServantRegistryModel", "leaves", "(II)Z"⟩, 86), (⟨"ServantRegistryModel", "rows", "(IIII)V"⟩, 86), (⟨"ServantRegistryModel", "isLess", "()Z"⟩, 86), (⟨"ServantRegistryModel", "areLike", "(II)Z"⟩, 86), (⟨"ServantRegistryModel", "wasLeftSoon", "(I)Z"⟩, 86)]
theorem lw_r6 : ∀ q ∈ lw_privs_6, lw_okq q := List.forall_mem_cons.mpr ⟨lw_p80, List.forall_mem_cons.mpr ⟨lw_p81, List.forall_mem_cons.mpr ⟨lw_p82, List.forall_mem_cons.mpr ⟨lw_p83, List.forall_mem_cons.mpr ⟨lw_p84, List.forall_mem_cons.mpr ⟨lw_p85, List.forall_mem_cons.mpr ⟨lw_p86, List.forall_mem_cons.mpr ⟨lw_p87, fun _ h => absurd h List.not_mem_nil⟩⟩⟩⟩⟩⟩⟩⟩
def lw_privs : List (MethodName × Nat) := lw_privs_1 ++ (lw_privs_2 ++ (lw_privs_3 ++ (lw_privs_4 ++ (lw_privs_5 ++ (lw_privs_6)))))
def lw_tbl : List Cond := k2_sels lw_privs ++ tables_1
theorem lw_privs_ok : ∀ q ∈ lw_privs, lw_okq q := by
  show ∀ q ∈ lw_privs_1 ++ (lw_privs_2 ++ (lw_privs_3 ++ (lw_privs_4 ++ (lw_privs_5 ++ (lw_privs_6))))), lw_okq q
  exact List.forall_mem_append.mpr ⟨lw_r1, List.forall_mem_append.mpr ⟨lw_r2, List.forall_mem_append.mpr ⟨lw_r3, List.forall_mem_append.mpr ⟨lw_r4, List.forall_mem_append.mpr ⟨lw_r5, lw_r6⟩⟩⟩⟩⟩

/-! ===== names: classes, their fields, methods (out of the printed names) ===== -/
theorem am_byx {big ws : List Cond} (is : List Nat) (h : ws.map some = is.map (fun i => big[i]?)) : ∀ w ∈ ws, w ∈ big := by
  intro w hw
  have h1 : some w ∈ ws.map some := List.mem_map.mpr ⟨w, hw, rfl⟩
  rw [h] at h1
  obtain ⟨i, -, hi⟩ := List.mem_map.mp h1
  exact List.mem_of_getElem? hi
def RJx4a65c : String := "java/util/ArrayList"
def TJx4a65c : u_T := fun k => match k with
  | 0 => ("java/util/AbstractList", "modCount", "I", false)
  | 1 => ("java/util/ArrayList", "elementData", "[Ljava/lang/Object;", false)
  | _ => ("java/util/ArrayList", "size", "I", false)
def tyJx4a65c : Nat → FieldType := fun k => match k with
  | 0 => .int
  | 1 => .array (.object "java/lang/Object")
  | _ => .int
theorem nmJx4a65c : ∀ a, a < 3 → ∀ b, b < 3 → a ≠ b → (TJx4a65c a).2.1 ≠ (TJx4a65c b).2.1 := by decide +kernel
theorem tyJx4a65c_ok : ∀ k, k < 3 → parseFieldDescriptor (TJx4a65c k).2.2.1 = some (tyJx4a65c k) := by decide +kernel
set_option maxRecDepth 100000 in
theorem inJx4a65c : ∀ w ∈ u_ws RJx4a65c TJx4a65c 3, w ∈ lw_tbl := am_byx [147, 143, 145] (by decide +kernel)
def RX0 : String := "ServantRegistry$Ask"
def TX0 : u_T := fun k => match k with
  | 0 => ("ServantRegistry$Ask", "servant", "LServantRegistry$Servant;", true)
  | 1 => ("ServantRegistry$Ask", "place", "LServantRegistry$Place;", true)
  | 2 => ("ServantRegistry$Ask", "age", "I", true)
  | _ => ("ServantRegistry$Ask", "yes", "Z", true)
def tyX0 : Nat → FieldType := fun k => match k with
  | 0 => .object "ServantRegistry$Servant"
  | 1 => .object "ServantRegistry$Place"
  | 2 => .int
  | _ => .boolean
theorem nmX0 : ∀ a, a < 4 → ∀ b, b < 4 → a ≠ b → (TX0 a).2.1 ≠ (TX0 b).2.1 := by decide +kernel
theorem tyX0_ok : ∀ k, k < 4 → parseFieldDescriptor (TX0 k).2.2.1 = some (tyX0 k) := by decide +kernel
set_option maxRecDepth 100000 in
theorem inX0 : ∀ w ∈ u_ws RX0 TX0 4, w ∈ lw_tbl := am_byx [1242, 1244, 1246, 1248] (by decide +kernel)
def RX1 : String := "ServantRegistry$Chain"
def TX1 : u_T := fun k => match k with
  | 0 => ("ServantRegistry$Chain", "places", "[LServantRegistry$Place;", true)
  | 1 => ("ServantRegistry$Chain", "emptyFrom", "[I", true)
  | 2 => ("ServantRegistry$Chain", "servants", "[LServantRegistry$Servant;", true)
  | 3 => ("ServantRegistry$Chain", "freeFrom", "[I", true)
  | 4 => ("ServantRegistry$Chain", "days", "[I", true)
  | 5 => ("ServantRegistry$Chain", "best", "[I", true)
  | 6 => ("ServantRegistry$Chain", "given", "[I", true)
  | 7 => ("ServantRegistry$Chain", "placeCount", "I", false)
  | 8 => ("ServantRegistry$Chain", "servantCount", "I", false)
  | 9 => ("ServantRegistry$Chain", "givenCount", "I", false)
  | _ => ("ServantRegistry$Chain", "emptyDays", "I", false)
def tyX1 : Nat → FieldType := fun k => match k with
  | 0 => .array (.object "ServantRegistry$Place")
  | 1 => .array .int
  | 2 => .array (.object "ServantRegistry$Servant")
  | 3 => .array .int
  | 4 => .array .int
  | 5 => .array .int
  | 6 => .array .int
  | 7 => .int
  | 8 => .int
  | 9 => .int
  | _ => .int
theorem nmX1 : ∀ a, a < 11 → ∀ b, b < 11 → a ≠ b → (TX1 a).2.1 ≠ (TX1 b).2.1 := by decide +kernel
theorem tyX1_ok : ∀ k, k < 11 → parseFieldDescriptor (TX1 k).2.2.1 = some (tyX1 k) := by decide +kernel
set_option maxRecDepth 100000 in
theorem inX1 : ∀ w ∈ u_ws RX1 TX1 11, w ∈ lw_tbl := am_byx [318, 320, 322, 324, 326, 328, 330, 332, 334, 336, 338] (by decide +kernel)
def RX2 : String := "ServantRegistry$Dealing"
def TX2 : u_T := fun k => match k with
  | 0 => ("ServantRegistry$Dealing", "rows", "[I", true)
  | 1 => ("ServantRegistry$Dealing", "rowLengths", "[I", true)
  | 2 => ("ServantRegistry$Dealing", "servantLikes", "[I", true)
  | 3 => ("ServantRegistry$Dealing", "placeLikes", "[I", true)
  | 4 => ("ServantRegistry$Dealing", "filled", "[I", true)
  | 5 => ("ServantRegistry$Dealing", "servantOf", "[I", true)
  | 6 => ("ServantRegistry$Dealing", "tried", "[I", true)
  | _ => ("ServantRegistry$Dealing", "placeOf", "[I", true)
def tyX2 : Nat → FieldType := fun k => match k with
  | 0 => .array .int
  | 1 => .array .int
  | 2 => .array .int
  | 3 => .array .int
  | 4 => .array .int
  | 5 => .array .int
  | 6 => .array .int
  | _ => .array .int
theorem nmX2 : ∀ a, a < 8 → ∀ b, b < 8 → a ≠ b → (TX2 a).2.1 ≠ (TX2 b).2.1 := by decide +kernel
theorem tyX2_ok : ∀ k, k < 8 → parseFieldDescriptor (TX2 k).2.2.1 = some (tyX2 k) := by decide +kernel
set_option maxRecDepth 100000 in
theorem inX2 : ∀ w ∈ u_ws RX2 TX2 8, w ∈ lw_tbl := am_byx [275, 277, 279, 281, 283, 285, 287, 289] (by decide +kernel)
def RX3 : String := "ServantRegistry$Ledger"
def TX3 : u_T := fun k => match k with
  | 0 => ("ServantRegistry$Ledger", "placings", "Ljava/util/ArrayList;", true)
  | _ => ("ServantRegistry$Ledger", "served", "[I", true)
def tyX3 : Nat → FieldType := fun k => match k with
  | 0 => .object "java/util/ArrayList"
  | _ => .array .int
theorem nmX3 : ∀ a, a < 2 → ∀ b, b < 2 → a ≠ b → (TX3 a).2.1 ≠ (TX3 b).2.1 := by decide +kernel
theorem tyX3_ok : ∀ k, k < 2 → parseFieldDescriptor (TX3 k).2.2.1 = some (tyX3 k) := by decide +kernel
set_option maxRecDepth 100000 in
theorem inX3 : ∀ w ∈ u_ws RX3 TX3 2, w ∈ lw_tbl := am_byx [255, 257] (by decide +kernel)
def RX4 : String := "ServantRegistry$Place"
def TX4 : u_T := fun k => match k with
  | 0 => ("ServantRegistry$Place", "number", "I", true)
  | 1 => ("ServantRegistry$Place", "house", "I", true)
  | 2 => ("ServantRegistry$Place", "town", "I", true)
  | 3 => ("ServantRegistry$Place", "post", "I", true)
  | 4 => ("ServantRegistry$Place", "wage", "I", true)
  | 5 => ("ServantRegistry$Place", "skills", "I", false)
  | 6 => ("ServantRegistry$Place", "age", "I", false)
  | 7 => ("ServantRegistry$Place", "church", "I", false)
  | _ => ("ServantRegistry$Place", "wishes", "[I", false)
def tyX4 : Nat → FieldType := fun k => match k with
  | 0 => .int
  | 1 => .int
  | 2 => .int
  | 3 => .int
  | 4 => .int
  | 5 => .int
  | 6 => .int
  | 7 => .int
  | _ => .array .int
theorem nmX4 : ∀ a, a < 9 → ∀ b, b < 9 → a ≠ b → (TX4 a).2.1 ≠ (TX4 b).2.1 := by decide +kernel
theorem tyX4_ok : ∀ k, k < 9 → parseFieldDescriptor (TX4 k).2.2.1 = some (tyX4 k) := by decide +kernel
set_option maxRecDepth 100000 in
theorem inX4 : ∀ w ∈ u_ws RX4 TX4 9, w ∈ lw_tbl := am_byx [555, 557, 559, 561, 563, 565, 567, 569, 571] (by decide +kernel)
def RX5 : String := "ServantRegistry$Placing"
def TX5 : u_T := fun k => match k with
  | 0 => ("ServantRegistry$Placing", "number", "I", true)
  | 1 => ("ServantRegistry$Placing", "servant", "LServantRegistry$Servant;", true)
  | 2 => ("ServantRegistry$Placing", "place", "LServantRegistry$Place;", true)
  | 3 => ("ServantRegistry$Placing", "from", "I", true)
  | 4 => ("ServantRegistry$Placing", "known", "I", false)
  | 5 => ("ServantRegistry$Placing", "left", "I", false)
  | 6 => ("ServantRegistry$Placing", "leftKnown", "I", false)
  | 7 => ("ServantRegistry$Placing", "notice", "I", false)
  | 8 => ("ServantRegistry$Placing", "cause", "I", false)
  | 9 => ("ServantRegistry$Placing", "undone", "I", false)
  | _ => ("ServantRegistry$Placing", "boxTold", "Z", false)
def tyX5 : Nat → FieldType := fun k => match k with
  | 0 => .int
  | 1 => .object "ServantRegistry$Servant"
  | 2 => .object "ServantRegistry$Place"
  | 3 => .int
  | 4 => .int
  | 5 => .int
  | 6 => .int
  | 7 => .int
  | 8 => .int
  | 9 => .int
  | _ => .boolean
theorem nmX5 : ∀ a, a < 11 → ∀ b, b < 11 → a ≠ b → (TX5 a).2.1 ≠ (TX5 b).2.1 := by decide +kernel
theorem tyX5_ok : ∀ k, k < 11 → parseFieldDescriptor (TX5 k).2.2.1 = some (tyX5 k) := by decide +kernel
set_option maxRecDepth 100000 in
theorem inX5 : ∀ w ∈ u_ws RX5 TX5 11, w ∈ lw_tbl := am_byx [632, 634, 636, 638, 640, 642, 644, 646, 648, 650, 652] (by decide +kernel)
def RX6 : String := "ServantRegistry$RuleReader"
def TX6 : u_T := fun k => match k with
  | 0 => ("ServantRegistry$RuleReader", "tape", "[B", true)
  | 1 => ("ServantRegistry$RuleReader", "codes", "[I", true)
  | 2 => ("ServantRegistry$RuleReader", "length", "I", false)
  | 3 => ("ServantRegistry$RuleReader", "fault", "I", false)
  | 4 => ("ServantRegistry$RuleReader", "textEnd", "I", false)
  | 5 => ("ServantRegistry$RuleReader", "codeCount", "I", false)
  | 6 => ("ServantRegistry$RuleReader", "token", "I", false)
  | 7 => ("ServantRegistry$RuleReader", "tokenStart", "I", false)
  | _ => ("ServantRegistry$RuleReader", "tokenEnd", "I", false)
def tyX6 : Nat → FieldType := fun k => match k with
  | 0 => .array .byte
  | 1 => .array .int
  | 2 => .int
  | 3 => .int
  | 4 => .int
  | 5 => .int
  | 6 => .int
  | 7 => .int
  | _ => .int
theorem nmX6 : ∀ a, a < 9 → ∀ b, b < 9 → a ≠ b → (TX6 a).2.1 ≠ (TX6 b).2.1 := by decide +kernel
theorem tyX6_ok : ∀ k, k < 9 → parseFieldDescriptor (TX6 k).2.2.1 = some (tyX6 k) := by decide +kernel
set_option maxRecDepth 100000 in
theorem inX6 : ∀ w ∈ u_ws RX6 TX6 9, w ∈ lw_tbl := am_byx [223, 225, 227, 229, 231, 233, 235, 237, 239] (by decide +kernel)
def RX7 : String := "ServantRegistry$Rulebook"
def TX7 : u_T := fun k => match k with
  | 0 => ("ServantRegistry$Rulebook", "number", "I", true)
  | 1 => ("ServantRegistry$Rulebook", "day", "I", true)
  | 2 => ("ServantRegistry$Rulebook", "statements", "Ljava/util/ArrayList;", true)
  | 3 => ("ServantRegistry$Rulebook", "ages", "[I", true)
  | 4 => ("ServantRegistry$Rulebook", "facts", "[I", true)
  | 5 => ("ServantRegistry$Rulebook", "ways", "[I", true)
  | 6 => ("ServantRegistry$Rulebook", "notice", "I", false)
  | 7 => ("ServantRegistry$Rulebook", "back", "I", false)
  | 8 => ("ServantRegistry$Rulebook", "within", "I", false)
  | 9 => ("ServantRegistry$Rulebook", "boxPay", "I", false)
  | 10 => ("ServantRegistry$Rulebook", "habitLeast", "I", false)
  | _ => ("ServantRegistry$Rulebook", "barsChurch", "Z", false)
def tyX7 : Nat → FieldType := fun k => match k with
  | 0 => .int
  | 1 => .int
  | 2 => .object "java/util/ArrayList"
  | 3 => .array .int
  | 4 => .array .int
  | 5 => .array .int
  | 6 => .int
  | 7 => .int
  | 8 => .int
  | 9 => .int
  | 10 => .int
  | _ => .boolean
theorem nmX7 : ∀ a, a < 12 → ∀ b, b < 12 → a ≠ b → (TX7 a).2.1 ≠ (TX7 b).2.1 := by decide +kernel
theorem tyX7_ok : ∀ k, k < 12 → parseFieldDescriptor (TX7 k).2.2.1 = some (tyX7 k) := by decide +kernel
set_option maxRecDepth 100000 in
theorem inX7 : ∀ w ∈ u_ws RX7 TX7 12, w ∈ lw_tbl := am_byx [181, 183, 185, 187, 189, 191, 193, 195, 197, 199, 201, 203] (by decide +kernel)
def RX8 : String := "ServantRegistry$Servant"
def TX8 : u_T := fun k => match k with
  | 0 => ("ServantRegistry$Servant", "number", "I", true)
  | 1 => ("ServantRegistry$Servant", "born", "I", true)
  | 2 => ("ServantRegistry$Servant", "skills", "I", true)
  | 3 => ("ServantRegistry$Servant", "church", "I", true)
  | _ => ("ServantRegistry$Servant", "wishes", "[I", false)
def tyX8 : Nat → FieldType := fun k => match k with
  | 0 => .int
  | 1 => .int
  | 2 => .int
  | 3 => .int
  | _ => .array .int
theorem nmX8 : ∀ a, a < 5 → ∀ b, b < 5 → a ≠ b → (TX8 a).2.1 ≠ (TX8 b).2.1 := by decide +kernel
theorem tyX8_ok : ∀ k, k < 5 → parseFieldDescriptor (TX8 k).2.2.1 = some (tyX8 k) := by decide +kernel
set_option maxRecDepth 100000 in
theorem inX8 : ∀ w ∈ u_ws RX8 TX8 5, w ∈ lw_tbl := am_byx [434, 436, 438, 440, 442] (by decide +kernel)
def RX9 : String := "ServantRegistry$Statement"
def TX9 : u_T := fun k => match k with
  | 0 => ("ServantRegistry$Statement", "kind", "I", true)
  | 1 => ("ServantRegistry$Statement", "of", "I", false)
  | 2 => ("ServantRegistry$Statement", "to", "I", false)
  | 3 => ("ServantRegistry$Statement", "amount", "I", false)
  | 4 => ("ServantRegistry$Statement", "hundredths", "I", false)
  | _ => ("ServantRegistry$Statement", "condition", "[I", false)
def tyX9 : Nat → FieldType := fun k => match k with
  | 0 => .int
  | 1 => .int
  | 2 => .int
  | 3 => .int
  | 4 => .int
  | _ => .array .int
theorem nmX9 : ∀ a, a < 6 → ∀ b, b < 6 → a ≠ b → (TX9 a).2.1 ≠ (TX9 b).2.1 := by decide +kernel
theorem tyX9_ok : ∀ k, k < 6 → parseFieldDescriptor (TX9 k).2.2.1 = some (tyX9 k) := by decide +kernel
set_option maxRecDepth 100000 in
theorem inX9 : ∀ w ∈ u_ws RX9 TX9 6, w ∈ lw_tbl := am_byx [877, 879, 881, 883, 885, 887] (by decide +kernel)
def RX10 : String := "ServantRegistry$Testimony"
def TX10 : u_T := fun k => match k with
  | 0 => ("ServantRegistry$Testimony", "house", "I", true)
  | 1 => ("ServantRegistry$Testimony", "servant", "I", true)
  | 2 => ("ServantRegistry$Testimony", "mark", "I", true)
  | 3 => ("ServantRegistry$Testimony", "day", "I", true)
  | 4 => ("ServantRegistry$Testimony", "from", "I", false)
  | _ => ("ServantRegistry$Testimony", "to", "I", false)
def tyX10 : Nat → FieldType := fun k => match k with
  | 0 => .int
  | 1 => .int
  | 2 => .int
  | 3 => .int
  | 4 => .int
  | _ => .int
theorem nmX10 : ∀ a, a < 6 → ∀ b, b < 6 → a ≠ b → (TX10 a).2.1 ≠ (TX10 b).2.1 := by decide +kernel
theorem tyX10_ok : ∀ k, k < 6 → parseFieldDescriptor (TX10 k).2.2.1 = some (tyX10 k) := by decide +kernel
set_option maxRecDepth 100000 in
theorem inX10 : ∀ w ∈ u_ws RX10 TX10 6, w ∈ lw_tbl := am_byx [1045, 1047, 1049, 1051, 1053, 1055] (by decide +kernel)
def RX11 : String := "ServantRegistry"
def TX11 : u_T := fun k => match k with
  | 0 => ("ServantRegistry", "lags", "[I", true)
  | 1 => ("ServantRegistry", "houseTowns", "[I", true)
  | 2 => ("ServantRegistry", "wishDigits", "[I", true)
  | 3 => ("ServantRegistry", "toldPlaces", "[I", true)
  | 4 => ("ServantRegistry", "servants", "Ljava/util/ArrayList;", true)
  | 5 => ("ServantRegistry", "places", "Ljava/util/ArrayList;", true)
  | 6 => ("ServantRegistry", "testimonies", "Ljava/util/ArrayList;", true)
  | 7 => ("ServantRegistry", "asks", "Ljava/util/ArrayList;", true)
  | 8 => ("ServantRegistry", "books", "Ljava/util/ArrayList;", true)
  | 9 => ("ServantRegistry", "bare", "LServantRegistry$Rulebook;", true)
  | 10 => ("ServantRegistry", "reader", "LServantRegistry$RuleReader;", true)
  | 11 => ("ServantRegistry", "ledger", "LServantRegistry$Ledger;", true)
  | 12 => ("ServantRegistry", "dealing", "LServantRegistry$Dealing;", true)
  | 13 => ("ServantRegistry", "vacancies", "LServantRegistry$Chain;", true)
  | 14 => ("ServantRegistry", "today", "I", false)
  | 15 => ("ServantRegistry", "houses", "I", false)
  | 16 => ("ServantRegistry", "boxes", "I", false)
  | _ => ("ServantRegistry", "paid", "I", false)
def tyX11 : Nat → FieldType := fun k => match k with
  | 0 => .array .int
  | 1 => .array .int
  | 2 => .array .int
  | 3 => .array .int
  | 4 => .object "java/util/ArrayList"
  | 5 => .object "java/util/ArrayList"
  | 6 => .object "java/util/ArrayList"
  | 7 => .object "java/util/ArrayList"
  | 8 => .object "java/util/ArrayList"
  | 9 => .object "ServantRegistry$Rulebook"
  | 10 => .object "ServantRegistry$RuleReader"
  | 11 => .object "ServantRegistry$Ledger"
  | 12 => .object "ServantRegistry$Dealing"
  | 13 => .object "ServantRegistry$Chain"
  | 14 => .int
  | 15 => .int
  | 16 => .int
  | _ => .int
theorem nmX11 : ∀ a, a < 18 → ∀ b, b < 18 → a ≠ b → (TX11 a).2.1 ≠ (TX11 b).2.1 := by decide +kernel
theorem tyX11_ok : ∀ k, k < 18 → parseFieldDescriptor (TX11 k).2.2.1 = some (tyX11 k) := by decide +kernel
set_option maxRecDepth 100000 in
theorem inX11 : ∀ w ∈ u_ws RX11 TX11 18, w ∈ lw_tbl := am_byx [362, 364, 366, 368, 370, 372, 374, 376, 378, 380, 382, 384, 386, 388, 390, 392, 394, 396] (by decide +kernel)
def RX12 : String := "ServantRegistryModel"
def TX12 : u_T := fun k => match k with
  | 0 => ("ServantRegistryModel", "today", "I", false)
  | 1 => ("ServantRegistryModel", "servants", "I", false)
  | 2 => ("ServantRegistryModel", "houses", "I", false)
  | 3 => ("ServantRegistryModel", "places", "I", false)
  | 4 => ("ServantRegistryModel", "placings", "I", false)
  | 5 => ("ServantRegistryModel", "born", "[I", true)
  | 6 => ("ServantRegistryModel", "skills", "[I", true)
  | 7 => ("ServantRegistryModel", "church", "[I", true)
  | 8 => ("ServantRegistryModel", "townOf", "[I", true)
  | 9 => ("ServantRegistryModel", "houseTown", "[I", true)
  | 10 => ("ServantRegistryModel", "lags", "[I", true)
  | 11 => ("ServantRegistryModel", "placeHouse", "[I", true)
  | 12 => ("ServantRegistryModel", "post", "[I", true)
  | 13 => ("ServantRegistryModel", "wage", "[I", true)
  | 14 => ("ServantRegistryModel", "wanted", "[I", true)
  | 15 => ("ServantRegistryModel", "least", "[I", true)
  | 16 => ("ServantRegistryModel", "asked", "[I", true)
  | 17 => ("ServantRegistryModel", "who", "[I", true)
  | 18 => ("ServantRegistryModel", "where", "[I", true)
  | 19 => ("ServantRegistryModel", "from", "[I", true)
  | 20 => ("ServantRegistryModel", "knownFrom", "[I", true)
  | 21 => ("ServantRegistryModel", "undoneOn", "[I", true)
  | 22 => ("ServantRegistryModel", "left", "[I", true)
  | 23 => ("ServantRegistryModel", "notice", "[I", true)
  | 24 => ("ServantRegistryModel", "cause", "[I", true)
  | 25 => ("ServantRegistryModel", "leftKnown", "[I", true)
  | 26 => ("ServantRegistryModel", "rules", "I", false)
  | 27 => ("ServantRegistryModel", "nodes", "I", false)
  | 28 => ("ServantRegistryModel", "taped", "I", false)
  | 29 => ("ServantRegistryModel", "size", "I", false)
  | 30 => ("ServantRegistryModel", "at", "I", false)
  | 31 => ("ServantRegistryModel", "deep", "I", false)
  | 32 => ("ServantRegistryModel", "fault", "I", false)
  | 33 => ("ServantRegistryModel", "statements", "[I", true)
  | 34 => ("ServantRegistryModel", "taken", "[I", true)
  | 35 => ("ServantRegistryModel", "sort", "[I", true)
  | 36 => ("ServantRegistryModel", "of", "[I", true)
  | 37 => ("ServantRegistryModel", "a", "[I", true)
  | 38 => ("ServantRegistryModel", "b", "[I", true)
  | 39 => ("ServantRegistryModel", "when", "[I", true)
  | 40 => ("ServantRegistryModel", "nodeKind", "[I", true)
  | 41 => ("ServantRegistryModel", "nodeFirst", "[I", true)
  | 42 => ("ServantRegistryModel", "nodeNext", "[I", true)
  | 43 => ("ServantRegistryModel", "nodeWord", "[I", true)
  | 44 => ("ServantRegistryModel", "nodeSign", "[I", true)
  | 45 => ("ServantRegistryModel", "nodeNumber", "[I", true)
  | 46 => ("ServantRegistryModel", "here", "[I", true)
  | 47 => ("ServantRegistryModel", "tape", "[B", true)
  | 48 => ("ServantRegistryModel", "text", "[B", true)
  | 49 => ("ServantRegistryModel", "wordEnd", "I", false)
  | 50 => ("ServantRegistryModel", "read", "I", false)
  | 51 => ("ServantRegistryModel", "characters", "I", false)
  | 52 => ("ServantRegistryModel", "writer", "[I", true)
  | 53 => ("ServantRegistryModel", "ofWhom", "[I", true)
  | 54 => ("ServantRegistryModel", "markOf", "[I", true)
  | 55 => ("ServantRegistryModel", "servedFrom", "[I", true)
  | 56 => ("ServantRegistryModel", "servedTo", "[I", true)
  | 57 => ("ServantRegistryModel", "writtenOn", "[I", true)
  | 58 => ("ServantRegistryModel", "servantWish", "[I", true)
  | 59 => ("ServantRegistryModel", "placeWish", "[I", true)
  | 60 => ("ServantRegistryModel", "toldPlace", "[I", true)
  | 61 => ("ServantRegistryModel", "dealtTo", "[I", true)
  | 62 => ("ServantRegistryModel", "heldBy", "[I", true)
  | 63 => ("ServantRegistryModel", "asksNext", "[I", true)
  | 64 => ("ServantRegistryModel", "placeFree", "[Z", true)
  | 65 => ("ServantRegistryModel", "servantFree", "[Z", true)
  | 66 => ("ServantRegistryModel", "served", "[I", true)
  | 67 => ("ServantRegistryModel", "cost", "[I", true)
  | 68 => ("ServantRegistryModel", "empties", "I", false)
  | 69 => ("ServantRegistryModel", "frees", "I", false)
  | 70 => ("ServantRegistryModel", "bestMany", "I", false)
  | 71 => ("ServantRegistryModel", "bestDays", "I", false)
  | 72 => ("ServantRegistryModel", "emptyPlace", "[I", true)
  | 73 => ("ServantRegistryModel", "emptyFrom", "[I", true)
  | 74 => ("ServantRegistryModel", "freeServant", "[I", true)
  | 75 => ("ServantRegistryModel", "freeFrom", "[I", true)
  | 76 => ("ServantRegistryModel", "row", "[I", true)
  | 77 => ("ServantRegistryModel", "best", "[I", true)
  | 78 => ("ServantRegistryModel", "asksMany", "I", false)
  | 79 => ("ServantRegistryModel", "askWho", "[I", true)
  | 80 => ("ServantRegistryModel", "askWhere", "[I", true)
  | 81 => ("ServantRegistryModel", "askOn", "[I", true)
  | 82 => ("ServantRegistryModel", "saidYes", "[Z", true)
  | 83 => ("ServantRegistryModel", "boxes", "I", false)
  | 84 => ("ServantRegistryModel", "paid", "I", false)
  | _ => ("ServantRegistryModel", "boxOf", "[I", true)
def tyX12 : Nat → FieldType := fun k => match k with
  | 0 => .int
  | 1 => .int
  | 2 => .int
  | 3 => .int
  | 4 => .int
  | 5 => .array .int
  | 6 => .array .int
  | 7 => .array .int
  | 8 => .array .int
  | 9 => .array .int
  | 10 => .array .int
  | 11 => .array .int
  | 12 => .array .int
  | 13 => .array .int
  | 14 => .array .int
  | 15 => .array .int
  | 16 => .array .int
  | 17 => .array .int
  | 18 => .array .int
  | 19 => .array .int
  | 20 => .array .int
  | 21 => .array .int
  | 22 => .array .int
  | 23 => .array .int
  | 24 => .array .int
  | 25 => .array .int
  | 26 => .int
  | 27 => .int
  | 28 => .int
  | 29 => .int
  | 30 => .int
  | 31 => .int
  | 32 => .int
  | 33 => .array .int
  | 34 => .array .int
  | 35 => .array .int
  | 36 => .array .int
  | 37 => .array .int
  | 38 => .array .int
  | 39 => .array .int
  | 40 => .array .int
  | 41 => .array .int
  | 42 => .array .int
  | 43 => .array .int
  | 44 => .array .int
  | 45 => .array .int
  | 46 => .array .int
  | 47 => .array .byte
  | 48 => .array .byte
  | 49 => .int
  | 50 => .int
  | 51 => .int
  | 52 => .array .int
  | 53 => .array .int
  | 54 => .array .int
  | 55 => .array .int
  | 56 => .array .int
  | 57 => .array .int
  | 58 => .array .int
  | 59 => .array .int
  | 60 => .array .int
  | 61 => .array .int
  | 62 => .array .int
  | 63 => .array .int
  | 64 => .array .boolean
  | 65 => .array .boolean
  | 66 => .array .int
  | 67 => .array .int
  | 68 => .int
  | 69 => .int
  | 70 => .int
  | 71 => .int
  | 72 => .array .int
  | 73 => .array .int
  | 74 => .array .int
  | 75 => .array .int
  | 76 => .array .int
  | 77 => .array .int
  | 78 => .int
  | 79 => .array .int
  | 80 => .array .int
  | 81 => .array .int
  | 82 => .array .boolean
  | 83 => .int
  | 84 => .int
  | _ => .array .int
theorem nmX12 : ∀ a, a < 86 → ∀ b, b < 86 → a ≠ b → (TX12 a).2.1 ≠ (TX12 b).2.1 := by decide +kernel
theorem tyX12_ok : ∀ k, k < 86 → parseFieldDescriptor (TX12 k).2.2.1 = some (tyX12 k) := by decide +kernel
set_option maxRecDepth 100000 in
theorem inX12 : ∀ w ∈ u_ws RX12 TX12 86, w ∈ lw_tbl := am_byx [1388, 1390, 1392, 1394, 1396, 1398, 1400, 1402, 1404, 1406, 1408, 1410, 1412, 1414, 1416, 1418, 1420, 1422, 1424, 1426, 1428, 1430, 1432, 1434, 1436, 1438, 1440, 1442, 1444, 1446, 1448, 1450, 1452, 1454, 1456, 1458, 1460, 1462, 1464, 1466, 1468, 1470, 1472, 1474, 1476, 1478, 1480, 1482, 1484, 1486, 1488, 1490, 1492, 1494, 1496, 1498, 1500, 1502, 1504, 1506, 1508, 1510, 1512, 1514, 1516, 1518, 1520, 1522, 1524, 1526, 1528, 1530, 1532, 1534, 1536, 1538, 1540, 1542, 1544, 1546, 1548, 1550, 1552, 1554, 1556, 1558] (by decide +kernel)
def RJ6 : String := "java/lang/Integer"
def RJ0 : String := "java/lang/String"
def RJ1 : String := "java/lang/StringLatin1"
def RJxa1e45 : String := "java/util/AbstractCollection"
def RJxc12de : String := "java/util/AbstractList"
def RJ7 : String := "java/util/Arrays"
def RJ15 : String := "java/util/Objects"
def RJ8 : String := "jdk/internal/util/ArraysSupport"
def RJ3 : String := "jdk/internal/util/Preconditions"
def RL : String := "ServantRegistryLaw"
abbrev cX0_init : ByteArray := prog_2_method_1_code
def yX0_init : MethodName := ⟨RX0, "<init>", "(LServantRegistry$Servant;LServantRegistry$Place;IZ)V"⟩
abbrev cX0_isAnsweredUnlike : ByteArray := prog_2_method_2_code
def yX0_isAnsweredUnlike : MethodName := ⟨RX0, "isAnsweredUnlike", "(LServantRegistry$Ask;)Z"⟩
abbrev cX1_init : ByteArray := prog_3_method_1_code
def yX1_init : MethodName := ⟨RX1, "<init>", "()V"⟩
abbrev cX1_addPlace : ByteArray := prog_3_method_2_code
def yX1_addPlace : MethodName := ⟨RX1, "addPlace", "(LServantRegistry$Place;I)I"⟩
abbrev cX1_addServant : ByteArray := prog_3_method_3_code
def yX1_addServant : MethodName := ⟨RX1, "addServant", "(LServantRegistry$Servant;I)I"⟩
abbrev cX1_fill : ByteArray := prog_3_method_4_code
def yX1_fill : MethodName := ⟨RX1, "fill", "(LServantRegistry$Rulebook;I)V"⟩
abbrev cX1_bestFrom : ByteArray := prog_3_method_5_code
def yX1_bestFrom : MethodName := ⟨RX1, "bestFrom", "(II)I"⟩
abbrev cX1_worthOf : ByteArray := prog_3_method_6_code
def yX1_worthOf : MethodName := ⟨RX1, "worthOf", "(III)I"⟩
abbrev cX1_takeLeastRow : ByteArray := prog_3_method_7_code
def yX1_takeLeastRow : MethodName := ⟨RX1, "takeLeastRow", "()V"⟩
abbrev cX2_init : ByteArray := prog_4_method_1_code
def yX2_init : MethodName := ⟨RX2, "<init>", "()V"⟩
abbrev cX2_forgetPairs : ByteArray := prog_4_method_2_code
def yX2_forgetPairs : MethodName := ⟨RX2, "forgetPairs", "()V"⟩
abbrev cX2_fillPlace : ByteArray := prog_4_method_3_code
def yX2_fillPlace : MethodName := ⟨RX2, "fillPlace", "(LServantRegistry$Place;)V"⟩
abbrev cX2_allow : ByteArray := prog_4_method_4_code
def yX2_allow : MethodName := ⟨RX2, "allow", "(LServantRegistry$Servant;LServantRegistry$Place;LServantRegistry$Rulebook;I)V"⟩
abbrev cX2_pairOf : ByteArray := prog_4_method_5_code
def yX2_pairOf : MethodName := ⟨RX2, "pairOf", "(II)I"⟩
abbrev cX2_forgetPairing : ByteArray := prog_4_method_6_code
def yX2_forgetPairing : MethodName := ⟨RX2, "forgetPairing", "()V"⟩
abbrev cX2_pair : ByteArray := prog_4_method_7_code
def yX2_pair : MethodName := ⟨RX2, "pair", "()V"⟩
abbrev cX2_offer : ByteArray := prog_4_method_8_code
def yX2_offer : MethodName := ⟨RX2, "offer", "(II)V"⟩
abbrev cX2_placeLikesBetter : ByteArray := prog_4_method_9_code
def yX2_placeLikesBetter : MethodName := ⟨RX2, "placeLikesBetter", "(II)Z"⟩
abbrev cX2_servantLikesBetter : ByteArray := prog_4_method_10_code
def yX2_servantLikesBetter : MethodName := ⟨RX2, "servantLikesBetter", "(II)Z"⟩
abbrev cX2_firstWronglyTold : ByteArray := prog_4_method_11_code
def yX2_firstWronglyTold : MethodName := ⟨RX2, "firstWronglyTold", "([I)I"⟩
abbrev cX2_firstLeaving : ByteArray := prog_4_method_12_code
def yX2_firstLeaving : MethodName := ⟨RX2, "firstLeaving", "()I"⟩
abbrev cX3_init : ByteArray := prog_5_method_1_code
def yX3_init : MethodName := ⟨RX3, "<init>", "()V"⟩
abbrev cX3_whereIn : ByteArray := prog_5_method_2_code
def yX3_whereIn : MethodName := ⟨RX3, "whereIn", "(III)LServantRegistry$Placing;"⟩
abbrev cX3_nextChange : ByteArray := prog_5_method_3_code
def yX3_nextChange : MethodName := ⟨RX3, "nextChange", "(III)I"⟩
abbrev cX3_firstBeside : ByteArray := prog_5_method_4_code
def yX3_firstBeside : MethodName := ⟨RX3, "firstBeside", "(LServantRegistry$Placing;I)I"⟩
abbrev cX3_tallyServed : ByteArray := prog_5_method_5_code
def yX3_tallyServed : MethodName := ⟨RX3, "tallyServed", "(II)V"⟩
abbrev cX3_falsehood : ByteArray := prog_5_method_6_code
def yX3_falsehood : MethodName := ⟨RX3, "falsehood", "(LServantRegistry$Testimony;I)I"⟩
abbrev cX3_provenBy : ByteArray := prog_5_method_7_code
def yX3_provenBy : MethodName := ⟨RX3, "provenBy", "(LServantRegistry$Testimony;I)LServantRegistry$Placing;"⟩
abbrev cX3_knownOf : ByteArray := prog_5_method_8_code
def yX3_knownOf : MethodName := ⟨RX3, "knownOf", "(II)I"⟩
abbrev cX3_hundredthsLeft : ByteArray := prog_5_method_9_code
def yX3_hundredthsLeft : MethodName := ⟨RX3, "hundredthsLeft", "(II)I"⟩
abbrev cX3_leftCount : ByteArray := prog_5_method_10_code
def yX3_leftCount : MethodName := ⟨RX3, "leftCount", "()I"⟩
abbrev cX3_undoneCount : ByteArray := prog_5_method_11_code
def yX3_undoneCount : MethodName := ⟨RX3, "undoneCount", "()I"⟩
abbrev cX4_init : ByteArray := prog_6_method_1_code
def yX4_init : MethodName := ⟨RX4, "<init>", "(IIIII)V"⟩
abbrev cX5_init : ByteArray := prog_7_method_1_code
def yX5_init : MethodName := ⟨RX5, "<init>", "(ILServantRegistry$Servant;LServantRegistry$Place;I)V"⟩
abbrev cX5_isKnownBy : ByteArray := prog_7_method_2_code
def yX5_isKnownBy : MethodName := ⟨RX5, "isKnownBy", "(I)Z"⟩
abbrev cX5_isKnownLeftBy : ByteArray := prog_7_method_3_code
def yX5_isKnownLeftBy : MethodName := ⟨RX5, "isKnownLeftBy", "(I)Z"⟩
abbrev cX5_endAsKnown : ByteArray := prog_7_method_4_code
def yX5_endAsKnown : MethodName := ⟨RX5, "endAsKnown", "(I)I"⟩
abbrev cX5_sharesDayWith : ByteArray := prog_7_method_5_code
def yX5_sharesDayWith : MethodName := ⟨RX5, "sharesDayWith", "(LServantRegistry$Placing;I)Z"⟩
abbrev cX5_isLeftSoonForFault : ByteArray := prog_7_method_6_code
def yX5_isLeftSoonForFault : MethodName := ⟨RX5, "isLeftSoonForFault", "(I)Z"⟩
abbrev cX6_init : ByteArray := prog_8_method_1_code
def yX6_init : MethodName := ⟨RX6, "<init>", "()V"⟩
abbrev cX6_append : ByteArray := prog_8_method_2_code
def yX6_append : MethodName := ⟨RX6, "append", "(I)V"⟩
abbrev cX6_readInto : ByteArray := prog_8_method_3_code
def yX6_readInto : MethodName := ⟨RX6, "readInto", "(LServantRegistry$Rulebook;I)Z"⟩
abbrev cX6_readStatement : ByteArray := prog_8_method_4_code
def yX6_readStatement : MethodName := ⟨RX6, "readStatement", "(LServantRegistry$Rulebook;)V"⟩
abbrev cX6_readAny : ByteArray := prog_8_method_5_code
def yX6_readAny : MethodName := ⟨RX6, "readAny", "(I)V"⟩
abbrev cX6_readOne : ByteArray := prog_8_method_6_code
def yX6_readOne : MethodName := ⟨RX6, "readOne", "(I)V"⟩
abbrev cX6_emit : ByteArray := prog_8_method_7_code
def yX6_emit : MethodName := ⟨RX6, "emit", "(I)V"⟩
abbrev cX6_refuse : ByteArray := prog_8_method_8_code
def yX6_refuse : MethodName := ⟨RX6, "refuse", "()V"⟩
abbrev cX6_takeWord : ByteArray := prog_8_method_9_code
def yX6_takeWord : MethodName := ⟨RX6, "takeWord", "(Ljava/lang/String;)I"⟩
abbrev cX6_takeNumber : ByteArray := prog_8_method_10_code
def yX6_takeNumber : MethodName := ⟨RX6, "takeNumber", "(I)I"⟩
abbrev cX6_takeComparison : ByteArray := prog_8_method_11_code
def yX6_takeComparison : MethodName := ⟨RX6, "takeComparison", "()I"⟩
abbrev cX6_takeSign : ByteArray := prog_8_method_12_code
def yX6_takeSign : MethodName := ⟨RX6, "takeSign", "(C)V"⟩
abbrev cX6_isSign : ByteArray := prog_8_method_13_code
def yX6_isSign : MethodName := ⟨RX6, "isSign", "(C)Z"⟩
abbrev cX6_isWord : ByteArray := prog_8_method_14_code
def yX6_isWord : MethodName := ⟨RX6, "isWord", "(Ljava/lang/String;)Z"⟩
abbrev cX6_indexIn : ByteArray := prog_8_method_15_code
def yX6_indexIn : MethodName := ⟨RX6, "indexIn", "(Ljava/lang/String;)I"⟩
abbrev cX6_advance : ByteArray := prog_8_method_16_code
def yX6_advance : MethodName := ⟨RX6, "advance", "()V"⟩
abbrev cX6_tokenAt : ByteArray := prog_8_method_17_code
def yX6_tokenAt : MethodName := ⟨RX6, "tokenAt", "(I)I"⟩
abbrev cX7_init : ByteArray := prog_9_method_1_code
def yX7_init : MethodName := ⟨RX7, "<init>", "(II)V"⟩
abbrev cX7_add : ByteArray := prog_9_method_2_code
def yX7_add : MethodName := ⟨RX7, "add", "(LServantRegistry$Statement;)V"⟩
abbrev cX7_fee : ByteArray := prog_9_method_3_code
def yX7_fee : MethodName := ⟨RX7, "fee", "(ILServantRegistry$Servant;LServantRegistry$Place;I)I"⟩
abbrev cX7_unfitness : ByteArray := prog_9_method_4_code
def yX7_unfitness : MethodName := ⟨RX7, "unfitness", "(LServantRegistry$Servant;LServantRegistry$Place;I)I"⟩
abbrev cX7_wayTo : ByteArray := prog_9_method_5_code
def yX7_wayTo : MethodName := ⟨RX7, "wayTo", "(I[I)I"⟩
abbrev cX7_wayBy : ByteArray := prog_9_method_6_code
def yX7_wayBy : MethodName := ⟨RX7, "wayBy", "(LServantRegistry$Statement;[I)I"⟩
abbrev cX7_firstHolding : ByteArray := prog_9_method_7_code
def yX7_firstHolding : MethodName := ⟨RX7, "firstHolding", "(IILServantRegistry$Servant;LServantRegistry$Place;I)LServantRegistry$Statement;"⟩
abbrev cX7_holds : ByteArray := prog_9_method_8_code
def yX7_holds : MethodName := ⟨RX7, "holds", "([I)Z"⟩
abbrev cX7_compares : ByteArray := prog_9_method_9_code
def yX7_compares : MethodName := ⟨RX7, "compares", "(I)Z"⟩
abbrev cX8_init : ByteArray := prog_10_method_1_code
def yX8_init : MethodName := ⟨RX8, "<init>", "(IIII)V"⟩
abbrev cX8_ageOn : ByteArray := prog_10_method_2_code
def yX8_ageOn : MethodName := ⟨RX8, "ageOn", "(I)I"⟩
abbrev cX9_init : ByteArray := prog_11_method_1_code
def yX9_init : MethodName := ⟨RX9, "<init>", "(I)V"⟩
abbrev cX10_init : ByteArray := prog_12_method_1_code
def yX10_init : MethodName := ⟨RX10, "<init>", "(IIII)V"⟩
abbrev cX11_init : ByteArray := prog_1_method_1_code
def yX11_init : MethodName := ⟨RX11, "<init>", "()V"⟩
abbrev cX11_day : ByteArray := prog_1_method_2_code
def yX11_day : MethodName := ⟨RX11, "day", "(I)Z"⟩
abbrev cX11_servant : ByteArray := prog_1_method_3_code
def yX11_servant : MethodName := ⟨RX11, "servant", "(IIII)I"⟩
abbrev cX11_house : ByteArray := prog_1_method_4_code
def yX11_house : MethodName := ⟨RX11, "house", "(I)I"⟩
abbrev cX11_lag : ByteArray := prog_1_method_5_code
def yX11_lag : MethodName := ⟨RX11, "lag", "(II)Z"⟩
abbrev cX11_place : ByteArray := prog_1_method_6_code
def yX11_place : MethodName := ⟨RX11, "place", "(IIIIII)I"⟩
abbrev cX11_placing : ByteArray := prog_1_method_7_code
def yX11_placing : MethodName := ⟨RX11, "placing", "(III)I"⟩
abbrev cX11_leave : ByteArray := prog_1_method_8_code
def yX11_leave : MethodName := ⟨RX11, "leave", "(IIII)Z"⟩
abbrev cX11_undo : ByteArray := prog_1_method_9_code
def yX11_undo : MethodName := ⟨RX11, "undo", "(I)Z"⟩
abbrev cX11_in : ByteArray := prog_1_method_10_code
def yX11_in : MethodName := ⟨RX11, "in", "(III)I"⟩
abbrev cX11_holder : ByteArray := prog_1_method_11_code
def yX11_holder : MethodName := ⟨RX11, "holder", "(III)I"⟩
abbrev cX11_twice : ByteArray := prog_1_method_12_code
def yX11_twice : MethodName := ⟨RX11, "twice", "(III)I"⟩
abbrev cX11_placed : ByteArray := prog_1_method_13_code
def yX11_placed : MethodName := ⟨RX11, "placed", "(II)I"⟩
abbrev cX11_wages : ByteArray := prog_1_method_14_code
def yX11_wages : MethodName := ⟨RX11, "wages", "(III)I"⟩
abbrev cX11_feed : ByteArray := prog_1_method_15_code
def yX11_feed : MethodName := ⟨RX11, "feed", "(IIIII)I"⟩
abbrev cX11_rules : ByteArray := prog_1_method_16_code
def yX11_rules : MethodName := ⟨RX11, "rules", "(I)I"⟩
abbrev cX11_fault : ByteArray := prog_1_method_17_code
def yX11_fault : MethodName := ⟨RX11, "fault", "()I"⟩
abbrev cX11_law : ByteArray := prog_1_method_18_code
def yX11_law : MethodName := ⟨RX11, "law", "(II)I"⟩
abbrev cX11_fit : ByteArray := prog_1_method_19_code
def yX11_fit : MethodName := ⟨RX11, "fit", "(III)I"⟩
abbrev cX11_write : ByteArray := prog_1_method_20_code
def yX11_write : MethodName := ⟨RX11, "write", "(IIIII)I"⟩
abbrev cX11_written : ByteArray := prog_1_method_21_code
def yX11_written : MethodName := ⟨RX11, "written", "(II)I"⟩
abbrev cX11_isFalse : ByteArray := prog_1_method_22_code
def yX11_isFalse : MethodName := ⟨RX11, "isFalse", "(II)I"⟩
abbrev cX11_habit : ByteArray := prog_1_method_23_code
def yX11_habit : MethodName := ⟨RX11, "habit", "(II)I"⟩
abbrev cX11_wish : ByteArray := prog_1_method_24_code
def yX11_wish : MethodName := ⟨RX11, "wish", "(IIJ)I"⟩
abbrev cX11_dealt : ByteArray := prog_1_method_25_code
def yX11_dealt : MethodName := ⟨RX11, "dealt", "(I)I"⟩
abbrev cX11_tell : ByteArray := prog_1_method_26_code
def yX11_tell : MethodName := ⟨RX11, "tell", "(II)Z"⟩
abbrev cX11_judge : ByteArray := prog_1_method_27_code
def yX11_judge : MethodName := ⟨RX11, "judge", "()I"⟩
abbrev cX11_steps : ByteArray := prog_1_method_28_code
def yX11_steps : MethodName := ⟨RX11, "steps", "(III)I"⟩
abbrev cX11_clear : ByteArray := prog_1_method_29_code
def yX11_clear : MethodName := ⟨RX11, "clear", "()I"⟩
abbrev cX11_empty : ByteArray := prog_1_method_30_code
def yX11_empty : MethodName := ⟨RX11, "empty", "(II)I"⟩
abbrev cX11_free : ByteArray := prog_1_method_31_code
def yX11_free : MethodName := ⟨RX11, "free", "(II)I"⟩
abbrev cX11_chain : ByteArray := prog_1_method_32_code
def yX11_chain : MethodName := ⟨RX11, "chain", "(I)I"⟩
abbrev cX11_ask : ByteArray := prog_1_method_33_code
def yX11_ask : MethodName := ⟨RX11, "ask", "(IIZ)I"⟩
abbrev cX11_like : ByteArray := prog_1_method_34_code
def yX11_like : MethodName := ⟨RX11, "like", "(II)I"⟩
abbrev cX11_box : ByteArray := prog_1_method_35_code
def yX11_box : MethodName := ⟨RX11, "box", "(II)I"⟩
abbrev cX11_leftMore : ByteArray := prog_1_method_36_code
def yX11_leftMore : MethodName := ⟨RX11, "leftMore", "(I)I"⟩
abbrev cX11_count : ByteArray := prog_1_method_37_code
def yX11_count : MethodName := ⟨RX11, "count", "(I)I"⟩
abbrev cX11_between : ByteArray := prog_1_method_38_code
def yX11_between : MethodName := ⟨RX11, "between", "(III)Z"⟩
abbrev cX11_isDay : ByteArray := prog_1_method_39_code
def yX11_isDay : MethodName := ⟨RX11, "isDay", "(I)Z"⟩
abbrev cX11_isServant : ByteArray := prog_1_method_40_code
def yX11_isServant : MethodName := ⟨RX11, "isServant", "(I)Z"⟩
abbrev cX11_isHouse : ByteArray := prog_1_method_41_code
def yX11_isHouse : MethodName := ⟨RX11, "isHouse", "(I)Z"⟩
abbrev cX11_isPlace : ByteArray := prog_1_method_42_code
def yX11_isPlace : MethodName := ⟨RX11, "isPlace", "(I)Z"⟩
abbrev cX11_isPlacing : ByteArray := prog_1_method_43_code
def yX11_isPlacing : MethodName := ⟨RX11, "isPlacing", "(I)Z"⟩
abbrev cX11_bookOf : ByteArray := prog_1_method_44_code
def yX11_bookOf : MethodName := ⟨RX11, "bookOf", "(I)LServantRegistry$Rulebook;"⟩
abbrev cX11_feeOf : ByteArray := prog_1_method_45_code
def yX11_feeOf : MethodName := ⟨RX11, "feeOf", "(LServantRegistry$Placing;I)I"⟩
abbrev cX11_givenBack : ByteArray := prog_1_method_46_code
def yX11_givenBack : MethodName := ⟨RX11, "givenBack", "(LServantRegistry$Placing;)I"⟩
abbrev cX11_owed : ByteArray := prog_1_method_47_code
def yX11_owed : MethodName := ⟨RX11, "owed", "(LServantRegistry$Placing;)I"⟩
abbrev cX11_readWishes : ByteArray := prog_1_method_48_code
def yX11_readWishes : MethodName := ⟨RX11, "readWishes", "(JI)I"⟩
abbrev cX11_preparePairs : ByteArray := prog_1_method_49_code
def yX11_preparePairs : MethodName := ⟨RX11, "preparePairs", "()V"⟩
abbrev cX11_rank : ByteArray := prog_1_method_50_code
def yX11_rank : MethodName := ⟨RX11, "rank", "([II)I"⟩
abbrev cX12_init : ByteArray := prog_14_method_1_code
def yX12_init : MethodName := ⟨RX12, "<init>", "()V"⟩
abbrev cX12_isIn : ByteArray := prog_14_method_2_code
def yX12_isIn : MethodName := ⟨RX12, "isIn", "(III)Z"⟩
abbrev cX12_one : ByteArray := prog_14_method_3_code
def yX12_one : MethodName := ⟨RX12, "one", "(Z)I"⟩
abbrev cX12_isDay : ByteArray := prog_14_method_4_code
def yX12_isDay : MethodName := ⟨RX12, "isDay", "(I)Z"⟩
abbrev cX12_isServant : ByteArray := prog_14_method_5_code
def yX12_isServant : MethodName := ⟨RX12, "isServant", "(I)Z"⟩
abbrev cX12_isHouse : ByteArray := prog_14_method_6_code
def yX12_isHouse : MethodName := ⟨RX12, "isHouse", "(I)Z"⟩
abbrev cX12_isPlace : ByteArray := prog_14_method_7_code
def yX12_isPlace : MethodName := ⟨RX12, "isPlace", "(I)Z"⟩
abbrev cX12_isPlacing : ByteArray := prog_14_method_8_code
def yX12_isPlacing : MethodName := ⟨RX12, "isPlacing", "(I)Z"⟩
abbrev cX12_bits : ByteArray := prog_14_method_9_code
def yX12_bits : MethodName := ⟨RX12, "bits", "(I)I"⟩
abbrev cX12_ageOn : ByteArray := prog_14_method_10_code
def yX12_ageOn : MethodName := ⟨RX12, "ageOn", "(II)I"⟩
abbrev cX12_day : ByteArray := prog_14_method_11_code
def yX12_day : MethodName := ⟨RX12, "day", "(I)Z"⟩
abbrev cX12_servant : ByteArray := prog_14_method_12_code
def yX12_servant : MethodName := ⟨RX12, "servant", "(IIII)I"⟩
abbrev cX12_house : ByteArray := prog_14_method_13_code
def yX12_house : MethodName := ⟨RX12, "house", "(I)I"⟩
abbrev cX12_lag : ByteArray := prog_14_method_14_code
def yX12_lag : MethodName := ⟨RX12, "lag", "(II)Z"⟩
abbrev cX12_place : ByteArray := prog_14_method_15_code
def yX12_place : MethodName := ⟨RX12, "place", "(IIIIII)I"⟩
abbrev cX12_letters : ByteArray := prog_14_method_16_code
def yX12_letters : MethodName := ⟨RX12, "letters", "(I)I"⟩
abbrev cX12_placing : ByteArray := prog_14_method_17_code
def yX12_placing : MethodName := ⟨RX12, "placing", "(III)I"⟩
abbrev cX12_leave : ByteArray := prog_14_method_18_code
def yX12_leave : MethodName := ⟨RX12, "leave", "(IIII)Z"⟩
abbrev cX12_undo : ByteArray := prog_14_method_19_code
def yX12_undo : MethodName := ⟨RX12, "undo", "(I)Z"⟩
abbrev cX12_isKnown : ByteArray := prog_14_method_20_code
def yX12_isKnown : MethodName := ⟨RX12, "isKnown", "(II)Z"⟩
abbrev cX12_endOf : ByteArray := prog_14_method_21_code
def yX12_endOf : MethodName := ⟨RX12, "endOf", "(II)I"⟩
abbrev cX12_inOf : ByteArray := prog_14_method_22_code
def yX12_inOf : MethodName := ⟨RX12, "inOf", "(III)I"⟩
abbrev cX12_in : ByteArray := prog_14_method_23_code
def yX12_in : MethodName := ⟨RX12, "in", "(III)I"⟩
abbrev cX12_holderOf : ByteArray := prog_14_method_24_code
def yX12_holderOf : MethodName := ⟨RX12, "holderOf", "(III)I"⟩
abbrev cX12_holder : ByteArray := prog_14_method_25_code
def yX12_holder : MethodName := ⟨RX12, "holder", "(III)I"⟩
abbrev cX12_twice : ByteArray := prog_14_method_26_code
def yX12_twice : MethodName := ⟨RX12, "twice", "(III)I"⟩
abbrev cX12_feeOf : ByteArray := prog_14_method_27_code
def yX12_feeOf : MethodName := ⟨RX12, "feeOf", "(II)I"⟩
abbrev cX12_backOf : ByteArray := prog_14_method_28_code
def yX12_backOf : MethodName := ⟨RX12, "backOf", "(I)I"⟩
abbrev cX12_owedOf : ByteArray := prog_14_method_29_code
def yX12_owedOf : MethodName := ⟨RX12, "owedOf", "(I)I"⟩
abbrev cX12_placed : ByteArray := prog_14_method_30_code
def yX12_placed : MethodName := ⟨RX12, "placed", "(II)I"⟩
abbrev cX12_wages : ByteArray := prog_14_method_31_code
def yX12_wages : MethodName := ⟨RX12, "wages", "(III)I"⟩
abbrev cX12_feed : ByteArray := prog_14_method_32_code
def yX12_feed : MethodName := ⟨RX12, "feed", "(IIIII)I"⟩
abbrev cX12_four : ByteArray := prog_14_method_33_code
def yX12_four : MethodName := ⟨RX12, "four", "(I)V"⟩
abbrev cX12_blanks : ByteArray := prog_14_method_34_code
def yX12_blanks : MethodName := ⟨RX12, "blanks", "()V"⟩
abbrev cX12_word : ByteArray := prog_14_method_35_code
def yX12_word : MethodName := ⟨RX12, "word", "()J"⟩
abbrev cX12_takes : ByteArray := prog_14_method_36_code
def yX12_takes : MethodName := ⟨RX12, "takes", "(J)Z"⟩
abbrev cX12_takesSign : ByteArray := prog_14_method_37_code
def yX12_takesSign : MethodName := ⟨RX12, "takesSign", "(I)Z"⟩
abbrev cX12_takesNumber : ByteArray := prog_14_method_38_code
def yX12_takesNumber : MethodName := ⟨RX12, "takesNumber", "(I)Z"⟩
abbrev cX12_takesPlain : ByteArray := prog_14_method_39_code
def yX12_takesPlain : MethodName := ⟨RX12, "takesPlain", "()Z"⟩
abbrev cX12_node : ByteArray := prog_14_method_40_code
def yX12_node : MethodName := ⟨RX12, "node", "(I)I"⟩
abbrev cX12_any : ByteArray := prog_14_method_41_code
def yX12_any : MethodName := ⟨RX12, "any", "()I"⟩
abbrev cX12_all : ByteArray := prog_14_method_42_code
def yX12_all : MethodName := ⟨RX12, "all", "()I"⟩
abbrev cX12_told : ByteArray := prog_14_method_43_code
def yX12_told : MethodName := ⟨RX12, "told", "(J)I"⟩
abbrev cX12_single : ByteArray := prog_14_method_44_code
def yX12_single : MethodName := ⟨RX12, "single", "()I"⟩
abbrev cX12_postHere : ByteArray := prog_14_method_45_code
def yX12_postHere : MethodName := ⟨RX12, "postHere", "()I"⟩
abbrev cX12_condition : ByteArray := prog_14_method_46_code
def yX12_condition : MethodName := ⟨RX12, "condition", "(I)Z"⟩
abbrev cX12_fee : ByteArray := prog_14_method_47_code
def yX12_fee : MethodName := ⟨RX12, "fee", "(I)Z"⟩
abbrev cX12_plain : ByteArray := prog_14_method_48_code
def yX12_plain : MethodName := ⟨RX12, "plain", "(I)Z"⟩
abbrev cX12_ofPost : ByteArray := prog_14_method_49_code
def yX12_ofPost : MethodName := ⟨RX12, "ofPost", "(I)Z"⟩
abbrev cX12_statement : ByteArray := prog_14_method_50_code
def yX12_statement : MethodName := ⟨RX12, "statement", "(I)Z"⟩
abbrev cX12_rules : ByteArray := prog_14_method_51_code
def yX12_rules : MethodName := ⟨RX12, "rules", "(I)I"⟩
abbrev cX12_fault : ByteArray := prog_14_method_52_code
def yX12_fault : MethodName := ⟨RX12, "fault", "()I"⟩
abbrev cX12_inForce : ByteArray := prog_14_method_53_code
def yX12_inForce : MethodName := ⟨RX12, "inForce", "(I)I"⟩
abbrev cX12_last : ByteArray := prog_14_method_54_code
def yX12_last : MethodName := ⟨RX12, "last", "(III)I"⟩
abbrev cX12_tells : ByteArray := prog_14_method_55_code
def yX12_tells : MethodName := ⟨RX12, "tells", "(IIII)I"⟩
abbrev cX12_firstOf : ByteArray := prog_14_method_56_code
def yX12_firstOf : MethodName := ⟨RX12, "firstOf", "(IIIII)I"⟩
abbrev cX12_holds : ByteArray := prog_14_method_57_code
def yX12_holds : MethodName := ⟨RX12, "holds", "(I)Z"⟩
abbrev cX12_law : ByteArray := prog_14_method_58_code
def yX12_law : MethodName := ⟨RX12, "law", "(II)I"⟩
abbrev cX12_fitOf : ByteArray := prog_14_method_59_code
def yX12_fitOf : MethodName := ⟨RX12, "fitOf", "(III)I"⟩
abbrev cX12_fit : ByteArray := prog_14_method_60_code
def yX12_fit : MethodName := ⟨RX12, "fit", "(III)I"⟩
abbrev cX12_write : ByteArray := prog_14_method_61_code
def yX12_write : MethodName := ⟨RX12, "write", "(IIIII)I"⟩
abbrev cX12_written : ByteArray := prog_14_method_62_code
def yX12_written : MethodName := ⟨RX12, "written", "(II)I"⟩
abbrev cX12_falseBy : ByteArray := prog_14_method_63_code
def yX12_falseBy : MethodName := ⟨RX12, "falseBy", "(II)I"⟩
abbrev cX12_isFalse : ByteArray := prog_14_method_64_code
def yX12_isFalse : MethodName := ⟨RX12, "isFalse", "(II)I"⟩
abbrev cX12_behind : ByteArray := prog_14_method_65_code
def yX12_behind : MethodName := ⟨RX12, "behind", "(I)I"⟩
abbrev cX12_habit : ByteArray := prog_14_method_66_code
def yX12_habit : MethodName := ⟨RX12, "habit", "(II)I"⟩
abbrev cX12_wish : ByteArray := prog_14_method_67_code
def yX12_wish : MethodName := ⟨RX12, "wish", "(IIJ)I"⟩
abbrev cX12_put : ByteArray := prog_14_method_68_code
def yX12_put : MethodName := ⟨RX12, "put", "(III)V"⟩
abbrev cX12_whoTakesPart : ByteArray := prog_14_method_69_code
def yX12_whoTakesPart : MethodName := ⟨RX12, "whoTakesPart", "()V"⟩
abbrev cX12_mayBe : ByteArray := prog_14_method_70_code
def yX12_mayBe : MethodName := ⟨RX12, "mayBe", "(II)Z"⟩
abbrev cX12_nth : ByteArray := prog_14_method_71_code
def yX12_nth : MethodName := ⟨RX12, "nth", "(II)I"⟩
abbrev cX12_deals : ByteArray := prog_14_method_72_code
def yX12_deals : MethodName := ⟨RX12, "deals", "()V"⟩
abbrev cX12_asks : ByteArray := prog_14_method_73_code
def yX12_asks : MethodName := ⟨RX12, "asks", "(II)V"⟩
abbrev cX12_dealt : ByteArray := prog_14_method_74_code
def yX12_dealt : MethodName := ⟨RX12, "dealt", "(I)I"⟩
abbrev cX12_tell : ByteArray := prog_14_method_75_code
def yX12_tell : MethodName := ⟨RX12, "tell", "(II)Z"⟩
abbrev cX12_toldHolder : ByteArray := prog_14_method_76_code
def yX12_toldHolder : MethodName := ⟨RX12, "toldHolder", "(I)I"⟩
abbrev cX12_judge : ByteArray := prog_14_method_77_code
def yX12_judge : MethodName := ⟨RX12, "judge", "()I"⟩
abbrev cX12_leaves : ByteArray := prog_14_method_78_code
def yX12_leaves : MethodName := ⟨RX12, "leaves", "(II)Z"⟩
abbrev cX12_steps : ByteArray := prog_14_method_79_code
def yX12_steps : MethodName := ⟨RX12, "steps", "(III)I"⟩
abbrev cX12_clear : ByteArray := prog_14_method_80_code
def yX12_clear : MethodName := ⟨RX12, "clear", "()I"⟩
abbrev cX12_empty : ByteArray := prog_14_method_81_code
def yX12_empty : MethodName := ⟨RX12, "empty", "(II)I"⟩
abbrev cX12_free : ByteArray := prog_14_method_82_code
def yX12_free : MethodName := ⟨RX12, "free", "(II)I"⟩
abbrev cX12_rows : ByteArray := prog_14_method_83_code
def yX12_rows : MethodName := ⟨RX12, "rows", "(IIII)V"⟩
abbrev cX12_isLess : ByteArray := prog_14_method_84_code
def yX12_isLess : MethodName := ⟨RX12, "isLess", "()Z"⟩
abbrev cX12_chain : ByteArray := prog_14_method_85_code
def yX12_chain : MethodName := ⟨RX12, "chain", "(I)I"⟩
abbrev cX12_ask : ByteArray := prog_14_method_86_code
def yX12_ask : MethodName := ⟨RX12, "ask", "(IIZ)I"⟩
abbrev cX12_areLike : ByteArray := prog_14_method_87_code
def yX12_areLike : MethodName := ⟨RX12, "areLike", "(II)Z"⟩
abbrev cX12_like : ByteArray := prog_14_method_88_code
def yX12_like : MethodName := ⟨RX12, "like", "(II)I"⟩
abbrev cX12_box : ByteArray := prog_14_method_89_code
def yX12_box : MethodName := ⟨RX12, "box", "(II)I"⟩
abbrev cX12_wasLeftSoon : ByteArray := prog_14_method_90_code
def yX12_wasLeftSoon : MethodName := ⟨RX12, "wasLeftSoon", "(I)Z"⟩
abbrev cX12_leftMore : ByteArray := prog_14_method_91_code
def yX12_leftMore : MethodName := ⟨RX12, "leftMore", "(I)I"⟩
abbrev cX12_count : ByteArray := prog_14_method_92_code
def yX12_count : MethodName := ⟨RX12, "count", "(I)I"⟩
abbrev cJ6_bitCount_0f7a4 : ByteArray := prog_18_method_49_code
def yJ6_bitCount_0f7a4 : MethodName := ⟨RJ6, "bitCount", "(I)I"⟩
abbrev cJ0_length_8abf5 : ByteArray := prog_21_method_54_code
def yJ0_length_8abf5 : MethodName := ⟨RJ0, "length", "()I"⟩
abbrev cJ0_charAt_5068e : ByteArray := prog_21_method_56_code
def yJ0_charAt_5068e : MethodName := ⟨RJ0, "charAt", "(I)C"⟩
abbrev cJ0_indexOf_0f7a4 : ByteArray := prog_21_method_79_code
def yJ0_indexOf_0f7a4 : MethodName := ⟨RJ0, "indexOf", "(I)I"⟩
abbrev cJ0_indexOf_7cf53 : ByteArray := prog_21_method_80_code
def yJ0_indexOf_7cf53 : MethodName := ⟨RJ0, "indexOf", "(II)I"⟩
abbrev cJ0_coder_7d493 : ByteArray := prog_21_method_152_code
def yJ0_coder_7d493 : MethodName := ⟨RJ0, "coder", "()B"⟩
abbrev cJ0_isLatin1_aae02 : ByteArray := prog_21_method_154_code
def yJ0_isLatin1_aae02 : MethodName := ⟨RJ0, "isLatin1", "()Z"⟩
abbrev cJ0_checkIndex_df160 : ByteArray := prog_21_method_155_code
def yJ0_checkIndex_df160 : MethodName := ⟨RJ0, "checkIndex", "(II)V"⟩
abbrev cJ1_charAt_3b067 : ByteArray := prog_22_method_2_code
def yJ1_charAt_3b067 : MethodName := ⟨RJ1, "charAt", "([BI)C"⟩
abbrev cJ1_canEncode_9a6ad : ByteArray := prog_22_method_4_code
def yJ1_canEncode_9a6ad : MethodName := ⟨RJ1, "canEncode", "(I)Z"⟩
abbrev cJ1_indexOf_4cfef : ByteArray := prog_22_method_22_code
def yJ1_indexOf_4cfef : MethodName := ⟨RJ1, "indexOf", "([BIII)I"⟩
abbrev cJ1_indexOfChar_4cfef : ByteArray := prog_22_method_23_code
def yJ1_indexOfChar_4cfef : MethodName := ⟨RJ1, "indexOfChar", "([BIII)I"⟩
abbrev cJxa1e45_init_da8c8 : ByteArray := prog_25_method_1_code
def yJxa1e45_init_da8c8 : MethodName := ⟨RJxa1e45, "<init>", "()V"⟩
abbrev cJxc12de_init_da8c8 : ByteArray := prog_26_method_1_code
def yJxc12de_init_da8c8 : MethodName := ⟨RJxc12de, "<init>", "()V"⟩
abbrev cJx4a65c_init_da8c8 : ByteArray := prog_27_method_2_code
def yJx4a65c_init_da8c8 : MethodName := ⟨RJx4a65c, "<init>", "()V"⟩
abbrev cJx4a65c_grow_92f84 : ByteArray := prog_27_method_6_code
def yJx4a65c_grow_92f84 : MethodName := ⟨RJx4a65c, "grow", "(I)[Ljava/lang/Object;"⟩
abbrev cJx4a65c_grow_d5877 : ByteArray := prog_27_method_7_code
def yJx4a65c_grow_d5877 : MethodName := ⟨RJx4a65c, "grow", "()[Ljava/lang/Object;"⟩
abbrev cJx4a65c_size_8abf5 : ByteArray := prog_27_method_8_code
def yJx4a65c_size_8abf5 : MethodName := ⟨RJx4a65c, "size", "()I"⟩
abbrev cJx4a65c_elementData_915e3 : ByteArray := prog_27_method_18_code
def yJx4a65c_elementData_915e3 : MethodName := ⟨RJx4a65c, "elementData", "(I)Ljava/lang/Object;"⟩
abbrev cJx4a65c_get_915e3 : ByteArray := prog_27_method_20_code
def yJx4a65c_get_915e3 : MethodName := ⟨RJx4a65c, "get", "(I)Ljava/lang/Object;"⟩
abbrev cJx4a65c_add_72be8 : ByteArray := prog_27_method_24_code
def yJx4a65c_add_72be8 : MethodName := ⟨RJx4a65c, "add", "(Ljava/lang/Object;[Ljava/lang/Object;I)V"⟩
abbrev cJx4a65c_add_9ea2d : ByteArray := prog_27_method_25_code
def yJx4a65c_add_9ea2d : MethodName := ⟨RJx4a65c, "add", "(Ljava/lang/Object;)Z"⟩
abbrev cJ7_fill_53178 : ByteArray := prog_28_method_103_code
def yJ7_fill_53178 : MethodName := ⟨RJ7, "fill", "([II)V"⟩
abbrev cJ7_copyOf_1904c : ByteArray := prog_28_method_119_code
def yJ7_copyOf_1904c : MethodName := ⟨RJ7, "copyOf", "([Ljava/lang/Object;I)[Ljava/lang/Object;"⟩
abbrev cJ7_copyOf_6403c : ByteArray := prog_28_method_120_code
def yJ7_copyOf_6403c : MethodName := ⟨RJ7, "copyOf", "([Ljava/lang/Object;ILjava/lang/Class;)[Ljava/lang/Object;"⟩
abbrev cJ7_copyOf_59c91 : ByteArray := prog_28_method_123_code
def yJ7_copyOf_59c91 : MethodName := ⟨RJ7, "copyOf", "([II)[I"⟩
abbrev cJ15_checkIndex_7cf53 : ByteArray := prog_31_method_17_code
def yJ15_checkIndex_7cf53 : MethodName := ⟨RJ15, "checkIndex", "(II)I"⟩
abbrev cJ8_newLength_cabcc : ByteArray := prog_34_method_27_code
def yJ8_newLength_cabcc : MethodName := ⟨RJ8, "newLength", "(III)I"⟩
abbrev cJ3_checkIndex_8e157 : ByteArray := prog_35_method_11_code
def yJ3_checkIndex_8e157 : MethodName := ⟨RJ3, "checkIndex", "(IILjava/util/function/BiFunction;)I"⟩
abbrev vwCl : List vw_C := [(RJx4a65c, TJx4a65c, 3), (RX0, TX0, 4), (RX1, TX1, 11), (RX2, TX2, 8), (RX3, TX3, 2), (RX4, TX4, 9), (RX5, TX5, 11), (RX6, TX6, 9), (RX7, TX7, 12), (RX8, TX8, 5), (RX9, TX9, 6), (RX10, TX10, 6), (RX11, TX11, 18), (RX12, TX12, 86)]
