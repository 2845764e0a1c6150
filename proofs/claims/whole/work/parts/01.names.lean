-- ===== PART A: goes FIRST, ahead of the names: the tables' words, and 'selects' of the private methods out of them =====
/-- a private method of a class that the tables say can be made, by its rows of tables_1 -/
def lw_okq (q : MethodName × Nat) : Prop := (q.1.cls ≠ "java/lang/invoke/MethodHandle" ∧ q.1.cls ≠ "java/lang/invoke/VarHandle") ∧ Cond.instantiable q.1.cls q.2 ∈ tables_1 ∧ Cond.privateMethod q.1 ∈ tables_1 ∧ Cond.instanceMethod q.1 ∈ tables_1
theorem lw_p0 : lw_okq (⟨"java/util/ArrayList", "add", "(Ljava/lang/Object;[Ljava/lang/Object;I)V"⟩, 3) := ⟨⟨by decide +kernel, by decide +kernel⟩, List.mem_of_getElem? (i := 36) (by decide +kernel), List.mem_of_getElem? (i := 216) (by decide +kernel), List.mem_of_getElem? (i := 217) (by decide +kernel)⟩
theorem lw_p1 : lw_okq (⟨"java/util/ArrayList", "grow", "()[Ljava/lang/Object;"⟩, 3) := ⟨⟨by decide +kernel, by decide +kernel⟩, List.mem_of_getElem? (i := 36) (by decide +kernel), List.mem_of_getElem? (i := 220) (by decide +kernel), List.mem_of_getElem? (i := 221) (by decide +kernel)⟩
theorem lw_p2 : lw_okq (⟨"java/util/ArrayList", "grow", "(I)[Ljava/lang/Object;"⟩, 3) := ⟨⟨by decide +kernel, by decide +kernel⟩, List.mem_of_getElem? (i := 36) (by decide +kernel), List.mem_of_getElem? (i := 224) (by decide +kernel), List.mem_of_getElem? (i := 225) (by decide +kernel)⟩
theorem lw_p3 : lw_okq (⟨"ToolHouse", "kindAt", "(I)LToolHouse$Kind;"⟩, 10) := ⟨⟨by decide +kernel, by decide +kernel⟩, List.mem_of_getElem? (i := 28) (by decide +kernel), List.mem_of_getElem? (i := 275) (by decide +kernel), List.mem_of_getElem? (i := 276) (by decide +kernel)⟩
theorem lw_p4 : lw_okq (⟨"ToolHouse$LawReader", "take", "(LToolHouse$Tape;III)V"⟩, 5) := ⟨⟨by decide +kernel, by decide +kernel⟩, List.mem_of_getElem? (i := 78) (by decide +kernel), List.mem_of_getElem? (i := 392) (by decide +kernel), List.mem_of_getElem? (i := 393) (by decide +kernel)⟩
theorem lw_p5 : lw_okq (⟨"ToolHouse$LawReader", "takeKind", "(III)V"⟩, 5) := ⟨⟨by decide +kernel, by decide +kernel⟩, List.mem_of_getElem? (i := 78) (by decide +kernel), List.mem_of_getElem? (i := 449) (by decide +kernel), List.mem_of_getElem? (i := 450) (by decide +kernel)⟩
theorem lw_p6 : lw_okq (⟨"ToolHouse$LawReader", "blame", "(II)V"⟩, 5) := ⟨⟨by decide +kernel, by decide +kernel⟩, List.mem_of_getElem? (i := 78) (by decide +kernel), List.mem_of_getElem? (i := 453) (by decide +kernel), List.mem_of_getElem? (i := 454) (by decide +kernel)⟩
theorem lw_p7 : lw_okq (⟨"ToolHouse$LawReader", "takeDays", "(I)V"⟩, 5) := ⟨⟨by decide +kernel, by decide +kernel⟩, List.mem_of_getElem? (i := 78) (by decide +kernel), List.mem_of_getElem? (i := 457) (by decide +kernel), List.mem_of_getElem? (i := 458) (by decide +kernel)⟩
theorem lw_p8 : lw_okq (⟨"ToolHouse", "thingAt", "(I)LToolHouse$Thing;"⟩, 10) := ⟨⟨by decide +kernel, by decide +kernel⟩, List.mem_of_getElem? (i := 28) (by decide +kernel), List.mem_of_getElem? (i := 475) (by decide +kernel), List.mem_of_getElem? (i := 476) (by decide +kernel)⟩
theorem lw_p9 : lw_okq (⟨"ToolHouse", "memberAt", "(I)LToolHouse$Member;"⟩, 10) := ⟨⟨by decide +kernel, by decide +kernel⟩, List.mem_of_getElem? (i := 28) (by decide +kernel), List.mem_of_getElem? (i := 495) (by decide +kernel), List.mem_of_getElem? (i := 496) (by decide +kernel)⟩
theorem lw_p10 : lw_okq (⟨"ToolHouse", "canBeAsked", "(II)Z"⟩, 10) := ⟨⟨by decide +kernel, by decide +kernel⟩, List.mem_of_getElem? (i := 28) (by decide +kernel), List.mem_of_getElem? (i := 499) (by decide +kernel), List.mem_of_getElem? (i := 500) (by decide +kernel)⟩
theorem lw_p11 : lw_okq (⟨"ToolHouse", "howManyAre", "(I)I"⟩, 10) := ⟨⟨by decide +kernel, by decide +kernel⟩, List.mem_of_getElem? (i := 28) (by decide +kernel), List.mem_of_getElem? (i := 503) (by decide +kernel), List.mem_of_getElem? (i := 504) (by decide +kernel)⟩
theorem lw_p12 : lw_okq (⟨"ToolHouse", "rowThatMayHave", "(LToolHouse$Thing;)I"⟩, 10) := ⟨⟨by decide +kernel, by decide +kernel⟩, List.mem_of_getElem? (i := 28) (by decide +kernel), List.mem_of_getElem? (i := 577) (by decide +kernel), List.mem_of_getElem? (i := 578) (by decide +kernel)⟩
theorem lw_p13 : lw_okq (⟨"ToolHouse", "isFreeFor", "(LToolHouse$Ask;LToolHouse$Thing;)Z"⟩, 10) := ⟨⟨by decide +kernel, by decide +kernel⟩, List.mem_of_getElem? (i := 28) (by decide +kernel), List.mem_of_getElem? (i := 589) (by decide +kernel), List.mem_of_getElem? (i := 590) (by decide +kernel)⟩
theorem lw_p14 : lw_okq (⟨"ToolHouse", "isFreeBut", "(LToolHouse$Ask;LToolHouse$Thing;II)Z"⟩, 10) := ⟨⟨by decide +kernel, by decide +kernel⟩, List.mem_of_getElem? (i := 28) (by decide +kernel), List.mem_of_getElem? (i := 593) (by decide +kernel), List.mem_of_getElem? (i := 594) (by decide +kernel)⟩
theorem lw_p15 : lw_okq (⟨"ToolHouse$Planner", "weigh", "(LToolHouse$Thing;I)V"⟩, 4) := ⟨⟨by decide +kernel, by decide +kernel⟩, List.mem_of_getElem? (i := 124) (by decide +kernel), List.mem_of_getElem? (i := 613) (by decide +kernel), List.mem_of_getElem? (i := 614) (by decide +kernel)⟩
def lw_privs_1 : List (MethodName × Nat) := [(⟨"java/util/ArrayList", "add", "(Ljava/lang/Object;[Ljava/lang/Object;I)V"⟩, 3), (⟨"java/util/ArrayList", "grow", "()[Ljava/lang/Object;"⟩, 3), (⟨"java/util/ArrayList", "grow", "(I)[Ljava/lang/Object;"⟩, 3), (⟨"ToolHouse", "kindAt", "(I)LToolHouse$Kind;"⟩, 10), (⟨"ToolHouse$LawReader", "take", "(LToolHouse$Tape;III)V"⟩, 5), (⟨"ToolHouse$LawReader", "takeKind", "(III)V"⟩, 5), (⟨"ToolHouse$LawReader", "blame", "(II)V"⟩, 5), (⟨"ToolHouse$LawReader", "takeDays", "(I)V"⟩, 5), (⟨"ToolHouse", "thingAt", "(I)LToolHouse$Thing;"⟩, 10), (⟨"ToolHouse", "memberAt", "(I)LToolHouse$Member;"⟩, 10), (⟨"ToolHouse", "canBeAsked", "(II)Z"⟩, 10), (⟨"ToolHouse", "howManyAre", "(I)I"⟩, 10), (⟨"ToolHouse", "rowThatMayHave", "(LToolHouse$Thing;)I"⟩, 10), (⟨"ToolHouse", "isFreeFor", "(LToolHouse$Ask;LToolHouse$Thing;)Z"⟩, 10), (⟨"ToolHouse", "isFreeBut", "(LToolHouse$Ask;LToolHouse$Thing;II)Z"⟩, 10), (⟨"ToolHouse$Planner", "weigh", "(LToolHouse$Thing;I)V"⟩, 4)]
theorem lw_r1 : ∀ q ∈ lw_privs_1, lw_okq q := List.forall_mem_cons.mpr ⟨lw_p0, List.forall_mem_cons.mpr ⟨lw_p1, List.forall_mem_cons.mpr ⟨lw_p2, List.forall_mem_cons.mpr ⟨lw_p3, List.forall_mem_cons.mpr ⟨lw_p4, List.forall_mem_cons.mpr ⟨lw_p5, List.forall_mem_cons.mpr ⟨lw_p6, List.forall_mem_cons.mpr ⟨lw_p7, List.forall_mem_cons.mpr ⟨lw_p8, List.forall_mem_cons.mpr ⟨lw_p9, List.forall_mem_cons.mpr ⟨lw_p10, List.forall_mem_cons.mpr ⟨lw_p11, List.forall_mem_cons.mpr ⟨lw_p12, List.forall_mem_cons.mpr ⟨lw_p13, List.forall_mem_cons.mpr ⟨lw_p14, List.forall_mem_cons.mpr ⟨lw_p15, fun _ h => absurd h List.not_mem_nil⟩⟩⟩⟩⟩⟩⟩⟩⟩⟩⟩⟩⟩⟩⟩⟩
theorem lw_p16 : lw_okq (⟨"ToolHouse$Planner", "nearTo", "(LToolHouse$Ask;II)I"⟩, 4) := ⟨⟨by decide +kernel, by decide +kernel⟩, List.mem_of_getElem? (i := 124) (by decide +kernel), List.mem_of_getElem? (i := 625) (by decide +kernel), List.mem_of_getElem? (i := 626) (by decide +kernel)⟩
theorem lw_p17 : lw_okq (⟨"ToolHouse$Planner", "wholeRow", "()I"⟩, 4) := ⟨⟨by decide +kernel, by decide +kernel⟩, List.mem_of_getElem? (i := 124) (by decide +kernel), List.mem_of_getElem? (i := 630) (by decide +kernel), List.mem_of_getElem? (i := 631) (by decide +kernel)⟩
theorem lw_p18 : lw_okq (⟨"ToolHouse", "carryOutPlan", "()I"⟩, 10) := ⟨⟨by decide +kernel, by decide +kernel⟩, List.mem_of_getElem? (i := 28) (by decide +kernel), List.mem_of_getElem? (i := 635) (by decide +kernel), List.mem_of_getElem? (i := 636) (by decide +kernel)⟩
theorem lw_p19 : lw_okq (⟨"ToolHouse", "refuse", "(LToolHouse$Ask;)V"⟩, 10) := ⟨⟨by decide +kernel, by decide +kernel⟩, List.mem_of_getElem? (i := 28) (by decide +kernel), List.mem_of_getElem? (i := 643) (by decide +kernel), List.mem_of_getElem? (i := 644) (by decide +kernel)⟩
theorem lw_p20 : lw_okq (⟨"java/util/ArrayList", "rangeCheckForAdd", "(I)V"⟩, 3) := ⟨⟨by decide +kernel, by decide +kernel⟩, List.mem_of_getElem? (i := 36) (by decide +kernel), List.mem_of_getElem? (i := 651) (by decide +kernel), List.mem_of_getElem? (i := 652) (by decide +kernel)⟩
theorem lw_p21 : lw_okq (⟨"ToolHouse", "askAt", "(I)LToolHouse$Ask;"⟩, 10) := ⟨⟨by decide +kernel, by decide +kernel⟩, List.mem_of_getElem? (i := 28) (by decide +kernel), List.mem_of_getElem? (i := 660) (by decide +kernel), List.mem_of_getElem? (i := 661) (by decide +kernel)⟩
theorem lw_p22 : lw_okq (⟨"ToolHouse", "hindranceOf", "(LToolHouse$Ask;LToolHouse$Thing;)I"⟩, 10) := ⟨⟨by decide +kernel, by decide +kernel⟩, List.mem_of_getElem? (i := 28) (by decide +kernel), List.mem_of_getElem? (i := 668) (by decide +kernel), List.mem_of_getElem? (i := 669) (by decide +kernel)⟩
theorem lw_p23 : lw_okq (⟨"ToolHouse", "loseWhatIsOver", "()V"⟩, 10) := ⟨⟨by decide +kernel, by decide +kernel⟩, List.mem_of_getElem? (i := 28) (by decide +kernel), List.mem_of_getElem? (i := 693) (by decide +kernel), List.mem_of_getElem? (i := 694) (by decide +kernel)⟩
theorem lw_p24 : lw_okq (⟨"ToolHouse", "moveFromLateThings", "()V"⟩, 10) := ⟨⟨by decide +kernel, by decide +kernel⟩, List.mem_of_getElem? (i := 28) (by decide +kernel), List.mem_of_getElem? (i := 697) (by decide +kernel), List.mem_of_getElem? (i := 698) (by decide +kernel)⟩
theorem lw_p25 : lw_okq (⟨"ToolHouse", "nextToMove", "()LToolHouse$Ask;"⟩, 10) := ⟨⟨by decide +kernel, by decide +kernel⟩, List.mem_of_getElem? (i := 28) (by decide +kernel), List.mem_of_getElem? (i := 701) (by decide +kernel), List.mem_of_getElem? (i := 702) (by decide +kernel)⟩
theorem lw_p26 : lw_okq (⟨"ToolHouse", "mustMove", "(LToolHouse$Ask;)Z"⟩, 10) := ⟨⟨by decide +kernel, by decide +kernel⟩, List.mem_of_getElem? (i := 28) (by decide +kernel), List.mem_of_getElem? (i := 705) (by decide +kernel), List.mem_of_getElem? (i := 706) (by decide +kernel)⟩
theorem lw_p27 : lw_okq (⟨"ToolHouse", "firstOtherThingFor", "(LToolHouse$Ask;)LToolHouse$Thing;"⟩, 10) := ⟨⟨by decide +kernel, by decide +kernel⟩, List.mem_of_getElem? (i := 28) (by decide +kernel), List.mem_of_getElem? (i := 717) (by decide +kernel), List.mem_of_getElem? (i := 718) (by decide +kernel)⟩
theorem lw_p28 : lw_okq (⟨"ToolHouse", "howManyAreBookedOn", "(LToolHouse$Thing;)I"⟩, 10) := ⟨⟨by decide +kernel, by decide +kernel⟩, List.mem_of_getElem? (i := 28) (by decide +kernel), List.mem_of_getElem? (i := 729) (by decide +kernel), List.mem_of_getElem? (i := 730) (by decide +kernel)⟩
theorem lw_p29 : lw_okq (⟨"java/lang/Throwable", "fillInStackTrace", "(I)Ljava/lang/Throwable;"⟩, 6) := ⟨⟨by decide +kernel, by decide +kernel⟩, List.mem_of_getElem? (i := 794) (by decide +kernel), List.mem_of_getElem? (i := 792) (by decide +kernel), List.mem_of_getElem? (i := 793) (by decide +kernel)⟩
theorem lw_p30 : lw_okq (⟨"ToolHouseModel", "isKind", "(I)Z"⟩, 43) := ⟨⟨by decide +kernel, by decide +kernel⟩, List.mem_of_getElem? (i := 824) (by decide +kernel), List.mem_of_getElem? (i := 976) (by decide +kernel), List.mem_of_getElem? (i := 977) (by decide +kernel)⟩
theorem lw_p31 : lw_okq (⟨"ToolHouseModel", "token", "()V"⟩, 43) := ⟨⟨by decide +kernel, by decide +kernel⟩, List.mem_of_getElem? (i := 824) (by decide +kernel), List.mem_of_getElem? (i := 996) (by decide +kernel), List.mem_of_getElem? (i := 997) (by decide +kernel)⟩
def lw_privs_2 : List (MethodName × Nat) := [(⟨"ToolHouse$Planner", "nearTo", "(LToolHouse$Ask;II)I"⟩, 4), (⟨"ToolHouse$Planner", "wholeRow", "()I"⟩, 4), (⟨"ToolHouse", "carryOutPlan", "()I"⟩, 10), (⟨"ToolHouse", "refuse", "(LToolHouse$Ask;)V"⟩, 10), (⟨"java/util/ArrayList", "rangeCheckForAdd", "(I)V"⟩, 3), (⟨"ToolHouse", "askAt", "(I)LToolHouse$Ask;"⟩, 10), (⟨"ToolHouse", "hindranceOf", "(LToolHouse$Ask;LToolHouse$Thing;)I"⟩, 10), (⟨"ToolHouse", "loseWhatIsOver", "()V"⟩, 10), (⟨"ToolHouse", "moveFromLateThings", "()V"⟩, 10), (⟨"ToolHouse", "nextToMove", "()LToolHouse$Ask;"⟩, 10), (⟨"ToolHouse", "mustMove", "(LToolHouse$Ask;)Z"⟩, 10), (⟨"ToolHouse", "firstOtherThingFor", "(LToolHouse$Ask;)LToolHouse$Thing;"⟩, 10), (⟨"ToolHouse", "howManyAreBookedOn", "(LToolHouse$Thing;)I"⟩, 10), (⟨"java/lang/Throwable", "fillInStackTrace", "(I)Ljava/lang/Throwable;"⟩, 6), (⟨"ToolHouseModel", "isKind", "(I)Z"⟩, 43), (⟨"ToolHouseModel", "token", "()V"⟩, 43)]
theorem lw_r2 : ∀ q ∈ lw_privs_2, lw_okq q := List.forall_mem_cons.mpr ⟨lw_p16, List.forall_mem_cons.mpr ⟨lw_p17, List.forall_mem_cons.mpr ⟨lw_p18, List.forall_mem_cons.mpr ⟨lw_p19, List.forall_mem_cons.mpr ⟨lw_p20, List.forall_mem_cons.mpr ⟨lw_p21, List.forall_mem_cons.mpr ⟨lw_p22, List.forall_mem_cons.mpr ⟨lw_p23, List.forall_mem_cons.mpr ⟨lw_p24, List.forall_mem_cons.mpr ⟨lw_p25, List.forall_mem_cons.mpr ⟨lw_p26, List.forall_mem_cons.mpr ⟨lw_p27, List.forall_mem_cons.mpr ⟨lw_p28, List.forall_mem_cons.mpr ⟨lw_p29, List.forall_mem_cons.mpr ⟨lw_p30, List.forall_mem_cons.mpr ⟨lw_p31, fun _ h => absurd h List.not_mem_nil⟩⟩⟩⟩⟩⟩⟩⟩⟩⟩⟩⟩⟩⟩⟩⟩
theorem lw_p32 : lw_okq (⟨"ToolHouseModel", "byteAt", "(I)I"⟩, 43) := ⟨⟨by decide +kernel, by decide +kernel⟩, List.mem_of_getElem? (i := 824) (by decide +kernel), List.mem_of_getElem? (i := 1000) (by decide +kernel), List.mem_of_getElem? (i := 1001) (by decide +kernel)⟩
theorem lw_p33 : lw_okq (⟨"ToolHouseModel", "statement", "()Z"⟩, 43) := ⟨⟨by decide +kernel, by decide +kernel⟩, List.mem_of_getElem? (i := 824) (by decide +kernel), List.mem_of_getElem? (i := 1004) (by decide +kernel), List.mem_of_getElem? (i := 1005) (by decide +kernel)⟩
theorem lw_p34 : lw_okq (⟨"ToolHouseModel", "isEvery", "()Z"⟩, 43) := ⟨⟨by decide +kernel, by decide +kernel⟩, List.mem_of_getElem? (i := 824) (by decide +kernel), List.mem_of_getElem? (i := 1008) (by decide +kernel), List.mem_of_getElem? (i := 1009) (by decide +kernel)⟩
theorem lw_p35 : lw_okq (⟨"ToolHouseModel", "wrong", "(I)Z"⟩, 43) := ⟨⟨by decide +kernel, by decide +kernel⟩, List.mem_of_getElem? (i := 824) (by decide +kernel), List.mem_of_getElem? (i := 1012) (by decide +kernel), List.mem_of_getElem? (i := 1013) (by decide +kernel)⟩
theorem lw_p36 : lw_okq (⟨"ToolHouseModel", "isThing", "(I)Z"⟩, 43) := ⟨⟨by decide +kernel, by decide +kernel⟩, List.mem_of_getElem? (i := 824) (by decide +kernel), List.mem_of_getElem? (i := 1024) (by decide +kernel), List.mem_of_getElem? (i := 1025) (by decide +kernel)⟩
theorem lw_p37 : lw_okq (⟨"ToolHouseModel", "outWith", "(I)I"⟩, 43) := ⟨⟨by decide +kernel, by decide +kernel⟩, List.mem_of_getElem? (i := 824) (by decide +kernel), List.mem_of_getElem? (i := 1028) (by decide +kernel), List.mem_of_getElem? (i := 1029) (by decide +kernel)⟩
theorem lw_p38 : lw_okq (⟨"ToolHouseModel", "isLawful", "(II)Z"⟩, 43) := ⟨⟨by decide +kernel, by decide +kernel⟩, List.mem_of_getElem? (i := 824) (by decide +kernel), List.mem_of_getElem? (i := 1036) (by decide +kernel), List.mem_of_getElem? (i := 1037) (by decide +kernel)⟩
theorem lw_p39 : lw_okq (⟨"ToolHouseModel", "wanted", "(I)I"⟩, 43) := ⟨⟨by decide +kernel, by decide +kernel⟩, List.mem_of_getElem? (i := 824) (by decide +kernel), List.mem_of_getElem? (i := 1040) (by decide +kernel), List.mem_of_getElem? (i := 1041) (by decide +kernel)⟩
theorem lw_p40 : lw_okq (⟨"ToolHouseModel", "isMember", "(I)Z"⟩, 43) := ⟨⟨by decide +kernel, by decide +kernel⟩, List.mem_of_getElem? (i := 824) (by decide +kernel), List.mem_of_getElem? (i := 1048) (by decide +kernel), List.mem_of_getElem? (i := 1049) (by decide +kernel)⟩
theorem lw_p41 : lw_okq (⟨"ToolHouseModel", "counted", "(I)I"⟩, 43) := ⟨⟨by decide +kernel, by decide +kernel⟩, List.mem_of_getElem? (i := 824) (by decide +kernel), List.mem_of_getElem? (i := 1052) (by decide +kernel), List.mem_of_getElem? (i := 1053) (by decide +kernel)⟩
theorem lw_p42 : lw_okq (⟨"ToolHouseModel", "fits", "(II)Z"⟩, 43) := ⟨⟨by decide +kernel, by decide +kernel⟩, List.mem_of_getElem? (i := 824) (by decide +kernel), List.mem_of_getElem? (i := 1060) (by decide +kernel), List.mem_of_getElem? (i := 1061) (by decide +kernel)⟩
theorem lw_p43 : lw_okq (⟨"ToolHouseModel", "isFreeFor", "(IIII)Z"⟩, 43) := ⟨⟨by decide +kernel, by decide +kernel⟩, List.mem_of_getElem? (i := 824) (by decide +kernel), List.mem_of_getElem? (i := 1064) (by decide +kernel), List.mem_of_getElem? (i := 1065) (by decide +kernel)⟩
theorem lw_p44 : lw_okq (⟨"ToolHouseModel", "endOf", "(I)I"⟩, 43) := ⟨⟨by decide +kernel, by decide +kernel⟩, List.mem_of_getElem? (i := 824) (by decide +kernel), List.mem_of_getElem? (i := 1068) (by decide +kernel), List.mem_of_getElem? (i := 1069) (by decide +kernel)⟩
theorem lw_p45 : lw_okq (⟨"ToolHouseModel", "tries", "(I)V"⟩, 43) := ⟨⟨by decide +kernel, by decide +kernel⟩, List.mem_of_getElem? (i := 824) (by decide +kernel), List.mem_of_getElem? (i := 1075) (by decide +kernel), List.mem_of_getElem? (i := 1076) (by decide +kernel)⟩
theorem lw_p46 : lw_okq (⟨"ToolHouseModel", "worth", "()I"⟩, 43) := ⟨⟨by decide +kernel, by decide +kernel⟩, List.mem_of_getElem? (i := 824) (by decide +kernel), List.mem_of_getElem? (i := 1079) (by decide +kernel), List.mem_of_getElem? (i := 1080) (by decide +kernel)⟩
theorem lw_p47 : lw_okq (⟨"ToolHouseModel", "stands", "(II)Z"⟩, 43) := ⟨⟨by decide +kernel, by decide +kernel⟩, List.mem_of_getElem? (i := 824) (by decide +kernel), List.mem_of_getElem? (i := 1083) (by decide +kernel), List.mem_of_getElem? (i := 1084) (by decide +kernel)⟩
def lw_privs_3 : List (MethodName × Nat) := [(⟨"ToolHouseModel", "byteAt", "(I)I"⟩, 43), (⟨"ToolHouseModel", "statement", "()Z"⟩, 43), (⟨"ToolHouseModel", "isEvery", "()Z"⟩, 43), (⟨"ToolHouseModel", "wrong", "(I)Z"⟩, 43), (⟨"ToolHouseModel", "isThing", "(I)Z"⟩, 43), (⟨"ToolHouseModel", "outWith", "(I)I"⟩, 43), (⟨"ToolHouseModel", "isLawful", "(II)Z"⟩, 43), (⟨"ToolHouseModel", "wanted", "(I)I"⟩, 43), (⟨"ToolHouseModel", "isMember", "(I)Z"⟩, 43), (⟨"ToolHouseModel", "counted", "(I)I"⟩, 43), (⟨"ToolHouseModel", "fits", "(II)Z"⟩, 43), (⟨"ToolHouseModel", "isFreeFor", "(IIII)Z"⟩, 43), (⟨"ToolHouseModel", "endOf", "(I)I"⟩, 43), (⟨"ToolHouseModel", "tries", "(I)V"⟩, 43), (⟨"ToolHouseModel", "worth", "()I"⟩, 43), (⟨"ToolHouseModel", "stands", "(II)Z"⟩, 43)]
theorem lw_r3 : ∀ q ∈ lw_privs_3, lw_okq q := List.forall_mem_cons.mpr ⟨lw_p32, List.forall_mem_cons.mpr ⟨lw_p33, List.forall_mem_cons.mpr ⟨lw_p34, List.forall_mem_cons.mpr ⟨lw_p35, List.forall_mem_cons.mpr ⟨lw_p36, List.forall_mem_cons.mpr ⟨lw_p37, List.forall_mem_cons.mpr ⟨lw_p38, List.forall_mem_cons.mpr ⟨lw_p39, List.forall_mem_cons.mpr ⟨lw_p40, List.forall_mem_cons.mpr ⟨lw_p41, List.forall_mem_cons.mpr ⟨lw_p42, List.forall_mem_cons.mpr ⟨lw_p43, List.forall_mem_cons.mpr ⟨lw_p44, List.forall_mem_cons.mpr ⟨lw_p45, List.forall_mem_cons.mpr ⟨lw_p46, List.forall_mem_cons.mpr ⟨lw_p47, fun _ h => absurd h List.not_mem_nil⟩⟩⟩⟩⟩⟩⟩⟩⟩⟩⟩⟩⟩⟩⟩⟩
theorem lw_p48 : lw_okq (⟨"ToolHouseModel", "moves", "()V"⟩, 43) := ⟨⟨by decide +kernel, by decide +kernel⟩, List.mem_of_getElem? (i := 824) (by decide +kernel), List.mem_of_getElem? (i := 1107) (by decide +kernel), List.mem_of_getElem? (i := 1108) (by decide +kernel)⟩
theorem lw_p49 : lw_okq (⟨"ToolHouseModel", "isLate", "(I)Z"⟩, 43) := ⟨⟨by decide +kernel, by decide +kernel⟩, List.mem_of_getElem? (i := 824) (by decide +kernel), List.mem_of_getElem? (i := 1111) (by decide +kernel), List.mem_of_getElem? (i := 1112) (by decide +kernel)⟩
theorem lw_p50 : lw_okq (⟨"ToolHouseModel", "isAhead", "(II)Z"⟩, 43) := ⟨⟨by decide +kernel, by decide +kernel⟩, List.mem_of_getElem? (i := 824) (by decide +kernel), List.mem_of_getElem? (i := 1115) (by decide +kernel), List.mem_of_getElem? (i := 1116) (by decide +kernel)⟩
theorem lw_p51 : lw_okq (⟨"ToolHouseModel", "moves", "(I)V"⟩, 43) := ⟨⟨by decide +kernel, by decide +kernel⟩, List.mem_of_getElem? (i := 824) (by decide +kernel), List.mem_of_getElem? (i := 1119) (by decide +kernel), List.mem_of_getElem? (i := 1120) (by decide +kernel)⟩
def lw_privs_4 : List (MethodName × Nat) := [(⟨"ToolHouseModel", "moves", "()V"⟩, 43), (⟨"ToolHouseModel", "isLate", "(I)Z"⟩, 43), (⟨"ToolHouseModel", "isAhead", "(II)Z"⟩, 43), (⟨"ToolHouseModel", "moves", "(I)V"⟩, 43)]
theorem lw_r4 : ∀ q ∈ lw_privs_4, lw_okq q := List.forall_mem_cons.mpr ⟨lw_p48, List.forall_mem_cons.mpr ⟨lw_p49, List.forall_mem_cons.mpr ⟨lw_p50, List.forall_mem_cons.mpr ⟨lw_p51, fun _ h => absurd h List.not_mem_nil⟩⟩⟩⟩
def lw_privs : List (MethodName × Nat) := lw_privs_1 ++ (lw_privs_2 ++ (lw_privs_3 ++ (lw_privs_4)))
def lw_tbl : List Cond := k2_sels lw_privs ++ tables_1
theorem lw_privs_ok : ∀ q ∈ lw_privs, lw_okq q := by
  show ∀ q ∈ lw_privs_1 ++ (lw_privs_2 ++ (lw_privs_3 ++ (lw_privs_4))), lw_okq q
  exact List.forall_mem_append.mpr ⟨lw_r1, List.forall_mem_append.mpr ⟨lw_r2, List.forall_mem_append.mpr ⟨lw_r3, lw_r4⟩⟩⟩

def RX0 : String := "ToolHouse$Ask"
def TX0 : u_T := fun k => match k with
  | 0 => ("ToolHouse$Ask", "number", "I", true)
  | 1 => ("ToolHouse$Ask", "member", "LToolHouse$Member;", true)
  | 2 => ("ToolHouse$Ask", "kind", "LToolHouse$Kind;", true)
  | 3 => ("ToolHouse$Ask", "needs", "I", true)
  | 4 => ("ToolHouse$Ask", "first", "I", true)
  | 5 => ("ToolHouse$Ask", "last", "I", true)
  | 6 => ("ToolHouse$Ask", "rank", "I", true)
  | 7 => ("ToolHouse$Ask", "state", "I", false)
  | 8 => ("ToolHouse$Ask", "thing", "LToolHouse$Thing;", false)
  | 9 => ("ToolHouse$Ask", "moves", "I", false)
  | _ => ("ToolHouse$Ask", "backDay", "I", false)
def tyX0 : Nat → FieldType := fun k => match k with
  | 0 => .int
  | 1 => .object "ToolHouse$Member"
  | 2 => .object "ToolHouse$Kind"
  | 3 => .int
  | 4 => .int
  | 5 => .int
  | 6 => .int
  | 7 => .int
  | 8 => .object "ToolHouse$Thing"
  | 9 => .int
  | _ => .int
abbrev wsX00 : List Cond := u_ws RX0 TX0 11
theorem nmX0 : ∀ a, a < 11 → ∀ b, b < 11 → a ≠ b → (TX0 a).2.1 ≠ (TX0 b).2.1 := by decide +kernel
theorem tyX0_ok : ∀ k, k < 11 → parseFieldDescriptor (TX0 k).2.2.1 = some (tyX0 k) := by decide +kernel
abbrev cX0_init : ByteArray := prog_2_method_1_code
def yX0_init : MethodName := ⟨RX0, "<init>", "(ILToolHouse$Member;LToolHouse$Kind;IIII)V"⟩
abbrev cX0_isBookedOn : ByteArray := prog_2_method_2_code
def yX0_isBookedOn : MethodName := ⟨RX0, "isBookedOn", "(LToolHouse$Thing;)Z"⟩
abbrev cX0_holds : ByteArray := prog_2_method_3_code
def yX0_holds : MethodName := ⟨RX0, "holds", "(LToolHouse$Thing;)Z"⟩
abbrev cX0_lastDay : ByteArray := prog_2_method_4_code
def yX0_lastDay : MethodName := ⟨RX0, "lastDay", "(I)I"⟩
abbrev cX0_movesAheadOf : ByteArray := prog_2_method_5_code
def yX0_movesAheadOf : MethodName := ⟨RX0, "movesAheadOf", "(LToolHouse$Ask;)Z"⟩
def RX1 : String := "ToolHouse$Kind"
def TX1 : u_T := fun k => match k with
  | 0 => ("ToolHouse$Kind", "number", "I", true)
  | 1 => ("ToolHouse$Kind", "care", "I", true)
  | 2 => ("ToolHouse$Kind", "features", "I", true)
  | _ => ("ToolHouse$Kind", "fee", "I", true)
def tyX1 : Nat → FieldType := fun k => match k with
  | 0 => .int
  | 1 => .int
  | 2 => .int
  | _ => .int
abbrev wsX10 : List Cond := u_ws RX1 TX1 4
theorem nmX1 : ∀ a, a < 4 → ∀ b, b < 4 → a ≠ b → (TX1 a).2.1 ≠ (TX1 b).2.1 := by decide +kernel
theorem tyX1_ok : ∀ k, k < 4 → parseFieldDescriptor (TX1 k).2.2.1 = some (tyX1 k) := by decide +kernel
abbrev cX1_init : ByteArray := prog_3_method_1_code
def yX1_init : MethodName := ⟨RX1, "<init>", "(IIII)V"⟩
abbrev cX1_fits : ByteArray := prog_3_method_2_code
def yX1_fits : MethodName := ⟨RX1, "fits", "(LToolHouse$Ask;)Z"⟩
def RX2 : String := "ToolHouse$LawBook"
def TX2 : u_T := fun k => match k with
  | 0 => ("ToolHouse$LawBook", "told", "I", false)
  | 1 => ("ToolHouse$LawBook", "place", "I", false)
  | _ => ("ToolHouse$LawBook", "wanted", "[I", true)
def tyX2 : Nat → FieldType := fun k => match k with
  | 0 => .int
  | 1 => .int
  | _ => .array .int
abbrev wsX20 : List Cond := u_ws RX2 TX2 3
theorem nmX2 : ∀ a, a < 3 → ∀ b, b < 3 → a ≠ b → (TX2 a).2.1 ≠ (TX2 b).2.1 := by decide +kernel
theorem tyX2_ok : ∀ k, k < 3 → parseFieldDescriptor (TX2 k).2.2.1 = some (tyX2 k) := by decide +kernel
abbrev cX2_init : ByteArray := prog_4_method_1_code
def yX2_init : MethodName := ⟨RX2, "<init>", "()V"⟩
abbrev cX2_tell : ByteArray := prog_4_method_2_code
def yX2_tell : MethodName := ⟨RX2, "tell", "([I)V"⟩
abbrev cX2_daysWanted : ByteArray := prog_4_method_3_code
def yX2_daysWanted : MethodName := ⟨RX2, "daysWanted", "(I)I"⟩
abbrev cX2_lets : ByteArray := prog_4_method_4_code
def yX2_lets : MethodName := ⟨RX2, "lets", "(LToolHouse$Thing;I)Z"⟩
def RX3 : String := "ToolHouse$LawReader"
def TX3 : u_T := fun k => match k with
  | 0 => ("ToolHouse$LawReader", "wanted", "[I", true)
  | 1 => ("ToolHouse$LawReader", "fault", "I", false)
  | 2 => ("ToolHouse$LawReader", "place", "I", false)
  | 3 => ("ToolHouse$LawReader", "due", "I", false)
  | _ => ("ToolHouse$LawReader", "kindTold", "I", false)
def tyX3 : Nat → FieldType := fun k => match k with
  | 0 => .array .int
  | 1 => .int
  | 2 => .int
  | 3 => .int
  | _ => .int
abbrev wsX30 : List Cond := u_ws RX3 TX3 5
theorem nmX3 : ∀ a, a < 5 → ∀ b, b < 5 → a ≠ b → (TX3 a).2.1 ≠ (TX3 b).2.1 := by decide +kernel
theorem tyX3_ok : ∀ k, k < 5 → parseFieldDescriptor (TX3 k).2.2.1 = some (tyX3 k) := by decide +kernel
abbrev cX3_init : ByteArray := prog_5_method_1_code
def yX3_init : MethodName := ⟨RX3, "<init>", "()V"⟩
abbrev cX3_read : ByteArray := prog_5_method_2_code
def yX3_read : MethodName := ⟨RX3, "read", "(LToolHouse$Tape;I)V"⟩
abbrev cX3_take : ByteArray := prog_5_method_3_code
def yX3_take : MethodName := ⟨RX3, "take", "(LToolHouse$Tape;III)V"⟩
abbrev cX3_takeKind : ByteArray := prog_5_method_4_code
def yX3_takeKind : MethodName := ⟨RX3, "takeKind", "(III)V"⟩
abbrev cX3_takeDays : ByteArray := prog_5_method_5_code
def yX3_takeDays : MethodName := ⟨RX3, "takeDays", "(I)V"⟩
abbrev cX3_blame : ByteArray := prog_5_method_6_code
def yX3_blame : MethodName := ⟨RX3, "blame", "(II)V"⟩
abbrev cX3_endOfToken : ByteArray := prog_5_method_7_code
def yX3_endOfToken : MethodName := ⟨RX3, "endOfToken", "(LToolHouse$Tape;I)I"⟩
abbrev cX3_isEvery : ByteArray := prog_5_method_8_code
def yX3_isEvery : MethodName := ⟨RX3, "isEvery", "(LToolHouse$Tape;II)Z"⟩
abbrev cX3_numberOf : ByteArray := prog_5_method_9_code
def yX3_numberOf : MethodName := ⟨RX3, "numberOf", "(LToolHouse$Tape;II)I"⟩
abbrev cX3_isBlank : ByteArray := prog_5_method_10_code
def yX3_isBlank : MethodName := ⟨RX3, "isBlank", "(I)Z"⟩
abbrev cX3_isLetter : ByteArray := prog_5_method_11_code
def yX3_isLetter : MethodName := ⟨RX3, "isLetter", "(I)Z"⟩
abbrev cX3_isDigit : ByteArray := prog_5_method_12_code
def yX3_isDigit : MethodName := ⟨RX3, "isDigit", "(I)Z"⟩
def RX4 : String := "ToolHouse$Member"
def TX4 : u_T := fun k => match k with
  | 0 => ("ToolHouse$Member", "number", "I", true)
  | 1 => ("ToolHouse$Member", "hours", "I", false)
  | 2 => ("ToolHouse$Member", "fees", "I", false)
  | _ => ("ToolHouse$Member", "asksOut", "I", false)
def tyX4 : Nat → FieldType := fun k => match k with
  | 0 => .int
  | 1 => .int
  | 2 => .int
  | _ => .int
abbrev wsX40 : List Cond := u_ws RX4 TX4 4
theorem nmX4 : ∀ a, a < 4 → ∀ b, b < 4 → a ≠ b → (TX4 a).2.1 ≠ (TX4 b).2.1 := by decide +kernel
theorem tyX4_ok : ∀ k, k < 4 → parseFieldDescriptor (TX4 k).2.2.1 = some (tyX4 k) := by decide +kernel
abbrev cX4_init : ByteArray := prog_6_method_1_code
def yX4_init : MethodName := ⟨RX4, "<init>", "(I)V"⟩
abbrev cX4_owe : ByteArray := prog_6_method_2_code
def yX4_owe : MethodName := ⟨RX4, "owe", "(II)V"⟩
def RX5 : String := "ToolHouse$Planner"
def TX5 : u_T := fun k => match k with
  | 0 => ("ToolHouse$Planner", "row", "[LToolHouse$Ask;", true)
  | 1 => ("ToolHouse$Planner", "size", "I", false)
  | 2 => ("ToolHouse$Planner", "most", "[I", true)
  | _ => ("ToolHouse$Planner", "gains", "[I", true)
def tyX5 : Nat → FieldType := fun k => match k with
  | 0 => .array (.object "ToolHouse$Ask")
  | 1 => .int
  | 2 => .array .int
  | _ => .array .int
abbrev wsX50 : List Cond := u_ws RX5 TX5 4
theorem nmX5 : ∀ a, a < 4 → ∀ b, b < 4 → a ≠ b → (TX5 a).2.1 ≠ (TX5 b).2.1 := by decide +kernel
theorem tyX5_ok : ∀ k, k < 4 → parseFieldDescriptor (TX5 k).2.2.1 = some (tyX5 k) := by decide +kernel
abbrev cX5_init : ByteArray := prog_7_method_1_code
def yX5_init : MethodName := ⟨RX5, "<init>", "()V"⟩
abbrev cX5_begin : ByteArray := prog_7_method_2_code
def yX5_begin : MethodName := ⟨RX5, "begin", "()V"⟩
abbrev cX5_add : ByteArray := prog_7_method_3_code
def yX5_add : MethodName := ⟨RX5, "add", "(LToolHouse$Ask;)V"⟩
abbrev cX5_askAtRow : ByteArray := prog_7_method_4_code
def yX5_askAtRow : MethodName := ⟨RX5, "askAtRow", "(I)LToolHouse$Ask;"⟩
abbrev cX5_offer : ByteArray := prog_7_method_5_code
def yX5_offer : MethodName := ⟨RX5, "offer", "(LToolHouse$Thing;I)V"⟩
abbrev cX5_thingAtRow : ByteArray := prog_7_method_6_code
def yX5_thingAtRow : MethodName := ⟨RX5, "thingAtRow", "(I)I"⟩
abbrev cX5_wholeRow : ByteArray := prog_7_method_7_code
def yX5_wholeRow : MethodName := ⟨RX5, "wholeRow", "()I"⟩
abbrev cX5_weigh : ByteArray := prog_7_method_8_code
def yX5_weigh : MethodName := ⟨RX5, "weigh", "(LToolHouse$Thing;I)V"⟩
abbrev cX5_worthOf : ByteArray := prog_7_method_9_code
def yX5_worthOf : MethodName := ⟨RX5, "worthOf", "(LToolHouse$Ask;LToolHouse$Thing;I)I"⟩
abbrev cX5_nearTo : ByteArray := prog_7_method_10_code
def yX5_nearTo : MethodName := ⟨RX5, "nearTo", "(LToolHouse$Ask;II)I"⟩
def RX6 : String := "ToolHouse$Tape"
def TX6 : u_T := fun k => match k with
  | 0 => ("ToolHouse$Tape", "bytes", "[I", true)
  | _ => ("ToolHouse$Tape", "length", "I", false)
def tyX6 : Nat → FieldType := fun k => match k with
  | 0 => .array .int
  | _ => .int
abbrev wsX60 : List Cond := u_ws RX6 TX6 2
theorem nmX6 : ∀ a, a < 2 → ∀ b, b < 2 → a ≠ b → (TX6 a).2.1 ≠ (TX6 b).2.1 := by decide +kernel
theorem tyX6_ok : ∀ k, k < 2 → parseFieldDescriptor (TX6 k).2.2.1 = some (tyX6 k) := by decide +kernel
abbrev cX6_init : ByteArray := prog_8_method_1_code
def yX6_init : MethodName := ⟨RX6, "<init>", "()V"⟩
abbrev cX6_hasRoom : ByteArray := prog_8_method_2_code
def yX6_hasRoom : MethodName := ⟨RX6, "hasRoom", "()Z"⟩
abbrev cX6_put : ByteArray := prog_8_method_3_code
def yX6_put : MethodName := ⟨RX6, "put", "(I)V"⟩
abbrev cX6_byteAt : ByteArray := prog_8_method_4_code
def yX6_byteAt : MethodName := ⟨RX6, "byteAt", "(I)I"⟩
def RX7 : String := "ToolHouse$Thing"
def TX7 : u_T := fun k => match k with
  | 0 => ("ToolHouse$Thing", "number", "I", true)
  | 1 => ("ToolHouse$Thing", "kind", "LToolHouse$Kind;", true)
  | 2 => ("ToolHouse$Thing", "lastLook", "I", false)
  | 3 => ("ToolHouse$Thing", "lastBack", "I", false)
  | _ => ("ToolHouse$Thing", "outWith", "LToolHouse$Ask;", false)
def tyX7 : Nat → FieldType := fun k => match k with
  | 0 => .int
  | 1 => .object "ToolHouse$Kind"
  | 2 => .int
  | 3 => .int
  | _ => .object "ToolHouse$Ask"
abbrev wsX70 : List Cond := u_ws RX7 TX7 5
theorem nmX7 : ∀ a, a < 5 → ∀ b, b < 5 → a ≠ b → (TX7 a).2.1 ≠ (TX7 b).2.1 := by decide +kernel
theorem tyX7_ok : ∀ k, k < 5 → parseFieldDescriptor (TX7 k).2.2.1 = some (tyX7 k) := by decide +kernel
abbrev cX7_init : ByteArray := prog_9_method_1_code
def yX7_init : MethodName := ⟨RX7, "<init>", "(ILToolHouse$Kind;)V"⟩
abbrev cX7_isLate : ByteArray := prog_9_method_2_code
def yX7_isLate : MethodName := ⟨RX7, "isLate", "(I)Z"⟩
abbrev cX7_isCaredFor : ByteArray := prog_9_method_3_code
def yX7_isCaredFor : MethodName := ⟨RX7, "isCaredFor", "(I)Z"⟩
def RX8 : String := "ToolHouse"
def TX8 : u_T := fun k => match k with
  | 0 => ("ToolHouse", "kinds", "Ljava/util/ArrayList;", true)
  | 1 => ("ToolHouse", "things", "Ljava/util/ArrayList;", true)
  | 2 => ("ToolHouse", "members", "Ljava/util/ArrayList;", true)
  | 3 => ("ToolHouse", "asks", "Ljava/util/ArrayList;", true)
  | 4 => ("ToolHouse", "log", "Ljava/util/ArrayList;", true)
  | 5 => ("ToolHouse", "tape", "LToolHouse$Tape;", true)
  | 6 => ("ToolHouse", "reader", "LToolHouse$LawReader;", true)
  | 7 => ("ToolHouse", "laws", "LToolHouse$LawBook;", true)
  | 8 => ("ToolHouse", "planner", "LToolHouse$Planner;", true)
  | _ => ("ToolHouse", "day", "I", false)
def tyX8 : Nat → FieldType := fun k => match k with
  | 0 => .object "java/util/ArrayList"
  | 1 => .object "java/util/ArrayList"
  | 2 => .object "java/util/ArrayList"
  | 3 => .object "java/util/ArrayList"
  | 4 => .object "java/util/ArrayList"
  | 5 => .object "ToolHouse$Tape"
  | 6 => .object "ToolHouse$LawReader"
  | 7 => .object "ToolHouse$LawBook"
  | 8 => .object "ToolHouse$Planner"
  | _ => .int
abbrev wsX80 : List Cond := u_ws RX8 TX8 10
theorem nmX8 : ∀ a, a < 10 → ∀ b, b < 10 → a ≠ b → (TX8 a).2.1 ≠ (TX8 b).2.1 := by decide +kernel
theorem tyX8_ok : ∀ k, k < 10 → parseFieldDescriptor (TX8 k).2.2.1 = some (tyX8 k) := by decide +kernel
abbrev cX8_init : ByteArray := prog_1_method_1_code
def yX8_init : MethodName := ⟨RX8, "<init>", "()V"⟩
abbrev cX8_kind : ByteArray := prog_1_method_2_code
def yX8_kind : MethodName := ⟨RX8, "kind", "(III)I"⟩
abbrev cX8_thing : ByteArray := prog_1_method_3_code
def yX8_thing : MethodName := ⟨RX8, "thing", "(I)I"⟩
abbrev cX8_member : ByteArray := prog_1_method_4_code
def yX8_member : MethodName := ⟨RX8, "member", "()I"⟩
abbrev cX8_feed : ByteArray := prog_1_method_5_code
def yX8_feed : MethodName := ⟨RX8, "feed", "(IIIII)I"⟩
abbrev cX8_end : ByteArray := prog_1_method_6_code
def yX8_end : MethodName := ⟨RX8, "end", "(I)I"⟩
abbrev cX8_law : ByteArray := prog_1_method_7_code
def yX8_law : MethodName := ⟨RX8, "law", "()I"⟩
abbrev cX8_place : ByteArray := prog_1_method_8_code
def yX8_place : MethodName := ⟨RX8, "place", "()I"⟩
abbrev cX8_look : ByteArray := prog_1_method_9_code
def yX8_look : MethodName := ⟨RX8, "look", "(I)Z"⟩
abbrev cX8_lawful : ByteArray := prog_1_method_10_code
def yX8_lawful : MethodName := ⟨RX8, "lawful", "(II)I"⟩
abbrev cX8_ask : ByteArray := prog_1_method_11_code
def yX8_ask : MethodName := ⟨RX8, "ask", "(IIIIII)I"⟩
abbrev cX8_plan : ByteArray := prog_1_method_12_code
def yX8_plan : MethodName := ⟨RX8, "plan", "()I"⟩
abbrev cX8_off : ByteArray := prog_1_method_13_code
def yX8_off : MethodName := ⟨RX8, "off", "(I)Z"⟩
abbrev cX8_out : ByteArray := prog_1_method_14_code
def yX8_out : MethodName := ⟨RX8, "out", "(I)I"⟩
abbrev cX8_back : ByteArray := prog_1_method_15_code
def yX8_back : MethodName := ⟨RX8, "back", "(I)I"⟩
abbrev cX8_work : ByteArray := prog_1_method_16_code
def yX8_work : MethodName := ⟨RX8, "work", "(II)I"⟩
abbrev cX8_days : ByteArray := prog_1_method_17_code
def yX8_days : MethodName := ⟨RX8, "days", "(I)I"⟩
abbrev cX8_buy : ByteArray := prog_1_method_18_code
def yX8_buy : MethodName := ⟨RX8, "buy", "(I)I"⟩
abbrev cX8_of : ByteArray := prog_1_method_19_code
def yX8_of : MethodName := ⟨RX8, "of", "(II)I"⟩
abbrev cX8_thingOf : ByteArray := prog_1_method_20_code
def yX8_thingOf : MethodName := ⟨RX8, "thingOf", "(II)I"⟩
abbrev cX8_isFree : ByteArray := prog_1_method_21_code
def yX8_isFree : MethodName := ⟨RX8, "isFree", "(III)I"⟩
abbrev cX8_memberOf : ByteArray := prog_1_method_22_code
def yX8_memberOf : MethodName := ⟨RX8, "memberOf", "(II)I"⟩
abbrev cX8_count : ByteArray := prog_1_method_23_code
def yX8_count : MethodName := ⟨RX8, "count", "(I)I"⟩
abbrev cX8_isWithin : ByteArray := prog_1_method_24_code
def yX8_isWithin : MethodName := ⟨RX8, "isWithin", "(III)Z"⟩
abbrev cX8_areNear : ByteArray := prog_1_method_25_code
def yX8_areNear : MethodName := ⟨RX8, "areNear", "(IIIII)Z"⟩
abbrev cX8_kindAt : ByteArray := prog_1_method_26_code
def yX8_kindAt : MethodName := ⟨RX8, "kindAt", "(I)LToolHouse$Kind;"⟩
abbrev cX8_thingAt : ByteArray := prog_1_method_27_code
def yX8_thingAt : MethodName := ⟨RX8, "thingAt", "(I)LToolHouse$Thing;"⟩
abbrev cX8_memberAt : ByteArray := prog_1_method_28_code
def yX8_memberAt : MethodName := ⟨RX8, "memberAt", "(I)LToolHouse$Member;"⟩
abbrev cX8_askAt : ByteArray := prog_1_method_29_code
def yX8_askAt : MethodName := ⟨RX8, "askAt", "(I)LToolHouse$Ask;"⟩
abbrev cX8_canBeAsked : ByteArray := prog_1_method_30_code
def yX8_canBeAsked : MethodName := ⟨RX8, "canBeAsked", "(II)Z"⟩
abbrev cX8_howManyAre : ByteArray := prog_1_method_31_code
def yX8_howManyAre : MethodName := ⟨RX8, "howManyAre", "(I)I"⟩
abbrev cX8_howManyAreBookedOn : ByteArray := prog_1_method_32_code
def yX8_howManyAreBookedOn : MethodName := ⟨RX8, "howManyAreBookedOn", "(LToolHouse$Thing;)I"⟩
abbrev cX8_isFreeBut : ByteArray := prog_1_method_33_code
def yX8_isFreeBut : MethodName := ⟨RX8, "isFreeBut", "(LToolHouse$Ask;LToolHouse$Thing;II)Z"⟩
abbrev cX8_isFreeFor : ByteArray := prog_1_method_34_code
def yX8_isFreeFor : MethodName := ⟨RX8, "isFreeFor", "(LToolHouse$Ask;LToolHouse$Thing;)Z"⟩
abbrev cX8_rowThatMayHave : ByteArray := prog_1_method_35_code
def yX8_rowThatMayHave : MethodName := ⟨RX8, "rowThatMayHave", "(LToolHouse$Thing;)I"⟩
abbrev cX8_carryOutPlan : ByteArray := prog_1_method_36_code
def yX8_carryOutPlan : MethodName := ⟨RX8, "carryOutPlan", "()I"⟩
abbrev cX8_refuse : ByteArray := prog_1_method_37_code
def yX8_refuse : MethodName := ⟨RX8, "refuse", "(LToolHouse$Ask;)V"⟩
abbrev cX8_hindranceOf : ByteArray := prog_1_method_38_code
def yX8_hindranceOf : MethodName := ⟨RX8, "hindranceOf", "(LToolHouse$Ask;LToolHouse$Thing;)I"⟩
abbrev cX8_loseWhatIsOver : ByteArray := prog_1_method_39_code
def yX8_loseWhatIsOver : MethodName := ⟨RX8, "loseWhatIsOver", "()V"⟩
abbrev cX8_moveFromLateThings : ByteArray := prog_1_method_40_code
def yX8_moveFromLateThings : MethodName := ⟨RX8, "moveFromLateThings", "()V"⟩
abbrev cX8_nextToMove : ByteArray := prog_1_method_41_code
def yX8_nextToMove : MethodName := ⟨RX8, "nextToMove", "()LToolHouse$Ask;"⟩
abbrev cX8_mustMove : ByteArray := prog_1_method_42_code
def yX8_mustMove : MethodName := ⟨RX8, "mustMove", "(LToolHouse$Ask;)Z"⟩
abbrev cX8_firstOtherThingFor : ByteArray := prog_1_method_43_code
def yX8_firstOtherThingFor : MethodName := ⟨RX8, "firstOtherThingFor", "(LToolHouse$Ask;)LToolHouse$Thing;"⟩
def RX9 : String := "ToolHouseModel"
def TX9 : u_T := fun k => match k with
  | 0 => ("ToolHouseModel", "thrown", "I", false)
  | 1 => ("ToolHouseModel", "kinds", "I", false)
  | 2 => ("ToolHouseModel", "care", "[I", true)
  | 3 => ("ToolHouseModel", "features", "[I", true)
  | 4 => ("ToolHouseModel", "fee", "[I", true)
  | 5 => ("ToolHouseModel", "things", "I", false)
  | 6 => ("ToolHouseModel", "kindOf", "[I", true)
  | 7 => ("ToolHouseModel", "looked", "[I", true)
  | 8 => ("ToolHouseModel", "members", "I", false)
  | 9 => ("ToolHouseModel", "owes", "[I", true)
  | 10 => ("ToolHouseModel", "fees", "[I", true)
  | 11 => ("ToolHouseModel", "now", "I", false)
  | 12 => ("ToolHouseModel", "tape", "[B", true)
  | 13 => ("ToolHouseModel", "taped", "I", false)
  | 14 => ("ToolHouseModel", "laws", "I", false)
  | 15 => ("ToolHouseModel", "wants", "[I", true)
  | 16 => ("ToolHouseModel", "reads", "[I", true)
  | 17 => ("ToolHouseModel", "faultKind", "I", false)
  | 18 => ("ToolHouseModel", "faultPlace", "I", false)
  | 19 => ("ToolHouseModel", "from", "I", false)
  | 20 => ("ToolHouseModel", "over", "I", false)
  | 21 => ("ToolHouseModel", "value", "I", false)
  | 22 => ("ToolHouseModel", "sort", "I", false)
  | 23 => ("ToolHouseModel", "asks", "I", false)
  | 24 => ("ToolHouseModel", "state", "[I", true)
  | 25 => ("ToolHouseModel", "on", "[I", true)
  | 26 => ("ToolHouseModel", "moved", "[I", true)
  | 27 => ("ToolHouseModel", "who", "[I", true)
  | 28 => ("ToolHouseModel", "what", "[I", true)
  | 29 => ("ToolHouseModel", "needs", "[I", true)
  | 30 => ("ToolHouseModel", "first", "[I", true)
  | 31 => ("ToolHouseModel", "last", "[I", true)
  | 32 => ("ToolHouseModel", "rank", "[I", true)
  | 33 => ("ToolHouseModel", "cameBack", "[I", true)
  | 34 => ("ToolHouseModel", "row", "[I", true)
  | 35 => ("ToolHouseModel", "many", "I", false)
  | 36 => ("ToolHouseModel", "tried", "[I", true)
  | 37 => ("ToolHouseModel", "best", "[I", true)
  | 38 => ("ToolHouseModel", "bestWorth", "I", false)
  | 39 => ("ToolHouseModel", "can", "[Z", true)
  | 40 => ("ToolHouseModel", "isDone", "[Z", true)
  | 41 => ("ToolHouseModel", "order", "[I", true)
  | _ => ("ToolHouseModel", "mostTo", "[I", true)
def tyX9 : Nat → FieldType := fun k => match k with
  | 0 => .int
  | 1 => .int
  | 2 => .array .int
  | 3 => .array .int
  | 4 => .array .int
  | 5 => .int
  | 6 => .array .int
  | 7 => .array .int
  | 8 => .int
  | 9 => .array .int
  | 10 => .array .int
  | 11 => .int
  | 12 => .array .byte
  | 13 => .int
  | 14 => .int
  | 15 => .array .int
  | 16 => .array .int
  | 17 => .int
  | 18 => .int
  | 19 => .int
  | 20 => .int
  | 21 => .int
  | 22 => .int
  | 23 => .int
  | 24 => .array .int
  | 25 => .array .int
  | 26 => .array .int
  | 27 => .array .int
  | 28 => .array .int
  | 29 => .array .int
  | 30 => .array .int
  | 31 => .array .int
  | 32 => .array .int
  | 33 => .array .int
  | 34 => .array .int
  | 35 => .int
  | 36 => .array .int
  | 37 => .array .int
  | 38 => .int
  | 39 => .array .boolean
  | 40 => .array .boolean
  | 41 => .array .int
  | _ => .array .int
abbrev wsX90 : List Cond := u_ws RX9 TX9 43
theorem nmX9 : ∀ a, a < 43 → ∀ b, b < 43 → a ≠ b → (TX9 a).2.1 ≠ (TX9 b).2.1 := by decide +kernel
theorem tyX9_ok : ∀ k, k < 43 → parseFieldDescriptor (TX9 k).2.2.1 = some (tyX9 k) := by decide +kernel
abbrev cX9_init : ByteArray := prog_11_method_1_code
def yX9_init : MethodName := ⟨RX9, "<init>", "()V"⟩
abbrev cX9_thrown : ByteArray := prog_11_method_2_code
def yX9_thrown : MethodName := ⟨RX9, "thrown", "()I"⟩
abbrev cX9_within : ByteArray := prog_11_method_3_code
def yX9_within : MethodName := ⟨RX9, "within", "(III)Z"⟩
abbrev cX9_kind : ByteArray := prog_11_method_4_code
def yX9_kind : MethodName := ⟨RX9, "kind", "(III)I"⟩
abbrev cX9_isKind : ByteArray := prog_11_method_5_code
def yX9_isKind : MethodName := ⟨RX9, "isKind", "(I)Z"⟩
abbrev cX9_isThing : ByteArray := prog_11_method_6_code
def yX9_isThing : MethodName := ⟨RX9, "isThing", "(I)Z"⟩
abbrev cX9_isMember : ByteArray := prog_11_method_7_code
def yX9_isMember : MethodName := ⟨RX9, "isMember", "(I)Z"⟩
abbrev cX9_thing : ByteArray := prog_11_method_8_code
def yX9_thing : MethodName := ⟨RX9, "thing", "(I)I"⟩
abbrev cX9_member : ByteArray := prog_11_method_9_code
def yX9_member : MethodName := ⟨RX9, "member", "()I"⟩
abbrev cX9_feed : ByteArray := prog_11_method_10_code
def yX9_feed : MethodName := ⟨RX9, "feed", "(IIIII)I"⟩
abbrev cX9_end : ByteArray := prog_11_method_11_code
def yX9_end : MethodName := ⟨RX9, "end", "(I)I"⟩
abbrev cX9_byteAt : ByteArray := prog_11_method_12_code
def yX9_byteAt : MethodName := ⟨RX9, "byteAt", "(I)I"⟩
abbrev cX9_token : ByteArray := prog_11_method_13_code
def yX9_token : MethodName := ⟨RX9, "token", "()V"⟩
abbrev cX9_wrong : ByteArray := prog_11_method_14_code
def yX9_wrong : MethodName := ⟨RX9, "wrong", "(I)Z"⟩
abbrev cX9_isEvery : ByteArray := prog_11_method_15_code
def yX9_isEvery : MethodName := ⟨RX9, "isEvery", "()Z"⟩
abbrev cX9_statement : ByteArray := prog_11_method_16_code
def yX9_statement : MethodName := ⟨RX9, "statement", "()Z"⟩
abbrev cX9_law : ByteArray := prog_11_method_17_code
def yX9_law : MethodName := ⟨RX9, "law", "()I"⟩
abbrev cX9_place : ByteArray := prog_11_method_18_code
def yX9_place : MethodName := ⟨RX9, "place", "()I"⟩
abbrev cX9_wanted : ByteArray := prog_11_method_19_code
def yX9_wanted : MethodName := ⟨RX9, "wanted", "(I)I"⟩
abbrev cX9_isLawful : ByteArray := prog_11_method_20_code
def yX9_isLawful : MethodName := ⟨RX9, "isLawful", "(II)Z"⟩
abbrev cX9_look : ByteArray := prog_11_method_21_code
def yX9_look : MethodName := ⟨RX9, "look", "(I)Z"⟩
abbrev cX9_lawful : ByteArray := prog_11_method_22_code
def yX9_lawful : MethodName := ⟨RX9, "lawful", "(II)I"⟩
abbrev cX9_counted : ByteArray := prog_11_method_23_code
def yX9_counted : MethodName := ⟨RX9, "counted", "(I)I"⟩
abbrev cX9_ask : ByteArray := prog_11_method_24_code
def yX9_ask : MethodName := ⟨RX9, "ask", "(IIIIII)I"⟩
abbrev cX9_fits : ByteArray := prog_11_method_25_code
def yX9_fits : MethodName := ⟨RX9, "fits", "(II)Z"⟩
abbrev cX9_outWith : ByteArray := prog_11_method_26_code
def yX9_outWith : MethodName := ⟨RX9, "outWith", "(I)I"⟩
abbrev cX9_endOf : ByteArray := prog_11_method_27_code
def yX9_endOf : MethodName := ⟨RX9, "endOf", "(I)I"⟩
abbrev cX9_areNear : ByteArray := prog_11_method_28_code
def yX9_areNear : MethodName := ⟨RX9, "areNear", "(JJJJI)Z"⟩
abbrev cX9_isFreeFor : ByteArray := prog_11_method_29_code
def yX9_isFreeFor : MethodName := ⟨RX9, "isFreeFor", "(IIII)Z"⟩
abbrev cX9_worth : ByteArray := prog_11_method_30_code
def yX9_worth : MethodName := ⟨RX9, "worth", "()I"⟩
abbrev cX9_stands : ByteArray := prog_11_method_31_code
def yX9_stands : MethodName := ⟨RX9, "stands", "(II)Z"⟩
abbrev cX9_tries : ByteArray := prog_11_method_32_code
def yX9_tries : MethodName := ⟨RX9, "tries", "(I)V"⟩
abbrev cX9_plan : ByteArray := prog_11_method_33_code
def yX9_plan : MethodName := ⟨RX9, "plan", "()I"⟩
abbrev cX9_off : ByteArray := prog_11_method_34_code
def yX9_off : MethodName := ⟨RX9, "off", "(I)Z"⟩
abbrev cX9_out : ByteArray := prog_11_method_35_code
def yX9_out : MethodName := ⟨RX9, "out", "(I)I"⟩
abbrev cX9_back : ByteArray := prog_11_method_36_code
def yX9_back : MethodName := ⟨RX9, "back", "(I)I"⟩
abbrev cX9_work : ByteArray := prog_11_method_37_code
def yX9_work : MethodName := ⟨RX9, "work", "(II)I"⟩
abbrev cX9_isLate : ByteArray := prog_11_method_38_code
def yX9_isLate : MethodName := ⟨RX9, "isLate", "(I)Z"⟩
abbrev cX9_days : ByteArray := prog_11_method_39_code
def yX9_days : MethodName := ⟨RX9, "days", "(I)I"⟩
abbrev cX9_moves : ByteArray := prog_11_method_40_code
def yX9_moves : MethodName := ⟨RX9, "moves", "()V"⟩
abbrev cX9_isAhead : ByteArray := prog_11_method_41_code
def yX9_isAhead : MethodName := ⟨RX9, "isAhead", "(II)Z"⟩
abbrev cX9_moves_ : ByteArray := prog_11_method_42_code
def yX9_moves_ : MethodName := ⟨RX9, "moves", "(I)V"⟩
abbrev cX9_buy : ByteArray := prog_11_method_43_code
def yX9_buy : MethodName := ⟨RX9, "buy", "(I)I"⟩
abbrev cX9_of : ByteArray := prog_11_method_44_code
def yX9_of : MethodName := ⟨RX9, "of", "(II)I"⟩
abbrev cX9_thingOf : ByteArray := prog_11_method_45_code
def yX9_thingOf : MethodName := ⟨RX9, "thingOf", "(II)I"⟩
abbrev cX9_isFree : ByteArray := prog_11_method_46_code
def yX9_isFree : MethodName := ⟨RX9, "isFree", "(III)I"⟩
abbrev cX9_memberOf : ByteArray := prog_11_method_47_code
def yX9_memberOf : MethodName := ⟨RX9, "memberOf", "(II)I"⟩
abbrev cX9_count : ByteArray := prog_11_method_48_code
def yX9_count : MethodName := ⟨RX9, "count", "(I)I"⟩
def RJx145de : String := "java/io/Serializable"
def TJx145de : u_T := fun k => match k with
  | _ => ("", "", "", false)
def tyJx145de : Nat → FieldType := fun k => match k with
  | _ => .int
abbrev wsJx145de0 : List Cond := u_ws RJx145de TJx145de 0
theorem nmJx145de : ∀ a, a < 0 → ∀ b, b < 0 → a ≠ b → (TJx145de a).2.1 ≠ (TJx145de b).2.1 := by decide +kernel
theorem tyJx145de_ok : ∀ k, k < 0 → parseFieldDescriptor (TJx145de k).2.2.1 = some (tyJx145de k) := by decide +kernel
def RJx8e188 : String := "java/lang/Cloneable"
def TJx8e188 : u_T := fun k => match k with
  | _ => ("", "", "", false)
def tyJx8e188 : Nat → FieldType := fun k => match k with
  | _ => .int
abbrev wsJx8e1880 : List Cond := u_ws RJx8e188 TJx8e188 0
theorem nmJx8e188 : ∀ a, a < 0 → ∀ b, b < 0 → a ≠ b → (TJx8e188 a).2.1 ≠ (TJx8e188 b).2.1 := by decide +kernel
theorem tyJx8e188_ok : ∀ k, k < 0 → parseFieldDescriptor (TJx8e188 k).2.2.1 = some (tyJx8e188 k) := by decide +kernel
def RJxab1ab : String := "java/lang/Iterable"
def TJxab1ab : u_T := fun k => match k with
  | _ => ("", "", "", false)
def tyJxab1ab : Nat → FieldType := fun k => match k with
  | _ => .int
abbrev wsJxab1ab0 : List Cond := u_ws RJxab1ab TJxab1ab 0
theorem nmJxab1ab : ∀ a, a < 0 → ∀ b, b < 0 → a ≠ b → (TJxab1ab a).2.1 ≠ (TJxab1ab b).2.1 := by decide +kernel
theorem tyJxab1ab_ok : ∀ k, k < 0 → parseFieldDescriptor (TJxab1ab k).2.2.1 = some (tyJxab1ab k) := by decide +kernel
def RJ9 : String := "java/lang/Math"
def TJ9 : u_T := fun k => match k with
  | _ => ("", "", "", false)
def tyJ9 : Nat → FieldType := fun k => match k with
  | _ => .int
abbrev wsJ90 : List Cond := u_ws RJ9 TJ9 0
theorem nmJ9 : ∀ a, a < 0 → ∀ b, b < 0 → a ≠ b → (TJ9 a).2.1 ≠ (TJ9 b).2.1 := by decide +kernel
theorem tyJ9_ok : ∀ k, k < 0 → parseFieldDescriptor (TJ9 k).2.2.1 = some (tyJ9 k) := by decide +kernel
abbrev cJ9_max_7cf53 : ByteArray := prog_16_method_65_code
def yJ9_max_7cf53 : MethodName := ⟨RJ9, "max", "(II)I"⟩
abbrev cJ9_min_7cf53 : ByteArray := prog_16_method_69_code
def yJ9_min_7cf53 : MethodName := ⟨RJ9, "min", "(II)I"⟩
def RJ0 : String := "java/lang/String"
def TJ0 : u_T := fun k => match k with
  | _ => ("", "", "", false)
def tyJ0 : Nat → FieldType := fun k => match k with
  | _ => .int
abbrev wsJ00 : List Cond := u_ws RJ0 TJ0 0
theorem nmJ0 : ∀ a, a < 0 → ∀ b, b < 0 → a ≠ b → (TJ0 a).2.1 ≠ (TJ0 b).2.1 := by decide +kernel
theorem tyJ0_ok : ∀ k, k < 0 → parseFieldDescriptor (TJ0 k).2.2.1 = some (tyJ0 k) := by decide +kernel
abbrev cJ0_length_8abf5 : ByteArray := prog_18_method_54_code
def yJ0_length_8abf5 : MethodName := ⟨RJ0, "length", "()I"⟩
abbrev cJ0_charAt_5068e : ByteArray := prog_18_method_56_code
def yJ0_charAt_5068e : MethodName := ⟨RJ0, "charAt", "(I)C"⟩
abbrev cJ0_coder_7d493 : ByteArray := prog_18_method_152_code
def yJ0_coder_7d493 : MethodName := ⟨RJ0, "coder", "()B"⟩
abbrev cJ0_isLatin1_aae02 : ByteArray := prog_18_method_154_code
def yJ0_isLatin1_aae02 : MethodName := ⟨RJ0, "isLatin1", "()Z"⟩
abbrev cJ0_checkIndex_df160 : ByteArray := prog_18_method_155_code
def yJ0_checkIndex_df160 : MethodName := ⟨RJ0, "checkIndex", "(II)V"⟩
def RJ1 : String := "java/lang/StringLatin1"
def TJ1 : u_T := fun k => match k with
  | _ => ("", "", "", false)
def tyJ1 : Nat → FieldType := fun k => match k with
  | _ => .int
abbrev wsJ10 : List Cond := u_ws RJ1 TJ1 0
theorem nmJ1 : ∀ a, a < 0 → ∀ b, b < 0 → a ≠ b → (TJ1 a).2.1 ≠ (TJ1 b).2.1 := by decide +kernel
theorem tyJ1_ok : ∀ k, k < 0 → parseFieldDescriptor (TJ1 k).2.2.1 = some (tyJ1 k) := by decide +kernel
abbrev cJ1_charAt_3b067 : ByteArray := prog_19_method_2_code
def yJ1_charAt_3b067 : MethodName := ⟨RJ1, "charAt", "([BI)C"⟩
def RJ2 : String := "java/lang/StringUTF16"
def TJ2 : u_T := fun k => match k with
  | _ => ("", "", "", false)
def tyJ2 : Nat → FieldType := fun k => match k with
  | _ => .int
abbrev wsJ20 : List Cond := u_ws RJ2 TJ2 0
theorem nmJ2 : ∀ a, a < 0 → ∀ b, b < 0 → a ≠ b → (TJ2 a).2.1 ≠ (TJ2 b).2.1 := by decide +kernel
theorem tyJ2_ok : ∀ k, k < 0 → parseFieldDescriptor (TJ2 k).2.2.1 = some (tyJ2 k) := by decide +kernel
abbrev cJ2_getChar_3b067 : ByteArray := prog_20_method_5_code
def yJ2_getChar_3b067 : MethodName := ⟨RJ2, "getChar", "([BI)C"⟩
abbrev cJ2_length_9d52b : ByteArray := prog_20_method_6_code
def yJ2_length_9d52b : MethodName := ⟨RJ2, "length", "([B)I"⟩
abbrev cJ2_charAt_3b067 : ByteArray := prog_20_method_83_code
def yJ2_charAt_3b067 : MethodName := ⟨RJ2, "charAt", "([BI)C"⟩
abbrev cJ2_checkIndex_2214a : ByteArray := prog_20_method_91_code
def yJ2_checkIndex_2214a : MethodName := ⟨RJ2, "checkIndex", "(I[B)V"⟩
def RJ10 : String := "java/lang/System"
def TJ10 : u_T := fun k => match k with
  | _ => ("", "", "", false)
def tyJ10 : Nat → FieldType := fun k => match k with
  | _ => .int
abbrev wsJ100 : List Cond := u_ws RJ10 TJ10 0
theorem nmJ10 : ∀ a, a < 0 → ∀ b, b < 0 → a ≠ b → (TJ10 a).2.1 ≠ (TJ10 b).2.1 := by decide +kernel
theorem tyJ10_ok : ∀ k, k < 0 → parseFieldDescriptor (TJ10 k).2.2.1 = some (tyJ10 k) := by decide +kernel
def RJxa1e45 : String := "java/util/AbstractCollection"
def TJxa1e45 : u_T := fun k => match k with
  | _ => ("", "", "", false)
def tyJxa1e45 : Nat → FieldType := fun k => match k with
  | _ => .int
abbrev wsJxa1e450 : List Cond := u_ws RJxa1e45 TJxa1e45 0
theorem nmJxa1e45 : ∀ a, a < 0 → ∀ b, b < 0 → a ≠ b → (TJxa1e45 a).2.1 ≠ (TJxa1e45 b).2.1 := by decide +kernel
theorem tyJxa1e45_ok : ∀ k, k < 0 → parseFieldDescriptor (TJxa1e45 k).2.2.1 = some (tyJxa1e45 k) := by decide +kernel
abbrev cJxa1e45_init_da8c8 : ByteArray := prog_23_method_1_code
def yJxa1e45_init_da8c8 : MethodName := ⟨RJxa1e45, "<init>", "()V"⟩
def RJxc12de : String := "java/util/AbstractList"
def TJxc12de : u_T := fun k => match k with
  | _ => ("", "", "", false)
def tyJxc12de : Nat → FieldType := fun k => match k with
  | _ => .int
abbrev wsJxc12de0 : List Cond := u_ws RJxc12de TJxc12de 0
theorem nmJxc12de : ∀ a, a < 0 → ∀ b, b < 0 → a ≠ b → (TJxc12de a).2.1 ≠ (TJxc12de b).2.1 := by decide +kernel
theorem tyJxc12de_ok : ∀ k, k < 0 → parseFieldDescriptor (TJxc12de k).2.2.1 = some (tyJxc12de k) := by decide +kernel
abbrev cJxc12de_init_da8c8 : ByteArray := prog_24_method_1_code
def yJxc12de_init_da8c8 : MethodName := ⟨RJxc12de, "<init>", "()V"⟩
def RJx4a65c : String := "java/util/ArrayList"
def TJx4a65c : u_T := fun k => match k with
  | 0 => ("java/util/AbstractList", "modCount", "I", false)
  | 1 => ("java/util/ArrayList", "elementData", "[Ljava/lang/Object;", false)
  | _ => ("java/util/ArrayList", "size", "I", false)
def tyJx4a65c : Nat → FieldType := fun k => match k with
  | 0 => .int
  | 1 => .array (.object "java/lang/Object")
  | _ => .int
abbrev wsJx4a65c0 : List Cond := u_ws RJx4a65c TJx4a65c 3
theorem nmJx4a65c : ∀ a, a < 3 → ∀ b, b < 3 → a ≠ b → (TJx4a65c a).2.1 ≠ (TJx4a65c b).2.1 := by decide +kernel
theorem tyJx4a65c_ok : ∀ k, k < 3 → parseFieldDescriptor (TJx4a65c k).2.2.1 = some (tyJx4a65c k) := by decide +kernel
abbrev cJx4a65c_init_da8c8 : ByteArray := prog_25_method_2_code
def yJx4a65c_init_da8c8 : MethodName := ⟨RJx4a65c, "<init>", "()V"⟩
abbrev cJx4a65c_grow_92f84 : ByteArray := prog_25_method_6_code
def yJx4a65c_grow_92f84 : MethodName := ⟨RJx4a65c, "grow", "(I)[Ljava/lang/Object;"⟩
abbrev cJx4a65c_grow_d5877 : ByteArray := prog_25_method_7_code
def yJx4a65c_grow_d5877 : MethodName := ⟨RJx4a65c, "grow", "()[Ljava/lang/Object;"⟩
abbrev cJx4a65c_size_8abf5 : ByteArray := prog_25_method_8_code
def yJx4a65c_size_8abf5 : MethodName := ⟨RJx4a65c, "size", "()I"⟩
abbrev cJx4a65c_elementData_915e3 : ByteArray := prog_25_method_18_code
def yJx4a65c_elementData_915e3 : MethodName := ⟨RJx4a65c, "elementData", "(I)Ljava/lang/Object;"⟩
abbrev cJx4a65c_get_915e3 : ByteArray := prog_25_method_20_code
def yJx4a65c_get_915e3 : MethodName := ⟨RJx4a65c, "get", "(I)Ljava/lang/Object;"⟩
abbrev cJx4a65c_add_72be8 : ByteArray := prog_25_method_24_code
def yJx4a65c_add_72be8 : MethodName := ⟨RJx4a65c, "add", "(Ljava/lang/Object;[Ljava/lang/Object;I)V"⟩
abbrev cJx4a65c_add_9ea2d : ByteArray := prog_25_method_25_code
def yJx4a65c_add_9ea2d : MethodName := ⟨RJx4a65c, "add", "(Ljava/lang/Object;)Z"⟩
abbrev cJx4a65c_add_7a177 : ByteArray := prog_25_method_26_code
def yJx4a65c_add_7a177 : MethodName := ⟨RJx4a65c, "add", "(ILjava/lang/Object;)V"⟩
abbrev cJx4a65c_rangeCheckForAdd_d00df : ByteArray := prog_25_method_45_code
def yJx4a65c_rangeCheckForAdd_d00df : MethodName := ⟨RJx4a65c, "rangeCheckForAdd", "(I)V"⟩
def RJ7 : String := "java/util/Arrays"
def TJ7 : u_T := fun k => match k with
  | _ => ("", "", "", false)
def tyJ7 : Nat → FieldType := fun k => match k with
  | _ => .int
abbrev wsJ70 : List Cond := u_ws RJ7 TJ7 0
theorem nmJ7 : ∀ a, a < 0 → ∀ b, b < 0 → a ≠ b → (TJ7 a).2.1 ≠ (TJ7 b).2.1 := by decide +kernel
theorem tyJ7_ok : ∀ k, k < 0 → parseFieldDescriptor (TJ7 k).2.2.1 = some (tyJ7 k) := by decide +kernel
abbrev cJ7_fill_53178 : ByteArray := prog_26_method_103_code
def yJ7_fill_53178 : MethodName := ⟨RJ7, "fill", "([II)V"⟩
abbrev cJ7_copyOf_1904c : ByteArray := prog_26_method_119_code
def yJ7_copyOf_1904c : MethodName := ⟨RJ7, "copyOf", "([Ljava/lang/Object;I)[Ljava/lang/Object;"⟩
abbrev cJ7_copyOf_6403c : ByteArray := prog_26_method_120_code
def yJ7_copyOf_6403c : MethodName := ⟨RJ7, "copyOf", "([Ljava/lang/Object;ILjava/lang/Class;)[Ljava/lang/Object;"⟩
def RJx5ef63 : String := "java/util/Collection"
def TJx5ef63 : u_T := fun k => match k with
  | _ => ("", "", "", false)
def tyJx5ef63 : Nat → FieldType := fun k => match k with
  | _ => .int
abbrev wsJx5ef630 : List Cond := u_ws RJx5ef63 TJx5ef63 0
theorem nmJx5ef63 : ∀ a, a < 0 → ∀ b, b < 0 → a ≠ b → (TJx5ef63 a).2.1 ≠ (TJx5ef63 b).2.1 := by decide +kernel
theorem tyJx5ef63_ok : ∀ k, k < 0 → parseFieldDescriptor (TJx5ef63 k).2.2.1 = some (tyJx5ef63 k) := by decide +kernel
def RJxbd725 : String := "java/util/List"
def TJxbd725 : u_T := fun k => match k with
  | _ => ("", "", "", false)
def tyJxbd725 : Nat → FieldType := fun k => match k with
  | _ => .int
abbrev wsJxbd7250 : List Cond := u_ws RJxbd725 TJxbd725 0
theorem nmJxbd725 : ∀ a, a < 0 → ∀ b, b < 0 → a ≠ b → (TJxbd725 a).2.1 ≠ (TJxbd725 b).2.1 := by decide +kernel
theorem tyJxbd725_ok : ∀ k, k < 0 → parseFieldDescriptor (TJxbd725 k).2.2.1 = some (tyJxbd725 k) := by decide +kernel
def RJ15 : String := "java/util/Objects"
def TJ15 : u_T := fun k => match k with
  | _ => ("", "", "", false)
def tyJ15 : Nat → FieldType := fun k => match k with
  | _ => .int
abbrev wsJ150 : List Cond := u_ws RJ15 TJ15 0
theorem nmJ15 : ∀ a, a < 0 → ∀ b, b < 0 → a ≠ b → (TJ15 a).2.1 ≠ (TJ15 b).2.1 := by decide +kernel
theorem tyJ15_ok : ∀ k, k < 0 → parseFieldDescriptor (TJ15 k).2.2.1 = some (tyJ15 k) := by decide +kernel
abbrev cJ15_checkIndex_7cf53 : ByteArray := prog_30_method_17_code
def yJ15_checkIndex_7cf53 : MethodName := ⟨RJ15, "checkIndex", "(II)I"⟩
def RJxf0a74 : String := "java/util/RandomAccess"
def TJxf0a74 : u_T := fun k => match k with
  | _ => ("", "", "", false)
def tyJxf0a74 : Nat → FieldType := fun k => match k with
  | _ => .int
abbrev wsJxf0a740 : List Cond := u_ws RJxf0a74 TJxf0a74 0
theorem nmJxf0a74 : ∀ a, a < 0 → ∀ b, b < 0 → a ≠ b → (TJxf0a74 a).2.1 ≠ (TJxf0a74 b).2.1 := by decide +kernel
theorem tyJxf0a74_ok : ∀ k, k < 0 → parseFieldDescriptor (TJxf0a74 k).2.2.1 = some (tyJxf0a74 k) := by decide +kernel
def RJxa66e6 : String := "java/util/SequencedCollection"
def TJxa66e6 : u_T := fun k => match k with
  | _ => ("", "", "", false)
def tyJxa66e6 : Nat → FieldType := fun k => match k with
  | _ => .int
abbrev wsJxa66e60 : List Cond := u_ws RJxa66e6 TJxa66e6 0
theorem nmJxa66e6 : ∀ a, a < 0 → ∀ b, b < 0 → a ≠ b → (TJxa66e6 a).2.1 ≠ (TJxa66e6 b).2.1 := by decide +kernel
theorem tyJxa66e6_ok : ∀ k, k < 0 → parseFieldDescriptor (TJxa66e6 k).2.2.1 = some (tyJxa66e6 k) := by decide +kernel
def RJ8 : String := "jdk/internal/util/ArraysSupport"
def TJ8 : u_T := fun k => match k with
  | _ => ("", "", "", false)
def tyJ8 : Nat → FieldType := fun k => match k with
  | _ => .int
abbrev wsJ80 : List Cond := u_ws RJ8 TJ8 0
theorem nmJ8 : ∀ a, a < 0 → ∀ b, b < 0 → a ≠ b → (TJ8 a).2.1 ≠ (TJ8 b).2.1 := by decide +kernel
theorem tyJ8_ok : ∀ k, k < 0 → parseFieldDescriptor (TJ8 k).2.2.1 = some (tyJ8 k) := by decide +kernel
abbrev cJ8_newLength_cabcc : ByteArray := prog_33_method_27_code
def yJ8_newLength_cabcc : MethodName := ⟨RJ8, "newLength", "(III)I"⟩
abbrev cJ8_hugeLength_7cf53 : ByteArray := prog_33_method_28_code
def yJ8_hugeLength_7cf53 : MethodName := ⟨RJ8, "hugeLength", "(II)I"⟩
def RJ3 : String := "jdk/internal/util/Preconditions"
def TJ3 : u_T := fun k => match k with
  | _ => ("", "", "", false)
def tyJ3 : Nat → FieldType := fun k => match k with
  | _ => .int
abbrev wsJ30 : List Cond := u_ws RJ3 TJ3 0
theorem nmJ3 : ∀ a, a < 0 → ∀ b, b < 0 → a ≠ b → (TJ3 a).2.1 ≠ (TJ3 b).2.1 := by decide +kernel
theorem tyJ3_ok : ∀ k, k < 0 → parseFieldDescriptor (TJ3 k).2.2.1 = some (tyJ3 k) := by decide +kernel
abbrev cJ3_checkIndex_8e157 : ByteArray := prog_34_method_11_code
def yJ3_checkIndex_8e157 : MethodName := ⟨RJ3, "checkIndex", "(IILjava/util/function/BiFunction;)I"⟩
def RL : String := "ToolHouseLaw"
abbrev cL_of : ByteArray := method_3_code
def yL_of : MethodName := ⟨RL, "of", "(LToolHouse;II[J)I"⟩
abbrev cL_law : ByteArray := code
def yL_law : MethodName := ⟨RL, "law", "([I)Z"⟩
/-- the words that every method of the game has -/
def TB : List Cond := lw_tbl.filter goodWord
