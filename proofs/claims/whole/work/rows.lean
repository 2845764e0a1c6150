section
-- ===== PART A: goes FIRST, ahead of the names: the tables' words, and 'selects' of the private methods out of them =====
/-- a private method of a class that the tables say can be made, by its rows of tables_1 -/
def lw_okq (q : MethodName × Nat) : Prop := (q.1.cls ≠ "java/lang/invoke/MethodHandle" ∧ q.1.cls ≠ "java/lang/invoke/VarHandle") ∧ Cond.instantiable q.1.cls q.2 ∈ tables_1 ∧ Cond.privateMethod q.1 ∈ tables_1 ∧ Cond.instanceMethod q.1 ∈ tables_1
theorem lw_p0 : lw_okq (⟨"java/util/ArrayList", "add", "(Ljava/lang/Object;[Ljava/lang/Object;I)V"⟩, 3) := ⟨⟨by decide +kernel, by decide +kernel⟩, List.mem_of_getElem? (i := 36) (by decide +kernel), List.mem_of_getElem? (i := 216) (by decide +kernel), List.mem_of_getElem? (i := 217) (by decide +kernel)⟩
theorem lw_p1 : lw_okq (⟨"java/util/ArrayList", "grow", "()[Ljava/lang/Object;"⟩, 3) := ⟨⟨by decide +kernel, by decide +kernel⟩, List.mem_of_getElem? (i := 36) (by decide +kernel), List.mem_of_getElem? (i := 220) (by decide +kernel), List.mem_of_getElem? (i := 221) (by decide +kernel)⟩
theorem lw_p2 : lw_okq (⟨"java/util/ArrayList", "grow", "(I)[Ljava/lang/Object;"⟩, 3) := ⟨⟨by decide +kernel, by decide +kernel⟩, List.mem_of_getElem? (i := 36) (by decide +kernel), List.mem_of_getElem? (i := 224) (by decide +kernel), List.mem_of_getElem? (i := 225) (by decide +kernel)⟩
theorem lw_p3 : lw_okq (⟨"ToolHouse", "kindAt", "(I)LToolHouse$Kind;"⟩, 10) := ⟨⟨by decide +kernel, by decide +kernel⟩, List.mem_of_getElem? (i := 28) (by decide +kernel), List.mem_of_getElem? (i := 275) (by decide +kernel), List.mem_of_getElem? (i := 276) (by decide +kernel)⟩
theorem lw_p4 : lw_okq (⟨"ToolHouse$LawReader", "take", "(LToolHouse$Tape;III)V"⟩, 5) := ⟨⟨by decide +kernel, by decide +kernel⟩, List.mem_of_getElem? (i := 78) (by decide +kernel), List.mem_of_getElem? (i := 392) (by decide +kernel), List.mem_of_getElem? (i := 393) (by decide +kernel)⟩
theorem lw_p5 : lw_okq (⟨"ToolHouse$LawReader", "takeKind", "(III)V"⟩, 5) := ⟨⟨by decide +kernel, by decide +kernel⟩, List.mem_of_getElem? (i := 78) (by decide +kernel), List.mem_of_getElem? (i := 449) (by decide +kernel), List.mem_of_getElem? (i := 450) (by decide +kernel)⟩
theorem lw_p6 : lw_okq (⟨"ToolHouse$LawReader", "blame", "(II)V"⟩, 5) := ⟨⟨by decide +kernel, by decide +kernel⟩, List.mem_of_getElem? (i := 78) (by decide +kernel), List.mem_of_getElem? (i := 453) (by decide +kernel), List.mem_of_getElem? (i := 454) (by decide +kernel)⟩
theorem lw_p7 : lw_okq (⟨"ToolHouse$LawReader", "takeDays", "(I)V"⟩, 5) := ⟨⟨by decide +kernel, by decide +kernel⟩, List.mem_of_getElem? (i := 78) (by decide +kernel), List.mem_of_getElem? (i := 457) (by decide +kernel), List.mem_of_getElem? (i := 458) (by decide +kernel)⟩
theorem lw_p8 : lw_okq (⟨"ToolHouse", "thingAt", "(I)LToolHouse$Thing;"⟩, 10) := ⟨⟨by decide +kernel, by decide +kernel⟩, List.mem_of_getElem? (i := 28) (by decide +kernel), List.mem_of_getElem? (i := 474) (by decide +kernel), List.mem_of_getElem? (i := 475) (by decide +kernel)⟩
theorem lw_p9 : lw_okq (⟨"ToolHouse", "memberAt", "(I)LToolHouse$Member;"⟩, 10) := ⟨⟨by decide +kernel, by decide +kernel⟩, List.mem_of_getElem? (i := 28) (by decide +kernel), List.mem_of_getElem? (i := 494) (by decide +kernel), List.mem_of_getElem? (i := 495) (by decide +kernel)⟩
theorem lw_p10 : lw_okq (⟨"ToolHouse", "canBeAsked", "(II)Z"⟩, 10) := ⟨⟨by decide +kernel, by decide +kernel⟩, List.mem_of_getElem? (i := 28) (by decide +kernel), List.mem_of_getElem? (i := 498) (by decide +kernel), List.mem_of_getElem? (i := 499) (by decide +kernel)⟩
theorem lw_p11 : lw_okq (⟨"ToolHouse", "howManyAre", "(I)I"⟩, 10) := ⟨⟨by decide +kernel, by decide +kernel⟩, List.mem_of_getElem? (i := 28) (by decide +kernel), List.mem_of_getElem? (i := 502) (by decide +kernel), List.mem_of_getElem? (i := 503) (by decide +kernel)⟩
theorem lw_p12 : lw_okq (⟨"ToolHouse", "rowThatMayHave", "(LToolHouse$Thing;)I"⟩, 10) := ⟨⟨by decide +kernel, by decide +kernel⟩, List.mem_of_getElem? (i := 28) (by decide +kernel), List.mem_of_getElem? (i := 576) (by decide +kernel), List.mem_of_getElem? (i := 577) (by decide +kernel)⟩
theorem lw_p13 : lw_okq (⟨"ToolHouse", "isFreeFor", "(LToolHouse$Ask;LToolHouse$Thing;)Z"⟩, 10) := ⟨⟨by decide +kernel, by decide +kernel⟩, List.mem_of_getElem? (i := 28) (by decide +kernel), List.mem_of_getElem? (i := 588) (by decide +kernel), List.mem_of_getElem? (i := 589) (by decide +kernel)⟩
theorem lw_p14 : lw_okq (⟨"ToolHouse", "isFreeBut", "(LToolHouse$Ask;LToolHouse$Thing;II)Z"⟩, 10) := ⟨⟨by decide +kernel, by decide +kernel⟩, List.mem_of_getElem? (i := 28) (by decide +kernel), List.mem_of_getElem? (i := 592) (by decide +kernel), List.mem_of_getElem? (i := 593) (by decide +kernel)⟩
theorem lw_p15 : lw_okq (⟨"ToolHouse$Planner", "weigh", "(LToolHouse$Thing;I)V"⟩, 4) := ⟨⟨by decide +kernel, by decide +kernel⟩, List.mem_of_getElem? (i := 124) (by decide +kernel), List.mem_of_getElem? (i := 612) (by decide +kernel), List.mem_of_getElem? (i := 613) (by decide +kernel)⟩
def lw_privs_1 : List (MethodName × Nat) := [(⟨"java/util/ArrayList", "add", "(Ljava/lang/Object;[Ljava/lang/Object;I)V"⟩, 3), (⟨"java/util/ArrayList", "grow", "()[Ljava/lang/Object;"⟩, 3), (⟨"java/util/ArrayList", "grow", "(I)[Ljava/lang/Object;"⟩, 3), (⟨"ToolHouse", "kindAt", "(I)LToolHouse$Kind;"⟩, 10), (⟨"ToolHouse$LawReader", "take", "(LToolHouse$Tape;III)V"⟩, 5), (⟨"ToolHouse$LawReader", "takeKind", "(III)V"⟩, 5), (⟨"ToolHouse$LawReader", "blame", "(II)V"⟩, 5), (⟨"ToolHouse$LawReader", "takeDays", "(I)V"⟩, 5), (⟨"ToolHouse", "thingAt", "(I)LToolHouse$Thing;"⟩, 10), (⟨"ToolHouse", "memberAt", "(I)LToolHouse$Member;"⟩, 10), (⟨"ToolHouse", "canBeAsked", "(II)Z"⟩, 10), (⟨"ToolHouse", "howManyAre", "(I)I"⟩, 10), (⟨"ToolHouse", "rowThatMayHave", "(LToolHouse$Thing;)I"⟩, 10), (⟨"ToolHouse", "isFreeFor", "(LToolHouse$Ask;LToolHouse$Thing;)Z"⟩, 10), (⟨"ToolHouse", "isFreeBut", "(LToolHouse$Ask;LToolHouse$Thing;II)Z"⟩, 10), (⟨"ToolHouse$Planner", "weigh", "(LToolHouse$Thing;I)V"⟩, 4)]
theorem lw_r1 : ∀ q ∈ lw_privs_1, lw_okq q := List.forall_mem_cons.mpr ⟨lw_p0, List.forall_mem_cons.mpr ⟨lw_p1, List.forall_mem_cons.mpr ⟨lw_p2, List.forall_mem_cons.mpr ⟨lw_p3, List.forall_mem_cons.mpr ⟨lw_p4, List.forall_mem_cons.mpr ⟨lw_p5, List.forall_mem_cons.mpr ⟨lw_p6, List.forall_mem_cons.mpr ⟨lw_p7, List.forall_mem_cons.mpr ⟨lw_p8, List.forall_mem_cons.mpr ⟨lw_p9, List.forall_mem_cons.mpr ⟨lw_p10, List.forall_mem_cons.mpr ⟨lw_p11, List.forall_mem_cons.mpr ⟨lw_p12, List.forall_mem_cons.mpr ⟨lw_p13, List.forall_mem_cons.mpr ⟨lw_p14, List.forall_mem_cons.mpr ⟨lw_p15, fun _ h => absurd h List.not_mem_nil⟩⟩⟩⟩⟩⟩⟩⟩⟩⟩⟩⟩⟩⟩⟩⟩
theorem lw_p16 : lw_okq (⟨"ToolHouse$Planner", "nearTo", "(LToolHouse$Ask;II)I"⟩, 4) := ⟨⟨by decide +kernel, by decide +kernel⟩, List.mem_of_getElem? (i := 124) (by decide +kernel), List.mem_of_getElem? (i := 624) (by decide +kernel), List.mem_of_getElem? (i := 625) (by decide +kernel)⟩
theorem lw_p17 : lw_okq (⟨"ToolHouse$Planner", "wholeRow", "()I"⟩, 4) := ⟨⟨by decide +kernel, by decide +kernel⟩, List.mem_of_getElem? (i := 124) (by decide +kernel), List.mem_of_getElem? (i := 629) (by decide +kernel), List.mem_of_getElem? (i := 630) (by decide +kernel)⟩
theorem lw_p18 : lw_okq (⟨"ToolHouse", "carryOutPlan", "()I"⟩, 10) := ⟨⟨by decide +kernel, by decide +kernel⟩, List.mem_of_getElem? (i := 28) (by decide +kernel), List.mem_of_getElem? (i := 634) (by decide +kernel), List.mem_of_getElem? (i := 635) (by decide +kernel)⟩
theorem lw_p19 : lw_okq (⟨"ToolHouse", "refuse", "(LToolHouse$Ask;)V"⟩, 10) := ⟨⟨by decide +kernel, by decide +kernel⟩, List.mem_of_getElem? (i := 28) (by decide +kernel), List.mem_of_getElem? (i := 642) (by decide +kernel), List.mem_of_getElem? (i := 643) (by decide +kernel)⟩
theorem lw_p20 : lw_okq (⟨"java/util/ArrayList", "rangeCheckForAdd", "(I)V"⟩, 3) := ⟨⟨by decide +kernel, by decide +kernel⟩, List.mem_of_getElem? (i := 36) (by decide +kernel), List.mem_of_getElem? (i := 650) (by decide +kernel), List.mem_of_getElem? (i := 651) (by decide +kernel)⟩
theorem lw_p21 : lw_okq (⟨"ToolHouse", "askAt", "(I)LToolHouse$Ask;"⟩, 10) := ⟨⟨by decide +kernel, by decide +kernel⟩, List.mem_of_getElem? (i := 28) (by decide +kernel), List.mem_of_getElem? (i := 659) (by decide +kernel), List.mem_of_getElem? (i := 660) (by decide +kernel)⟩
theorem lw_p22 : lw_okq (⟨"ToolHouse", "hindranceOf", "(LToolHouse$Ask;LToolHouse$Thing;)I"⟩, 10) := ⟨⟨by decide +kernel, by decide +kernel⟩, List.mem_of_getElem? (i := 28) (by decide +kernel), List.mem_of_getElem? (i := 667) (by decide +kernel), List.mem_of_getElem? (i := 668) (by decide +kernel)⟩
theorem lw_p23 : lw_okq (⟨"ToolHouse", "loseWhatIsOver", "()V"⟩, 10) := ⟨⟨by decide +kernel, by decide +kernel⟩, List.mem_of_getElem? (i := 28) (by decide +kernel), List.mem_of_getElem? (i := 692) (by decide +kernel), List.mem_of_getElem? (i := 693) (by decide +kernel)⟩
theorem lw_p24 : lw_okq (⟨"ToolHouse", "moveFromLateThings", "()V"⟩, 10) := ⟨⟨by decide +kernel, by decide +kernel⟩, List.mem_of_getElem? (i := 28) (by decide +kernel), List.mem_of_getElem? (i := 696) (by decide +kernel), List.mem_of_getElem? (i := 697) (by decide +kernel)⟩
theorem lw_p25 : lw_okq (⟨"ToolHouse", "nextToMove", "()LToolHouse$Ask;"⟩, 10) := ⟨⟨by decide +kernel, by decide +kernel⟩, List.mem_of_getElem? (i := 28) (by decide +kernel), List.mem_of_getElem? (i := 700) (by decide +kernel), List.mem_of_getElem? (i := 701) (by decide +kernel)⟩
theorem lw_p26 : lw_okq (⟨"ToolHouse", "mustMove", "(LToolHouse$Ask;)Z"⟩, 10) := ⟨⟨by decide +kernel, by decide +kernel⟩, List.mem_of_getElem? (i := 28) (by decide +kernel), List.mem_of_getElem? (i := 704) (by decide +kernel), List.mem_of_getElem? (i := 705) (by decide +kernel)⟩
theorem lw_p27 : lw_okq (⟨"ToolHouse", "firstOtherThingFor", "(LToolHouse$Ask;)LToolHouse$Thing;"⟩, 10) := ⟨⟨by decide +kernel, by decide +kernel⟩, List.mem_of_getElem? (i := 28) (by decide +kernel), List.mem_of_getElem? (i := 716) (by decide +kernel), List.mem_of_getElem? (i := 717) (by decide +kernel)⟩
theorem lw_p28 : lw_okq (⟨"ToolHouse", "howManyAreBookedOn", "(LToolHouse$Thing;)I"⟩, 10) := ⟨⟨by decide +kernel, by decide +kernel⟩, List.mem_of_getElem? (i := 28) (by decide +kernel), List.mem_of_getElem? (i := 728) (by decide +kernel), List.mem_of_getElem? (i := 729) (by decide +kernel)⟩
theorem lw_p29 : lw_okq (⟨"java/lang/Throwable", "fillInStackTrace", "(I)Ljava/lang/Throwable;"⟩, 6) := ⟨⟨by decide +kernel, by decide +kernel⟩, List.mem_of_getElem? (i := 793) (by decide +kernel), List.mem_of_getElem? (i := 791) (by decide +kernel), List.mem_of_getElem? (i := 792) (by decide +kernel)⟩
theorem lw_p30 : lw_okq (⟨"ToolHouseModel", "isKind", "(I)Z"⟩, 43) := ⟨⟨by decide +kernel, by decide +kernel⟩, List.mem_of_getElem? (i := 823) (by decide +kernel), List.mem_of_getElem? (i := 975) (by decide +kernel), List.mem_of_getElem? (i := 976) (by decide +kernel)⟩
theorem lw_p31 : lw_okq (⟨"ToolHouseModel", "token", "()V"⟩, 43) := ⟨⟨by decide +kernel, by decide +kernel⟩, List.mem_of_getElem? (i := 823) (by decide +kernel), List.mem_of_getElem? (i := 995) (by decide +kernel), List.mem_of_getElem? (i := 996) (by decide +kernel)⟩
def lw_privs_2 : List (MethodName × Nat) := [(⟨"ToolHouse$Planner", "nearTo", "(LToolHouse$Ask;II)I"⟩, 4), (⟨"ToolHouse$Planner", "wholeRow", "()I"⟩, 4), (⟨"ToolHouse", "carryOutPlan", "()I"⟩, 10), (⟨"ToolHouse", "refuse", "(LToolHouse$Ask;)V"⟩, 10), (⟨"java/util/ArrayList", "rangeCheckForAdd", "(I)V"⟩, 3), (⟨"ToolHouse", "askAt", "(I)LToolHouse$Ask;"⟩, 10), (⟨"ToolHouse", "hindranceOf", "(LToolHouse$Ask;LToolHouse$Thing;)I"⟩, 10), (⟨"ToolHouse", "loseWhatIsOver", "()V"⟩, 10), (⟨"ToolHouse", "moveFromLateThings", "()V"⟩, 10), (⟨"ToolHouse", "nextToMove", "()LToolHouse$Ask;"⟩, 10), (⟨"ToolHouse", "mustMove", "(LToolHouse$Ask;)Z"⟩, 10), (⟨"ToolHouse", "firstOtherThingFor", "(LToolHouse$Ask;)LToolHouse$Thing;"⟩, 10), (⟨"ToolHouse", "howManyAreBookedOn", "(LToolHouse$Thing;)I"⟩, 10), (⟨"java/lang/Throwable", "fillInStackTrace", "(I)Ljava/lang/Throwable;"⟩, 6), (⟨"ToolHouseModel", "isKind", "(I)Z"⟩, 43), (⟨"ToolHouseModel", "token", "()V"⟩, 43)]
theorem lw_r2 : ∀ q ∈ lw_privs_2, lw_okq q := List.forall_mem_cons.mpr ⟨lw_p16, List.forall_mem_cons.mpr ⟨lw_p17, List.forall_mem_cons.mpr ⟨lw_p18, List.forall_mem_cons.mpr ⟨lw_p19, List.forall_mem_cons.mpr ⟨lw_p20, List.forall_mem_cons.mpr ⟨lw_p21, List.forall_mem_cons.mpr ⟨lw_p22, List.forall_mem_cons.mpr ⟨lw_p23, List.forall_mem_cons.mpr ⟨lw_p24, List.forall_mem_cons.mpr ⟨lw_p25, List.forall_mem_cons.mpr ⟨lw_p26, List.forall_mem_cons.mpr ⟨lw_p27, List.forall_mem_cons.mpr ⟨lw_p28, List.forall_mem_cons.mpr ⟨lw_p29, List.forall_mem_cons.mpr ⟨lw_p30, List.forall_mem_cons.mpr ⟨lw_p31, fun _ h => absurd h List.not_mem_nil⟩⟩⟩⟩⟩⟩⟩⟩⟩⟩⟩⟩⟩⟩⟩⟩
theorem lw_p32 : lw_okq (⟨"ToolHouseModel", "byteAt", "(I)I"⟩, 43) := ⟨⟨by decide +kernel, by decide +kernel⟩, List.mem_of_getElem? (i := 823) (by decide +kernel), List.mem_of_getElem? (i := 999) (by decide +kernel), List.mem_of_getElem? (i := 1000) (by decide +kernel)⟩
theorem lw_p33 : lw_okq (⟨"ToolHouseModel", "statement", "()Z"⟩, 43) := ⟨⟨by decide +kernel, by decide +kernel⟩, List.mem_of_getElem? (i := 823) (by decide +kernel), List.mem_of_getElem? (i := 1003) (by decide +kernel), List.mem_of_getElem? (i := 1004) (by decide +kernel)⟩
theorem lw_p34 : lw_okq (⟨"ToolHouseModel", "isEvery", "()Z"⟩, 43) := ⟨⟨by decide +kernel, by decide +kernel⟩, List.mem_of_getElem? (i := 823) (by decide +kernel), List.mem_of_getElem? (i := 1007) (by decide +kernel), List.mem_of_getElem? (i := 1008) (by decide +kernel)⟩
theorem lw_p35 : lw_okq (⟨"ToolHouseModel", "wrong", "(I)Z"⟩, 43) := ⟨⟨by decide +kernel, by decide +kernel⟩, List.mem_of_getElem? (i := 823) (by decide +kernel), List.mem_of_getElem? (i := 1011) (by decide +kernel), List.mem_of_getElem? (i := 1012) (by decide +kernel)⟩
theorem lw_p36 : lw_okq (⟨"ToolHouseModel", "isThing", "(I)Z"⟩, 43) := ⟨⟨by decide +kernel, by decide +kernel⟩, List.mem_of_getElem? (i := 823) (by decide +kernel), List.mem_of_getElem? (i := 1023) (by decide +kernel), List.mem_of_getElem? (i := 1024) (by decide +kernel)⟩
theorem lw_p37 : lw_okq (⟨"ToolHouseModel", "outWith", "(I)I"⟩, 43) := ⟨⟨by decide +kernel, by decide +kernel⟩, List.mem_of_getElem? (i := 823) (by decide +kernel), List.mem_of_getElem? (i := 1027) (by decide +kernel), List.mem_of_getElem? (i := 1028) (by decide +kernel)⟩
theorem lw_p38 : lw_okq (⟨"ToolHouseModel", "isLawful", "(II)Z"⟩, 43) := ⟨⟨by decide +kernel, by decide +kernel⟩, List.mem_of_getElem? (i := 823) (by decide +kernel), List.mem_of_getElem? (i := 1035) (by decide +kernel), List.mem_of_getElem? (i := 1036) (by decide +kernel)⟩
theorem lw_p39 : lw_okq (⟨"ToolHouseModel", "wanted", "(I)I"⟩, 43) := ⟨⟨by decide +kernel, by decide +kernel⟩, List.mem_of_getElem? (i := 823) (by decide +kernel), List.mem_of_getElem? (i := 1039) (by decide +kernel), List.mem_of_getElem? (i := 1040) (by decide +kernel)⟩
theorem lw_p40 : lw_okq (⟨"ToolHouseModel", "isMember", "(I)Z"⟩, 43) := ⟨⟨by decide +kernel, by decide +kernel⟩, List.mem_of_getElem? (i := 823) (by decide +kernel), List.mem_of_getElem? (i := 1047) (by decide +kernel), List.mem_of_getElem? (i := 1048) (by decide +kernel)⟩
theorem lw_p41 : lw_okq (⟨"ToolHouseModel", "counted", "(I)I"⟩, 43) := ⟨⟨by decide +kernel, by decide +kernel⟩, List.mem_of_getElem? (i := 823) (by decide +kernel), List.mem_of_getElem? (i := 1051) (by decide +kernel), List.mem_of_getElem? (i := 1052) (by decide +kernel)⟩
theorem lw_p42 : lw_okq (⟨"ToolHouseModel", "fits", "(II)Z"⟩, 43) := ⟨⟨by decide +kernel, by decide +kernel⟩, List.mem_of_getElem? (i := 823) (by decide +kernel), List.mem_of_getElem? (i := 1059) (by decide +kernel), List.mem_of_getElem? (i := 1060) (by decide +kernel)⟩
theorem lw_p43 : lw_okq (⟨"ToolHouseModel", "isFreeFor", "(IIII)Z"⟩, 43) := ⟨⟨by decide +kernel, by decide +kernel⟩, List.mem_of_getElem? (i := 823) (by decide +kernel), List.mem_of_getElem? (i := 1063) (by decide +kernel), List.mem_of_getElem? (i := 1064) (by decide +kernel)⟩
theorem lw_p44 : lw_okq (⟨"ToolHouseModel", "endOf", "(I)I"⟩, 43) := ⟨⟨by decide +kernel, by decide +kernel⟩, List.mem_of_getElem? (i := 823) (by decide +kernel), List.mem_of_getElem? (i := 1067) (by decide +kernel), List.mem_of_getElem? (i := 1068) (by decide +kernel)⟩
theorem lw_p45 : lw_okq (⟨"ToolHouseModel", "tries", "(I)V"⟩, 43) := ⟨⟨by decide +kernel, by decide +kernel⟩, List.mem_of_getElem? (i := 823) (by decide +kernel), List.mem_of_getElem? (i := 1074) (by decide +kernel), List.mem_of_getElem? (i := 1075) (by decide +kernel)⟩
theorem lw_p46 : lw_okq (⟨"ToolHouseModel", "worth", "()I"⟩, 43) := ⟨⟨by decide +kernel, by decide +kernel⟩, List.mem_of_getElem? (i := 823) (by decide +kernel), List.mem_of_getElem? (i := 1078) (by decide +kernel), List.mem_of_getElem? (i := 1079) (by decide +kernel)⟩
theorem lw_p47 : lw_okq (⟨"ToolHouseModel", "stands", "(II)Z"⟩, 43) := ⟨⟨by decide +kernel, by decide +kernel⟩, List.mem_of_getElem? (i := 823) (by decide +kernel), List.mem_of_getElem? (i := 1082) (by decide +kernel), List.mem_of_getElem? (i := 1083) (by decide +kernel)⟩
def lw_privs_3 : List (MethodName × Nat) := [(⟨"ToolHouseModel", "byteAt", "(I)I"⟩, 43), (⟨"ToolHouseModel", "statement", "()Z"⟩, 43), (⟨"ToolHouseModel", "isEvery", "()Z"⟩, 43), (⟨"ToolHouseModel", "wrong", "(I)Z"⟩, 43), (⟨"ToolHouseModel", "isThing", "(I)Z"⟩, 43), (⟨"ToolHouseModel", "outWith", "(I)I"⟩, 43), (⟨"ToolHouseModel", "isLawful", "(II)Z"⟩, 43), (⟨"ToolHouseModel", "wanted", "(I)I"⟩, 43), (⟨"ToolHouseModel", "isMember", "(I)Z"⟩, 43), (⟨"ToolHouseModel", "counted", "(I)I"⟩, 43), (⟨"ToolHouseModel", "fits", "(II)Z"⟩, 43), (⟨"ToolHouseModel", "isFreeFor", "(IIII)Z"⟩, 43), (⟨"ToolHouseModel", "endOf", "(I)I"⟩, 43), (⟨"ToolHouseModel", "tries", "(I)V"⟩, 43), (⟨"ToolHouseModel", "worth", "()I"⟩, 43), (⟨"ToolHouseModel", "stands", "(II)Z"⟩, 43)]
theorem lw_r3 : ∀ q ∈ lw_privs_3, lw_okq q := List.forall_mem_cons.mpr ⟨lw_p32, List.forall_mem_cons.mpr ⟨lw_p33, List.forall_mem_cons.mpr ⟨lw_p34, List.forall_mem_cons.mpr ⟨lw_p35, List.forall_mem_cons.mpr ⟨lw_p36, List.forall_mem_cons.mpr ⟨lw_p37, List.forall_mem_cons.mpr ⟨lw_p38, List.forall_mem_cons.mpr ⟨lw_p39, List.forall_mem_cons.mpr ⟨lw_p40, List.forall_mem_cons.mpr ⟨lw_p41, List.forall_mem_cons.mpr ⟨lw_p42, List.forall_mem_cons.mpr ⟨lw_p43, List.forall_mem_cons.mpr ⟨lw_p44, List.forall_mem_cons.mpr ⟨lw_p45, List.forall_mem_cons.mpr ⟨lw_p46, List.forall_mem_cons.mpr ⟨lw_p47, fun _ h => absurd h List.not_mem_nil⟩⟩⟩⟩⟩⟩⟩⟩⟩⟩⟩⟩⟩⟩⟩⟩
theorem lw_p48 : lw_okq (⟨"ToolHouseModel", "moves", "()V"⟩, 43) := ⟨⟨by decide +kernel, by decide +kernel⟩, List.mem_of_getElem? (i := 823) (by decide +kernel), List.mem_of_getElem? (i := 1106) (by decide +kernel), List.mem_of_getElem? (i := 1107) (by decide +kernel)⟩
theorem lw_p49 : lw_okq (⟨"ToolHouseModel", "isLate", "(I)Z"⟩, 43) := ⟨⟨by decide +kernel, by decide +kernel⟩, List.mem_of_getElem? (i := 823) (by decide +kernel), List.mem_of_getElem? (i := 1110) (by decide +kernel), List.mem_of_getElem? (i := 1111) (by decide +kernel)⟩
theorem lw_p50 : lw_okq (⟨"ToolHouseModel", "isAhead", "(II)Z"⟩, 43) := ⟨⟨by decide +kernel, by decide +kernel⟩, List.mem_of_getElem? (i := 823) (by decide +kernel), List.mem_of_getElem? (i := 1114) (by decide +kernel), List.mem_of_getElem? (i := 1115) (by decide +kernel)⟩
theorem lw_p51 : lw_okq (⟨"ToolHouseModel", "moves", "(I)V"⟩, 43) := ⟨⟨by decide +kernel, by decide +kernel⟩, List.mem_of_getElem? (i := 823) (by decide +kernel), List.mem_of_getElem? (i := 1118) (by decide +kernel), List.mem_of_getElem? (i := 1119) (by decide +kernel)⟩
def lw_privs_4 : List (MethodName × Nat) := [(⟨"ToolHouseModel", "moves", "()V"⟩, 43), (⟨"ToolHouseModel", "isLate", "(I)Z"⟩, 43), (⟨"ToolHouseModel", "isAhead", "(II)Z"⟩, 43), (⟨"ToolHouseModel", "moves", "(I)V"⟩, 43)]
theorem lw_r4 : ∀ q ∈ lw_privs_4, lw_okq q := List.forall_mem_cons.mpr ⟨lw_p48, List.forall_mem_cons.mpr ⟨lw_p49, List.forall_mem_cons.mpr ⟨lw_p50, List.forall_mem_cons.mpr ⟨lw_p51, fun _ h => absurd h List.not_mem_nil⟩⟩⟩⟩
def lw_privs : List (MethodName × Nat) := lw_privs_1 ++ (lw_privs_2 ++ (lw_privs_3 ++ (lw_privs_4)))
def lw_tbl : List Cond := k2_sels lw_privs ++ tables_1
theorem lw_privs_ok : ∀ q ∈ lw_privs, lw_okq q := by
  show ∀ q ∈ lw_privs_1 ++ (lw_privs_2 ++ (lw_privs_3 ++ (lw_privs_4))), lw_okq q
  exact List.forall_mem_append.mpr ⟨lw_r1, List.forall_mem_append.mpr ⟨lw_r2, List.forall_mem_append.mpr ⟨lw_r3, lw_r4⟩⟩⟩

def RX0 : String := "ToolHouse$Ask"
def TX0 : u_T := fun k => match k with
  | 0 => ("ToolHouse$Ask", "number", "I", true)
  | 1 => ("ToolHouse$Ask", "member", "LToolHouse$Member;", true)
  | 2 => ("ToolHouse$Ask", "kind", "LToolHouse$Kind;", true)
  | 3 => ("ToolHouse$Ask", "needs", "I", true)
  | 4 => ("ToolHouse$Ask", "first", "I", true)
  | 5 => ("ToolHouse$Ask", "last", "I", true)
  | 6 => ("ToolHouse$Ask", "rank", "I", true)
  | 7 => ("ToolHouse$Ask", "state", "I", false)
  | 8 => ("ToolHouse$Ask", "thing", "LToolHouse$Thing;", false)
  | 9 => ("ToolHouse$Ask", "moves", "I", false)
  | _ => ("ToolHouse$Ask", "backDay", "I", false)
def tyX0 : Nat → FieldType := fun k => match k with
  | 0 => .int
  | 1 => .object "ToolHouse$Member"
  | 2 => .object "ToolHouse$Kind"
  | 3 => .int
  | 4 => .int
  | 5 => .int
  | 6 => .int
  | 7 => .int
  | 8 => .object "ToolHouse$Thing"
  | 9 => .int
  | _ => .int
abbrev wsX00 : List Cond := u_ws RX0 TX0 11
theorem nmX0 : ∀ a, a < 11 → ∀ b, b < 11 → a ≠ b → (TX0 a).2.1 ≠ (TX0 b).2.1 := by decide +kernel
theorem tyX0_ok : ∀ k, k < 11 → parseFieldDescriptor (TX0 k).2.2.1 = some (tyX0 k) := by decide +kernel
abbrev cX0_init : ByteArray := prog_2_method_1_code
def yX0_init : MethodName := ⟨RX0, "<init>", "(ILToolHouse$Member;LToolHouse$Kind;IIII)V"⟩
abbrev cX0_isBookedOn : ByteArray := prog_2_method_2_code
def yX0_isBookedOn : MethodName := ⟨RX0, "isBookedOn", "(LToolHouse$Thing;)Z"⟩
abbrev cX0_holds : ByteArray := prog_2_method_3_code
def yX0_holds : MethodName := ⟨RX0, "holds", "(LToolHouse$Thing;)Z"⟩
abbrev cX0_lastDay : ByteArray := prog_2_method_4_code
def yX0_lastDay : MethodName := ⟨RX0, "lastDay", "(I)I"⟩
abbrev cX0_movesAheadOf : ByteArray := prog_2_method_5_code
def yX0_movesAheadOf : MethodName := ⟨RX0, "movesAheadOf", "(LToolHouse$Ask;)Z"⟩
def RX1 : String := "ToolHouse$Kind"
def TX1 : u_T := fun k => match k with
  | 0 => ("ToolHouse$Kind", "number", "I", true)
  | 1 => ("ToolHouse$Kind", "care", "I", true)
  | 2 => ("ToolHouse$Kind", "features", "I", true)
  | _ => ("ToolHouse$Kind", "fee", "I", true)
def tyX1 : Nat → FieldType := fun k => match k with
  | 0 => .int
  | 1 => .int
  | 2 => .int
  | _ => .int
abbrev wsX10 : List Cond := u_ws RX1 TX1 4
theorem nmX1 : ∀ a, a < 4 → ∀ b, b < 4 → a ≠ b → (TX1 a).2.1 ≠ (TX1 b).2.1 := by decide +kernel
theorem tyX1_ok : ∀ k, k < 4 → parseFieldDescriptor (TX1 k).2.2.1 = some (tyX1 k) := by decide +kernel
abbrev cX1_init : ByteArray := prog_3_method_1_code
def yX1_init : MethodName := ⟨RX1, "<init>", "(IIII)V"⟩
abbrev cX1_fits : ByteArray := prog_3_method_2_code
def yX1_fits : MethodName := ⟨RX1, "fits", "(LToolHouse$Ask;)Z"⟩
def RX2 : String := "ToolHouse$LawBook"
def TX2 : u_T := fun k => match k with
  | 0 => ("ToolHouse$LawBook", "told", "I", false)
  | 1 => ("ToolHouse$LawBook", "place", "I", false)
  | _ => ("ToolHouse$LawBook", "wanted", "[I", true)
def tyX2 : Nat → FieldType := fun k => match k with
  | 0 => .int
  | 1 => .int
  | _ => .array .int
abbrev wsX20 : List Cond := u_ws RX2 TX2 3
theorem nmX2 : ∀ a, a < 3 → ∀ b, b < 3 → a ≠ b → (TX2 a).2.1 ≠ (TX2 b).2.1 := by decide +kernel
theorem tyX2_ok : ∀ k, k < 3 → parseFieldDescriptor (TX2 k).2.2.1 = some (tyX2 k) := by decide +kernel
abbrev cX2_init : ByteArray := prog_4_method_1_code
def yX2_init : MethodName := ⟨RX2, "<init>", "()V"⟩
abbrev cX2_tell : ByteArray := prog_4_method_2_code
def yX2_tell : MethodName := ⟨RX2, "tell", "([I)V"⟩
abbrev cX2_daysWanted : ByteArray := prog_4_method_3_code
def yX2_daysWanted : MethodName := ⟨RX2, "daysWanted", "(I)I"⟩
abbrev cX2_lets : ByteArray := prog_4_method_4_code
def yX2_lets : MethodName := ⟨RX2, "lets", "(LToolHouse$Thing;I)Z"⟩
def RX3 : String := "ToolHouse$LawReader"
def TX3 : u_T := fun k => match k with
  | 0 => ("ToolHouse$LawReader", "wanted", "[I", true)
  | 1 => ("ToolHouse$LawReader", "fault", "I", false)
  | 2 => ("ToolHouse$LawReader", "place", "I", false)
  | 3 => ("ToolHouse$LawReader", "due", "I", false)
  | _ => ("ToolHouse$LawReader", "kindTold", "I", false)
def tyX3 : Nat → FieldType := fun k => match k with
  | 0 => .array .int
  | 1 => .int
  | 2 => .int
  | 3 => .int
  | _ => .int
abbrev wsX30 : List Cond := u_ws RX3 TX3 5
theorem nmX3 : ∀ a, a < 5 → ∀ b, b < 5 → a ≠ b → (TX3 a).2.1 ≠ (TX3 b).2.1 := by decide +kernel
theorem tyX3_ok : ∀ k, k < 5 → parseFieldDescriptor (TX3 k).2.2.1 = some (tyX3 k) := by decide +kernel
abbrev cX3_init : ByteArray := prog_5_method_1_code
def yX3_init : MethodName := ⟨RX3, "<init>", "()V"⟩
abbrev cX3_read : ByteArray := prog_5_method_2_code
def yX3_read : MethodName := ⟨RX3, "read", "(LToolHouse$Tape;I)V"⟩
abbrev cX3_take : ByteArray := prog_5_method_3_code
def yX3_take : MethodName := ⟨RX3, "take", "(LToolHouse$Tape;III)V"⟩
abbrev cX3_takeKind : ByteArray := prog_5_method_4_code
def yX3_takeKind : MethodName := ⟨RX3, "takeKind", "(III)V"⟩
abbrev cX3_takeDays : ByteArray := prog_5_method_5_code
def yX3_takeDays : MethodName := ⟨RX3, "takeDays", "(I)V"⟩
abbrev cX3_blame : ByteArray := prog_5_method_6_code
def yX3_blame : MethodName := ⟨RX3, "blame", "(II)V"⟩
abbrev cX3_endOfToken : ByteArray := prog_5_method_7_code
def yX3_endOfToken : MethodName := ⟨RX3, "endOfToken", "(LToolHouse$Tape;I)I"⟩
abbrev cX3_isEvery : ByteArray := prog_5_method_8_code
def yX3_isEvery : MethodName := ⟨RX3, "isEvery", "(LToolHouse$Tape;II)Z"⟩
abbrev cX3_numberOf : ByteArray := prog_5_method_9_code
def yX3_numberOf : MethodName := ⟨RX3, "numberOf", "(LToolHouse$Tape;II)I"⟩
abbrev cX3_isBlank : ByteArray := prog_5_method_10_code
def yX3_isBlank : MethodName := ⟨RX3, "isBlank", "(I)Z"⟩
abbrev cX3_isLetter : ByteArray := prog_5_method_11_code
def yX3_isLetter : MethodName := ⟨RX3, "isLetter", "(I)Z"⟩
abbrev cX3_isDigit : ByteArray := prog_5_method_12_code
def yX3_isDigit : MethodName := ⟨RX3, "isDigit", "(I)Z"⟩
def RX4 : String := "ToolHouse$Member"
def TX4 : u_T := fun k => match k with
  | 0 => ("ToolHouse$Member", "number", "I", true)
  | 1 => ("ToolHouse$Member", "hours", "I", false)
  | 2 => ("ToolHouse$Member", "fees", "I", false)
  | _ => ("ToolHouse$Member", "asksOut", "I", false)
def tyX4 : Nat → FieldType := fun k => match k with
  | 0 => .int
  | 1 => .int
  | 2 => .int
  | _ => .int
abbrev wsX40 : List Cond := u_ws RX4 TX4 4
theorem nmX4 : ∀ a, a < 4 → ∀ b, b < 4 → a ≠ b → (TX4 a).2.1 ≠ (TX4 b).2.1 := by decide +kernel
theorem tyX4_ok : ∀ k, k < 4 → parseFieldDescriptor (TX4 k).2.2.1 = some (tyX4 k) := by decide +kernel
abbrev cX4_init : ByteArray := prog_6_method_1_code
def yX4_init : MethodName := ⟨RX4, "<init>", "(I)V"⟩
abbrev cX4_owe : ByteArray := prog_6_method_2_code
def yX4_owe : MethodName := ⟨RX4, "owe", "(II)V"⟩
def RX5 : String := "ToolHouse$Planner"
def TX5 : u_T := fun k => match k with
  | 0 => ("ToolHouse$Planner", "row", "[LToolHouse$Ask;", true)
  | 1 => ("ToolHouse$Planner", "size", "I", false)
  | 2 => ("ToolHouse$Planner", "most", "[I", true)
  | _ => ("ToolHouse$Planner", "gains", "[I", true)
def tyX5 : Nat → FieldType := fun k => match k with
  | 0 => .array (.object "ToolHouse$Ask")
  | 1 => .int
  | 2 => .array .int
  | _ => .array .int
abbrev wsX50 : List Cond := u_ws RX5 TX5 4
theorem nmX5 : ∀ a, a < 4 → ∀ b, b < 4 → a ≠ b → (TX5 a).2.1 ≠ (TX5 b).2.1 := by decide +kernel
theorem tyX5_ok : ∀ k, k < 4 → parseFieldDescriptor (TX5 k).2.2.1 = some (tyX5 k) := by decide +kernel
abbrev cX5_init : ByteArray := prog_7_method_1_code
def yX5_init : MethodName := ⟨RX5, "<init>", "()V"⟩
abbrev cX5_begin : ByteArray := prog_7_method_2_code
def yX5_begin : MethodName := ⟨RX5, "begin", "()V"⟩
abbrev cX5_add : ByteArray := prog_7_method_3_code
def yX5_add : MethodName := ⟨RX5, "add", "(LToolHouse$Ask;)V"⟩
abbrev cX5_askAtRow : ByteArray := prog_7_method_4_code
def yX5_askAtRow : MethodName := ⟨RX5, "askAtRow", "(I)LToolHouse$Ask;"⟩
abbrev cX5_offer : ByteArray := prog_7_method_5_code
def yX5_offer : MethodName := ⟨RX5, "offer", "(LToolHouse$Thing;I)V"⟩
abbrev cX5_thingAtRow : ByteArray := prog_7_method_6_code
def yX5_thingAtRow : MethodName := ⟨RX5, "thingAtRow", "(I)I"⟩
abbrev cX5_wholeRow : ByteArray := prog_7_method_7_code
def yX5_wholeRow : MethodName := ⟨RX5, "wholeRow", "()I"⟩
abbrev cX5_weigh : ByteArray := prog_7_method_8_code
def yX5_weigh : MethodName := ⟨RX5, "weigh", "(LToolHouse$Thing;I)V"⟩
abbrev cX5_worthOf : ByteArray := prog_7_method_9_code
def yX5_worthOf : MethodName := ⟨RX5, "worthOf", "(LToolHouse$Ask;LToolHouse$Thing;I)I"⟩
abbrev cX5_nearTo : ByteArray := prog_7_method_10_code
def yX5_nearTo : MethodName := ⟨RX5, "nearTo", "(LToolHouse$Ask;II)I"⟩
def RX6 : String := "ToolHouse$Tape"
def TX6 : u_T := fun k => match k with
  | 0 => ("ToolHouse$Tape", "bytes", "[I", true)
  | _ => ("ToolHouse$Tape", "length", "I", false)
def tyX6 : Nat → FieldType := fun k => match k with
  | 0 => .array .int
  | _ => .int
abbrev wsX60 : List Cond := u_ws RX6 TX6 2
theorem nmX6 : ∀ a, a < 2 → ∀ b, b < 2 → a ≠ b → (TX6 a).2.1 ≠ (TX6 b).2.1 := by decide +kernel
theorem tyX6_ok : ∀ k, k < 2 → parseFieldDescriptor (TX6 k).2.2.1 = some (tyX6 k) := by decide +kernel
abbrev cX6_init : ByteArray := prog_8_method_1_code
def yX6_init : MethodName := ⟨RX6, "<init>", "()V"⟩
abbrev cX6_hasRoom : ByteArray := prog_8_method_2_code
def yX6_hasRoom : MethodName := ⟨RX6, "hasRoom", "()Z"⟩
abbrev cX6_put : ByteArray := prog_8_method_3_code
def yX6_put : MethodName := ⟨RX6, "put", "(I)V"⟩
abbrev cX6_byteAt : ByteArray := prog_8_method_4_code
def yX6_byteAt : MethodName := ⟨RX6, "byteAt", "(I)I"⟩
def RX7 : String := "ToolHouse$Thing"
def TX7 : u_T := fun k => match k with
  | 0 => ("ToolHouse$Thing", "number", "I", true)
  | 1 => ("ToolHouse$Thing", "kind", "LToolHouse$Kind;", true)
  | 2 => ("ToolHouse$Thing", "lastLook", "I", false)
  | 3 => ("ToolHouse$Thing", "lastBack", "I", false)
  | _ => ("ToolHouse$Thing", "outWith", "LToolHouse$Ask;", false)
def tyX7 : Nat → FieldType := fun k => match k with
  | 0 => .int
  | 1 => .object "ToolHouse$Kind"
  | 2 => .int
  | 3 => .int
  | _ => .object "ToolHouse$Ask"
abbrev wsX70 : List Cond := u_ws RX7 TX7 5
theorem nmX7 : ∀ a, a < 5 → ∀ b, b < 5 → a ≠ b → (TX7 a).2.1 ≠ (TX7 b).2.1 := by decide +kernel
theorem tyX7_ok : ∀ k, k < 5 → parseFieldDescriptor (TX7 k).2.2.1 = some (tyX7 k) := by decide +kernel
abbrev cX7_init : ByteArray := prog_9_method_1_code
def yX7_init : MethodName := ⟨RX7, "<init>", "(ILToolHouse$Kind;)V"⟩
abbrev cX7_isLate : ByteArray := prog_9_method_2_code
def yX7_isLate : MethodName := ⟨RX7, "isLate", "(I)Z"⟩
abbrev cX7_isCaredFor : ByteArray := prog_9_method_3_code
def yX7_isCaredFor : MethodName := ⟨RX7, "isCaredFor", "(I)Z"⟩
def RX8 : String := "ToolHouse"
def TX8 : u_T := fun k => match k with
  | 0 => ("ToolHouse", "kinds", "Ljava/util/ArrayList;", true)
  | 1 => ("ToolHouse", "things", "Ljava/util/ArrayList;", true)
  | 2 => ("ToolHouse", "members", "Ljava/util/ArrayList;", true)
  | 3 => ("ToolHouse", "asks", "Ljava/util/ArrayList;", true)
  | 4 => ("ToolHouse", "log", "Ljava/util/ArrayList;", true)
  | 5 => ("ToolHouse", "tape", "LToolHouse$Tape;", true)
  | 6 => ("ToolHouse", "reader", "LToolHouse$LawReader;", true)
  | 7 => ("ToolHouse", "laws", "LToolHouse$LawBook;", true)
  | 8 => ("ToolHouse", "planner", "LToolHouse$Planner;", true)
  | _ => ("ToolHouse", "day", "I", false)
def tyX8 : Nat → FieldType := fun k => match k with
  | 0 => .object "java/util/ArrayList"
  | 1 => .object "java/util/ArrayList"
  | 2 => .object "java/util/ArrayList"
  | 3 => .object "java/util/ArrayList"
  | 4 => .object "java/util/ArrayList"
  | 5 => .object "ToolHouse$Tape"
  | 6 => .object "ToolHouse$LawReader"
  | 7 => .object "ToolHouse$LawBook"
  | 8 => .object "ToolHouse$Planner"
  | _ => .int
abbrev wsX80 : List Cond := u_ws RX8 TX8 10
theorem nmX8 : ∀ a, a < 10 → ∀ b, b < 10 → a ≠ b → (TX8 a).2.1 ≠ (TX8 b).2.1 := by decide +kernel
theorem tyX8_ok : ∀ k, k < 10 → parseFieldDescriptor (TX8 k).2.2.1 = some (tyX8 k) := by decide +kernel
abbrev cX8_init : ByteArray := prog_1_method_1_code
def yX8_init : MethodName := ⟨RX8, "<init>", "()V"⟩
abbrev cX8_kind : ByteArray := prog_1_method_2_code
def yX8_kind : MethodName := ⟨RX8, "kind", "(III)I"⟩
abbrev cX8_thing : ByteArray := prog_1_method_3_code
def yX8_thing : MethodName := ⟨RX8, "thing", "(I)I"⟩
abbrev cX8_member : ByteArray := prog_1_method_4_code
def yX8_member : MethodName := ⟨RX8, "member", "()I"⟩
abbrev cX8_feed : ByteArray := prog_1_method_5_code
def yX8_feed : MethodName := ⟨RX8, "feed", "(IIIII)I"⟩
abbrev cX8_end : ByteArray := prog_1_method_6_code
def yX8_end : MethodName := ⟨RX8, "end", "(I)I"⟩
abbrev cX8_law : ByteArray := prog_1_method_7_code
def yX8_law : MethodName := ⟨RX8, "law", "()I"⟩
abbrev cX8_place : ByteArray := prog_1_method_8_code
def yX8_place : MethodName := ⟨RX8, "place", "()I"⟩
abbrev cX8_look : ByteArray := prog_1_method_9_code
def yX8_look : MethodName := ⟨RX8, "look", "(I)Z"⟩
abbrev cX8_lawful : ByteArray := prog_1_method_10_code
def yX8_lawful : MethodName := ⟨RX8, "lawful", "(II)I"⟩
abbrev cX8_ask : ByteArray := prog_1_method_11_code
def yX8_ask : MethodName := ⟨RX8, "ask", "(IIIIII)I"⟩
abbrev cX8_plan : ByteArray := prog_1_method_12_code
def yX8_plan : MethodName := ⟨RX8, "plan", "()I"⟩
abbrev cX8_off : ByteArray := prog_1_method_13_code
def yX8_off : MethodName := ⟨RX8, "off", "(I)Z"⟩
abbrev cX8_out : ByteArray := prog_1_method_14_code
def yX8_out : MethodName := ⟨RX8, "out", "(I)I"⟩
abbrev cX8_back : ByteArray := prog_1_method_15_code
def yX8_back : MethodName := ⟨RX8, "back", "(I)I"⟩
abbrev cX8_work : ByteArray := prog_1_method_16_code
def yX8_work : MethodName := ⟨RX8, "work", "(II)I"⟩
abbrev cX8_days : ByteArray := prog_1_method_17_code
def yX8_days : MethodName := ⟨RX8, "days", "(I)I"⟩
abbrev cX8_buy : ByteArray := prog_1_method_18_code
def yX8_buy : MethodName := ⟨RX8, "buy", "(I)I"⟩
abbrev cX8_of : ByteArray := prog_1_method_19_code
def yX8_of : MethodName := ⟨RX8, "of", "(II)I"⟩
abbrev cX8_thingOf : ByteArray := prog_1_method_20_code
def yX8_thingOf : MethodName := ⟨RX8, "thingOf", "(II)I"⟩
abbrev cX8_isFree : ByteArray := prog_1_method_21_code
def yX8_isFree : MethodName := ⟨RX8, "isFree", "(III)I"⟩
abbrev cX8_memberOf : ByteArray := prog_1_method_22_code
def yX8_memberOf : MethodName := ⟨RX8, "memberOf", "(II)I"⟩
abbrev cX8_count : ByteArray := prog_1_method_23_code
def yX8_count : MethodName := ⟨RX8, "count", "(I)I"⟩
abbrev cX8_isWithin : ByteArray := prog_1_method_24_code
def yX8_isWithin : MethodName := ⟨RX8, "isWithin", "(III)Z"⟩
abbrev cX8_areNear : ByteArray := prog_1_method_25_code
def yX8_areNear : MethodName := ⟨RX8, "areNear", "(IIIII)Z"⟩
abbrev cX8_kindAt : ByteArray := prog_1_method_26_code
def yX8_kindAt : MethodName := ⟨RX8, "kindAt", "(I)LToolHouse$Kind;"⟩
abbrev cX8_thingAt : ByteArray := prog_1_method_27_code
def yX8_thingAt : MethodName := ⟨RX8, "thingAt", "(I)LToolHouse$Thing;"⟩
abbrev cX8_memberAt : ByteArray := prog_1_method_28_code
def yX8_memberAt : MethodName := ⟨RX8, "memberAt", "(I)LToolHouse$Member;"⟩
abbrev cX8_askAt : ByteArray := prog_1_method_29_code
def yX8_askAt : MethodName := ⟨RX8, "askAt", "(I)LToolHouse$Ask;"⟩
abbrev cX8_canBeAsked : ByteArray := prog_1_method_30_code
def yX8_canBeAsked : MethodName := ⟨RX8, "canBeAsked", "(II)Z"⟩
abbrev cX8_howManyAre : ByteArray := prog_1_method_31_code
def yX8_howManyAre : MethodName := ⟨RX8, "howManyAre", "(I)I"⟩
abbrev cX8_howManyAreBookedOn : ByteArray := prog_1_method_32_code
def yX8_howManyAreBookedOn : MethodName := ⟨RX8, "howManyAreBookedOn", "(LToolHouse$Thing;)I"⟩
abbrev cX8_isFreeBut : ByteArray := prog_1_method_33_code
def yX8_isFreeBut : MethodName := ⟨RX8, "isFreeBut", "(LToolHouse$Ask;LToolHouse$Thing;II)Z"⟩
abbrev cX8_isFreeFor : ByteArray := prog_1_method_34_code
def yX8_isFreeFor : MethodName := ⟨RX8, "isFreeFor", "(LToolHouse$Ask;LToolHouse$Thing;)Z"⟩
abbrev cX8_rowThatMayHave : ByteArray := prog_1_method_35_code
def yX8_rowThatMayHave : MethodName := ⟨RX8, "rowThatMayHave", "(LToolHouse$Thing;)I"⟩
abbrev cX8_carryOutPlan : ByteArray := prog_1_method_36_code
def yX8_carryOutPlan : MethodName := ⟨RX8, "carryOutPlan", "()I"⟩
abbrev cX8_refuse : ByteArray := prog_1_method_37_code
def yX8_refuse : MethodName := ⟨RX8, "refuse", "(LToolHouse$Ask;)V"⟩
abbrev cX8_hindranceOf : ByteArray := prog_1_method_38_code
def yX8_hindranceOf : MethodName := ⟨RX8, "hindranceOf", "(LToolHouse$Ask;LToolHouse$Thing;)I"⟩
abbrev cX8_loseWhatIsOver : ByteArray := prog_1_method_39_code
def yX8_loseWhatIsOver : MethodName := ⟨RX8, "loseWhatIsOver", "()V"⟩
abbrev cX8_moveFromLateThings : ByteArray := prog_1_method_40_code
def yX8_moveFromLateThings : MethodName := ⟨RX8, "moveFromLateThings", "()V"⟩
abbrev cX8_nextToMove : ByteArray := prog_1_method_41_code
def yX8_nextToMove : MethodName := ⟨RX8, "nextToMove", "()LToolHouse$Ask;"⟩
abbrev cX8_mustMove : ByteArray := prog_1_method_42_code
def yX8_mustMove : MethodName := ⟨RX8, "mustMove", "(LToolHouse$Ask;)Z"⟩
abbrev cX8_firstOtherThingFor : ByteArray := prog_1_method_43_code
def yX8_firstOtherThingFor : MethodName := ⟨RX8, "firstOtherThingFor", "(LToolHouse$Ask;)LToolHouse$Thing;"⟩
def RX9 : String := "ToolHouseModel"
def TX9 : u_T := fun k => match k with
  | 0 => ("ToolHouseModel", "thrown", "I", false)
  | 1 => ("ToolHouseModel", "kinds", "I", false)
  | 2 => ("ToolHouseModel", "care", "[I", true)
  | 3 => ("ToolHouseModel", "features", "[I", true)
  | 4 => ("ToolHouseModel", "fee", "[I", true)
  | 5 => ("ToolHouseModel", "things", "I", false)
  | 6 => ("ToolHouseModel", "kindOf", "[I", true)
  | 7 => ("ToolHouseModel", "looked", "[I", true)
  | 8 => ("ToolHouseModel", "members", "I", false)
  | 9 => ("ToolHouseModel", "owes", "[I", true)
  | 10 => ("ToolHouseModel", "fees", "[I", true)
  | 11 => ("ToolHouseModel", "now", "I", false)
  | 12 => ("ToolHouseModel", "tape", "[B", true)
  | 13 => ("ToolHouseModel", "taped", "I", false)
  | 14 => ("ToolHouseModel", "laws", "I", false)
  | 15 => ("ToolHouseModel", "wants", "[I", true)
  | 16 => ("ToolHouseModel", "reads", "[I", true)
  | 17 => ("ToolHouseModel", "faultKind", "I", false)
  | 18 => ("ToolHouseModel", "faultPlace", "I", false)
  | 19 => ("ToolHouseModel", "from", "I", false)
  | 20 => ("ToolHouseModel", "over", "I", false)
  | 21 => ("ToolHouseModel", "value", "I", false)
  | 22 => ("ToolHouseModel", "sort", "I", false)
  | 23 => ("ToolHouseModel", "asks", "I", false)
  | 24 => ("ToolHouseModel", "state", "[I", true)
  | 25 => ("ToolHouseModel", "on", "[I", true)
  | 26 => ("ToolHouseModel", "moved", "[I", true)
  | 27 => ("ToolHouseModel", "who", "[I", true)
  | 28 => ("ToolHouseModel", "what", "[I", true)
  | 29 => ("ToolHouseModel", "needs", "[I", true)
  | 30 => ("ToolHouseModel", "first", "[I", true)
  | 31 => ("ToolHouseModel", "last", "[I", true)
  | 32 => ("ToolHouseModel", "rank", "[I", true)
  | 33 => ("ToolHouseModel", "cameBack", "[I", true)
  | 34 => ("ToolHouseModel", "row", "[I", true)
  | 35 => ("ToolHouseModel", "many", "I", false)
  | 36 => ("ToolHouseModel", "tried", "[I", true)
  | 37 => ("ToolHouseModel", "best", "[I", true)
  | 38 => ("ToolHouseModel", "bestWorth", "I", false)
  | 39 => ("ToolHouseModel", "can", "[Z", true)
  | 40 => ("ToolHouseModel", "isDone", "[Z", true)
  | 41 => ("ToolHouseModel", "order", "[I", true)
  | _ => ("ToolHouseModel", "mostTo", "[I", true)
def tyX9 : Nat → FieldType := fun k => match k with
  | 0 => .int
  | 1 => .int
  | 2 => .array .int
  | 3 => .array .int
  | 4 => .array .int
  | 5 => .int
  | 6 => .array .int
  | 7 => .array .int
  | 8 => .int
  | 9 => .array .int
  | 10 => .array .int
  | 11 => .int
  | 12 => .array .byte
  | 13 => .int
  | 14 => .int
  | 15 => .array .int
  | 16 => .array .int
  | 17 => .int
  | 18 => .int
  | 19 => .int
  | 20 => .int
  | 21 => .int
  | 22 => .int
  | 23 => .int
  | 24 => .array .int
  | 25 => .array .int
  | 26 => .array .int
  | 27 => .array .int
  | 28 => .array .int
  | 29 => .array .int
  | 30 => .array .int
  | 31 => .array .int
  | 32 => .array .int
  | 33 => .array .int
  | 34 => .array .int
  | 35 => .int
  | 36 => .array .int
  | 37 => .array .int
  | 38 => .int
  | 39 => .array .boolean
  | 40 => .array .boolean
  | 41 => .array .int
  | _ => .array .int
abbrev wsX90 : List Cond := u_ws RX9 TX9 43
theorem nmX9 : ∀ a, a < 43 → ∀ b, b < 43 → a ≠ b → (TX9 a).2.1 ≠ (TX9 b).2.1 := by decide +kernel
theorem tyX9_ok : ∀ k, k < 43 → parseFieldDescriptor (TX9 k).2.2.1 = some (tyX9 k) := by decide +kernel
abbrev cX9_init : ByteArray := prog_11_method_1_code
def yX9_init : MethodName := ⟨RX9, "<init>", "()V"⟩
abbrev cX9_thrown : ByteArray := prog_11_method_2_code
def yX9_thrown : MethodName := ⟨RX9, "thrown", "()I"⟩
abbrev cX9_within : ByteArray := prog_11_method_3_code
def yX9_within : MethodName := ⟨RX9, "within", "(III)Z"⟩
abbrev cX9_kind : ByteArray := prog_11_method_4_code
def yX9_kind : MethodName := ⟨RX9, "kind", "(III)I"⟩
abbrev cX9_isKind : ByteArray := prog_11_method_5_code
def yX9_isKind : MethodName := ⟨RX9, "isKind", "(I)Z"⟩
abbrev cX9_isThing : ByteArray := prog_11_method_6_code
def yX9_isThing : MethodName := ⟨RX9, "isThing", "(I)Z"⟩
abbrev cX9_isMember : ByteArray := prog_11_method_7_code
def yX9_isMember : MethodName := ⟨RX9, "isMember", "(I)Z"⟩
abbrev cX9_thing : ByteArray := prog_11_method_8_code
def yX9_thing : MethodName := ⟨RX9, "thing", "(I)I"⟩
abbrev cX9_member : ByteArray := prog_11_method_9_code
def yX9_member : MethodName := ⟨RX9, "member", "()I"⟩
abbrev cX9_feed : ByteArray := prog_11_method_10_code
def yX9_feed : MethodName := ⟨RX9, "feed", "(IIIII)I"⟩
abbrev cX9_end : ByteArray := prog_11_method_11_code
def yX9_end : MethodName := ⟨RX9, "end", "(I)I"⟩
abbrev cX9_byteAt : ByteArray := prog_11_method_12_code
def yX9_byteAt : MethodName := ⟨RX9, "byteAt", "(I)I"⟩
abbrev cX9_token : ByteArray := prog_11_method_13_code
def yX9_token : MethodName := ⟨RX9, "token", "()V"⟩
abbrev cX9_wrong : ByteArray := prog_11_method_14_code
def yX9_wrong : MethodName := ⟨RX9, "wrong", "(I)Z"⟩
abbrev cX9_isEvery : ByteArray := prog_11_method_15_code
def yX9_isEvery : MethodName := ⟨RX9, "isEvery", "()Z"⟩
abbrev cX9_statement : ByteArray := prog_11_method_16_code
def yX9_statement : MethodName := ⟨RX9, "statement", "()Z"⟩
abbrev cX9_law : ByteArray := prog_11_method_17_code
def yX9_law : MethodName := ⟨RX9, "law", "()I"⟩
abbrev cX9_place : ByteArray := prog_11_method_18_code
def yX9_place : MethodName := ⟨RX9, "place", "()I"⟩
abbrev cX9_wanted : ByteArray := prog_11_method_19_code
def yX9_wanted : MethodName := ⟨RX9, "wanted", "(I)I"⟩
abbrev cX9_isLawful : ByteArray := prog_11_method_20_code
def yX9_isLawful : MethodName := ⟨RX9, "isLawful", "(II)Z"⟩
abbrev cX9_look : ByteArray := prog_11_method_21_code
def yX9_look : MethodName := ⟨RX9, "look", "(I)Z"⟩
abbrev cX9_lawful : ByteArray := prog_11_method_22_code
def yX9_lawful : MethodName := ⟨RX9, "lawful", "(II)I"⟩
abbrev cX9_counted : ByteArray := prog_11_method_23_code
def yX9_counted : MethodName := ⟨RX9, "counted", "(I)I"⟩
abbrev cX9_ask : ByteArray := prog_11_method_24_code
def yX9_ask : MethodName := ⟨RX9, "ask", "(IIIIII)I"⟩
abbrev cX9_fits : ByteArray := prog_11_method_25_code
def yX9_fits : MethodName := ⟨RX9, "fits", "(II)Z"⟩
abbrev cX9_outWith : ByteArray := prog_11_method_26_code
def yX9_outWith : MethodName := ⟨RX9, "outWith", "(I)I"⟩
abbrev cX9_endOf : ByteArray := prog_11_method_27_code
def yX9_endOf : MethodName := ⟨RX9, "endOf", "(I)I"⟩
abbrev cX9_areNear : ByteArray := prog_11_method_28_code
def yX9_areNear : MethodName := ⟨RX9, "areNear", "(JJJJI)Z"⟩
abbrev cX9_isFreeFor : ByteArray := prog_11_method_29_code
def yX9_isFreeFor : MethodName := ⟨RX9, "isFreeFor", "(IIII)Z"⟩
abbrev cX9_worth : ByteArray := prog_11_method_30_code
def yX9_worth : MethodName := ⟨RX9, "worth", "()I"⟩
abbrev cX9_stands : ByteArray := prog_11_method_31_code
def yX9_stands : MethodName := ⟨RX9, "stands", "(II)Z"⟩
abbrev cX9_tries : ByteArray := prog_11_method_32_code
def yX9_tries : MethodName := ⟨RX9, "tries", "(I)V"⟩
abbrev cX9_plan : ByteArray := prog_11_method_33_code
def yX9_plan : MethodName := ⟨RX9, "plan", "()I"⟩
abbrev cX9_off : ByteArray := prog_11_method_34_code
def yX9_off : MethodName := ⟨RX9, "off", "(I)Z"⟩
abbrev cX9_out : ByteArray := prog_11_method_35_code
def yX9_out : MethodName := ⟨RX9, "out", "(I)I"⟩
abbrev cX9_back : ByteArray := prog_11_method_36_code
def yX9_back : MethodName := ⟨RX9, "back", "(I)I"⟩
abbrev cX9_work : ByteArray := prog_11_method_37_code
def yX9_work : MethodName := ⟨RX9, "work", "(II)I"⟩
abbrev cX9_isLate : ByteArray := prog_11_method_38_code
def yX9_isLate : MethodName := ⟨RX9, "isLate", "(I)Z"⟩
abbrev cX9_days : ByteArray := prog_11_method_39_code
def yX9_days : MethodName := ⟨RX9, "days", "(I)I"⟩
abbrev cX9_moves : ByteArray := prog_11_method_40_code
def yX9_moves : MethodName := ⟨RX9, "moves", "()V"⟩
abbrev cX9_isAhead : ByteArray := prog_11_method_41_code
def yX9_isAhead : MethodName := ⟨RX9, "isAhead", "(II)Z"⟩
abbrev cX9_moves_ : ByteArray := prog_11_method_42_code
def yX9_moves_ : MethodName := ⟨RX9, "moves", "(I)V"⟩
abbrev cX9_buy : ByteArray := prog_11_method_43_code
def yX9_buy : MethodName := ⟨RX9, "buy", "(I)I"⟩
abbrev cX9_of : ByteArray := prog_11_method_44_code
def yX9_of : MethodName := ⟨RX9, "of", "(II)I"⟩
abbrev cX9_thingOf : ByteArray := prog_11_method_45_code
def yX9_thingOf : MethodName := ⟨RX9, "thingOf", "(II)I"⟩
abbrev cX9_isFree : ByteArray := prog_11_method_46_code
def yX9_isFree : MethodName := ⟨RX9, "isFree", "(III)I"⟩
abbrev cX9_memberOf : ByteArray := prog_11_method_47_code
def yX9_memberOf : MethodName := ⟨RX9, "memberOf", "(II)I"⟩
abbrev cX9_count : ByteArray := prog_11_method_48_code
def yX9_count : MethodName := ⟨RX9, "count", "(I)I"⟩
def RJx145de : String := "java/io/Serializable"
def TJx145de : u_T := fun k => match k with
  | _ => ("", "", "", false)
def tyJx145de : Nat → FieldType := fun k => match k with
  | _ => .int
abbrev wsJx145de0 : List Cond := u_ws RJx145de TJx145de 0
theorem nmJx145de : ∀ a, a < 0 → ∀ b, b < 0 → a ≠ b → (TJx145de a).2.1 ≠ (TJx145de b).2.1 := by decide +kernel
theorem tyJx145de_ok : ∀ k, k < 0 → parseFieldDescriptor (TJx145de k).2.2.1 = some (tyJx145de k) := by decide +kernel
def RJx8e188 : String := "java/lang/Cloneable"
def TJx8e188 : u_T := fun k => match k with
  | _ => ("", "", "", false)
def tyJx8e188 : Nat → FieldType := fun k => match k with
  | _ => .int
abbrev wsJx8e1880 : List Cond := u_ws RJx8e188 TJx8e188 0
theorem nmJx8e188 : ∀ a, a < 0 → ∀ b, b < 0 → a ≠ b → (TJx8e188 a).2.1 ≠ (TJx8e188 b).2.1 := by decide +kernel
theorem tyJx8e188_ok : ∀ k, k < 0 → parseFieldDescriptor (TJx8e188 k).2.2.1 = some (tyJx8e188 k) := by decide +kernel
def RJxab1ab : String := "java/lang/Iterable"
def TJxab1ab : u_T := fun k => match k with
  | _ => ("", "", "", false)
def tyJxab1ab : Nat → FieldType := fun k => match k with
  | _ => .int
abbrev wsJxab1ab0 : List Cond := u_ws RJxab1ab TJxab1ab 0
theorem nmJxab1ab : ∀ a, a < 0 → ∀ b, b < 0 → a ≠ b → (TJxab1ab a).2.1 ≠ (TJxab1ab b).2.1 := by decide +kernel
theorem tyJxab1ab_ok : ∀ k, k < 0 → parseFieldDescriptor (TJxab1ab k).2.2.1 = some (tyJxab1ab k) := by decide +kernel
def RJ9 : String := "java/lang/Math"
def TJ9 : u_T := fun k => match k with
  | _ => ("", "", "", false)
def tyJ9 : Nat → FieldType := fun k => match k with
  | _ => .int
abbrev wsJ90 : List Cond := u_ws RJ9 TJ9 0
theorem nmJ9 : ∀ a, a < 0 → ∀ b, b < 0 → a ≠ b → (TJ9 a).2.1 ≠ (TJ9 b).2.1 := by decide +kernel
theorem tyJ9_ok : ∀ k, k < 0 → parseFieldDescriptor (TJ9 k).2.2.1 = some (tyJ9 k) := by decide +kernel
abbrev cJ9_max_7cf53 : ByteArray := prog_16_method_65_code
def yJ9_max_7cf53 : MethodName := ⟨RJ9, "max", "(II)I"⟩
abbrev cJ9_min_7cf53 : ByteArray := prog_16_method_69_code
def yJ9_min_7cf53 : MethodName := ⟨RJ9, "min", "(II)I"⟩
def RJ0 : String := "java/lang/String"
def TJ0 : u_T := fun k => match k with
  | _ => ("", "", "", false)
def tyJ0 : Nat → FieldType := fun k => match k with
  | _ => .int
abbrev wsJ00 : List Cond := u_ws RJ0 TJ0 0
theorem nmJ0 : ∀ a, a < 0 → ∀ b, b < 0 → a ≠ b → (TJ0 a).2.1 ≠ (TJ0 b).2.1 := by decide +kernel
theorem tyJ0_ok : ∀ k, k < 0 → parseFieldDescriptor (TJ0 k).2.2.1 = some (tyJ0 k) := by decide +kernel
abbrev cJ0_length_8abf5 : ByteArray := prog_18_method_54_code
def yJ0_length_8abf5 : MethodName := ⟨RJ0, "length", "()I"⟩
abbrev cJ0_charAt_5068e : ByteArray := prog_18_method_56_code
def yJ0_charAt_5068e : MethodName := ⟨RJ0, "charAt", "(I)C"⟩
abbrev cJ0_coder_7d493 : ByteArray := prog_18_method_152_code
def yJ0_coder_7d493 : MethodName := ⟨RJ0, "coder", "()B"⟩
abbrev cJ0_isLatin1_aae02 : ByteArray := prog_18_method_154_code
def yJ0_isLatin1_aae02 : MethodName := ⟨RJ0, "isLatin1", "()Z"⟩
abbrev cJ0_checkIndex_df160 : ByteArray := prog_18_method_155_code
def yJ0_checkIndex_df160 : MethodName := ⟨RJ0, "checkIndex", "(II)V"⟩
def RJ1 : String := "java/lang/StringLatin1"
def TJ1 : u_T := fun k => match k with
  | _ => ("", "", "", false)
def tyJ1 : Nat → FieldType := fun k => match k with
  | _ => .int
abbrev wsJ10 : List Cond := u_ws RJ1 TJ1 0
theorem nmJ1 : ∀ a, a < 0 → ∀ b, b < 0 → a ≠ b → (TJ1 a).2.1 ≠ (TJ1 b).2.1 := by decide +kernel
theorem tyJ1_ok : ∀ k, k < 0 → parseFieldDescriptor (TJ1 k).2.2.1 = some (tyJ1 k) := by decide +kernel
abbrev cJ1_charAt_3b067 : ByteArray := prog_19_method_2_code
def yJ1_charAt_3b067 : MethodName := ⟨RJ1, "charAt", "([BI)C"⟩
def RJ2 : String := "java/lang/StringUTF16"
def TJ2 : u_T := fun k => match k with
  | _ => ("", "", "", false)
def tyJ2 : Nat → FieldType := fun k => match k with
  | _ => .int
abbrev wsJ20 : List Cond := u_ws RJ2 TJ2 0
theorem nmJ2 : ∀ a, a < 0 → ∀ b, b < 0 → a ≠ b → (TJ2 a).2.1 ≠ (TJ2 b).2.1 := by decide +kernel
theorem tyJ2_ok : ∀ k, k < 0 → parseFieldDescriptor (TJ2 k).2.2.1 = some (tyJ2 k) := by decide +kernel
abbrev cJ2_getChar_3b067 : ByteArray := prog_20_method_5_code
def yJ2_getChar_3b067 : MethodName := ⟨RJ2, "getChar", "([BI)C"⟩
abbrev cJ2_length_9d52b : ByteArray := prog_20_method_6_code
def yJ2_length_9d52b : MethodName := ⟨RJ2, "length", "([B)I"⟩
abbrev cJ2_charAt_3b067 : ByteArray := prog_20_method_83_code
def yJ2_charAt_3b067 : MethodName := ⟨RJ2, "charAt", "([BI)C"⟩
abbrev cJ2_checkIndex_2214a : ByteArray := prog_20_method_91_code
def yJ2_checkIndex_2214a : MethodName := ⟨RJ2, "checkIndex", "(I[B)V"⟩
def RJ10 : String := "java/lang/System"
def TJ10 : u_T := fun k => match k with
  | _ => ("", "", "", false)
def tyJ10 : Nat → FieldType := fun k => match k with
  | _ => .int
abbrev wsJ100 : List Cond := u_ws RJ10 TJ10 0
theorem nmJ10 : ∀ a, a < 0 → ∀ b, b < 0 → a ≠ b → (TJ10 a).2.1 ≠ (TJ10 b).2.1 := by decide +kernel
theorem tyJ10_ok : ∀ k, k < 0 → parseFieldDescriptor (TJ10 k).2.2.1 = some (tyJ10 k) := by decide +kernel
def RJxa1e45 : String := "java/util/AbstractCollection"
def TJxa1e45 : u_T := fun k => match k with
  | _ => ("", "", "", false)
def tyJxa1e45 : Nat → FieldType := fun k => match k with
  | _ => .int
abbrev wsJxa1e450 : List Cond := u_ws RJxa1e45 TJxa1e45 0
theorem nmJxa1e45 : ∀ a, a < 0 → ∀ b, b < 0 → a ≠ b → (TJxa1e45 a).2.1 ≠ (TJxa1e45 b).2.1 := by decide +kernel
theorem tyJxa1e45_ok : ∀ k, k < 0 → parseFieldDescriptor (TJxa1e45 k).2.2.1 = some (tyJxa1e45 k) := by decide +kernel
abbrev cJxa1e45_init_da8c8 : ByteArray := prog_23_method_1_code
def yJxa1e45_init_da8c8 : MethodName := ⟨RJxa1e45, "<init>", "()V"⟩
def RJxc12de : String := "java/util/AbstractList"
def TJxc12de : u_T := fun k => match k with
  | _ => ("", "", "", false)
def tyJxc12de : Nat → FieldType := fun k => match k with
  | _ => .int
abbrev wsJxc12de0 : List Cond := u_ws RJxc12de TJxc12de 0
theorem nmJxc12de : ∀ a, a < 0 → ∀ b, b < 0 → a ≠ b → (TJxc12de a).2.1 ≠ (TJxc12de b).2.1 := by decide +kernel
theorem tyJxc12de_ok : ∀ k, k < 0 → parseFieldDescriptor (TJxc12de k).2.2.1 = some (tyJxc12de k) := by decide +kernel
abbrev cJxc12de_init_da8c8 : ByteArray := prog_24_method_1_code
def yJxc12de_init_da8c8 : MethodName := ⟨RJxc12de, "<init>", "()V"⟩
def RJx4a65c : String := "java/util/ArrayList"
def TJx4a65c : u_T := fun k => match k with
  | 0 => ("java/util/AbstractList", "modCount", "I", false)
  | 1 => ("java/util/ArrayList", "elementData", "[Ljava/lang/Object;", false)
  | _ => ("java/util/ArrayList", "size", "I", false)
def tyJx4a65c : Nat → FieldType := fun k => match k with
  | 0 => .int
  | 1 => .array (.object "java/lang/Object")
  | _ => .int
abbrev wsJx4a65c0 : List Cond := u_ws RJx4a65c TJx4a65c 3
theorem nmJx4a65c : ∀ a, a < 3 → ∀ b, b < 3 → a ≠ b → (TJx4a65c a).2.1 ≠ (TJx4a65c b).2.1 := by decide +kernel
theorem tyJx4a65c_ok : ∀ k, k < 3 → parseFieldDescriptor (TJx4a65c k).2.2.1 = some (tyJx4a65c k) := by decide +kernel
abbrev cJx4a65c_init_da8c8 : ByteArray := prog_25_method_2_code
def yJx4a65c_init_da8c8 : MethodName := ⟨RJx4a65c, "<init>", "()V"⟩
abbrev cJx4a65c_grow_92f84 : ByteArray := prog_25_method_6_code
def yJx4a65c_grow_92f84 : MethodName := ⟨RJx4a65c, "grow", "(I)[Ljava/lang/Object;"⟩
abbrev cJx4a65c_grow_d5877 : ByteArray := prog_25_method_7_code
def yJx4a65c_grow_d5877 : MethodName := ⟨RJx4a65c, "grow", "()[Ljava/lang/Object;"⟩
abbrev cJx4a65c_size_8abf5 : ByteArray := prog_25_method_8_code
def yJx4a65c_size_8abf5 : MethodName := ⟨RJx4a65c, "size", "()I"⟩
abbrev cJx4a65c_elementData_915e3 : ByteArray := prog_25_method_18_code
def yJx4a65c_elementData_915e3 : MethodName := ⟨RJx4a65c, "elementData", "(I)Ljava/lang/Object;"⟩
abbrev cJx4a65c_get_915e3 : ByteArray := prog_25_method_20_code
def yJx4a65c_get_915e3 : MethodName := ⟨RJx4a65c, "get", "(I)Ljava/lang/Object;"⟩
abbrev cJx4a65c_add_72be8 : ByteArray := prog_25_method_24_code
def yJx4a65c_add_72be8 : MethodName := ⟨RJx4a65c, "add", "(Ljava/lang/Object;[Ljava/lang/Object;I)V"⟩
abbrev cJx4a65c_add_9ea2d : ByteArray := prog_25_method_25_code
def yJx4a65c_add_9ea2d : MethodName := ⟨RJx4a65c, "add", "(Ljava/lang/Object;)Z"⟩
abbrev cJx4a65c_add_7a177 : ByteArray := prog_25_method_26_code
def yJx4a65c_add_7a177 : MethodName := ⟨RJx4a65c, "add", "(ILjava/lang/Object;)V"⟩
abbrev cJx4a65c_rangeCheckForAdd_d00df : ByteArray := prog_25_method_45_code
def yJx4a65c_rangeCheckForAdd_d00df : MethodName := ⟨RJx4a65c, "rangeCheckForAdd", "(I)V"⟩
def RJ7 : String := "java/util/Arrays"
def TJ7 : u_T := fun k => match k with
  | _ => ("", "", "", false)
def tyJ7 : Nat → FieldType := fun k => match k with
  | _ => .int
abbrev wsJ70 : List Cond := u_ws RJ7 TJ7 0
theorem nmJ7 : ∀ a, a < 0 → ∀ b, b < 0 → a ≠ b → (TJ7 a).2.1 ≠ (TJ7 b).2.1 := by decide +kernel
theorem tyJ7_ok : ∀ k, k < 0 → parseFieldDescriptor (TJ7 k).2.2.1 = some (tyJ7 k) := by decide +kernel
abbrev cJ7_fill_53178 : ByteArray := prog_26_method_103_code
def yJ7_fill_53178 : MethodName := ⟨RJ7, "fill", "([II)V"⟩
abbrev cJ7_copyOf_1904c : ByteArray := prog_26_method_119_code
def yJ7_copyOf_1904c : MethodName := ⟨RJ7, "copyOf", "([Ljava/lang/Object;I)[Ljava/lang/Object;"⟩
abbrev cJ7_copyOf_6403c : ByteArray := prog_26_method_120_code
def yJ7_copyOf_6403c : MethodName := ⟨RJ7, "copyOf", "([Ljava/lang/Object;ILjava/lang/Class;)[Ljava/lang/Object;"⟩
def RJx5ef63 : String := "java/util/Collection"
def TJx5ef63 : u_T := fun k => match k with
  | _ => ("", "", "", false)
def tyJx5ef63 : Nat → FieldType := fun k => match k with
  | _ => .int
abbrev wsJx5ef630 : List Cond := u_ws RJx5ef63 TJx5ef63 0
theorem nmJx5ef63 : ∀ a, a < 0 → ∀ b, b < 0 → a ≠ b → (TJx5ef63 a).2.1 ≠ (TJx5ef63 b).2.1 := by decide +kernel
theorem tyJx5ef63_ok : ∀ k, k < 0 → parseFieldDescriptor (TJx5ef63 k).2.2.1 = some (tyJx5ef63 k) := by decide +kernel
def RJxbd725 : String := "java/util/List"
def TJxbd725 : u_T := fun k => match k with
  | _ => ("", "", "", false)
def tyJxbd725 : Nat → FieldType := fun k => match k with
  | _ => .int
abbrev wsJxbd7250 : List Cond := u_ws RJxbd725 TJxbd725 0
theorem nmJxbd725 : ∀ a, a < 0 → ∀ b, b < 0 → a ≠ b → (TJxbd725 a).2.1 ≠ (TJxbd725 b).2.1 := by decide +kernel
theorem tyJxbd725_ok : ∀ k, k < 0 → parseFieldDescriptor (TJxbd725 k).2.2.1 = some (tyJxbd725 k) := by decide +kernel
def RJ15 : String := "java/util/Objects"
def TJ15 : u_T := fun k => match k with
  | _ => ("", "", "", false)
def tyJ15 : Nat → FieldType := fun k => match k with
  | _ => .int
abbrev wsJ150 : List Cond := u_ws RJ15 TJ15 0
theorem nmJ15 : ∀ a, a < 0 → ∀ b, b < 0 → a ≠ b → (TJ15 a).2.1 ≠ (TJ15 b).2.1 := by decide +kernel
theorem tyJ15_ok : ∀ k, k < 0 → parseFieldDescriptor (TJ15 k).2.2.1 = some (tyJ15 k) := by decide +kernel
abbrev cJ15_checkIndex_7cf53 : ByteArray := prog_30_method_17_code
def yJ15_checkIndex_7cf53 : MethodName := ⟨RJ15, "checkIndex", "(II)I"⟩
def RJxf0a74 : String := "java/util/RandomAccess"
def TJxf0a74 : u_T := fun k => match k with
  | _ => ("", "", "", false)
def tyJxf0a74 : Nat → FieldType := fun k => match k with
  | _ => .int
abbrev wsJxf0a740 : List Cond := u_ws RJxf0a74 TJxf0a74 0
theorem nmJxf0a74 : ∀ a, a < 0 → ∀ b, b < 0 → a ≠ b → (TJxf0a74 a).2.1 ≠ (TJxf0a74 b).2.1 := by decide +kernel
theorem tyJxf0a74_ok : ∀ k, k < 0 → parseFieldDescriptor (TJxf0a74 k).2.2.1 = some (tyJxf0a74 k) := by decide +kernel
def RJxa66e6 : String := "java/util/SequencedCollection"
def TJxa66e6 : u_T := fun k => match k with
  | _ => ("", "", "", false)
def tyJxa66e6 : Nat → FieldType := fun k => match k with
  | _ => .int
abbrev wsJxa66e60 : List Cond := u_ws RJxa66e6 TJxa66e6 0
theorem nmJxa66e6 : ∀ a, a < 0 → ∀ b, b < 0 → a ≠ b → (TJxa66e6 a).2.1 ≠ (TJxa66e6 b).2.1 := by decide +kernel
theorem tyJxa66e6_ok : ∀ k, k < 0 → parseFieldDescriptor (TJxa66e6 k).2.2.1 = some (tyJxa66e6 k) := by decide +kernel
def RJ8 : String := "jdk/internal/util/ArraysSupport"
def TJ8 : u_T := fun k => match k with
  | _ => ("", "", "", false)
def tyJ8 : Nat → FieldType := fun k => match k with
  | _ => .int
abbrev wsJ80 : List Cond := u_ws RJ8 TJ8 0
theorem nmJ8 : ∀ a, a < 0 → ∀ b, b < 0 → a ≠ b → (TJ8 a).2.1 ≠ (TJ8 b).2.1 := by decide +kernel
theorem tyJ8_ok : ∀ k, k < 0 → parseFieldDescriptor (TJ8 k).2.2.1 = some (tyJ8 k) := by decide +kernel
abbrev cJ8_newLength_cabcc : ByteArray := prog_33_method_27_code
def yJ8_newLength_cabcc : MethodName := ⟨RJ8, "newLength", "(III)I"⟩
abbrev cJ8_hugeLength_7cf53 : ByteArray := prog_33_method_28_code
def yJ8_hugeLength_7cf53 : MethodName := ⟨RJ8, "hugeLength", "(II)I"⟩
def RJ3 : String := "jdk/internal/util/Preconditions"
def TJ3 : u_T := fun k => match k with
  | _ => ("", "", "", false)
def tyJ3 : Nat → FieldType := fun k => match k with
  | _ => .int
abbrev wsJ30 : List Cond := u_ws RJ3 TJ3 0
theorem nmJ3 : ∀ a, a < 0 → ∀ b, b < 0 → a ≠ b → (TJ3 a).2.1 ≠ (TJ3 b).2.1 := by decide +kernel
theorem tyJ3_ok : ∀ k, k < 0 → parseFieldDescriptor (TJ3 k).2.2.1 = some (tyJ3 k) := by decide +kernel
abbrev cJ3_checkIndex_8e157 : ByteArray := prog_34_method_11_code
def yJ3_checkIndex_8e157 : MethodName := ⟨RJ3, "checkIndex", "(IILjava/util/function/BiFunction;)I"⟩
def RL : String := "ToolHouseLaw"
abbrev cL_of : ByteArray := method_3_code
def yL_of : MethodName := ⟨RL, "of", "(LToolHouse;II[J)I"⟩
abbrev cL_law : ByteArray := code
def yL_law : MethodName := ⟨RL, "law", "([I)Z"⟩
/-- the words that every method of the game has -/
def TB : List Cond := lw_tbl.filter goodWord
end
section

/-! THE GAME: a lighter judgement over the machine, for all methods at once. g: what is fixed (launch, class numbers, array classes, the heap's size at the law's entry, old addresses, the script). -/
abbrev gT : Type := Launch × va_G × (Nat → ClassId) × Nat × (Nat → Nat) × Nat × (Nat → Int32)
abbrev g_D (g : gT) : va_G := g.2.1
abbrev g_c (g : gT) : Nat → ClassId := g.2.2.1
abbrev g_z (g : gT) : Nat := g.2.2.2.1
abbrev g_o (g : gT) : Nat → Nat := g.2.2.2.2.1
abbrev g_n (g : gT) : Nat := g.2.2.2.2.2.1
abbrev g_x (g : gT) : Nat → Int32 := g.2.2.2.2.2.2
def g_ad (g : gT) (i : Nat) : Nat := if i < 8 then g_o g i else g_z g + (i - 8)
def g_v (g : gT) (v : Value) : Value := match v with
  | .ref i => .ref (g_ad g i)
  | .int a => .int a
  | .long a => .long a
  | .float a => .float a
  | .double a => .double a
  | .null => .null
  | .retAddr a => .retAddr a
def g_a (g : gT) (a : vp_A) : vp_A := match a with
  | (n, .inr (.inr (.inr (.inr f)))) => (n, .inr (.inr (.inr (.inr (fun k => (f k).map (g_ad g))))))
  | (n, .inl f) => (n, .inl f)
  | (n, .inr (.inl f)) => (n, .inr (.inl f))
  | (n, .inr (.inr (.inl f))) => (n, .inr (.inr (.inl f)))
  | (n, .inr (.inr (.inr (.inl f)))) => (n, .inr (.inr (.inr (.inl f))))
abbrev mE : Type := (Nat × vp_A) ⊕ (Nat × List Value)
abbrev mH : Type := Nat → Option mE
abbrev mM : Type := MethodName × ByteArray × Nat × Option FieldType
def g_e (g : gT) (c : mE) : va_E := match c with
  | .inl (k, a) => .inl (g_c g k, g_a g a)
  | .inr (k, fs) => .inr (k, fs.map (g_v g))
def g_cl : List vw_C := [(RX0, TX0, 11), (RX1, TX1, 4), (RX2, TX2, 3), (RX3, TX3, 5), (RX4, TX4, 4), (RX5, TX5, 4), (RX6, TX6, 2), (RX7, TX7, 5), (RX8, TX8, 10), (RX9, TX9, 43), (RJx4a65c, TJx4a65c, 3)]
def g_tys (g : gT) : List (ClassId × FieldType) := [(g_c g 0, .int), (g_c g 1, .byte), (g_c g 2, .boolean), (g_c g 3, .long), (g_c g 4, .object "java/lang/Object"), (g_c g 5, .object "ToolHouse$Ask")]
abbrev g_A (g : gT) : Nat → Prop := fun q => g_z g ≤ q
/-- the heap holds the cells -/
def g_C (g : gT) (n : Nat) (h : mH) (H : Heap) : Prop := 8 ≤ n ∧ H.size = g_z g + (n - 8) ∧ ∀ (i : Nat) (c : mE), h i = some c → 8 ≤ i ∧ i < n ∧ va_at (g_D g) g_cl (g_ad g i, g_e g c) H
theorem g_ad_own (g : gT) {i : Nat} (h : 8 ≤ i) : g_ad g i = g_z g + (i - 8) := by simp [g_ad, Nat.not_lt.mpr h]
theorem g_ad_A (g : gT) {i : Nat} (h : 8 ≤ i) : g_A g (g_ad g i) := by show g_z g ≤ _; rw [g_ad_own g h]; omega
theorem g_ad_inj (g : gT) {i j : Nat} (h : 8 ≤ i) (h2 : 8 ≤ j) (e : g_ad g i = g_ad g j) : i = j := by rw [g_ad_own g h, g_ad_own g h2] at e; omega
theorem g_C.put {g : gT} {n i : Nat} {h : mH} {H H1 : Heap} {c0 c : mE} (hC : g_C g n h H) (hi : h i = some c0) (e : va_at (g_D g) g_cl (g_ad g i, g_e g c) H1) (z : H1.size = H.size) (oq : ∀ q : Nat, q ≠ g_ad g i → H1[q]? = H[q]?) : g_C g n (va_up h i (some c)) H1 := by
  obtain ⟨h1, h2, h3⟩ := hC
  refine ⟨h1, z.trans h2, fun j cj hj => ?_⟩
  by_cases hji : j = i
  · subst hji
    rw [va_up_self] at hj
    cases hj
    exact ⟨(h3 _ _ hi).1, (h3 _ _ hi).2.1, e⟩
  · rw [va_up_ne _ _ hji] at hj
    obtain ⟨a1, a2, a3⟩ := h3 j cj hj
    exact ⟨a1, a2, a3.kept (oq _ (fun q => hji (g_ad_inj g a1 (h3 _ _ hi).1 q)))⟩
theorem g_C.new {g : gT} {n : Nat} {h : mH} {H H1 : Heap} {c : mE} (hC : g_C g n h H) (e : va_at (g_D g) g_cl (H.size, g_e g c) H1) (z : H1.size = H.size + 1) (oq : ∀ q : Nat, q < H.size → H1[q]? = H[q]?) : g_C g (n + 1) (va_up h n (some c)) H1 ∧ g_ad g n = H.size := by
  obtain ⟨h1, h2, h3⟩ := hC
  have ea : g_ad g n = H.size := by rw [g_ad_own g h1, h2]
  refine ⟨⟨by omega, by rw [z, h2]; omega, fun j cj hj => ?_⟩, ea⟩
  by_cases hji : j = n
  · subst hji
    rw [va_up_self] at hj
    cases hj
    exact ⟨h1, by omega, by rw [ea]; exact e⟩
  · rw [va_up_ne _ _ hji] at hj
    obtain ⟨a1, a2, a3⟩ := h3 j cj hj
    exact ⟨a1, by omega, a3.kept (oq _ a3.lt)⟩
theorem g_S.put {g : gT} {H0 H H1 : Heap} {locs : List Loc} {i k : Nat} (h : va_S (g_A g) H0 H locs) (z : H1.size = H.size) (oq : ∀ q : Nat, q ≠ g_ad g i → H1[q]? = H[q]?) (h8 : 8 ≤ i) : va_S (g_A g) H0 H1 (locs ++ [⟨g_ad g i, k⟩]) := va_S.put h z oq (g_ad_A g h8)
theorem g_S.new {g : gT} {H0 H H1 : Heap} {locs : List Loc} (h : va_S (g_A g) H0 H locs) (z : H1.size = H.size + 1) (oq : ∀ q : Nat, q < H.size → H1[q]? = H[q]?) : va_S (g_A g) H0 H1 locs := ⟨Nat.le_trans h.1 (by omega), fun x h1 h2 => (oq x (Nat.lt_of_lt_of_le h1 h.1)).trans (h.2.1 x h1 h2), h.2.2⟩
/-- one cell as a world of its own, for the kit's reading rows -/
theorem g_P {g : gT} {n i : Nat} {h : mH} {H : Heap} {c : mE} (hC : g_C g n h H) (hi : h i = some c) : va_P (g_D g) g_cl [(g_ad g i, g_e g c)] H := by
  intro k q hq
  have hz : k < 1 := (List.getElem?_eq_some_iff.mp hq).1
  rw [show k = 0 by omega] at hq
  cases hq
  exact (hC.2.2 i c hi).2.2
/-! words that stay true but that the kit doesn't call good -/
def g_nw : Cond → Bool
  | .castable _ _ => true
  | .methodLinkNest _ _ _ _ => true
  | .declares _ => true
  | _ => false
def NW : List Cond := lw_tbl.filter g_nw
theorem g_nw_go {w : Cond} (hw : g_nw w = true) {s U : State} (hW : s.WarmedH U.vm) (h : va_Nw w s) : va_Nw w U := by
  cases w with
  | castable a b => exact va_Nw.warmC hW h
  | methodLinkNest a b c d => exact va_Nw.warmM hW h
  | declares a => exact va_Nw.warmD hW h
  | _ => simp [g_nw] at hw
theorem g_nw_same {w : Cond} (hw : g_nw w = true) {s U : State} (e : s.vm = U.vm) (h : va_Nw w s) : va_Nw w U := by
  cases w with
  | castable a b => exact va_Nw.same rfl e h
  | methodLinkNest a b c d => exact va_Nw.same rfl e h
  | declares a => exact va_Nw.same rfl e h
  | _ => simp [g_nw] at hw
/-- what was there before the law began and stays: statics, the script, words -/
def g_O (g : gT) (s : State) (H : Heap) : Prop :=
  (∀ w ∈ NW, va_Nw w s) ∧ va_Z "java/util/ArrayList" "DEFAULTCAPACITY_EMPTY_ELEMENTDATA" "[Ljava/lang/Object;" (.ref (g_o g 1)) (g_A g) s H ∧ va_T (.object "java/lang/Object") (g_o g 1) 0 (fun _ => .null) (g_A g) s H ∧ va_Z "java/lang/String" "COMPACT_STRINGS" "Z" (.int 1) (g_A g) s H ∧ va_AO "java/lang/Object" s ∧ va_AO "ToolHouse$Ask" s ∧ va_Mi "[Ljava/lang/Object;" (g_o g 6) s ∧ va_Dc s ∧ va_X (g_o g 0) (g_n g) (g_x g) s H ∧ (∀ i, i < 8 → g_o g i < g_z g) ∧ (g_z g ≤ H.size)
theorem g_O.go {g : gT} {s U : State} {H : Heap} {locs : List Loc} (h : g_O g s s.heap) (hS : va_S (g_A g) s.heap H locs) (hU : U.heap = H) (hW : s.WarmedH U.vm) : g_O g U U.heap := by
  obtain ⟨a1, a2, a3, a4, a5, a6, a7, a8, a9, a10, a11⟩ := h
  subst hU
  have hk : ∀ a : Nat, a < s.heap.size → ¬ g_A g a → U.heap[a]? = s.heap[a]? := hS.2.1
  have hal := hW.alike
  refine ⟨fun w hw => g_nw_go (List.mem_filter.mp hw).2 hW (a1 w hw), (a2.kept hk).moved hal, (a3.kept hk).moved hal, (a4.kept hk).moved hal, a5.moved hal, a6.moved hal, a7.moved hal, a8.moved hal, (a9.kept (hk _ ?_ ?_)).moved hal, a10, Nat.le_trans a11 hS.1⟩
  · have := a10 0 (by omega); omega
  · have := a10 0 (by omega); show ¬ g_z g ≤ _; omega
theorem g_O.same {g : gT} {s U : State} (h : g_O g s s.heap) (hU : U.heap = s.heap) (hW : s.vm = U.vm) : g_O g U U.heap := by
  obtain ⟨a1, a2, a3, a4, a5, a6, a7, a8, a9, a10, a11⟩ := h
  rw [hU]
  have hal : s.vm.Alike U.vm := by rw [hW]; exact Vm.Alike.refl _
  exact ⟨fun w hw => g_nw_same (List.mem_filter.mp hw).2 hW (a1 w hw), a2.moved hal, a3.moved hal, a4.moved hal, a5.moved hal, a6.moved hal, a7.moved hal, a8.moved hal, a9.moved hal, a10, a11⟩
/-! locals: a dense list; .retAddr is a place that isn't set -/
def g_ok (v : Value) : Bool := match v with
  | .retAddr _ => false
  | _ => true
def g_Lv (g : gT) (L : List Value) : List (Nat × Value) := L.zipIdx.filterMap (fun q => if g_ok q.1 then some (q.2, g_v g q.1) else none)
theorem g_Lv_mem {g : gT} {L : List Value} {q : Nat × Value} : q ∈ g_Lv g L ↔ ∃ v, L[q.1]? = some v ∧ g_ok v = true ∧ q.2 = g_v g v := by
  unfold g_Lv
  rw [List.mem_filterMap]
  constructor
  · rintro ⟨⟨v, i⟩, h1, h2⟩
    dsimp only at h2
    split at h2
    · rename_i h3
      cases h2
      exact ⟨v, List.mem_zipIdx_iff_getElem?.mp h1, h3, rfl⟩
    · cases h2
  · rintro ⟨v, h1, h2, h3⟩
    refine ⟨(v, q.1), List.mem_zipIdx_iff_getElem?.mpr h1, ?_⟩
    dsimp only
    rw [if_pos h2, ← h3]
theorem g_at {g : gT} {ls : Array Slot} {nL : Nat} {L : List Value} (h : lv_has ls nL (g_Lv g L)) {i : Nat} {v : Value} (hi : L[i]? = some v) (hv : g_ok v = true) : ls[i]? = some (.val (g_v g v)) := h.2.2 (i, g_v g v) (g_Lv_mem.mpr ⟨v, hi, hv, rfl⟩)
theorem g_cat (g : gT) (v : Value) : (g_v g v).category = v.category := by cases v <;> rfl
theorem g_cats (g : gT) (st : List Value) : ((st.map (g_v g)).map fun v => v.category).sum = (st.map fun v => v.category).sum := by
  rw [List.map_map]
  congr 1
  exact List.map_congr_left (fun v _ => g_cat g v)
theorem g_store {g : gT} {ls : Array Slot} {nL i : Nat} {L : List Value} {v : Value} (hi : i < L.length) (hc : ((L[i - 1]?).all (fun w => w.category == 1)) = true) (h : lv_has ls nL ((i, g_v g v) :: (g_Lv g L).filter (fun q => !(q.1 == i) && !(q.1 + 1 == i && q.2.category == 2)))) : lv_has ls nL (g_Lv g (L.set i v)) := by
  refine ⟨h.1, h.2.1, fun q hq => h.2.2 q ?_⟩
  obtain ⟨w, h1, h2, h3⟩ := g_Lv_mem.mp hq
  obtain ⟨j, u⟩ := q
  dsimp only at h1 h3
  subst h3
  by_cases hj : j = i
  · subst hj
    rw [List.getElem?_set_self hi] at h1
    cases h1
    exact List.mem_cons_self
  · rw [List.getElem?_set_ne (Ne.symm hj)] at h1
    refine List.mem_cons_of_mem _ (List.mem_filter.mpr ⟨g_Lv_mem.mpr ⟨w, h1, h2, rfl⟩, ?_⟩)
    have e1 : (j == i) = false := by simpa using hj
    rw [e1]
    by_cases hj1 : j + 1 = i
    · have e2 : i - 1 = j := by omega
      rw [e2, h1] at hc
      have hc' : w.category = 1 := by simpa using hc
      simp [g_cat, hc']
    · simp [hj1]
/-- what stands fast while a method runs -/
def g_S (g : gT) (k : mM) (p : Program) (s : State) (m : MethodId) (args : Array Value) (meth : Method) (c : Code) : Prop :=
  p.tables.exec = Jvm.exec ∧ c.code = k.2.1 ∧ c.maxLocals = k.2.2.1 ∧ meth.sig.returnType = k.2.2.2 ∧ meth.locks = false ∧ meth.name = k.1.name ∧ s.vm.findClass k.1.cls = some m.cls ∧ (∀ w ∈ TB, w.before args s = true) ∧ va_K (g_D g) g_cl (g_tys g) s ∧ g_O g s s.heap
def g_B (R : Room) (d x y cells slots : Nat) : Prop := d ≤ R.frames ∧ 40 * d ≤ R.locals ∧ cells + x ≤ R.cells ∧ slots + y ≤ R.slots
def g_E (g : gT) (k : mM) (L : List Value) (ls : Array Slot) : Prop := L.length = k.2.2.1 ∧ lv_has ls k.2.2.1 (g_Lv g L)
def g_Q (g : gT) (P : Option Value → Nat → mH → Prop) : Array Value → State → Outcome → State → Prop := fun _ st o t => (∃ (v : Option Value) (n : Nat) (h : mH), o = .returned (v.map (g_v g)) ∧ P v n h ∧ g_C g n h t.heap) ∧ va_F (g_A g) st t
/-- THE JUDGEMENT -/
def G (g : gT) (d x y : Nat) (k : mM) (pc : Nat) (L st : List Value) (n : Nat) (h : mH) (P : Option Value → Nat → mH → Prop) : Prop :=
  ∀ (p : Program) (e : Env) (R : Room) (s : State) (m : MethodId) (args : Array Value) (below : List Frame) (meth : Method) (c : Code) (H : Heap) (locs : List Loc) (cells slots : Nat) (ls : Array Slot),
    g_S g k p s m args meth c → g_B R d x y cells slots → g_C g n h H → va_S (g_A g) s.heap H locs → g_E g k L ls →
    W p g.1 e R s m args below meth c H locs cells slots (MQ below (g_Q g P) args s R.cells R.slots (g_A g)) (F0 m pc ls (st.map (g_v g)))
/-- a method's contract -/
def g_R (d x y : Nat) : Room := { frames := d, cells := x, slots := y, locals := 40 * d }
def g_I (g : gT) (n : Nat) (h : mH) (U : State) : Prop := g_C g n h U.heap ∧ va_K (g_D g) g_cl (g_tys g) U ∧ g_O g U U.heap
def g_ws (k : mM) : List Cond := Cond.code k.1 k.2.1 k.2.2.1 k.2.2.2 :: TB
def M (g : gT) (d x y : Nat) (k : mM) (av : List Value) (n : Nat) (h : mH) (P : Option Value → Nat → mH → Prop) : Prop :=
  Met g.1 k.1 (g_ws k) (g_R d x y) (va_Pc (av.map (g_v g)) (g_I g n h)) (g_Q g P) x y (g_A g)
theorem G_iconst {g : gT} {d x y : Nat} {k : mM} {pc : Nat} {L st : List Value} {n : Nat} {h : mH} {P : Option Value → Nat → mH → Prop} {i : Int} {v : Int32} (hd : decode k.2.1 pc = .ok (.iconst i, 1)) (hv : Int32.ofInt i = v) (K : G g d x y k (pc + 1) L (.int v :: st) n h P) : G g d x y k pc L (st) n h P := by
  intro p e R s m args below meth c H locs cells slots ls S B C F E
  exact lv_iconst S.1 S.2.1 hd hv (K p e R s m args below meth c H locs cells slots ls S B C F E)
theorem G_bipush {g : gT} {d x y : Nat} {k : mM} {pc : Nat} {L st : List Value} {n : Nat} {h : mH} {P : Option Value → Nat → mH → Prop} {i : Int} {v : Int32} (hd : decode k.2.1 pc = .ok (.bipush i, 2)) (hv : (Int8.ofInt i).toInt32 = v) (K : G g d x y k (pc + 2) L (.int v :: st) n h P) : G g d x y k pc L (st) n h P := by
  intro p e R s m args below meth c H locs cells slots ls S B C F E
  exact lv_bipush S.1 S.2.1 hd hv (K p e R s m args below meth c H locs cells slots ls S B C F E)
theorem G_sipush {g : gT} {d x y : Nat} {k : mM} {pc : Nat} {L st : List Value} {n : Nat} {h : mH} {P : Option Value → Nat → mH → Prop} {i : Int} {v : Int32} (hd : decode k.2.1 pc = .ok (.sipush i, 3)) (hv : (Int16.ofInt i).toInt32 = v) (K : G g d x y k (pc + 3) L (.int v :: st) n h P) : G g d x y k pc L (st) n h P := by
  intro p e R s m args below meth c H locs cells slots ls S B C F E
  exact lv_sipush S.1 S.2.1 hd hv (K p e R s m args below meth c H locs cells slots ls S B C F E)
theorem G_null {g : gT} {d x y : Nat} {k : mM} {pc : Nat} {L st : List Value} {n : Nat} {h : mH} {P : Option Value → Nat → mH → Prop}  (hd : decode k.2.1 pc = .ok (.aconst_null, 1)) (K : G g d x y k (pc + 1) L (.null :: st) n h P) : G g d x y k pc L (st) n h P := by
  intro p e R s m args below meth c H locs cells slots ls S B C F E
  exact lv_null S.1 S.2.1 hd  (K p e R s m args below meth c H locs cells slots ls S B C F E)
theorem G_iadd {g : gT} {d x y : Nat} {k : mM} {pc : Nat} {L st : List Value} {n : Nat} {h : mH} {P : Option Value → Nat → mH → Prop} {a b : Int32} (hd : decode k.2.1 pc = .ok (.iadd, 1)) (K : G g d x y k (pc + 1) L (.int (a + b) :: st) n h P) : G g d x y k pc L (.int b :: .int a :: st) n h P := by
  intro p e R s m args below meth c H locs cells slots ls S B C F E
  exact lv_iadd S.1 S.2.1 hd  (K p e R s m args below meth c H locs cells slots ls S B C F E)
theorem G_isub {g : gT} {d x y : Nat} {k : mM} {pc : Nat} {L st : List Value} {n : Nat} {h : mH} {P : Option Value → Nat → mH → Prop} {a b : Int32} (hd : decode k.2.1 pc = .ok (.isub, 1)) (K : G g d x y k (pc + 1) L (.int (a - b) :: st) n h P) : G g d x y k pc L (.int b :: .int a :: st) n h P := by
  intro p e R s m args below meth c H locs cells slots ls S B C F E
  exact lv_isub S.1 S.2.1 hd  (K p e R s m args below meth c H locs cells slots ls S B C F E)
theorem G_imul {g : gT} {d x y : Nat} {k : mM} {pc : Nat} {L st : List Value} {n : Nat} {h : mH} {P : Option Value → Nat → mH → Prop} {a b : Int32} (hd : decode k.2.1 pc = .ok (.imul, 1)) (K : G g d x y k (pc + 1) L (.int (a * b) :: st) n h P) : G g d x y k pc L (.int b :: .int a :: st) n h P := by
  intro p e R s m args below meth c H locs cells slots ls S B C F E
  exact lv_imul S.1 S.2.1 hd  (K p e R s m args below meth c H locs cells slots ls S B C F E)
theorem G_iand {g : gT} {d x y : Nat} {k : mM} {pc : Nat} {L st : List Value} {n : Nat} {h : mH} {P : Option Value → Nat → mH → Prop} {a b : Int32} (hd : decode k.2.1 pc = .ok (.iand, 1)) (K : G g d x y k (pc + 1) L (.int (a &&& b) :: st) n h P) : G g d x y k pc L (.int b :: .int a :: st) n h P := by
  intro p e R s m args below meth c H locs cells slots ls S B C F E
  exact lv_iand S.1 S.2.1 hd  (K p e R s m args below meth c H locs cells slots ls S B C F E)
theorem G_ior {g : gT} {d x y : Nat} {k : mM} {pc : Nat} {L st : List Value} {n : Nat} {h : mH} {P : Option Value → Nat → mH → Prop} {a b : Int32} (hd : decode k.2.1 pc = .ok (.ior, 1)) (K : G g d x y k (pc + 1) L (.int (a ||| b) :: st) n h P) : G g d x y k pc L (.int b :: .int a :: st) n h P := by
  intro p e R s m args below meth c H locs cells slots ls S B C F E
  exact lv_ior S.1 S.2.1 hd  (K p e R s m args below meth c H locs cells slots ls S B C F E)
theorem G_ixor {g : gT} {d x y : Nat} {k : mM} {pc : Nat} {L st : List Value} {n : Nat} {h : mH} {P : Option Value → Nat → mH → Prop} {a b : Int32} (hd : decode k.2.1 pc = .ok (.ixor, 1)) (K : G g d x y k (pc + 1) L (.int (a ^^^ b) :: st) n h P) : G g d x y k pc L (.int b :: .int a :: st) n h P := by
  intro p e R s m args below meth c H locs cells slots ls S B C F E
  exact lv_ixor S.1 S.2.1 hd  (K p e R s m args below meth c H locs cells slots ls S B C F E)
theorem G_idiv {g : gT} {d x y : Nat} {k : mM} {pc : Nat} {L st : List Value} {n : Nat} {h : mH} {P : Option Value → Nat → mH → Prop} {a b : Int32} (hd : decode k.2.1 pc = .ok (.idiv, 1)) (hb : ¬ b = 0) (K : G g d x y k (pc + 1) L (.int (a / b) :: st) n h P) : G g d x y k pc L (.int b :: .int a :: st) n h P := by
  intro p e R s m args below meth c H locs cells slots ls S B C F E
  exact lv_idiv S.1 S.2.1 hd hb (K p e R s m args below meth c H locs cells slots ls S B C F E)
theorem G_irem {g : gT} {d x y : Nat} {k : mM} {pc : Nat} {L st : List Value} {n : Nat} {h : mH} {P : Option Value → Nat → mH → Prop} {a b : Int32} (hd : decode k.2.1 pc = .ok (.irem, 1)) (hb : ¬ b = 0) (K : G g d x y k (pc + 1) L (.int (a - a / b * b) :: st) n h P) : G g d x y k pc L (.int b :: .int a :: st) n h P := by
  intro p e R s m args below meth c H locs cells slots ls S B C F E
  exact lv_irem S.1 S.2.1 hd hb (K p e R s m args below meth c H locs cells slots ls S B C F E)
theorem G_ineg {g : gT} {d x y : Nat} {k : mM} {pc : Nat} {L st : List Value} {n : Nat} {h : mH} {P : Option Value → Nat → mH → Prop} {a : Int32} (hd : decode k.2.1 pc = .ok (.ineg, 1)) (K : G g d x y k (pc + 1) L (.int (-a) :: st) n h P) : G g d x y k pc L (.int a :: st) n h P := by
  intro p e R s m args below meth c H locs cells slots ls S B C F E
  exact lv_ineg S.1 S.2.1 hd  (K p e R s m args below meth c H locs cells slots ls S B C F E)
theorem G_ladd {g : gT} {d x y : Nat} {k : mM} {pc : Nat} {L st : List Value} {n : Nat} {h : mH} {P : Option Value → Nat → mH → Prop} {a b : Int64} (hd : decode k.2.1 pc = .ok (.ladd, 1)) (K : G g d x y k (pc + 1) L (.long (a + b) :: st) n h P) : G g d x y k pc L (.long b :: .long a :: st) n h P := by
  intro p e R s m args below meth c H locs cells slots ls S B C F E
  exact lv_ladd S.1 S.2.1 hd  (K p e R s m args below meth c H locs cells slots ls S B C F E)
theorem G_lsub {g : gT} {d x y : Nat} {k : mM} {pc : Nat} {L st : List Value} {n : Nat} {h : mH} {P : Option Value → Nat → mH → Prop} {a b : Int64} (hd : decode k.2.1 pc = .ok (.lsub, 1)) (K : G g d x y k (pc + 1) L (.long (a - b) :: st) n h P) : G g d x y k pc L (.long b :: .long a :: st) n h P := by
  intro p e R s m args below meth c H locs cells slots ls S B C F E
  exact lv_lsub S.1 S.2.1 hd  (K p e R s m args below meth c H locs cells slots ls S B C F E)
theorem G_ishl {g : gT} {d x y : Nat} {k : mM} {pc : Nat} {L st : List Value} {n : Nat} {h : mH} {P : Option Value → Nat → mH → Prop} {a b : Int32} (hd : decode k.2.1 pc = .ok (.ishl, 1)) (K : G g d x y k (pc + 1) L (.int (a <<< (b &&& 31)) :: st) n h P) : G g d x y k pc L (.int b :: .int a :: st) n h P := by
  intro p e R s m args below meth c H locs cells slots ls S B C F E
  exact lv_ishl S.1 S.2.1 hd  (K p e R s m args below meth c H locs cells slots ls S B C F E)
theorem G_ishr {g : gT} {d x y : Nat} {k : mM} {pc : Nat} {L st : List Value} {n : Nat} {h : mH} {P : Option Value → Nat → mH → Prop} {a b : Int32} (hd : decode k.2.1 pc = .ok (.ishr, 1)) (K : G g d x y k (pc + 1) L (.int (a >>> (b &&& 31)) :: st) n h P) : G g d x y k pc L (.int b :: .int a :: st) n h P := by
  intro p e R s m args below meth c H locs cells slots ls S B C F E
  exact lv_ishr S.1 S.2.1 hd  (K p e R s m args below meth c H locs cells slots ls S B C F E)
theorem G_iushr {g : gT} {d x y : Nat} {k : mM} {pc : Nat} {L st : List Value} {n : Nat} {h : mH} {P : Option Value → Nat → mH → Prop} {a b : Int32} (hd : decode k.2.1 pc = .ok (.iushr, 1)) (K : G g d x y k (pc + 1) L (.int (a.toUInt32 >>> (b.toUInt32 &&& Int32.toUInt32 31)).toInt32 :: st) n h P) : G g d x y k pc L (.int b :: .int a :: st) n h P := by
  intro p e R s m args below meth c H locs cells slots ls S B C F E
  exact lv_iushr S.1 S.2.1 hd rfl (K p e R s m args below meth c H locs cells slots ls S B C F E)
theorem G_i2l {g : gT} {d x y : Nat} {k : mM} {pc : Nat} {L st : List Value} {n : Nat} {h : mH} {P : Option Value → Nat → mH → Prop} {a : Int32} (hd : decode k.2.1 pc = .ok (.i2l, 1)) (K : G g d x y k (pc + 1) L (.long a.toInt64 :: st) n h P) : G g d x y k pc L (.int a :: st) n h P := by
  intro p e R s m args below meth c H locs cells slots ls S B C F E
  exact lv_i2l S.1 S.2.1 hd rfl (K p e R s m args below meth c H locs cells slots ls S B C F E)
theorem G_i2b {g : gT} {d x y : Nat} {k : mM} {pc : Nat} {L st : List Value} {n : Nat} {h : mH} {P : Option Value → Nat → mH → Prop} {a : Int32} (hd : decode k.2.1 pc = .ok (.i2b, 1)) (K : G g d x y k (pc + 1) L (.int a.toInt8.toInt32 :: st) n h P) : G g d x y k pc L (.int a :: st) n h P := by
  intro p e R s m args below meth c H locs cells slots ls S B C F E
  exact lv_i2b S.1 S.2.1 hd rfl (K p e R s m args below meth c H locs cells slots ls S B C F E)
theorem G_lcmp {g : gT} {d x y : Nat} {k : mM} {pc : Nat} {L st : List Value} {n : Nat} {h : mH} {P : Option Value → Nat → mH → Prop} {a b : Int64} (hd : decode k.2.1 pc = .ok (.lcmp, 1)) (K : G g d x y k (pc + 1) L (.int (lg_cmp a b) :: st) n h P) : G g d x y k pc L (.long b :: .long a :: st) n h P := by
  intro p e R s m args below meth c H locs cells slots ls S B C F E
  exact W.lcmp S.1 S.2.1 hd  (K p e R s m args below meth c H locs cells slots ls S B C F E)
theorem G_dup {g : gT} {d x y : Nat} {k : mM} {pc : Nat} {L st : List Value} {n : Nat} {h : mH} {P : Option Value → Nat → mH → Prop} {v : Value} (hd : decode k.2.1 pc = .ok (.dup, 1)) (hv : v.category = 1) (K : G g d x y k (pc + 1) L (v :: v :: st) n h P) : G g d x y k pc L (v :: st) n h P := by
  intro p e R s m args below meth c H locs cells slots ls S B C F E
  exact lv_dup S.1 S.2.1 hd ((g_cat g v).trans hv) (K p e R s m args below meth c H locs cells slots ls S B C F E)
theorem G_pop {g : gT} {d x y : Nat} {k : mM} {pc : Nat} {L st : List Value} {n : Nat} {h : mH} {P : Option Value → Nat → mH → Prop} {v : Value} (hd : decode k.2.1 pc = .ok (.pop, 1)) (hv : v.category = 1) (K : G g d x y k (pc + 1) L (st) n h P) : G g d x y k pc L (v :: st) n h P := by
  intro p e R s m args below meth c H locs cells slots ls S B C F E
  exact lv_pop S.1 S.2.1 hd ((g_cat g v).trans hv) (K p e R s m args below meth c H locs cells slots ls S B C F E)
theorem G_dup_x1 {g : gT} {d x y : Nat} {k : mM} {pc : Nat} {L st : List Value} {n : Nat} {h : mH} {P : Option Value → Nat → mH → Prop} {v w : Value} (hd : decode k.2.1 pc = .ok (.dup_x1, 1)) (hv : v.category = 1) (hw : w.category = 1) (K : G g d x y k (pc + 1) L (v :: w :: v :: st) n h P) : G g d x y k pc L (v :: w :: st) n h P := by
  intro p e R s m args below meth c H locs cells slots ls S B C F E
  exact lv_dup_x1 S.1 S.2.1 hd ((g_cat g v).trans hv) ((g_cat g w).trans hw) (K p e R s m args below meth c H locs cells slots ls S B C F E)
theorem G_dup2 {g : gT} {d x y : Nat} {k : mM} {pc : Nat} {L st : List Value} {n : Nat} {h : mH} {P : Option Value → Nat → mH → Prop} {v w : Value} (hd : decode k.2.1 pc = .ok (.dup2, 1)) (hv : v.category = 1) (hw : w.category = 1) (K : G g d x y k (pc + 1) L (v :: w :: v :: w :: st) n h P) : G g d x y k pc L (v :: w :: st) n h P := by
  intro p e R s m args below meth c H locs cells slots ls S B C F E
  exact lv_dup2_11 S.1 S.2.1 hd ((g_cat g v).trans hv) ((g_cat g w).trans hw) (K p e R s m args below meth c H locs cells slots ls S B C F E)
theorem G_goto {g : gT} {d x y : Nat} {k : mM} {pc : Nat} {L st : List Value} {n : Nat} {h : mH} {P : Option Value → Nat → mH → Prop} {off : Int} {tgt : Nat} (hd : decode k.2.1 pc = .ok (.goto off, 3)) (ht : (pc : Int) + off = (tgt : Int)) (K : G g d x y k tgt L (st) n h P) : G g d x y k pc L (st) n h P := by
  intro p e R s m args below meth c H locs cells slots ls S B C F E
  exact lv_goto S.1 S.2.1 hd ht (K p e R s m args below meth c H locs cells slots ls S B C F E)
theorem G_if_eq {g : gT} {d x y : Nat} {k : mM} {pc : Nat} {L st : List Value} {n : Nat} {h : mH} {P : Option Value → Nat → mH → Prop} {a : Int32} {off : Int} {tgt : Nat} (hd : decode k.2.1 pc = .ok (.ifCond .eq off, 3)) (ht : (pc : Int) + off = (tgt : Int)) (K : (a = 0) → G g d x y k tgt L (st) n h P) (K2 : ¬ (a = 0) → G g d x y k (pc + 3) L (st) n h P) : G g d x y k pc L (.int a :: st) n h P := by
  intro p e R s m args below meth c H locs cells slots ls S B C F E
  exact lv_if_eq S.1 S.2.1 hd ht (fun q => K q p e R s m args below meth c H locs cells slots ls S B C F E) (fun q => K2 q p e R s m args below meth c H locs cells slots ls S B C F E)
theorem G_icmp_eq {g : gT} {d x y : Nat} {k : mM} {pc : Nat} {L st : List Value} {n : Nat} {h : mH} {P : Option Value → Nat → mH → Prop} {a b : Int32} {off : Int} {tgt : Nat} (hd : decode k.2.1 pc = .ok (.if_icmp .eq off, 3)) (ht : (pc : Int) + off = (tgt : Int)) (K : (a = b) → G g d x y k tgt L (st) n h P) (K2 : ¬ (a = b) → G g d x y k (pc + 3) L (st) n h P) : G g d x y k pc L (.int b :: .int a :: st) n h P := by
  intro p e R s m args below meth c H locs cells slots ls S B C F E
  exact lv_icmp_eq S.1 S.2.1 hd ht (fun q => K q p e R s m args below meth c H locs cells slots ls S B C F E) (fun q => K2 q p e R s m args below meth c H locs cells slots ls S B C F E)
theorem G_if_ne {g : gT} {d x y : Nat} {k : mM} {pc : Nat} {L st : List Value} {n : Nat} {h : mH} {P : Option Value → Nat → mH → Prop} {a : Int32} {off : Int} {tgt : Nat} (hd : decode k.2.1 pc = .ok (.ifCond .ne off, 3)) (ht : (pc : Int) + off = (tgt : Int)) (K : (¬ a = 0) → G g d x y k tgt L (st) n h P) (K2 : a = 0 → G g d x y k (pc + 3) L (st) n h P) : G g d x y k pc L (.int a :: st) n h P := by
  intro p e R s m args below meth c H locs cells slots ls S B C F E
  exact lv_if_ne S.1 S.2.1 hd ht (fun q => K q p e R s m args below meth c H locs cells slots ls S B C F E) (fun q => K2 q p e R s m args below meth c H locs cells slots ls S B C F E)
theorem G_icmp_ne {g : gT} {d x y : Nat} {k : mM} {pc : Nat} {L st : List Value} {n : Nat} {h : mH} {P : Option Value → Nat → mH → Prop} {a b : Int32} {off : Int} {tgt : Nat} (hd : decode k.2.1 pc = .ok (.if_icmp .ne off, 3)) (ht : (pc : Int) + off = (tgt : Int)) (K : (¬ a = b) → G g d x y k tgt L (st) n h P) (K2 : a = b → G g d x y k (pc + 3) L (st) n h P) : G g d x y k pc L (.int b :: .int a :: st) n h P := by
  intro p e R s m args below meth c H locs cells slots ls S B C F E
  exact lv_icmp_ne S.1 S.2.1 hd ht (fun q => K q p e R s m args below meth c H locs cells slots ls S B C F E) (fun q => K2 q p e R s m args below meth c H locs cells slots ls S B C F E)
theorem G_if_lt {g : gT} {d x y : Nat} {k : mM} {pc : Nat} {L st : List Value} {n : Nat} {h : mH} {P : Option Value → Nat → mH → Prop} {a : Int32} {off : Int} {tgt : Nat} (hd : decode k.2.1 pc = .ok (.ifCond .lt off, 3)) (ht : (pc : Int) + off = (tgt : Int)) (K : (a < 0) → G g d x y k tgt L (st) n h P) (K2 : ¬ (a < 0) → G g d x y k (pc + 3) L (st) n h P) : G g d x y k pc L (.int a :: st) n h P := by
  intro p e R s m args below meth c H locs cells slots ls S B C F E
  exact lv_if_lt S.1 S.2.1 hd ht (fun q => K q p e R s m args below meth c H locs cells slots ls S B C F E) (fun q => K2 q p e R s m args below meth c H locs cells slots ls S B C F E)
theorem G_icmp_lt {g : gT} {d x y : Nat} {k : mM} {pc : Nat} {L st : List Value} {n : Nat} {h : mH} {P : Option Value → Nat → mH → Prop} {a b : Int32} {off : Int} {tgt : Nat} (hd : decode k.2.1 pc = .ok (.if_icmp .lt off, 3)) (ht : (pc : Int) + off = (tgt : Int)) (K : (a < b) → G g d x y k tgt L (st) n h P) (K2 : ¬ (a < b) → G g d x y k (pc + 3) L (st) n h P) : G g d x y k pc L (.int b :: .int a :: st) n h P := by
  intro p e R s m args below meth c H locs cells slots ls S B C F E
  exact lv_icmp_lt S.1 S.2.1 hd ht (fun q => K q p e R s m args below meth c H locs cells slots ls S B C F E) (fun q => K2 q p e R s m args below meth c H locs cells slots ls S B C F E)
theorem G_if_ge {g : gT} {d x y : Nat} {k : mM} {pc : Nat} {L st : List Value} {n : Nat} {h : mH} {P : Option Value → Nat → mH → Prop} {a : Int32} {off : Int} {tgt : Nat} (hd : decode k.2.1 pc = .ok (.ifCond .ge off, 3)) (ht : (pc : Int) + off = (tgt : Int)) (K : (0 ≤ a) → G g d x y k tgt L (st) n h P) (K2 : ¬ (0 ≤ a) → G g d x y k (pc + 3) L (st) n h P) : G g d x y k pc L (.int a :: st) n h P := by
  intro p e R s m args below meth c H locs cells slots ls S B C F E
  exact lv_if_ge S.1 S.2.1 hd ht (fun q => K q p e R s m args below meth c H locs cells slots ls S B C F E) (fun q => K2 q p e R s m args below meth c H locs cells slots ls S B C F E)
theorem G_icmp_ge {g : gT} {d x y : Nat} {k : mM} {pc : Nat} {L st : List Value} {n : Nat} {h : mH} {P : Option Value → Nat → mH → Prop} {a b : Int32} {off : Int} {tgt : Nat} (hd : decode k.2.1 pc = .ok (.if_icmp .ge off, 3)) (ht : (pc : Int) + off = (tgt : Int)) (K : (b ≤ a) → G g d x y k tgt L (st) n h P) (K2 : ¬ (b ≤ a) → G g d x y k (pc + 3) L (st) n h P) : G g d x y k pc L (.int b :: .int a :: st) n h P := by
  intro p e R s m args below meth c H locs cells slots ls S B C F E
  exact lv_icmp_ge S.1 S.2.1 hd ht (fun q => K q p e R s m args below meth c H locs cells slots ls S B C F E) (fun q => K2 q p e R s m args below meth c H locs cells slots ls S B C F E)
theorem G_if_gt {g : gT} {d x y : Nat} {k : mM} {pc : Nat} {L st : List Value} {n : Nat} {h : mH} {P : Option Value → Nat → mH → Prop} {a : Int32} {off : Int} {tgt : Nat} (hd : decode k.2.1 pc = .ok (.ifCond .gt off, 3)) (ht : (pc : Int) + off = (tgt : Int)) (K : (0 < a) → G g d x y k tgt L (st) n h P) (K2 : ¬ (0 < a) → G g d x y k (pc + 3) L (st) n h P) : G g d x y k pc L (.int a :: st) n h P := by
  intro p e R s m args below meth c H locs cells slots ls S B C F E
  exact lv_if_gt S.1 S.2.1 hd ht (fun q => K q p e R s m args below meth c H locs cells slots ls S B C F E) (fun q => K2 q p e R s m args below meth c H locs cells slots ls S B C F E)
theorem G_icmp_gt {g : gT} {d x y : Nat} {k : mM} {pc : Nat} {L st : List Value} {n : Nat} {h : mH} {P : Option Value → Nat → mH → Prop} {a b : Int32} {off : Int} {tgt : Nat} (hd : decode k.2.1 pc = .ok (.if_icmp .gt off, 3)) (ht : (pc : Int) + off = (tgt : Int)) (K : (b < a) → G g d x y k tgt L (st) n h P) (K2 : ¬ (b < a) → G g d x y k (pc + 3) L (st) n h P) : G g d x y k pc L (.int b :: .int a :: st) n h P := by
  intro p e R s m args below meth c H locs cells slots ls S B C F E
  exact lv_icmp_gt S.1 S.2.1 hd ht (fun q => K q p e R s m args below meth c H locs cells slots ls S B C F E) (fun q => K2 q p e R s m args below meth c H locs cells slots ls S B C F E)
theorem G_if_le {g : gT} {d x y : Nat} {k : mM} {pc : Nat} {L st : List Value} {n : Nat} {h : mH} {P : Option Value → Nat → mH → Prop} {a : Int32} {off : Int} {tgt : Nat} (hd : decode k.2.1 pc = .ok (.ifCond .le off, 3)) (ht : (pc : Int) + off = (tgt : Int)) (K : (a ≤ 0) → G g d x y k tgt L (st) n h P) (K2 : ¬ (a ≤ 0) → G g d x y k (pc + 3) L (st) n h P) : G g d x y k pc L (.int a :: st) n h P := by
  intro p e R s m args below meth c H locs cells slots ls S B C F E
  exact lv_if_le S.1 S.2.1 hd ht (fun q => K q p e R s m args below meth c H locs cells slots ls S B C F E) (fun q => K2 q p e R s m args below meth c H locs cells slots ls S B C F E)
theorem G_icmp_le {g : gT} {d x y : Nat} {k : mM} {pc : Nat} {L st : List Value} {n : Nat} {h : mH} {P : Option Value → Nat → mH → Prop} {a b : Int32} {off : Int} {tgt : Nat} (hd : decode k.2.1 pc = .ok (.if_icmp .le off, 3)) (ht : (pc : Int) + off = (tgt : Int)) (K : (a ≤ b) → G g d x y k tgt L (st) n h P) (K2 : ¬ (a ≤ b) → G g d x y k (pc + 3) L (st) n h P) : G g d x y k pc L (.int b :: .int a :: st) n h P := by
  intro p e R s m args below meth c H locs cells slots ls S B C F E
  exact lv_icmp_le S.1 S.2.1 hd ht (fun q => K q p e R s m args below meth c H locs cells slots ls S B C F E) (fun q => K2 q p e R s m args below meth c H locs cells slots ls S B C F E)
theorem G_iload_n {g : gT} {d x y : Nat} {k : mM} {pc : Nat} {L st : List Value} {n : Nat} {h : mH} {P : Option Value → Nat → mH → Prop} {f : Fin 4} {i : Nat} {a : Int32} (hd : decode k.2.1 pc = .ok (.iload_n f, 1)) (hi : (f : Nat) = i) (hl : L[i]? = some (.int a)) (K : G g d x y k (pc + 1) L (.int a :: st) n h P) : G g d x y k pc L st n h P := by
  intro p e R s m args below meth c H locs cells slots ls S B C F E
  exact lv_iload_n S.1 S.2.1 hd hi (g_at E.2 hl rfl) (K p e R s m args below meth c H locs cells slots ls S B C F E)
theorem G_iload {g : gT} {d x y : Nat} {k : mM} {pc : Nat} {L st : List Value} {n : Nat} {h : mH} {P : Option Value → Nat → mH → Prop} {i : Nat} {a : Int32} (hd : decode k.2.1 pc = .ok (.iload i, 2)) (hl : L[i]? = some (.int a)) (K : G g d x y k (pc + 2) L (.int a :: st) n h P) : G g d x y k pc L st n h P := by
  intro p e R s m args below meth c H locs cells slots ls S B C F E
  exact lv_iload S.1 S.2.1 hd (g_at E.2 hl rfl) (K p e R s m args below meth c H locs cells slots ls S B C F E)
theorem G_lload_n {g : gT} {d x y : Nat} {k : mM} {pc : Nat} {L st : List Value} {n : Nat} {h : mH} {P : Option Value → Nat → mH → Prop} {f : Fin 4} {i : Nat} {a : Int64} (hd : decode k.2.1 pc = .ok (.lload_n f, 1)) (hi : (f : Nat) = i) (hl : L[i]? = some (.long a)) (K : G g d x y k (pc + 1) L (.long a :: st) n h P) : G g d x y k pc L st n h P := by
  intro p e R s m args below meth c H locs cells slots ls S B C F E
  exact lv_lload_n S.1 S.2.1 hd hi (g_at E.2 hl rfl) (K p e R s m args below meth c H locs cells slots ls S B C F E)
theorem G_lload {g : gT} {d x y : Nat} {k : mM} {pc : Nat} {L st : List Value} {n : Nat} {h : mH} {P : Option Value → Nat → mH → Prop} {i : Nat} {a : Int64} (hd : decode k.2.1 pc = .ok (.lload i, 2)) (hl : L[i]? = some (.long a)) (K : G g d x y k (pc + 2) L (.long a :: st) n h P) : G g d x y k pc L st n h P := by
  intro p e R s m args below meth c H locs cells slots ls S B C F E
  exact lv_lload S.1 S.2.1 hd (g_at E.2 hl rfl) (K p e R s m args below meth c H locs cells slots ls S B C F E)
theorem G_aload_n {g : gT} {d x y : Nat} {k : mM} {pc : Nat} {L st : List Value} {n : Nat} {h : mH} {P : Option Value → Nat → mH → Prop} {f : Fin 4} {i : Nat} {a : Nat} (hd : decode k.2.1 pc = .ok (.aload_n f, 1)) (hi : (f : Nat) = i) (hl : L[i]? = some (.ref a)) (K : G g d x y k (pc + 1) L (.ref a :: st) n h P) : G g d x y k pc L st n h P := by
  intro p e R s m args below meth c H locs cells slots ls S B C F E
  exact lv_aload_n S.1 S.2.1 hd hi (g_at E.2 hl rfl) (K p e R s m args below meth c H locs cells slots ls S B C F E)
theorem G_aload {g : gT} {d x y : Nat} {k : mM} {pc : Nat} {L st : List Value} {n : Nat} {h : mH} {P : Option Value → Nat → mH → Prop} {i : Nat} {a : Nat} (hd : decode k.2.1 pc = .ok (.aload i, 2)) (hl : L[i]? = some (.ref a)) (K : G g d x y k (pc + 2) L (.ref a :: st) n h P) : G g d x y k pc L st n h P := by
  intro p e R s m args below meth c H locs cells slots ls S B C F E
  exact lv_aload S.1 S.2.1 hd (g_at E.2 hl rfl) (K p e R s m args below meth c H locs cells slots ls S B C F E)
theorem G_aload_nN {g : gT} {d x y : Nat} {k : mM} {pc : Nat} {L st : List Value} {n : Nat} {h : mH} {P : Option Value → Nat → mH → Prop} {f : Fin 4} {i : Nat} (hd : decode k.2.1 pc = .ok (.aload_n f, 1)) (hi : (f : Nat) = i) (hl : L[i]? = some .null) (K : G g d x y k (pc + 1) L (.null :: st) n h P) : G g d x y k pc L st n h P := by
  intro p e R s m args below meth c H locs cells slots ls S B C F E
  exact lv_aload_nN S.1 S.2.1 hd hi (g_at E.2 hl rfl) (K p e R s m args below meth c H locs cells slots ls S B C F E)
theorem G_aloadN {g : gT} {d x y : Nat} {k : mM} {pc : Nat} {L st : List Value} {n : Nat} {h : mH} {P : Option Value → Nat → mH → Prop} {i : Nat} (hd : decode k.2.1 pc = .ok (.aload i, 2)) (hl : L[i]? = some .null) (K : G g d x y k (pc + 2) L (.null :: st) n h P) : G g d x y k pc L st n h P := by
  intro p e R s m args below meth c H locs cells slots ls S B C F E
  exact lv_aloadN S.1 S.2.1 hd (g_at E.2 hl rfl) (K p e R s m args below meth c H locs cells slots ls S B C F E)
theorem G_istore_n {g : gT} {d x y : Nat} {k : mM} {pc : Nat} {L st : List Value} {n : Nat} {h : mH} {P : Option Value → Nat → mH → Prop} {f : Fin 4} {i : Nat} {a : Int32} (hd : decode k.2.1 pc = .ok (.istore_n f, 1)) (hi : (f : Nat) = i) (hi2 : i < L.length) (hc : ((L[i - 1]?).all (fun w => w.category == 1)) = true) (K : G g d x y k (pc + 1) (L.set i (.int a)) st n h P) : G g d x y k pc L (.int a :: st) n h P := by
  intro p e R s m args below meth c H locs cells slots ls S B C F E
  exact lv_istore_n S.1 S.2.1 hd hi E.2 (by rw [← E.1]; exact hi2) rfl (fun ls2 hl2 => K p e R s m args below meth c H locs cells slots ls2 S B C F ⟨by rw [List.length_set]; exact E.1, g_store hi2 hc hl2⟩)
theorem G_istore {g : gT} {d x y : Nat} {k : mM} {pc : Nat} {L st : List Value} {n : Nat} {h : mH} {P : Option Value → Nat → mH → Prop} {i : Nat} {a : Int32} (hd : decode k.2.1 pc = .ok (.istore i, 2)) (hi2 : i < L.length) (hc : ((L[i - 1]?).all (fun w => w.category == 1)) = true) (K : G g d x y k (pc + 2) (L.set i (.int a)) st n h P) : G g d x y k pc L (.int a :: st) n h P := by
  intro p e R s m args below meth c H locs cells slots ls S B C F E
  exact lv_istore S.1 S.2.1 hd E.2 (by rw [← E.1]; exact hi2) rfl (fun ls2 hl2 => K p e R s m args below meth c H locs cells slots ls2 S B C F ⟨by rw [List.length_set]; exact E.1, g_store hi2 hc hl2⟩)
theorem G_astore_n {g : gT} {d x y : Nat} {k : mM} {pc : Nat} {L st : List Value} {n : Nat} {h : mH} {P : Option Value → Nat → mH → Prop} {f : Fin 4} {i : Nat} {a : Nat} (hd : decode k.2.1 pc = .ok (.astore_n f, 1)) (hi : (f : Nat) = i) (hi2 : i < L.length) (hc : ((L[i - 1]?).all (fun w => w.category == 1)) = true) (K : G g d x y k (pc + 1) (L.set i (.ref a)) st n h P) : G g d x y k pc L (.ref a :: st) n h P := by
  intro p e R s m args below meth c H locs cells slots ls S B C F E
  exact lv_astore_n S.1 S.2.1 hd hi E.2 (by rw [← E.1]; exact hi2) rfl (fun ls2 hl2 => K p e R s m args below meth c H locs cells slots ls2 S B C F ⟨by rw [List.length_set]; exact E.1, g_store hi2 hc hl2⟩)
theorem G_astore {g : gT} {d x y : Nat} {k : mM} {pc : Nat} {L st : List Value} {n : Nat} {h : mH} {P : Option Value → Nat → mH → Prop} {i : Nat} {a : Nat} (hd : decode k.2.1 pc = .ok (.astore i, 2)) (hi2 : i < L.length) (hc : ((L[i - 1]?).all (fun w => w.category == 1)) = true) (K : G g d x y k (pc + 2) (L.set i (.ref a)) st n h P) : G g d x y k pc L (.ref a :: st) n h P := by
  intro p e R s m args below meth c H locs cells slots ls S B C F E
  exact lv_astore S.1 S.2.1 hd E.2 (by rw [← E.1]; exact hi2) rfl (fun ls2 hl2 => K p e R s m args below meth c H locs cells slots ls2 S B C F ⟨by rw [List.length_set]; exact E.1, g_store hi2 hc hl2⟩)
theorem G_astore_nN {g : gT} {d x y : Nat} {k : mM} {pc : Nat} {L st : List Value} {n : Nat} {h : mH} {P : Option Value → Nat → mH → Prop} {f : Fin 4} {i : Nat} (hd : decode k.2.1 pc = .ok (.astore_n f, 1)) (hi : (f : Nat) = i) (hi2 : i < L.length) (hc : ((L[i - 1]?).all (fun w => w.category == 1)) = true) (K : G g d x y k (pc + 1) (L.set i (.null)) st n h P) : G g d x y k pc L (.null :: st) n h P := by
  intro p e R s m args below meth c H locs cells slots ls S B C F E
  exact lv_astore_nN S.1 S.2.1 hd hi E.2 (by rw [← E.1]; exact hi2) rfl (fun ls2 hl2 => K p e R s m args below meth c H locs cells slots ls2 S B C F ⟨by rw [List.length_set]; exact E.1, g_store hi2 hc hl2⟩)
theorem G_astoreN {g : gT} {d x y : Nat} {k : mM} {pc : Nat} {L st : List Value} {n : Nat} {h : mH} {P : Option Value → Nat → mH → Prop} {i : Nat} (hd : decode k.2.1 pc = .ok (.astore i, 2)) (hi2 : i < L.length) (hc : ((L[i - 1]?).all (fun w => w.category == 1)) = true) (K : G g d x y k (pc + 2) (L.set i (.null)) st n h P) : G g d x y k pc L (.null :: st) n h P := by
  intro p e R s m args below meth c H locs cells slots ls S B C F E
  exact lv_astoreN S.1 S.2.1 hd E.2 (by rw [← E.1]; exact hi2) rfl (fun ls2 hl2 => K p e R s m args below meth c H locs cells slots ls2 S B C F ⟨by rw [List.length_set]; exact E.1, g_store hi2 hc hl2⟩)
theorem G_iinc {g : gT} {d x y : Nat} {k : mM} {pc : Nat} {L st : List Value} {n : Nat} {h : mH} {P : Option Value → Nat → mH → Prop} {i : Nat} {j : Int} {a b : Int32} (hd : decode k.2.1 pc = .ok (.iinc i j, 3)) (hl : L[i]? = some (.int a)) (hv : a + Int32.ofInt j = b) (hc : ((L[i - 1]?).all (fun w => w.category == 1)) = true) (K : G g d x y k (pc + 3) (L.set i (.int b)) st n h P) : G g d x y k pc L st n h P := by
  intro p e R s m args below meth c H locs cells slots ls S B C F E
  have hi2 : i < L.length := (List.getElem?_eq_some_iff.mp hl).1
  obtain ⟨q, hq⟩ := List.getElem?_of_mem (g_Lv_mem (g := g) (q := (i, g_v g (.int a)))|>.mpr ⟨_, hl, rfl, rfl⟩)
  exact lv_iinc S.1 S.2.1 hd E.2 (k := q) hq hv (by rw [← E.1]; exact hi2) rfl (fun ls2 hl2 => K p e R s m args below meth c H locs cells slots ls2 S B C F ⟨by rw [List.length_set]; exact E.1, g_store (v := .int b) hi2 hc hl2⟩)
/-- a class of the game, by its number -/
def g_k (ci : Nat) (C : String) (T : u_T) (N : Nat) (ty : Nat → FieldType) : Prop := g_cl[ci]? = some (C, T, N) ∧ (∀ w ∈ u_ws C T N, w ∈ TB) ∧ (∀ k, k < N → parseFieldDescriptor (T k).2.2.1 = some (ty k)) ∧ (∀ a, a < N → ∀ b, b < N → a ≠ b → (T a).2.1 ≠ (T b).2.1)
/-- field j of class ci by pool entry index of class own -/
def g_f (own : String) (index ci j : Nat) : Prop := ∃ (C : String) (T : u_T) (N : Nat) (ty : Nat → FieldType), g_k ci C T N ty ∧ j < N ∧ ∃ ref, Cond.fieldLink own index ref (T j).2.1 (T j).2.2.1 ∈ TB ∧ (ref = (T j).1 ∨ Cond.sameField ref (T j).1 (T j).2.1 (T j).2.2.1 ∈ TB)
theorem g_same {args : Array Value} {s : State} {ref o n1 d1 : String} (hts : ∀ w ∈ TB, w.before args s = true) (h : ref = o ∨ Cond.sameField ref o n1 d1 ∈ TB) : ∀ z, s.fieldFound? o n1 d1 = some z → s.fieldFound? ref n1 d1 = some z := by
  intro z hz
  rcases h with h | h
  · rw [h]; exact hz
  · exact u_same (hts _ h) z hz
theorem G_get {g : gT} {d x y : Nat} {k : mM} {pc : Nat} {L st : List Value} {n : Nat} {h : mH} {P : Option Value → Nat → mH → Prop} {index ci j i : Nat} {fs : List Value} {v : Value} (hd : decode k.2.1 pc = .ok (.getfield index, 3)) (hf : g_f k.1.cls index ci j) (hi : h i = some (.inr (ci, fs))) (hv : fs[j]? = some v) (K : G g d x y k (pc + 3) L (v :: st) n h P) : G g d x y k pc L (.ref i :: st) n h P := by
  intro p e R s m args below meth c H locs cells slots ls S B C F E
  obtain ⟨C0, T, N, ty, ⟨k1, k2, k3, k4⟩, hj, ref, f1, f2⟩ := hf
  obtain ⟨-, -, -, -, -, -, hown, hts, hK, -⟩ := id S
  exact va_get (D := g_D g) S.1 S.2.1 hts k2 hown hK (g_P C hi) 0 (fs := fs.map (g_v g)) rfl k1 j hj (hts _ f1) (g_same hts f2) (v := g_v g v) (by rw [List.getElem?_map, hv]; rfl) hd (K p e R s m args below meth c H locs cells slots ls S B C F E)
/-- field j of class ci by pool entry index of class own, to be written: its type t, final or not -/
def g_fp (own : String) (index ci j : Nat) (t : FieldType) (fin : Bool) : Prop := ∃ (C : String) (T : u_T) (N : Nat) (ty : Nat → FieldType), g_k ci C T N ty ∧ j < N ∧ (∃ ref, Cond.fieldLink own index ref (T j).2.1 (T j).2.2.1 ∈ TB ∧ (ref = (T j).1 ∨ Cond.sameField ref (T j).1 (T j).2.1 (T j).2.2.1 ∈ TB)) ∧ ty j = t ∧ (T j).2.2.2 = fin ∧ (fin = true → (T j).1 = own)
def g_fit (t : FieldType) (v : Value) : Prop := ∀ g : gT, narrow t (g_v g v) = g_v g v ∧ fits t (g_v g v) = true
theorem g_fit_i {a : Int32} : g_fit .int (.int a) := fun _ => ⟨rfl, rfl⟩
theorem g_fit_o {C : String} {i : Nat} : g_fit (.object C) (.ref i) := fun _ => ⟨rfl, rfl⟩
theorem g_fit_on {C : String} : g_fit (.object C) .null := fun _ => ⟨rfl, rfl⟩
theorem g_fit_a {t : FieldType} {i : Nat} : g_fit (.array t) (.ref i) := fun _ => ⟨rfl, rfl⟩
theorem G_put {g : gT} {d x y : Nat} {k : mM} {pc : Nat} {L st : List Value} {n : Nat} {h : mH} {P : Option Value → Nat → mH → Prop} {index ci j i : Nat} {t : FieldType} {fs : List Value} {v : Value} (hd : decode k.2.1 pc = .ok (.putfield index, 3)) (hf : g_fp k.1.cls index ci j t false) (hi : h i = some (.inr (ci, fs))) (hl : j < fs.length) (hv : g_fit t v) (K : G g d x y k (pc + 3) L st n (va_up h i (some (.inr (ci, fs.set j v)))) P) : G g d x y k pc L (v :: .ref i :: st) n h P := by
  intro p e R s m args below meth c H locs cells slots ls S B C F E
  obtain ⟨C0, T, N, ty, ⟨k1, k2, k3, k4⟩, hj, ⟨ref, f1, f2⟩, f3, f4, -⟩ := hf
  obtain ⟨hx, hb, -, -, -, -, hown, hts, hK, -⟩ := id S
  have hap := va_apart (own := k.1.cls) hts k2 ty k3 k4 hK k1
  obtain ⟨i1, i2, r, h1, cell, q1, q2, q3, q4⟩ := C.2.2 i _ hi
  have hr : r = (C0, T, N) := Option.some.inj (h1.symm.trans k1)
  subst hr
  obtain ⟨hS, hfc, kC, hkC, hkind⟩ := hK.1 ci _ k1
  obtain ⟨cf, kf, fi, f, hi9, hsl⟩ := hS j hj
  have hlay := hts _ (k2 _ (u_in_lay hj))
  unfold u_lay at hlay
  rw [if_neg (by rw [f4]; decide)] at hlay
  have hst := (u_facts hfc hkC (u_lays hts k2 hj) hi9).1
  have h6 := u_store hfc hkC hkind hlay hi9 ((k3 j hj).trans (by rw [f3])) (hv g).1 (hv g).2
  refine W.putK hx hb (f := f) ⟨hown, hts _ f1, ⟨_, _, _, g_same hts f2 _ hi9⟩, hst⟩ (by rw [q2]; exact h6) q1 q3 (by rw [hsl]; exact k2_hasslot (q4 j hj)) rfl rfl hd fun H1 e1 e2 e3 => ?_
  rw [hsl] at e1 ⊢
  refine K p e R s m args below meth c H1 _ cells slots ls S B (C.put hi ?_ e2 e3) (g_S.put F e2 e3 i1) E
  refine ⟨_, k1, ?_⟩
  show t_OB _ _ _ _ _ (vp_V ((fs.set j v).map (g_v g)))
  rw [List.map_set]
  exact t_OB.to (V := updV (vp_V (fs.map (g_v g))) j (g_v g v)) ⟨_, e1, q2, q3, t_set q4 hap hj _⟩ (fun a _ => vp_updV_set (by rw [List.length_map]; exact hl) _ a)
theorem G_putF {g : gT} {d x y : Nat} {k : mM} {pc : Nat} {L st : List Value} {n : Nat} {h : mH} {P : Option Value → Nat → mH → Prop} {index ci j i : Nat} {t : FieldType} {fs : List Value} {v : Value} (hd : decode k.2.1 pc = .ok (.putfield index, 3)) (hf : g_fp k.1.cls index ci j t true) (hin : k.1.name = "<init>") (hi : h i = some (.inr (ci, fs))) (hl : j < fs.length) (hv : g_fit t v) (K : G g d x y k (pc + 3) L st n (va_up h i (some (.inr (ci, fs.set j v)))) P) : G g d x y k pc L (v :: .ref i :: st) n h P := by
  intro p e R s m args below meth c H locs cells slots ls S B C F E
  obtain ⟨C0, T, N, ty, ⟨k1, k2, k3, k4⟩, hj, ⟨ref, f1, f2⟩, f3, f4, f5⟩ := hf
  have hdecl := f5 rfl
  obtain ⟨hx, hb, -, -, -, hnm, hown, hts, hK, -⟩ := id S
  have hap := va_apart (own := k.1.cls) hts k2 ty k3 k4 hK k1
  obtain ⟨i1, i2, r, h1, cell, q1, q2, q3, q4⟩ := C.2.2 i _ hi
  have hr : r = (C0, T, N) := Option.some.inj (h1.symm.trans k1)
  subst hr
  obtain ⟨hS, hfc, kC, hkC, hkind⟩ := hK.1 ci _ k1
  obtain ⟨cf, kf, fi, f, hi9, hsl⟩ := hS j hj
  have hlay := hts _ (k2 _ (u_in_lay hj))
  unfold u_lay at hlay
  rw [if_pos f4] at hlay
  have hst := (u_facts hfc hkC (u_lays hts k2 hj) hi9).1
  have hcf : m.cls = cf := by
    obtain ⟨_, _, c', _, _, _, -, -, hf', -, -, -, hown2, -⟩ := Cond.laysFinal_spec hlay
    have e1 : c' = cf := by have := hi9.symm.trans hf'; simp at this; exact this.1.symm
    rw [hdecl] at hown2
    rw [← e1]; exact Option.some.inj (hown.symm.trans hown2)
  have h6 := u_fits hfc hkC hkind (Or.inr hlay) hi9 ((k3 j hj).trans (by rw [f3])) (hv g).1 (hv g).2
  refine W.putFinK hx hb hown (hts _ f1) (g_same hts f2 _ hi9) hst hcf (hnm.trans hin) (by rw [q2]; exact h6) q1 q3 (by rw [hsl]; exact k2_hasslot (q4 j hj)) rfl rfl hd fun H1 e1 e2 e3 => ?_
  rw [hsl] at e1 ⊢
  refine K p e R s m args below meth c H1 _ cells slots ls S B (C.put hi ?_ e2 e3) (g_S.put F e2 e3 i1) E
  refine ⟨_, k1, ?_⟩
  show t_OB _ _ _ _ _ (vp_V ((fs.set j v).map (g_v g)))
  rw [List.map_set]
  exact t_OB.to (V := updV (vp_V (fs.map (g_v g))) j (g_v g v)) ⟨_, e1, q2, q3, t_set q4 hap hj _⟩ (fun a _ => vp_updV_set (by rw [List.length_map]; exact hl) _ a)
theorem g_B.use {R : Room} {d x y cells slots a b : Nat} (h : g_B R d x y cells slots) (ha : a ≤ x) (hb : b ≤ y) : g_B R d (x - a) (y - b) (cells + a) (slots + b) ∧ cells + a ≤ R.cells ∧ slots + b ≤ R.slots := by
  obtain ⟨h1, h2, h3, h4⟩ := h
  exact ⟨⟨h1, h2, by omega, by omega⟩, by omega, by omega⟩
/-- a class that a method makes, by pool entry index of class own -/
def g_nk (own : String) (index ci N : Nat) (fs : List Value) : Prop := ∃ (C : String) (T : u_T) (ty : Nat → FieldType), g_k ci C T N ty ∧ Cond.classLink own index C ∈ TB ∧ Cond.instantiable C N ∈ TB ∧ Cond.initialized C ∈ TB ∧ (∀ j, j < N → defaultValue (ty j) = vp_V fs j) ∧ ∀ g : gT, fs.map (g_v g) = fs
theorem G_new {g : gT} {d x y : Nat} {k : mM} {pc : Nat} {L st : List Value} {n : Nat} {h : mH} {P : Option Value → Nat → mH → Prop} {index ci N : Nat} {fs : List Value} (hd : decode k.2.1 pc = .ok (.new index, 3)) (hf : g_nk k.1.cls index ci N fs) (h1 : 1 ≤ x) (h2 : N ≤ y) (K : G g d (x - 1) (y - N) k (pc + 3) L (.ref n :: st) (n + 1) (va_up h n (some (.inr (ci, fs)))) P) : G g d x y k pc L st n h P := by
  intro p e R s m args below meth c H locs cells slots ls S B C F E
  obtain ⟨C0, T, ty, ⟨k1, k2, k3, k4⟩, c1, c2, c3, c4, c5⟩ := hf
  obtain ⟨hx, hb, -, -, -, hnm, hown, hts, hK, -⟩ := id S
  have hKn := hK.1 ci _ k1
  obtain ⟨B1, B2, B3⟩ := B.use h1 h2
  refine W.newcK hx hb hown (hts _ c1) (hts _ c2) (hts _ c3) rfl hd B2 B3 hKn.2.1 rfl fun H1 kC hkC e1 z1 o1 => ?_
  obtain ⟨C1, ea⟩ := C.new (c := .inr (ci, fs)) ⟨_, k1, by rw [c5 g]; exact (u_born ty hts k2 hKn hkC e1 k3).to c4⟩ z1 o1
  have := K p e R s m args below meth c H1 locs _ _ ls S B1 C1 (g_S.new F z1 o1) E
  rw [List.map_cons, show g_v g (.ref n) = .ref H.size from by rw [← ea]; rfl] at this
  exact this
theorem G_iald {g : gT} {d x y : Nat} {k : mM} {pc : Nat} {L st : List Value} {n : Nat} {h : mH} {P : Option Value → Nat → mH → Prop} {i N : Nat} {f : Nat → Int32} {a : Int32} (hd : decode k.2.1 pc = .ok (.iaload, 1)) (hi : h i = some (.inl (0, N, .inl f))) (ha : vp_in a N) (K : G g d x y k (pc + 1) L (.int (f a.toNatClampNeg) :: st) n h P) : G g d x y k pc L (.int a :: .ref i :: st) n h P := by
  intro p e R s m args below meth c H locs cells slots ls S B C F E
  exact va_iald (D := g_D g) (cl := g_cl) S.1 S.2.1 S.2.2.2.2.2.2.2.2.1 (g_P C hi) 0 0 (n := N) (f := f) rfl rfl ha hd (K p e R s m args below meth c H locs cells slots ls S B C F E)
theorem G_bald {g : gT} {d x y : Nat} {k : mM} {pc : Nat} {L st : List Value} {n : Nat} {h : mH} {P : Option Value → Nat → mH → Prop} {i N : Nat} {f : Nat → Int32} {a : Int32} (hd : decode k.2.1 pc = .ok (.baload, 1)) (hi : h i = some (.inl (1, N, .inl f))) (ha : vp_in a N) (K : G g d x y k (pc + 1) L (.int (f a.toNatClampNeg) :: st) n h P) : G g d x y k pc L (.int a :: .ref i :: st) n h P := by
  intro p e R s m args below meth c H locs cells slots ls S B C F E
  exact va_bald (D := g_D g) (cl := g_cl) S.1 S.2.1 S.2.2.2.2.2.2.2.2.1 (g_P C hi) 0 1 (n := N) (f := f) rfl rfl ha hd (K p e R s m args below meth c H locs cells slots ls S B C F E)
theorem G_zald {g : gT} {d x y : Nat} {k : mM} {pc : Nat} {L st : List Value} {n : Nat} {h : mH} {P : Option Value → Nat → mH → Prop} {i N : Nat} {f : Nat → Int32} {a : Int32} (hd : decode k.2.1 pc = .ok (.baload, 1)) (hi : h i = some (.inl (2, N, .inl f))) (ha : vp_in a N) (K : G g d x y k (pc + 1) L (.int (f a.toNatClampNeg) :: st) n h P) : G g d x y k pc L (.int a :: .ref i :: st) n h P := by
  intro p e R s m args below meth c H locs cells slots ls S B C F E
  exact va_zald (D := g_D g) (cl := g_cl) S.1 S.2.1 S.2.2.2.2.2.2.2.2.1 (g_P C hi) 0 2 (n := N) (f := f) rfl rfl ha hd (K p e R s m args below meth c H locs cells slots ls S B C F E)
theorem G_lald {g : gT} {d x y : Nat} {k : mM} {pc : Nat} {L st : List Value} {n : Nat} {h : mH} {P : Option Value → Nat → mH → Prop} {i N : Nat} {f : Nat → Int64} {a : Int32} (hd : decode k.2.1 pc = .ok (.laload, 1)) (hi : h i = some (.inl (3, N, .inr (.inl f)))) (ha : vp_in a N) (K : G g d x y k (pc + 1) L (.long (f a.toNatClampNeg) :: st) n h P) : G g d x y k pc L (.int a :: .ref i :: st) n h P := by
  intro p e R s m args below meth c H locs cells slots ls S B C F E
  exact va_lald (D := g_D g) (cl := g_cl) S.1 S.2.1 S.2.2.2.2.2.2.2.2.1 (g_P C hi) 0 3 (n := N) (f := f) rfl rfl ha hd (K p e R s m args below meth c H locs cells slots ls S B C F E)
theorem G_aald {g : gT} {d x y : Nat} {k : mM} {pc : Nat} {L st : List Value} {n : Nat} {h : mH} {P : Option Value → Nat → mH → Prop} {i N kd : Nat} {C0 : String} {f : Nat → Option Nat} {a : Int32} (hd : decode k.2.1 pc = .ok (.aaload, 1)) (hk : ∀ g : gT, (g_tys g)[kd]? = some (g_c g kd, .object C0)) (hi : h i = some (.inl (kd, N, .inr (.inr (.inr (.inr f)))))) (ha : vp_in a N) (K : G g d x y k (pc + 1) L (va_rf (f a.toNatClampNeg) :: st) n h P) : G g d x y k pc L (.int a :: .ref i :: st) n h P := by
  intro p e R s m args below meth c H locs cells slots ls S B C F E
  have K1 := K p e R s m args below meth c H locs cells slots ls S B C F E
  have e : g_v g (va_rf (f a.toNatClampNeg)) = va_rf ((f a.toNatClampNeg).map (g_ad g)) := by cases f a.toNatClampNeg <;> rfl
  rw [List.map_cons, e] at K1
  exact va_aldq (D := g_D g) (cl := g_cl) S.1 S.2.1 S.2.2.2.2.2.2.2.2.1 (g_P C hi) 0 kd (n := N) (f := fun j => (f j).map (g_ad g)) rfl (hk g) ha hd K1
theorem G_iast {g : gT} {d x y : Nat} {k : mM} {pc : Nat} {L st : List Value} {n : Nat} {h : mH} {P : Option Value → Nat → mH → Prop} {i N : Nat} {f : Nat → Int32} {a : Int32} {b : Int32} (hd : decode k.2.1 pc = .ok (.iastore, 1)) (hi : h i = some (.inl (0, N, .inl f))) (ha : vp_in a N) (K : G g d x y k (pc + 1) L st n (va_up h i (some (.inl (0, N, .inl (upd f a.toNatClampNeg b))))) P) : G g d x y k pc L (.int b :: .int a :: .ref i :: st) n h P := by
  intro p e R s m args below meth c H locs cells slots ls S B C F E
  have i1 := (C.2.2 i _ hi).1
  refine W.iast S.1 S.2.1 (C.2.2 i _ hi).2.2 ((S.2.2.2.2.2.2.2.2.1.2 0 _ rfl).1 N (fun j => .int (f j))) (fun q => by cases q) (by show ¬ (a < 0 ∨ (arrV _ _ _).slots.size ≤ _); rw [arrV_size]; exact ha) rfl rfl hd fun H1 e1 e2 e3 => ?_
  refine K p e R s m args below meth c H1 _ cells slots ls S B (C.put hi ?_ e2 e3) (g_S.put F e2 e3 i1) E
  show H1[_]? = some (arrV (g_c g 0) N (fun j => .int ((upd f a.toNatClampNeg b) j)))
  rw [e1]
  show some ((arrV (g_c g 0) N (fun j => .int (f j))).setSlot _ _) = _
  rw [arrV_store]
  congr 2
  funext q
  by_cases hq : q = a.toNatClampNeg
  · subst hq; simp [updV, upd, vp_updL]
  · simp [updV, upd, vp_updL, hq]
theorem G_bast {g : gT} {d x y : Nat} {k : mM} {pc : Nat} {L st : List Value} {n : Nat} {h : mH} {P : Option Value → Nat → mH → Prop} {i N : Nat} {f : Nat → Int32} {a : Int32} {b : Int32} (hd : decode k.2.1 pc = .ok (.bastore, 1)) (hi : h i = some (.inl (1, N, .inl f))) (ha : vp_in a N) (K : G g d x y k (pc + 1) L st n (va_up h i (some (.inl (1, N, .inl (upd f a.toNatClampNeg (vp_nar .byte b)))))) P) : G g d x y k pc L (.int b :: .int a :: .ref i :: st) n h P := by
  intro p e R s m args below meth c H locs cells slots ls S B C F E
  have i1 := (C.2.2 i _ hi).1
  refine W.bast S.1 S.2.1 (C.2.2 i _ hi).2.2 ((S.2.2.2.2.2.2.2.2.1.2 1 _ rfl).1 N (fun j => .int (f j))) (fun q => by cases q) (by show ¬ (a < 0 ∨ (arrV _ _ _).slots.size ≤ _); rw [arrV_size]; exact ha) rfl rfl hd fun H1 e1 e2 e3 => ?_
  refine K p e R s m args below meth c H1 _ cells slots ls S B (C.put hi ?_ e2 e3) (g_S.put F e2 e3 i1) E
  show H1[_]? = some (arrV (g_c g 1) N (fun j => .int ((upd f a.toNatClampNeg (vp_nar .byte b)) j)))
  rw [e1]
  rw [show narrow .byte (.int b) = .int (vp_nar .byte b) from rfl]
  show some ((arrV (g_c g 1) N (fun j => .int (f j))).setSlot _ _) = _
  rw [arrV_store]
  congr 2
  funext q
  by_cases hq : q = a.toNatClampNeg
  · subst hq; simp [updV, upd, vp_updL]
  · simp [updV, upd, vp_updL, hq]
theorem G_zast {g : gT} {d x y : Nat} {k : mM} {pc : Nat} {L st : List Value} {n : Nat} {h : mH} {P : Option Value → Nat → mH → Prop} {i N : Nat} {f : Nat → Int32} {a : Int32} {b : Int32} (hd : decode k.2.1 pc = .ok (.bastore, 1)) (hi : h i = some (.inl (2, N, .inl f))) (ha : vp_in a N) (K : G g d x y k (pc + 1) L st n (va_up h i (some (.inl (2, N, .inl (upd f a.toNatClampNeg (vp_nar .boolean b)))))) P) : G g d x y k pc L (.int b :: .int a :: .ref i :: st) n h P := by
  intro p e R s m args below meth c H locs cells slots ls S B C F E
  have i1 := (C.2.2 i _ hi).1
  refine W.zast S.1 S.2.1 (C.2.2 i _ hi).2.2 ((S.2.2.2.2.2.2.2.2.1.2 2 _ rfl).1 N (fun j => .int (f j))) (fun q => by cases q) (by show ¬ (a < 0 ∨ (arrV _ _ _).slots.size ≤ _); rw [arrV_size]; exact ha) rfl rfl hd fun H1 e1 e2 e3 => ?_
  refine K p e R s m args below meth c H1 _ cells slots ls S B (C.put hi ?_ e2 e3) (g_S.put F e2 e3 i1) E
  show H1[_]? = some (arrV (g_c g 2) N (fun j => .int ((upd f a.toNatClampNeg (vp_nar .boolean b)) j)))
  rw [e1]
  rw [show narrow .boolean (.int b) = .int (vp_nar .boolean b) from rfl]
  show some ((arrV (g_c g 2) N (fun j => .int (f j))).setSlot _ _) = _
  rw [arrV_store]
  congr 2
  funext q
  by_cases hq : q = a.toNatClampNeg
  · subst hq; simp [updV, upd, vp_updL]
  · simp [updV, upd, vp_updL, hq]
theorem G_last {g : gT} {d x y : Nat} {k : mM} {pc : Nat} {L st : List Value} {n : Nat} {h : mH} {P : Option Value → Nat → mH → Prop} {i N : Nat} {f : Nat → Int64} {a : Int32} {b : Int64} (hd : decode k.2.1 pc = .ok (.lastore, 1)) (hi : h i = some (.inl (3, N, .inr (.inl f)))) (ha : vp_in a N) (K : G g d x y k (pc + 1) L st n (va_up h i (some (.inl (3, N, .inr (.inl (vp_updL f a.toNatClampNeg b)))))) P) : G g d x y k pc L (.long b :: .int a :: .ref i :: st) n h P := by
  intro p e R s m args below meth c H locs cells slots ls S B C F E
  have i1 := (C.2.2 i _ hi).1
  refine W.last S.1 S.2.1 (C.2.2 i _ hi).2.2 ((S.2.2.2.2.2.2.2.2.1.2 3 _ rfl).1 N (fun j => .long (f j))) (fun q => by cases q) (by show ¬ (a < 0 ∨ (arrV _ _ _).slots.size ≤ _); rw [arrV_size]; exact ha) rfl rfl hd fun H1 e1 e2 e3 => ?_
  refine K p e R s m args below meth c H1 _ cells slots ls S B (C.put hi ?_ e2 e3) (g_S.put F e2 e3 i1) E
  show H1[_]? = some (arrV (g_c g 3) N (fun j => .long ((vp_updL f a.toNatClampNeg b) j)))
  rw [e1]
  show some ((arrV (g_c g 3) N (fun j => .long (f j))).setSlot _ _) = _
  rw [arrV_store]
  congr 2
  funext q
  by_cases hq : q = a.toNatClampNeg
  · subst hq; simp [updV, upd, vp_updL]
  · simp [updV, upd, vp_updL, hq]
theorem G_alen {g : gT} {d x y : Nat} {k : mM} {pc : Nat} {L st : List Value} {n : Nat} {h : mH} {P : Option Value → Nat → mH → Prop} {i N kd : Nat} {f} {t : FieldType} (hd : decode k.2.1 pc = .ok (.arraylength, 1)) (hk : ∀ g : gT, (g_tys g)[kd]? = some (g_c g kd, t)) (hi : h i = some (.inl (kd, N, f))) (K : G g d x y k (pc + 1) L (.int (nI N) :: st) n h P) : G g d x y k pc L (.ref i :: st) n h P := by
  intro p e R s m args below meth c H locs cells slots ls S B C F E
  refine va_alen (D := g_D g) (cl := g_cl) S.1 S.2.1 S.2.2.2.2.2.2.2.2.1 (g_P C hi) 0 kd (x := g_a g (N, f)) rfl (hk g) ?_ hd (K p e R s m args below meth c H locs cells slots ls S B C F E)
  show Int32.ofNat (g_a g (N, f)).1 = nI N
  rcases f with f | f | f | f | f <;> rfl
theorem G_alenS {g : gT} {d x y : Nat} {k : mM} {pc : Nat} {L st : List Value} {n : Nat} {h : mH} {P : Option Value → Nat → mH → Prop} (hd : decode k.2.1 pc = .ok (.arraylength, 1)) (K : G g d x y k (pc + 1) L (.int (nI (g_n g)) :: st) n h P) : G g d x y k pc L (.ref 0 :: st) n h P := by
  intro p e R s m args below meth c H locs cells slots ls S B C F E
  obtain ⟨a1, a2, a3, a4, a5, a6, a7, a8, a9, a10, a11⟩ := S.2.2.2.2.2.2.2.2.2
  have h0 := a10 0 (by omega)
  exact va_slen (b := g_o g 0) S.1 S.2.1 a9 (by omega) (by show ¬ g_z g ≤ _; omega) F hd (K p e R s m args below meth c H locs cells slots ls S B C F E)
theorem G_aldS {g : gT} {d x y : Nat} {k : mM} {pc : Nat} {L st : List Value} {n : Nat} {h : mH} {P : Option Value → Nat → mH → Prop} {a : Int32} (hd : decode k.2.1 pc = .ok (.iaload, 1)) (ha : vp_in a (g_n g)) (K : G g d x y k (pc + 1) L (.int (g_x g a.toNatClampNeg) :: st) n h P) : G g d x y k pc L (.int a :: .ref 0 :: st) n h P := by
  intro p e R s m args below meth c H locs cells slots ls S B C F E
  obtain ⟨a1, a2, a3, a4, a5, a6, a7, a8, a9, a10, a11⟩ := S.2.2.2.2.2.2.2.2.2
  have h0 := a10 0 (by omega)
  exact va_sld (b := g_o g 0) S.1 S.2.1 a9 (by omega) (by show ¬ g_z g ≤ _; omega) F ha hd (K p e R s m args below meth c H locs cells slots ls S B C F E)
theorem G_alenE {g : gT} {d x y : Nat} {k : mM} {pc : Nat} {L st : List Value} {n : Nat} {h : mH} {P : Option Value → Nat → mH → Prop} (hd : decode k.2.1 pc = .ok (.arraylength, 1)) (K : G g d x y k (pc + 1) L (.int 0 :: st) n h P) : G g d x y k pc L (.ref 1 :: st) n h P := by
  intro p e R s m args below meth c H locs cells slots ls S B C F E
  obtain ⟨a1, a2, a3, a4, a5, a6, a7, a8, a9, a10, a11⟩ := S.2.2.2.2.2.2.2.2.2
  exact va_tlen S.1 S.2.1 a3 F (v := 0) rfl hd (K p e R s m args below meth c H locs cells slots ls S B C F E)
theorem G_getsE {g : gT} {d x y : Nat} {k : mM} {pc : Nat} {L st : List Value} {n : Nat} {h : mH} {P : Option Value → Nat → mH → Prop} {index : Nat} (hd : decode k.2.1 pc = .ok (.getstatic index, 3)) (hl : Cond.fieldLink k.1.cls index "java/util/ArrayList" "DEFAULTCAPACITY_EMPTY_ELEMENTDATA" "[Ljava/lang/Object;" ∈ TB) (K : G g d x y k (pc + 3) L (.ref 1 :: st) n h P) : G g d x y k pc L st n h P := by
  intro p e R s m args below meth c H locs cells slots ls S B C F E
  obtain ⟨a1, a2, a3, a4, a5, a6, a7, a8, a9, a10, a11⟩ := S.2.2.2.2.2.2.2.2.2
  obtain ⟨hx, hb, -, -, -, hnm, hown, hts, hK, -⟩ := id S
  exact va_gets hx hb a2 F hown (hts _ hl) (fun _ h9 => h9) hd (K p e R s m args below meth c H locs cells slots ls S B C F E)
theorem G_newa {g : gT} {d x y : Nat} {k : mM} {pc : Nat} {L st : List Value} {n : Nat} {h : mH} {P : Option Value → Nat → mH → Prop} {at9 : ArrayType} {t : FieldType} {kd N : Nat} {f} {a : Int32} (hd : decode k.2.1 pc = .ok (.newarray at9, 2)) (ht : newarray.typeOf at9 = t) (hw : Cond.arrayClass t ∈ TB) (hk : ∀ g : gT, (g_tys g)[kd]? = some (g_c g kd, t)) (hr : ∀ U c, va_RA U c t → U.vm.findClass ("[" ++ t.toString) = some c) (hf : ∀ c, vp_cell c (N, f) = arrV c N (fun _ => defaultValue t)) (hg : ∀ g : gT, g_a g (N, f) = (N, f)) (h0 : ¬ a < 0) (hN : a.toNatClampNeg = N) (hb8 : N * 8 ≤ 536870912) (hcb : componentBytes t ≤ 8) (h1 : 1 ≤ x) (h2 : N ≤ y) (K : G g d (x - 1) (y - N) k (pc + 2) L (.ref n :: st) (n + 1) (va_up h n (some (.inl (kd, N, f)))) P) : G g d x y k pc L (.int a :: st) n h P := by
  intro p e R s m args below meth c H locs cells slots ls S B C F E
  subst ht
  obtain ⟨hx, hb, -, -, -, hnm, hown, hts, hK, -⟩ := id S
  obtain ⟨B1, B2, B3⟩ := B.use h1 h2
  refine va_newaK hx hb (hts _ hw) rfl hd rfl h0 hN (Nat.le_trans (Nat.mul_le_mul_left _ hcb) hb8) B2 B3 rfl fun H1 cA e1 z1 o1 hAr hNm => ?_
  have ec : cA = g_c g kd := Option.some.inj (hNm.symm.trans (hr _ _ (hK.2 kd _ (hk g)).2))
  subst ec
  obtain ⟨C1, ea⟩ := C.new (c := .inl (kd, N, f)) (by show H1[H.size]? = some (vp_cell _ (g_a g (N, f))); rw [hg, hf]; exact e1) z1 o1
  have := K p e R s m args below meth c H1 locs _ _ ls S B1 C1 (g_S.new F z1 o1) E
  rw [List.map_cons, show g_v g (.ref n) = .ref H.size from by rw [← ea]; rfl] at this
  exact this
theorem G_anew {g : gT} {d x y : Nat} {k : mM} {pc : Nat} {L st : List Value} {n : Nat} {h : mH} {P : Option Value → Nat → mH → Prop} {index kd N : Nat} {C0 : String} {a : Int32} (hd : decode k.2.1 pc = .ok (.anewarray index, 3)) (hl : Cond.classLink k.1.cls index C0 ∈ TB) (hk : ∀ g : gT, (g_tys g)[kd]? = some (g_c g kd, .object C0)) (hC0 : C0 = "java/lang/Object" ∨ C0 = "ToolHouse$Ask") (h0 : ¬ a < 0) (hN : a.toNatClampNeg = N) (hb4 : N * 4 ≤ 536870912) (h1 : 1 ≤ x) (h2 : N ≤ y) (K : G g d (x - 1) (y - N) k (pc + 3) L (.ref n :: st) (n + 1) (va_up h n (some (.inl (kd, N, .inr (.inr (.inr (.inr (fun _ => none)))))))) P) : G g d x y k pc L (.int a :: st) n h P := by
  intro p e R s m args below meth c H locs cells slots ls S B C F E
  subst hN
  obtain ⟨hx, hb, -, -, -, hnm, hown, hts, hK, hO⟩ := id S
  obtain ⟨a1, a2, a3, a4, a5, a6, a7, a8, a9, a10, a11⟩ := hO
  obtain ⟨B1, B2, B3⟩ := B.use h1 h2
  have hover : va_AO C0 s := by rcases hC0 with rfl | rfl; exact a5; exact a6
  refine W.anew hx hb hown (hts _ hl) (va_AO.use hover) rfl hd rfl h0 hb4 B2 B3 fun cA kA comp f1 f2 f3 f4 => ?_
  generalize hH1 : H.push ({ cls := cA, slots := Array.replicate a.toNatClampNeg .null, vm := .none } : Cell) = H1
  have z1 : H1.size = H.size + 1 := by rw [← hH1, Array.size_push]
  have e1 : H1[H.size]? = some (arrV cA a.toNatClampNeg (fun _ => .null)) := by rw [← hH1, Array.getElem?_push_size, ← arrV_new]
  have o1 : ∀ q : Nat, q < H.size → H1[q]? = H[q]? := fun q hq => by rw [← hH1, Array.getElem?_push, if_neg (Nat.ne_of_lt hq)]
  obtain ⟨kA2, comp2, r1, r2, r3, r4⟩ := (hK.2 kd _ (hk g)).2
  have ec : cA = g_c g kd := Option.some.inj (f1.symm.trans r4)
  subst ec
  obtain ⟨C1, ea⟩ := C.new (c := .inl (kd, a.toNatClampNeg, .inr (.inr (.inr (.inr (fun _ => none)))))) (by show H1[H.size]? = some (arrV _ _ (fun j => va_rf (Option.map (g_ad g) none))); exact e1) z1 o1
  have := K p e R s m args below meth c H1 locs _ _ ls S B1 C1 (g_S.new F z1 o1) E
  rw [List.map_cons, show g_v g (.ref n) = .ref H.size from by rw [← ea]; rfl] at this
  exact this
/-- an object of class ci stored into an array of references of kind kd -/
theorem G_aast {g : gT} {d x y : Nat} {k : mM} {pc : Nat} {L st : List Value} {n : Nat} {h : mH} {P : Option Value → Nat → mH → Prop} {i i2 N kd ci : Nat} {C0 C1 : String} {fs : List Value} {r : vw_C} {f : Nat → Option Nat} {a : Int32} (hd : decode k.2.1 pc = .ok (.aastore, 1)) (hk : ∀ g : gT, (g_tys g)[kd]? = some (g_c g kd, .object C0)) (hc : g_cl[ci]? = some r) (hC1 : r.1 = C1) (hcs : C1 = C0 ∨ Cond.castable C1 C0 ∈ NW) (hi : h i = some (.inl (kd, N, .inr (.inr (.inr (.inr f)))))) (h2 : h i2 = some (.inr (ci, fs))) (ha : vp_in a N) (K : G g d x y k (pc + 1) L st n (va_up h i (some (.inl (kd, N, .inr (.inr (.inr (.inr (va_up f a.toNatClampNeg (some i2))))))))) P) : G g d x y k pc L (.ref i2 :: .int a :: .ref i :: st) n h P := by
  intro p e R s m args below meth c H locs cells slots ls S B C F E
  subst hC1
  obtain ⟨hx, hb, -, -, -, hnm, hown, hts, hK, hO⟩ := id S
  have hlt : a.toNatClampNeg < N := Nat.not_le.mp fun q => ha (Or.inr q)
  have h0 : ¬ a < 0 := fun q => ha (Or.inl q)
  obtain ⟨i1, -, hci⟩ := C.2.2 i _ hi
  obtain ⟨-, -, r', hr', cellV, g1, g2, g3, -⟩ := C.2.2 i2 _ h2
  have hcls := (hK.1 ci r hc).2
  obtain ⟨kA, comp, k1, k2, k3, -⟩ := (hK.2 kd _ (hk g)).2
  obtain ⟨kE, hkE, -⟩ := Vm.findClass_spec k3
  obtain ⟨kC, hkC, -⟩ := hcls.2
  have hasg : s.vm.assignable ((g_D g).1 ci) comp = true := by
    rcases hcs with hcs | hcs
    · rw [hcs] at hcls
      exact vb_asgS comp _ k3 hcls.1
    · exact vb_asgC (hO.1 _ hcs) comp _ k3 hcls.1
  refine W.aast hx hb hci (fun q h => by cases h) (fun h => by cases h) k1 k2 rfl hkE ⟨h0, by show _ < (arrV _ _ _).slots.size; rw [arrV_size]; exact hlt⟩ g1 (fun q h => by rw [g3] at h; cases h) (by rw [g2]; exact hkC) (by rw [g2]; exact hasg) rfl rfl hd fun H1 e1 e2 e3 => ?_
  refine K p e R s m args below meth c H1 _ cells slots ls S B (C.put hi ?_ e2 e3) (g_S.put F e2 e3 i1) E
  show H1[_]? = some (arrV (g_c g kd) N (fun j => va_rf ((va_up f a.toNatClampNeg (some i2) j).map (g_ad g))))
  rw [e1]
  show some ((arrV (g_c g kd) N (fun j => va_rf ((f j).map (g_ad g)))).setSlot _ _) = _
  rw [arrV_store]
  congr 2
  funext q
  by_cases hq : q = a.toNatClampNeg
  · subst hq; simp [updV, va_up, va_rf]
  · simp [updV, va_up, hq]
theorem G_ifnull {g : gT} {d x y : Nat} {k : mM} {pc : Nat} {L st : List Value} {n : Nat} {h : mH} {P : Option Value → Nat → mH → Prop} {i : Nat} {off : Int} (hd : decode k.2.1 pc = .ok (.ifnull off, 3)) (K : G g d x y k (pc + 3) L (st) n h P) : G g d x y k pc L (.ref i :: st) n h P := by
  intro p e R s m args below meth c H locs cells slots ls S B C F E
  exact lv_ifnull S.1 S.2.1 hd  (K p e R s m args below meth c H locs cells slots ls S B C F E)
theorem G_ifnullN {g : gT} {d x y : Nat} {k : mM} {pc : Nat} {L st : List Value} {n : Nat} {h : mH} {P : Option Value → Nat → mH → Prop} {off : Int} {tgt : Nat} (hd : decode k.2.1 pc = .ok (.ifnull off, 3)) (ht : (pc : Int) + off = (tgt : Int)) (K : G g d x y k tgt L (st) n h P) : G g d x y k pc L (.null :: st) n h P := by
  intro p e R s m args below meth c H locs cells slots ls S B C F E
  exact lv_ifnullN S.1 S.2.1 hd ht (K p e R s m args below meth c H locs cells slots ls S B C F E)
theorem G_ifnonnull {g : gT} {d x y : Nat} {k : mM} {pc : Nat} {L st : List Value} {n : Nat} {h : mH} {P : Option Value → Nat → mH → Prop} {i : Nat} {off : Int} {tgt : Nat} (hd : decode k.2.1 pc = .ok (.ifnonnull off, 3)) (ht : (pc : Int) + off = (tgt : Int)) (K : G g d x y k tgt L (st) n h P) : G g d x y k pc L (.ref i :: st) n h P := by
  intro p e R s m args below meth c H locs cells slots ls S B C F E
  exact lv_ifnonnull S.1 S.2.1 hd ht (K p e R s m args below meth c H locs cells slots ls S B C F E)
theorem G_ifnonnullN {g : gT} {d x y : Nat} {k : mM} {pc : Nat} {L st : List Value} {n : Nat} {h : mH} {P : Option Value → Nat → mH → Prop} {off : Int} (hd : decode k.2.1 pc = .ok (.ifnonnull off, 3)) (K : G g d x y k (pc + 3) L (st) n h P) : G g d x y k pc L (.null :: st) n h P := by
  intro p e R s m args below meth c H locs cells slots ls S B C F E
  exact lv_ifnonnullN S.1 S.2.1 hd  (K p e R s m args below meth c H locs cells slots ls S B C F E)
theorem g_S.old {g : gT} {k : mM} {p : Program} {s : State} {m : MethodId} {args : Array Value} {meth : Method} {c : Code} (S : g_S g k p s m args meth c) : ∀ i, i < 8 → g_o g i < g_z g := by
  obtain ⟨-, -, -, -, -, -, -, -, -, -, -, -, -, -, -, -, -, -, a10, -⟩ := S
  exact a10
theorem g_rf (g : gT) (o : Option Nat) : g_v g (va_rf o) = va_rf (o.map (g_ad g)) := by cases o <;> rfl
theorem g_rf_cat (o : Option Nat) : (va_rf o).category = 1 := by cases o <;> rfl
/-- two references that can be told apart by their numbers -/
def g_ap (a b : Option Nat) : Prop := ∀ i j, a = some i → b = some j → i = j ∨ 8 ≤ i ∨ 8 ≤ j
theorem g_ap_iff {g : gT} (ho : ∀ i, i < 8 → g_o g i < g_z g) {a b : Option Nat} (h : g_ap a b) : a.map (g_ad g) = b.map (g_ad g) ↔ a = b := by
  cases a with
  | none => cases b <;> simp
  | some i => cases b with
    | none => simp
    | some j =>
      simp only [Option.map_some, Option.some.injEq]
      constructor
      · intro e
        rcases h i j rfl rfl with h1 | h1 | h1
        · exact h1
        · by_cases h2 : 8 ≤ j
          · exact g_ad_inj g h1 h2 e
          · have := ho j (by omega)
            rw [g_ad_own g h1, show g_ad g j = g_o g j by simp [g_ad, Nat.lt_of_not_le h2]] at e
            omega
        · by_cases h2 : 8 ≤ i
          · exact g_ad_inj g h2 h1 e
          · have := ho i (by omega)
            rw [g_ad_own g h1, show g_ad g i = g_o g i by simp [g_ad, Nat.lt_of_not_le h2]] at e
            omega
      · intro e; rw [e]
theorem G_acmp_eq {g : gT} {d x y : Nat} {k : mM} {pc : Nat} {L st : List Value} {n : Nat} {h : mH} {P : Option Value → Nat → mH → Prop} {a b : Option Nat} {off : Int} {tgt : Nat} (hd : decode k.2.1 pc = .ok (.if_acmp .eq off, 3)) (ht : (pc : Int) + off = (tgt : Int)) (hap : g_ap a b) (K : a = b → G g d x y k tgt L st n h P) (K2 : ¬ a = b → G g d x y k (pc + 3) L st n h P) : G g d x y k pc L (va_rf b :: va_rf a :: st) n h P := by
  intro p e R s m args below meth c H locs cells slots ls S B C F E
  have ha := g_ap_iff (g_S.old S) hap
  rw [List.map_cons, List.map_cons, g_rf, g_rf]
  exact lv_acmp_eq S.1 S.2.1 hd ht (fun q => K (ha.mp q) p e R s m args below meth c H locs cells slots ls S B C F E) (fun q => K2 (fun z => q (ha.mpr z)) p e R s m args below meth c H locs cells slots ls S B C F E)
theorem G_acmp_ne {g : gT} {d x y : Nat} {k : mM} {pc : Nat} {L st : List Value} {n : Nat} {h : mH} {P : Option Value → Nat → mH → Prop} {a b : Option Nat} {off : Int} {tgt : Nat} (hd : decode k.2.1 pc = .ok (.if_acmp .ne off, 3)) (ht : (pc : Int) + off = (tgt : Int)) (hap : g_ap a b) (K : ¬ a = b → G g d x y k tgt L st n h P) (K2 : a = b → G g d x y k (pc + 3) L st n h P) : G g d x y k pc L (va_rf b :: va_rf a :: st) n h P := by
  intro p e R s m args below meth c H locs cells slots ls S B C F E
  have ha := g_ap_iff (g_S.old S) hap
  rw [List.map_cons, List.map_cons, g_rf, g_rf]
  exact lv_acmp_ne S.1 S.2.1 hd ht (fun q => K (fun z => q (ha.mpr z)) p e R s m args below meth c H locs cells slots ls S B C F E) (fun q => K2 (ha.mp q) p e R s m args below meth c H locs cells slots ls S B C F E)
theorem G_cast {g : gT} {d x y : Nat} {k : mM} {pc : Nat} {L st : List Value} {n : Nat} {h : mH} {P : Option Value → Nat → mH → Prop} {index i ci : Nat} {fs : List Value} {r : vw_C} (hd : decode k.2.1 pc = .ok (.checkcast index, 3)) (hc : g_cl[ci]? = some r) (hl : Cond.classLink k.1.cls index r.1 ∈ TB) (hi : h i = some (.inr (ci, fs))) (K : G g d x y k (pc + 3) L (.ref i :: st) n h P) : G g d x y k pc L (.ref i :: st) n h P := by
  intro p e R s m args below meth c H locs cells slots ls S B C F E
  obtain ⟨hx, hb, -, -, -, hnm, hown, hts, hK, hO⟩ := id S
  exact va_castS hx hb hown (hts _ hl) (hK.1 ci r hc).2 (va_recv hK (g_P C hi) (q0 := 0) (ci := ci) hc rfl) hd (K p e R s m args below meth c H locs cells slots ls S B C F E)
theorem G_castN {g : gT} {d x y : Nat} {k : mM} {pc : Nat} {L st : List Value} {n : Nat} {h : mH} {P : Option Value → Nat → mH → Prop} {index : Nat} (hd : decode k.2.1 pc = .ok (.checkcast index, 3)) (K : G g d x y k (pc + 3) L (.null :: st) n h P) : G g d x y k pc L (.null :: st) n h P := by
  intro p e R s m args below meth c H locs cells slots ls S B C F E
  exact lv_castN S.1 S.2.1 hd (K p e R s m args below meth c H locs cells slots ls S B C F E)
/-! returns -/
theorem G_iret {g : gT} {d x y : Nat} {k : mM} {pc : Nat} {L st : List Value} {n : Nat} {h : mH} {P : Option Value → Nat → mH → Prop} {a : Int32} (hd : decode k.2.1 pc = .ok (.ireturn, 1)) (hr : k.2.2.2 = some .int) (hP : P (some (.int a)) n h) : G g d x y k pc L [.int a] n h P := by
  intro p e R s m args below meth c H locs cells slots ls S B C F E
  refine W.widen (k := R.cells) (n := R.slots) (by have := B.2.2.1; omega) (by have := B.2.2.2; omega) ?_
  exact W.iret S.1 S.2.1 (S.2.2.2.1.trans hr) (fun t ht hW => ⟨⟨some (.int a), n, h, rfl, hP, by rw [ht]; exact C⟩, F.F ht⟩) F.2.2 hd (hlocks := S.2.2.2.2.1)
theorem G_zret {g : gT} {d x y : Nat} {k : mM} {pc : Nat} {L st : List Value} {n : Nat} {h : mH} {P : Option Value → Nat → mH → Prop} {a : Int32} {t : FieldType} (hd : decode k.2.1 pc = .ok (.ireturn, 1)) (hr : k.2.2.2 = some t) (hn : narrow t (.int a) = .int a) (hP : P (some (.int a)) n h) : G g d x y k pc L [.int a] n h P := by
  intro p e R s m args below meth c H locs cells slots ls S B C F E
  refine W.widen (k := R.cells) (n := R.slots) (by have := B.2.2.1; omega) (by have := B.2.2.2; omega) ?_
  exact W.zret S.1 S.2.1 (S.2.2.2.1.trans hr) hn (fun t ht hW => ⟨⟨some (.int a), n, h, rfl, hP, by rw [ht]; exact C⟩, F.F ht⟩) F.2.2 hd (hlocks := S.2.2.2.2.1)
theorem G_vret {g : gT} {d x y : Nat} {k : mM} {pc : Nat} {L st : List Value} {n : Nat} {h : mH} {P : Option Value → Nat → mH → Prop} (hd : decode k.2.1 pc = .ok (.return_, 1)) (hr : k.2.2.2 = none) (hP : P none n h) : G g d x y k pc L [] n h P := by
  intro p e R s m args below meth c H locs cells slots ls S B C F E
  refine W.widen (k := R.cells) (n := R.slots) (by have := B.2.2.1; omega) (by have := B.2.2.2; omega) ?_
  exact W.vret S.1 S.2.1 (S.2.2.2.1.trans hr) (fun t ht hW => ⟨⟨none, n, h, rfl, hP, by rw [ht]; exact C⟩, F.F ht⟩) F.2.2 hd (hlocks := S.2.2.2.2.1)
theorem G_aret {g : gT} {d x y : Nat} {k : mM} {pc : Nat} {L st : List Value} {n : Nat} {h : mH} {P : Option Value → Nat → mH → Prop} {o : Option Nat} {t : FieldType} (hd : decode k.2.1 pc = .ok (.areturn, 1)) (hr : k.2.2.2 = some t) (ht9 : (∃ z, t = .object z) ∨ ∃ z, t = .array z) (hP : P (some (va_rf o)) n h) : G g d x y k pc L [va_rf o] n h P := by
  intro p e R s m args below meth c H locs cells slots ls S B C F E
  refine W.widen (k := R.cells) (n := R.slots) (by have := B.2.2.1; omega) (by have := B.2.2.2; omega) ?_
  rw [List.map_cons, g_rf]
  exact W.aret S.1 S.2.1 (S.2.2.2.1.trans hr) ht9 (by cases o; exact Or.inl rfl; exact Or.inr ⟨_, rfl⟩) (fun t ht hW => ⟨⟨some (va_rf o), n, h, by rw [Option.map_some, g_rf], hP, by rw [ht]; exact C⟩, F.F ht⟩) F.2.2 hd (hlocks := S.2.2.2.2.1)
/-! ldc of numbers, switches, Object's constructor -/
theorem G_ldc {g : gT} {d x y : Nat} {k : mM} {pc : Nat} {L st : List Value} {n : Nat} {h : mH} {P : Option Value → Nat → mH → Prop} {index : Nat} {v : Int32} (hd : decode k.2.1 pc = .ok (.ldc index, 2)) (hl : Cond.constant k.1.cls index v ∈ TB) (K : G g d x y k (pc + 2) L (.int v :: st) n h P) : G g d x y k pc L st n h P := by
  intro p e R s m args below meth c H locs cells slots ls S B C F E
  obtain ⟨hx, hb, -, -, -, hnm, hown, hts, hK, hO⟩ := id S
  exact lv_ldc hx hb hown (hts _ hl) hd (K p e R s m args below meth c H locs cells slots ls S B C F E)
theorem G_ldcw {g : gT} {d x y : Nat} {k : mM} {pc : Nat} {L st : List Value} {n : Nat} {h : mH} {P : Option Value → Nat → mH → Prop} {index : Nat} {v : Int32} (hd : decode k.2.1 pc = .ok (.ldc_w index, 3)) (hl : Cond.constant k.1.cls index v ∈ TB) (K : G g d x y k (pc + 3) L (.int v :: st) n h P) : G g d x y k pc L st n h P := by
  intro p e R s m args below meth c H locs cells slots ls S B C F E
  obtain ⟨hx, hb, -, -, -, hnm, hown, hts, hK, hO⟩ := id S
  exact lv_ldcw hx hb hown (hts _ hl) hd (K p e R s m args below meth c H locs cells slots ls S B C F E)
theorem G_tsw {g : gT} {d x y : Nat} {k : mM} {pc : Nat} {L st : List Value} {n : Nat} {h : mH} {P : Option Value → Nat → mH → Prop} {dflt lo hi : Int} {offs : Array Int} {len tgt : Nat} {a : Int32} (hd : decode k.2.1 pc = .ok (.tableswitch dflt lo hi offs, len)) (ht : (pc : Int) + dflt = (tgt : Int)) (K0 : (a.toInt < lo ∨ hi < a.toInt) → G g d x y k tgt L st n h P) (K : ∀ j : Nat, a.toInt = lo + j → lo + j ≤ hi → ∃ (off : Int) (t2 : Nat), offs[j]? = some off ∧ (pc : Int) + off = (t2 : Int) ∧ G g d x y k t2 L st n h P) : G g d x y k pc L (.int a :: st) n h P := by
  intro p e R s m args below meth c H locs cells slots ls S B C F E
  by_cases h9 : a.toInt < lo ∨ hi < a.toInt
  · exact lv_tableOut S.1 S.2.1 hd h9 ht (K0 h9 p e R s m args below meth c H locs cells slots ls S B C F E)
  · have h1 : ¬ a.toInt < lo := fun q => h9 (Or.inl q)
    have h2 : ¬ hi < a.toInt := fun q => h9 (Or.inr q)
    have e1 : a.toInt = lo + ((a.toInt - lo).toNat : Nat) := by omega
    obtain ⟨off, t2, b1, b2, b3⟩ := K (a.toInt - lo).toNat e1 (by omega)
    exact lv_tableIn S.1 S.2.1 hd h1 h2 b1 b2 (b3 p e R s m args below meth c H locs cells slots ls S B C F E)
theorem G_objInit {g : gT} {d x y : Nat} {k : mM} {pc : Nat} {L st : List Value} {n : Nat} {h : mH} {P : Option Value → Nat → mH → Prop} {index i : Nat} (hd : decode k.2.1 pc = .ok (.invokespecial index, 3)) (hl : Cond.methodLink k.1.cls index objectInit ∈ TB) (hl2 : Cond.instanceMethod objectInit ∈ TB) (hl3 : Cond.code objectInit ⟨#[0xb1]⟩ 1 none ∈ TB) (hd1 : 1 ≤ d) (hs : (st.map fun v => v.category).sum ≤ 20) (K : G g d x y k (pc + 3) L st n h P) : G g d x y k pc L (.ref i :: st) n h P := by
  intro p e R s m args below meth c H locs cells slots ls S B C F E
  obtain ⟨hx, hb, hml, -, -, hnm, hown, hts, hK, hO⟩ := id S
  refine W.objInit hx hb hown (hts _ hl) (hts _ hl2) (hts _ hl3) rfl (by rw [hml]; exact E.2.1) rfl hd (Nat.le_trans hd1 B.1) ?_ (K p e R s m args below meth c H locs cells slots ls S B C F E)
  show 2 * 0 + ((st.map (g_v g)).map fun v => v.category).sum + 12 ≤ R.locals
  rw [g_cats]
  have := B.2.1
  omega
/-! calls -/
theorem g_run {g : gT} {p : Program} {e : Env} {R : Room} {s : State} {m : MethodId} {args : Array Value} {below : List Frame} {meth : Method} {c : Code} {H : Heap} {locs : List Loc} {cells slots mc ms pc : Nat} {ls : Array Slot} {rest st0 : List Value} {a : Array Value} {Q : State → Prop} {P : Option Value → Nat → mH → Prop}
    (hr : va_Run p g.1 e R s m args below meth c H locs cells slots mc ms (F0 m pc ls st0) rest (g_Q g P a) (g_A g)) (hS : va_S (g_A g) s.heap H locs)
    (kk : ∀ (v : Option Value) (n : Nat) (h : mH) (H1 : Heap) (locs1 : List Loc), P v n h → g_C g n h H1 → va_S (g_A g) s.heap H1 locs1 → W p g.1 e R s m args below meth c H1 locs1 (cells + mc) (slots + ms) Q (F0 m (pc + 3) ls ((v.map (g_v g)).toList ++ rest))) : W p g.1 e R s m args below meth c H locs cells slots Q (F0 m pc ls st0) := by
  intro T hT X
  obtain ⟨v, st₀, t, T', L, h0, X', hL, e1, e2, ⟨⟨v9, n, h, hv, hP, hC⟩, hz, hk⟩, st⟩ := hr T hT X
  cases hv
  rw [h0] at hz hk
  obtain ⟨t2, a1, b1⟩ := kk v9 n h T'.heap (locs ++ L) hP (by rw [e1]; exact hC)
    ⟨Nat.le_trans hS.1 (by rw [e1]; exact hz), fun q h1 h2 => by rw [e1, hk q (Nat.lt_of_lt_of_le h1 hS.1) h2]; exact hS.2.1 q h1 h2, fun q hq => by
      rcases List.mem_append.mp hq with h | h
      · exact hS.2.2 q h
      · exact hL q h⟩ T' rfl X'
  exact ⟨t2, st t2 a1, b1⟩
theorem g_blind {g : gT} {n : Nat} {h : mH} {av : List Value} : FrameBlind (va_Pc av (g_I g n h)) := fun a U g9 mk q => by
  obtain ⟨q0, qC, qK, qO⟩ := q
  exact ⟨q0, qC, va_K.moved (u := U) (U := U.calling g9 mk a) (Vm.Alike.refl U.vm) qK, g_O.same qO rfl rfl⟩
theorem g_pre {g : gT} {k : mM} {p : Program} {s : State} {m : MethodId} {args : Array Value} {meth : Method} {c : Code} {n : Nat} {h : mH} {H : Heap} {locs : List Loc} {av : List Value} (S : g_S g k p s m args meth c) (C : g_C g n h H) (F : va_S (g_A g) s.heap H locs) : ∀ U : State, U.heap = H → s.WarmedH U.vm → va_Pc av (g_I g n h) av.toArray U := fun U hU hW => by
  obtain ⟨-, -, -, -, -, -, -, -, hK, hO⟩ := S
  exact ⟨rfl, by rw [hU]; exact C, va_K.moved hW.alike hK, hO.go F hU hW⟩
theorem g_TB : GoodIn TB TB := fun w hw => ⟨hw, good_of_word (List.mem_filter.mp hw).2⟩
theorem g_good {c : mM} (hc : Cond.code c.1 c.2.1 c.2.2.1 c.2.2.2 ∈ TB) : GoodIn TB (g_ws c) := fun w hw => by
  rcases List.mem_cons.mp hw with h | h
  · rw [h]; exact g_TB _ hc
  · exact g_TB _ h
/-- what a call's site and its callee say in the tables -/
def g_cm (k c : mM) (index na : Nat) : Prop := Cond.code c.1 c.2.1 c.2.2.1 c.2.2.2 ∈ TB ∧ Cond.initialized c.1.cls ∈ TB ∧ Cond.methodLink k.1.cls index c.1 ∈ TB ∧ (c.1.cls ≠ "java/lang/invoke/MethodHandle" ∧ c.1.cls ≠ "java/lang/invoke/VarHandle" ∧ (parseMethodDescriptor c.1.desc).map (fun d => d.parameters.length) = some na) ∧ c.2.2.1 ≤ 20
def g_cn (k c : mM) (index na : Nat) (host : String) : Prop := Cond.code c.1 c.2.1 c.2.2.1 c.2.2.2 ∈ TB ∧ Cond.initialized c.1.cls ∈ TB ∧ Cond.methodLinkNest k.1.cls index c.1 host ∈ NW ∧ (c.1.cls ≠ "java/lang/invoke/MethodHandle" ∧ c.1.cls ≠ "java/lang/invoke/VarHandle" ∧ (parseMethodDescriptor c.1.desc).map (fun d => d.parameters.length) = some na) ∧ c.2.2.1 ≤ 20
theorem g_rm {R : Room} {d d' x y x' y' cells slots N : Nat} (B : g_B R d x y cells slots) (hd : d' + 1 ≤ d) (hN : N ≤ 20) : (g_R d' x' y').frames + 1 ≤ R.frames ∧ 8 + (N + 11) + (g_R d' x' y').locals ≤ R.locals := by
  obtain ⟨h1, h2, -, -⟩ := B
  refine ⟨Nat.le_trans hd h1, ?_⟩
  show 8 + (N + 11) + 40 * d' ≤ R.locals
  omega
theorem g_top (g : gT) (v : Option Value) (st : List Value) : (v.map (g_v g)).toList ++ st.map (g_v g) = (v.toList ++ st).map (g_v g) := by cases v <;> rfl
theorem G_callV {g : gT} {d x y : Nat} {k : mM} {pc : Nat} {L st : List Value} {n : Nat} {h : mH} {P : Option Value → Nat → mH → Prop} {c9 : mM} {d' x' y' index na b ci : Nat} {fs As st0 : List Value} {P' : Option Value → Nat → mH → Prop} (hM : M g d' x' y' c9 (.ref b :: As) n h P') (hd : decode k.2.1 pc = .ok (.invokevirtual index, 3)) (hc : g_cm k c9 index na) (hi9 : Cond.instanceMethod c9.1 ∈ TB) (hs9 : Cond.selects c9.1.cls c9.1 c9.1 ∈ TB) (hb : h b = some (.inr (ci, fs))) (hb2 : (g_cl[ci]?).map (·.1) = some c9.1.cls) (hs : st0 = As.reverse ++ .ref b :: st) (hn : As.length = na) (hw : (st.map fun v => v.category).sum ≤ 8) (hd9 : d' + 1 ≤ d) (hx9 : x' ≤ x) (hy9 : y' ≤ y)
    (K : ∀ v n' h', P' v n' h' → G g d (x - x') (y - y') k (pc + 3) L (v.toList ++ st) n' h' P) : G g d x y k pc L st0 n h P := by
  intro p e R s m args below meth c H locs cells slots ls S B C F E
  obtain ⟨c1, c2, c3, c4, c5⟩ := hc
  obtain ⟨hx, hb9, hml, -, -, hnm, hown, hts, hK, hO⟩ := id S
  obtain ⟨B1, B2, B3⟩ := B.use hx9 hy9
  obtain ⟨r, hr1, hr2⟩ : ∃ r, g_cl[ci]? = some r ∧ r.1 = c9.1.cls := by
    cases hg : g_cl[ci]? with
    | none => rw [hg] at hb2; cases hb2
    | some r => rw [hg] at hb2; exact ⟨r, rfl, Option.some.inj hb2⟩
  have hcell := va_recv hK (g_P C hb) (q0 := 0) (ci := ci) hr1 rfl
  rw [hr2] at hcell
  have hrun := va_runV (C := c9.1.cls) (As := As.map (g_v g)) (rest := st.map (g_v g)) (b := g_ad g b) (p := p) (l := g.1) (e := e) (R := R) (s := s) (m := m) (args := args) (below := below) (meth := meth) (c := c) (H := H) (locs := locs) (cells := cells) (slots := slots) (g := F0 m pc ls (st0.map (g_v g))) (nL := k.2.2.1) ⟨hx, hb9, hml, hown, hts⟩ hM ⟨callB_of na hts (g_good c1) rfl rfl rfl (hts _ c2) (hts _ c3) c4 (g_rm B hd9 c5), hts _ hi9, hts _ hs9⟩ ⟨g_blind, hcell, g_pre S C F⟩ rfl (by rw [List.length_map]; exact hn) E.2.1 (by show st0.map (g_v g) = _; rw [hs, List.map_append, List.map_reverse]; rfl) (by show 2 * 0 + _ ≤ 8; rw [g_cats]; omega) hd ⟨B2, B3⟩
  exact g_run hrun F (fun v n1 h1 H1 locs1 q1 q2 q3 => by rw [g_top]; exact K v n1 h1 q1 p e R s m args below meth c H1 locs1 _ _ ls S B1 q2 q3 E)
theorem G_callS {g : gT} {d x y : Nat} {k : mM} {pc : Nat} {L st : List Value} {n : Nat} {h : mH} {P : Option Value → Nat → mH → Prop} {c9 : mM} {d' x' y' index na : Nat} {As st0 : List Value} {P' : Option Value → Nat → mH → Prop} (hM : M g d' x' y' c9 As n h P') (hd : decode k.2.1 pc = .ok (.invokestatic index, 3)) (hc : g_cm k c9 index na) (hi9 : Cond.static c9.1 ∈ TB) (hs : st0 = As.reverse ++ st) (hn : As.length = na) (hw : (st.map fun v => v.category).sum ≤ 8) (hd9 : d' + 1 ≤ d) (hx9 : x' ≤ x) (hy9 : y' ≤ y)
    (K : ∀ v n' h', P' v n' h' → G g d (x - x') (y - y') k (pc + 3) L (v.toList ++ st) n' h' P) : G g d x y k pc L st0 n h P := by
  intro p e R s m args below meth c H locs cells slots ls S B C F E
  obtain ⟨c1, c2, c3, c4, c5⟩ := hc
  obtain ⟨hx, hb9, hml, -, -, hnm, hown, hts, hK, hO⟩ := id S
  obtain ⟨B1, B2, B3⟩ := B.use hx9 hy9
  have hrun := va_runS (As := As.map (g_v g)) (rest := st.map (g_v g)) (p := p) (l := g.1) (e := e) (R := R) (s := s) (m := m) (args := args) (below := below) (meth := meth) (c := c) (H := H) (locs := locs) (cells := cells) (slots := slots) (g := F0 m pc ls (st0.map (g_v g))) (nL := k.2.2.1) ⟨hx, hb9, hml, hown, hts⟩ hM ⟨callB_of na hts (g_good c1) rfl rfl rfl (hts _ c2) (hts _ c3) c4 (g_rm B hd9 c5), hts _ hi9⟩ ⟨g_blind, g_pre S C F⟩ rfl (by rw [List.length_map]; exact hn) E.2.1 (by show st0.map (g_v g) = _; rw [hs, List.map_append, List.map_reverse]) (by show 2 * 0 + _ ≤ 8; rw [g_cats]; omega) hd ⟨B2, B3⟩
  exact g_run hrun F (fun v n1 h1 H1 locs1 q1 q2 q3 => by rw [g_top]; exact K v n1 h1 q1 p e R s m args below meth c H1 locs1 _ _ ls S B1 q2 q3 E)
theorem G_callI {g : gT} {d x y : Nat} {k : mM} {pc : Nat} {L st : List Value} {n : Nat} {h : mH} {P : Option Value → Nat → mH → Prop} {c9 : mM} {d' x' y' index na b : Nat} {As st0 : List Value} {P' : Option Value → Nat → mH → Prop} (hM : M g d' x' y' c9 (.ref b :: As) n h P') (hd : decode k.2.1 pc = .ok (.invokespecial index, 3)) (hc : g_cm k c9 index na) (hn9 : c9.1.name = "<init>") (hr9 : c9.2.2.2 = none) (hi9 : Cond.instanceMethod c9.1 ∈ TB) (hs : st0 = As.reverse ++ .ref b :: st) (hn : As.length = na) (hw : (st.map fun v => v.category).sum ≤ 8) (hd9 : d' + 1 ≤ d) (hx9 : x' ≤ x) (hy9 : y' ≤ y)
    (K : ∀ v n' h', P' v n' h' → G g d (x - x') (y - y') k (pc + 3) L (v.toList ++ st) n' h' P) : G g d x y k pc L st0 n h P := by
  intro p e R s m args below meth c H locs cells slots ls S B C F E
  obtain ⟨c1, c2, c3, c4, c5⟩ := hc
  obtain ⟨hx, hb9, hml, -, -, hnm, hown, hts, hK, hO⟩ := id S
  obtain ⟨B1, B2, B3⟩ := B.use hx9 hy9
  have hrun := va_runI (As := As.map (g_v g)) (rest := st.map (g_v g)) (b := g_ad g b) (p := p) (l := g.1) (e := e) (R := R) (s := s) (m := m) (args := args) (below := below) (meth := meth) (c := c) (H := H) (locs := locs) (cells := cells) (slots := slots) (g := F0 m pc ls (st0.map (g_v g))) (nL := k.2.2.1) (bytes := c9.2.1) (maxL := c9.2.2.1) ⟨hx, hb9, hml, hown, hts⟩ hM ⟨callB_of na hts (g_good c1) (by unfold g_ws; rw [hr9]) rfl rfl (hts _ c2) (hts _ c3) c4 (g_rm B hd9 c5), hn9, hts _ hi9⟩ ⟨g_blind, g_pre S C F⟩ rfl (by rw [List.length_map]; exact hn) E.2.1 (by show st0.map (g_v g) = _; rw [hs, List.map_append, List.map_reverse]; rfl) (by show 2 * 0 + _ ≤ 8; rw [g_cats]; omega) hd ⟨B2, B3⟩
  exact g_run hrun F (fun v n1 h1 H1 locs1 q1 q2 q3 => by rw [g_top]; exact K v n1 h1 q1 p e R s m args below meth c H1 locs1 _ _ ls S B1 q2 q3 E)
theorem G_callSN {g : gT} {d x y : Nat} {k : mM} {pc : Nat} {L st : List Value} {n : Nat} {h : mH} {P : Option Value → Nat → mH → Prop} {c9 : mM} {d' x' y' index na : Nat} {host : String} {As st0 : List Value} {P' : Option Value → Nat → mH → Prop} (hM : M g d' x' y' c9 As n h P') (hd : decode k.2.1 pc = .ok (.invokestatic index, 3)) (hc : g_cn k c9 index na host) (hi9 : Cond.static c9.1 ∈ TB) (hs : st0 = As.reverse ++ st) (hn : As.length = na) (hw : (st.map fun v => v.category).sum ≤ 8) (hd9 : d' + 1 ≤ d) (hx9 : x' ≤ x) (hy9 : y' ≤ y)
    (K : ∀ v n' h', P' v n' h' → G g d (x - x') (y - y') k (pc + 3) L (v.toList ++ st) n' h' P) : G g d x y k pc L st0 n h P := by
  intro p e R s m args below meth c H locs cells slots ls S B C F E
  obtain ⟨c1, c2, c3, c4, c5⟩ := hc
  obtain ⟨hx, hb9, hml, -, -, hnm, hown, hts, hK, hO⟩ := id S
  obtain ⟨B1, B2, B3⟩ := B.use hx9 hy9
  have hrun := va_runSN (As := As.map (g_v g)) (rest := st.map (g_v g)) (p := p) (l := g.1) (e := e) (R := R) (s := s) (m := m) (args := args) (below := below) (meth := meth) (c := c) (H := H) (locs := locs) (cells := cells) (slots := slots) (g := F0 m pc ls (st0.map (g_v g))) (nL := k.2.2.1) ⟨hx, hb9, hml, hown, hts⟩ hM ⟨va_cnB na hts (g_good c1) rfl rfl rfl (hO.1 _ c3) (hts _ c2) c4 (g_rm B hd9 c5), hts _ hi9, trivial⟩ ⟨g_blind, g_pre S C F⟩ rfl (by rw [List.length_map]; exact hn) E.2.1 (by show st0.map (g_v g) = _; rw [hs, List.map_append, List.map_reverse]) (by show 2 * 0 + _ ≤ 8; rw [g_cats]; omega) hd ⟨B2, B3⟩
  exact g_run hrun F (fun v n1 h1 H1 locs1 q1 q2 q3 => by rw [g_top]; exact K v n1 h1 q1 p e R s m args below meth c H1 locs1 _ _ ls S B1 q2 q3 E)
theorem G_callIN {g : gT} {d x y : Nat} {k : mM} {pc : Nat} {L st : List Value} {n : Nat} {h : mH} {P : Option Value → Nat → mH → Prop} {c9 : mM} {d' x' y' index na b : Nat} {host : String} {As st0 : List Value} {P' : Option Value → Nat → mH → Prop} (hM : M g d' x' y' c9 (.ref b :: As) n h P') (hd : decode k.2.1 pc = .ok (.invokespecial index, 3)) (hc : g_cn k c9 index na host) (hn9 : c9.1.name = "<init>") (hr9 : c9.2.2.2 = none) (hi9 : Cond.instanceMethod c9.1 ∈ TB) (hs : st0 = As.reverse ++ .ref b :: st) (hn : As.length = na) (hw : (st.map fun v => v.category).sum ≤ 8) (hd9 : d' + 1 ≤ d) (hx9 : x' ≤ x) (hy9 : y' ≤ y)
    (K : ∀ v n' h', P' v n' h' → G g d (x - x') (y - y') k (pc + 3) L (v.toList ++ st) n' h' P) : G g d x y k pc L st0 n h P := by
  intro p e R s m args below meth c H locs cells slots ls S B C F E
  obtain ⟨c1, c2, c3, c4, c5⟩ := hc
  obtain ⟨hx, hb9, hml, -, -, hnm, hown, hts, hK, hO⟩ := id S
  obtain ⟨B1, B2, B3⟩ := B.use hx9 hy9
  have hrun := va_runIN (As := As.map (g_v g)) (rest := st.map (g_v g)) (b := g_ad g b) (p := p) (l := g.1) (e := e) (R := R) (s := s) (m := m) (args := args) (below := below) (meth := meth) (c := c) (H := H) (locs := locs) (cells := cells) (slots := slots) (g := F0 m pc ls (st0.map (g_v g))) (nL := k.2.2.1) (bytes := c9.2.1) (maxL := c9.2.2.1) ⟨hx, hb9, hml, hown, hts⟩ hM ⟨va_cnB na hts (g_good c1) (by unfold g_ws; rw [hr9]) rfl rfl (hO.1 _ c3) (hts _ c2) c4 (g_rm B hd9 c5), hn9, hts _ hi9⟩ ⟨g_blind, g_pre S C F⟩ rfl (by rw [List.length_map]; exact hn) E.2.1 (by show st0.map (g_v g) = _; rw [hs, List.map_append, List.map_reverse]; rfl) (by show 2 * 0 + _ ≤ 8; rw [g_cats]; omega) hd ⟨B2, B3⟩
  exact g_run hrun F (fun v n1 h1 H1 locs1 q1 q2 q3 => by rw [g_top]; exact K v n1 h1 q1 p e R s m args below meth c H1 locs1 _ _ ls S B1 q2 q3 E)
/-! a contract out of a walk -/
def g_en (nL : Nat) (av : List Value) : List Value := (av.flatMap (fun v => if v.category = 2 then [v, .retAddr 0] else [v])) ++ List.replicate (nL - (av.flatMap (fun v => if v.category = 2 then [v, .retAddr 0] else [v])).length) (.retAddr 0)
theorem g_en_args (g : gT) : ∀ (av : List Value) (i j : Nat) (v : Value), (av.flatMap (fun v => if v.category = 2 then [v, .retAddr 0] else [v]))[j]? = some v → g_ok v = true → (i + j, g_v g v) ∈ lv_args i (av.map (g_v g))
  | [], i, j, v, h, _ => by simp at h
  | w :: av, i, j, v, h, hv => by
    rw [List.flatMap_cons] at h
    rw [List.map_cons]
    show _ ∈ (i, g_v g w) :: lv_args (if (g_v g w).category = 2 then i + 2 else i + 1) (av.map (g_v g))
    rw [g_cat]
    by_cases hc : w.category = 2
    · rw [if_pos hc] at h ⊢
      match j, h with
      | 0, h => simp at h; subst h; exact List.mem_cons_self
      | 1, h => simp at h; subst h; simp [g_ok] at hv
      | j + 2, h =>
        have h2 := g_en_args g av (i + 2) j v (by simpa using h) hv
        rw [show i + (j + 2) = i + 2 + j by omega]
        exact List.mem_cons_of_mem _ h2
    · rw [if_neg hc] at h ⊢
      match j, h with
      | 0, h => simp at h; subst h; exact List.mem_cons_self
      | j + 1, h =>
        have h2 := g_en_args g av (i + 1) j v (by simpa using h) hv
        rw [show i + (j + 1) = i + 1 + j by omega]
        exact List.mem_cons_of_mem _ h2
theorem g_en_sl (g : gT) : ∀ av : List Value, (lg_sl (av.map (g_v g))).length = (av.flatMap (fun v => if v.category = 2 then [v, Value.retAddr 0] else [v])).length
  | [] => rfl
  | w :: av => by
    have ih := g_en_sl g av
    unfold lg_sl at ih ⊢
    rw [List.map_cons, List.flatMap_cons, List.flatMap_cons, List.length_append, List.length_append, ih, g_cat]
    by_cases hc : w.category = 2 <;> simp [hc]
theorem M_of_G {g : gT} {d x y : Nat} {k : mM} {av : List Value} {n : Nat} {h : mH} {P : Option Value → Nat → mH → Prop} (hy : plainName k.1.cls = true) (hl : (av.flatMap (fun v => if v.category = 2 then [v, Value.retAddr 0] else [v])).length ≤ k.2.2.1) (K : G g d x y k 0 (g_en k.2.2.1 av) [] n h P) : M g d x y k av n h P := by
  refine Met.ofW (cc := k.2.1) (maxL := k.2.2.1) (ret := k.2.2.2) hy rfl ?_
  intro p e s m args below meth c s₁ B hml hv
  obtain ⟨rfl, hC, hK, hO⟩ := hv
  have hts0 := atoms_spec (ws := g_ws k) B.pre
  have hts : ∀ w ∈ TB, w.before _ s = true := fun w hw => hts0 w (List.mem_cons_of_mem _ hw)
  have hown : s.vm.findClass k.1.cls = some m.cls := findClass_of_methodNamed B.named
  have hnm : meth.name = k.1.name := (name_of_methodNamed B.named B.method).1
  have hle := g_en_sl g av
  have hle2 : (lg_sl (av.map (g_v g))).length ≤ k.2.2.1 := by rw [hle]; exact hl
  have hl9 := lv_entry (av.map (g_v g)) (n := k.2.2.1) hle2
  rw [lg_entry_eq]
  refine K p e _ s m _ below meth c s.heap [] 0 0 _ ⟨B.exec, B.bytes, hml, B.returns, B.notSynchronized, hnm, hown, hts, hK, hO⟩ ⟨Nat.le_refl _, Nat.le_refl _, by show 0 + x ≤ x; omega, by show 0 + y ≤ y; omega⟩ hC va_S.rf ⟨?_, hl9.1, hl9.2.1, fun q hq => hl9.2.2 q ?_⟩
  · simp only [g_en, List.length_append, List.length_replicate]; omega
  · obtain ⟨v, h1, h2, h3⟩ := g_Lv_mem.mp hq
    obtain ⟨j, u⟩ := q
    dsimp only at h1 h3
    subst h3
    unfold g_en at h1
    by_cases hj : j < (av.flatMap (fun v => if v.category = 2 then [v, Value.retAddr 0] else [v])).length
    · rw [List.getElem?_append_left hj] at h1
      have := g_en_args g av 0 j v h1 h2
      rwa [Nat.zero_add] at this
    · rw [List.getElem?_append_right (by omega)] at h1
      have h9 := (List.mem_replicate.mp (List.mem_of_getElem? h1)).2
      subst h9
      simp [g_ok] at h2
end
